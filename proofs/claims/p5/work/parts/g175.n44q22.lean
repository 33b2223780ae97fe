/-! p5: the class: numbers, memory, select, variables -/
abbrev at_CD_operandTypey (dC : Nat → ClassId) (dI : Nat → Nat → Nat)  (A : Nat → Prop) (u : Unit) (t : State) : Prop := match u with | _ => va_P (dC, dI) cls [] t.heap ∧ va_K (dC, dI) cls [] t ∧ va_D A []
set_option maxHeartbeats 4000000 in
set_option maxRecDepth 100000 in
theorem c_CD_operandTypey (l : Launch) (dC : Nat → ClassId) (dI : Nat → Nat → Nat) (sz : Nat)    (p0 : Int32)   : Met l y_CD_operandType w_CD_operandType ({ frames := 0, cells := 0, slots := 0, locals := 0 }) (va_Pc [.int p0] (fun U => U.heap.size = sz ∧ va_P (dC, dI) cls [] U.heap ∧ va_K (dC, dI) cls [] U ∧ va_D (fun _ => True) [])) (va_Qi (fun (r : Int32) (u : Unit) => match u with | _ => ((r.toInt = 126 ∧ ((80 ≤ p0.toInt ∧ p0.toInt ≤ 90) ∨ (121 ≤ p0.toInt ∧ p0.toInt ≤ 138) ∨ p0.toInt = 167)) ∨ (r.toInt = 127 ∧ ¬ ((80 ≤ p0.toInt ∧ p0.toInt ≤ 90) ∨ (121 ≤ p0.toInt ∧ p0.toInt ≤ 138) ∨ p0.toInt = 167)))) (at_CD_operandTypey dC dI  (va_A [] sz)) (va_A [] sz)) 0 0 (va_A [] sz) := by
  refine Met.ofW (cc := b_CD_operandType) (maxL := 1) (ret := (Option.some .int)) (by decide) rfl ?_
  intro p e s m args below meth c s₁ B hml hv
  obtain ⟨rfl, hsz, hP, hK, hD0⟩ := hv
  have hx := B.exec
  have hb := B.bytes
  have hr := B.returns
  have hts0 := atoms_spec (ws := w_CD_operandType) B.pre
  have hts : ∀ w ∈ lw_g, w.before _ s = true := fun w h => hts0 w (List.mem_cons_of_mem _ h)
  have hown : s.vm.findClass R_CD = some m.cls := findClass_of_methodNamed B.named
  have hlocks := B.notSynchronized
  clear hts0
  subst hsz
  have hD := hD0.self (sz := s.heap.size)
  generalize hAe : va_A [] s.heap.size = A at hD ⊢
  have hA : ∀ q : Nat, s.heap.size ≤ q → A q := fun q h => by rw [← hAe]; exact Or.inr h
  clear hAe
  have hP : va_P (dC, dI) cls [] s.heap := hP
  have hl := lv_entry ([.int p0]) (n := 1) (Nat.le_of_ble_eq_true rfl)
  rw [lg_entry_eq]
  generalize (lg_sl ([.int p0]) ++ List.replicate (1 - (lg_sl ([.int p0])).length) Slot.unset).toArray = ls at hl ⊢
  have hl : lv_has ls 1 [(0, .int p0)] := hl
  have k0 : (0 : Int32).toInt = 0 := by decide
  refine w_gen (A := A) hP (fun H locs hP hS => ?_)
  have k80 : (80 : Int32).toInt = 80 := by decide
  have k90 : (90 : Int32).toInt = 90 := by decide
  have k121 : (121 : Int32).toInt = 121 := by decide
  have k126 : (126 : Int32).toInt = 126 := by decide
  have k127 : (127 : Int32).toInt = 127 := by decide
  have k138 : (138 : Int32).toInt = 138 := by decide
  have k167 : (167 : Int32).toInt = 167 := by decide
  have lo_p0 := i32_lo p0
  have hi_p0 := i32_hi p0
  refine lv_iload_n hx hb d_CD_operandType_0 rfl (lv_at hl 0 rfl) ?_
  refine lv_bipush (v := 80) hx hb d_CD_operandType_1 (by decide) ?_
  refine lv_icmp_lt (tgt := 12) hx hb d_CD_operandType_3 (by decide) (fun c3 => ?_) (fun c3 => ?_)
  · have q3 := ltI c3
    refine lv_iload_n hx hb d_CD_operandType_12 rfl (lv_at hl 0 rfl) ?_
    refine lv_bipush (v := 121) hx hb d_CD_operandType_13 (by decide) ?_
    refine lv_icmp_lt (tgt := 25) hx hb d_CD_operandType_15 (by decide) (fun c15 => ?_) (fun c15 => ?_)
    · have q15 := ltI c15
      refine lv_iload_n hx hb d_CD_operandType_25 rfl (lv_at hl 0 rfl) ?_
      refine lv_sipush (v := 167) hx hb d_CD_operandType_26 (by decide) ?_
      refine lv_icmp_ne (tgt := 37) hx hb d_CD_operandType_29 (by decide) (fun c29 => ?_) (fun c29 => ?_)
      · have q29 := neI c29
        refine lv_bipush (v := 127) hx hb d_CD_operandType_37 (by decide) ?_
        have hP9 := hP.sb (wq := []) [] rfl
        have hD9 := hD.sb (wq := []) [] (by decide) rfl
        exact W.iret (v := 127) hx hb hr (fun t ht hW => ⟨⟨127, (), rfl, ((by (try dsimp only); (first | (apply Int.le_antisymm <;> omega) | omega))), va_P.he ht.symm hP9, va_K.moved hW.alike hK, hD9⟩, hS.F ht⟩) hS.2.2 d_CD_operandType_39
      · have q29 := eqI c29
        refine lv_bipush (v := 126) hx hb d_CD_operandType_32 (by decide) ?_
        refine lv_goto (tgt := 39) hx hb d_CD_operandType_34 (by decide) ?_
        have hP9 := hP.sb (wq := []) [] rfl
        have hD9 := hD.sb (wq := []) [] (by decide) rfl
        exact W.iret (v := 126) hx hb hr (fun t ht hW => ⟨⟨126, (), rfl, ((by (try dsimp only); (first | (apply Int.le_antisymm <;> omega) | omega))), va_P.he ht.symm hP9, va_K.moved hW.alike hK, hD9⟩, hS.F ht⟩) hS.2.2 d_CD_operandType_39
    · have q15 := nltI c15
      refine lv_iload_n hx hb d_CD_operandType_18 rfl (lv_at hl 0 rfl) ?_
      refine lv_sipush (v := 138) hx hb d_CD_operandType_19 (by decide) ?_
      refine lv_icmp_le (tgt := 32) hx hb d_CD_operandType_22 (by decide) (fun c22 => ?_) (fun c22 => ?_)
      · have q22 := leI c22
        refine lv_bipush (v := 126) hx hb d_CD_operandType_32 (by decide) ?_
        refine lv_goto (tgt := 39) hx hb d_CD_operandType_34 (by decide) ?_
        have hP9 := hP.sb (wq := []) [] rfl
        have hD9 := hD.sb (wq := []) [] (by decide) rfl
        exact W.iret (v := 126) hx hb hr (fun t ht hW => ⟨⟨126, (), rfl, ((by (try dsimp only); (first | (apply Int.le_antisymm <;> omega) | omega))), va_P.he ht.symm hP9, va_K.moved hW.alike hK, hD9⟩, hS.F ht⟩) hS.2.2 d_CD_operandType_39
      · have q22 := nleI c22
        refine lv_iload_n hx hb d_CD_operandType_25 rfl (lv_at hl 0 rfl) ?_
        refine lv_sipush (v := 167) hx hb d_CD_operandType_26 (by decide) ?_
        refine lv_icmp_ne (tgt := 37) hx hb d_CD_operandType_29 (by decide) (fun c29 => ?_) (fun c29 => ?_)
        · have q29 := neI c29
          refine lv_bipush (v := 127) hx hb d_CD_operandType_37 (by decide) ?_
          have hP9 := hP.sb (wq := []) [] rfl
          have hD9 := hD.sb (wq := []) [] (by decide) rfl
          exact W.iret (v := 127) hx hb hr (fun t ht hW => ⟨⟨127, (), rfl, ((by (try dsimp only); (first | (apply Int.le_antisymm <;> omega) | omega))), va_P.he ht.symm hP9, va_K.moved hW.alike hK, hD9⟩, hS.F ht⟩) hS.2.2 d_CD_operandType_39
        · have q29 := eqI c29
          refine lv_bipush (v := 126) hx hb d_CD_operandType_32 (by decide) ?_
          refine lv_goto (tgt := 39) hx hb d_CD_operandType_34 (by decide) ?_
          have hP9 := hP.sb (wq := []) [] rfl
          have hD9 := hD.sb (wq := []) [] (by decide) rfl
          exact W.iret (v := 126) hx hb hr (fun t ht hW => ⟨⟨126, (), rfl, ((by (try dsimp only); (first | (apply Int.le_antisymm <;> omega) | omega))), va_P.he ht.symm hP9, va_K.moved hW.alike hK, hD9⟩, hS.F ht⟩) hS.2.2 d_CD_operandType_39
  · have q3 := nltI c3
    refine lv_iload_n hx hb d_CD_operandType_6 rfl (lv_at hl 0 rfl) ?_
    refine lv_bipush (v := 90) hx hb d_CD_operandType_7 (by decide) ?_
    refine lv_icmp_le (tgt := 32) hx hb d_CD_operandType_9 (by decide) (fun c9 => ?_) (fun c9 => ?_)
    · have q9 := leI c9
      refine lv_bipush (v := 126) hx hb d_CD_operandType_32 (by decide) ?_
      refine lv_goto (tgt := 39) hx hb d_CD_operandType_34 (by decide) ?_
      have hP9 := hP.sb (wq := []) [] rfl
      have hD9 := hD.sb (wq := []) [] (by decide) rfl
      exact W.iret (v := 126) hx hb hr (fun t ht hW => ⟨⟨126, (), rfl, ((by (try dsimp only); (first | (apply Int.le_antisymm <;> omega) | omega))), va_P.he ht.symm hP9, va_K.moved hW.alike hK, hD9⟩, hS.F ht⟩) hS.2.2 d_CD_operandType_39
    · have q9 := nleI c9
      refine lv_iload_n hx hb d_CD_operandType_12 rfl (lv_at hl 0 rfl) ?_
      refine lv_bipush (v := 121) hx hb d_CD_operandType_13 (by decide) ?_
      refine lv_icmp_lt (tgt := 25) hx hb d_CD_operandType_15 (by decide) (fun c15 => ?_) (fun c15 => ?_)
      · have q15 := ltI c15
        refine lv_iload_n hx hb d_CD_operandType_25 rfl (lv_at hl 0 rfl) ?_
        refine lv_sipush (v := 167) hx hb d_CD_operandType_26 (by decide) ?_
        refine lv_icmp_ne (tgt := 37) hx hb d_CD_operandType_29 (by decide) (fun c29 => ?_) (fun c29 => ?_)
        · have q29 := neI c29
          refine lv_bipush (v := 127) hx hb d_CD_operandType_37 (by decide) ?_
          have hP9 := hP.sb (wq := []) [] rfl
          have hD9 := hD.sb (wq := []) [] (by decide) rfl
          exact W.iret (v := 127) hx hb hr (fun t ht hW => ⟨⟨127, (), rfl, ((by (try dsimp only); (first | (apply Int.le_antisymm <;> omega) | omega))), va_P.he ht.symm hP9, va_K.moved hW.alike hK, hD9⟩, hS.F ht⟩) hS.2.2 d_CD_operandType_39
        · have q29 := eqI c29
          refine lv_bipush (v := 126) hx hb d_CD_operandType_32 (by decide) ?_
          refine lv_goto (tgt := 39) hx hb d_CD_operandType_34 (by decide) ?_
          have hP9 := hP.sb (wq := []) [] rfl
          have hD9 := hD.sb (wq := []) [] (by decide) rfl
          exact W.iret (v := 126) hx hb hr (fun t ht hW => ⟨⟨126, (), rfl, ((by (try dsimp only); (first | (apply Int.le_antisymm <;> omega) | omega))), va_P.he ht.symm hP9, va_K.moved hW.alike hK, hD9⟩, hS.F ht⟩) hS.2.2 d_CD_operandType_39
      · have q15 := nltI c15
        refine lv_iload_n hx hb d_CD_operandType_18 rfl (lv_at hl 0 rfl) ?_
        refine lv_sipush (v := 138) hx hb d_CD_operandType_19 (by decide) ?_
        refine lv_icmp_le (tgt := 32) hx hb d_CD_operandType_22 (by decide) (fun c22 => ?_) (fun c22 => ?_)
        · have q22 := leI c22
          refine lv_bipush (v := 126) hx hb d_CD_operandType_32 (by decide) ?_
          refine lv_goto (tgt := 39) hx hb d_CD_operandType_34 (by decide) ?_
          have hP9 := hP.sb (wq := []) [] rfl
          have hD9 := hD.sb (wq := []) [] (by decide) rfl
          exact W.iret (v := 126) hx hb hr (fun t ht hW => ⟨⟨126, (), rfl, ((by (try dsimp only); (first | (apply Int.le_antisymm <;> omega) | omega))), va_P.he ht.symm hP9, va_K.moved hW.alike hK, hD9⟩, hS.F ht⟩) hS.2.2 d_CD_operandType_39
        · have q22 := nleI c22
          refine lv_iload_n hx hb d_CD_operandType_25 rfl (lv_at hl 0 rfl) ?_
          refine lv_sipush (v := 167) hx hb d_CD_operandType_26 (by decide) ?_
          refine lv_icmp_ne (tgt := 37) hx hb d_CD_operandType_29 (by decide) (fun c29 => ?_) (fun c29 => ?_)
          · have q29 := neI c29
            refine lv_bipush (v := 127) hx hb d_CD_operandType_37 (by decide) ?_
            have hP9 := hP.sb (wq := []) [] rfl
            have hD9 := hD.sb (wq := []) [] (by decide) rfl
            exact W.iret (v := 127) hx hb hr (fun t ht hW => ⟨⟨127, (), rfl, ((by (try dsimp only); (first | (apply Int.le_antisymm <;> omega) | omega))), va_P.he ht.symm hP9, va_K.moved hW.alike hK, hD9⟩, hS.F ht⟩) hS.2.2 d_CD_operandType_39
          · have q29 := eqI c29
            refine lv_bipush (v := 126) hx hb d_CD_operandType_32 (by decide) ?_
            refine lv_goto (tgt := 39) hx hb d_CD_operandType_34 (by decide) ?_
            have hP9 := hP.sb (wq := []) [] rfl
            have hD9 := hD.sb (wq := []) [] (by decide) rfl
            exact W.iret (v := 126) hx hb hr (fun t ht hW => ⟨⟨126, (), rfl, ((by (try dsimp only); (first | (apply Int.le_antisymm <;> omega) | omega))), va_P.he ht.symm hP9, va_K.moved hW.alike hK, hD9⟩, hS.F ht⟩) hS.2.2 d_CD_operandType_39
abbrev at_CD_resultTypey (dC : Nat → ClassId) (dI : Nat → Nat → Nat)  (A : Nat → Prop) (u : Unit) (t : State) : Prop := match u with | _ => va_P (dC, dI) cls [] t.heap ∧ va_K (dC, dI) cls [] t ∧ va_D A []
set_option maxHeartbeats 4000000 in
set_option maxRecDepth 100000 in
theorem c_CD_resultTypey (l : Launch) (dC : Nat → ClassId) (dI : Nat → Nat → Nat) (sz : Nat)    (p0 : Int32)   : Met l y_CD_resultType w_CD_resultType ({ frames := 0, cells := 0, slots := 0, locals := 0 }) (va_Pc [.int p0] (fun U => U.heap.size = sz ∧ va_P (dC, dI) cls [] U.heap ∧ va_K (dC, dI) cls [] U ∧ va_D (fun _ => True) [])) (va_Qi (fun (r : Int32) (u : Unit) => match u with | _ => ((r.toInt = 127 ∧ (p0.toInt ≤ 120 ∨ p0.toInt = 167)) ∨ (r.toInt = 126 ∧ ¬ (p0.toInt ≤ 120 ∨ p0.toInt = 167)))) (at_CD_resultTypey dC dI  (va_A [] sz)) (va_A [] sz)) 0 0 (va_A [] sz) := by
  refine Met.ofW (cc := b_CD_resultType) (maxL := 1) (ret := (Option.some .int)) (by decide) rfl ?_
  intro p e s m args below meth c s₁ B hml hv
  obtain ⟨rfl, hsz, hP, hK, hD0⟩ := hv
  have hx := B.exec
  have hb := B.bytes
  have hr := B.returns
  have hts0 := atoms_spec (ws := w_CD_resultType) B.pre
  have hts : ∀ w ∈ lw_g, w.before _ s = true := fun w h => hts0 w (List.mem_cons_of_mem _ h)
  have hown : s.vm.findClass R_CD = some m.cls := findClass_of_methodNamed B.named
  have hlocks := B.notSynchronized
  clear hts0
  subst hsz
  have hD := hD0.self (sz := s.heap.size)
  generalize hAe : va_A [] s.heap.size = A at hD ⊢
  have hA : ∀ q : Nat, s.heap.size ≤ q → A q := fun q h => by rw [← hAe]; exact Or.inr h
  clear hAe
  have hP : va_P (dC, dI) cls [] s.heap := hP
  have hl := lv_entry ([.int p0]) (n := 1) (Nat.le_of_ble_eq_true rfl)
  rw [lg_entry_eq]
  generalize (lg_sl ([.int p0]) ++ List.replicate (1 - (lg_sl ([.int p0])).length) Slot.unset).toArray = ls at hl ⊢
  have hl : lv_has ls 1 [(0, .int p0)] := hl
  have k0 : (0 : Int32).toInt = 0 := by decide
  refine w_gen (A := A) hP (fun H locs hP hS => ?_)
  have k120 : (120 : Int32).toInt = 120 := by decide
  have k126 : (126 : Int32).toInt = 126 := by decide
  have k127 : (127 : Int32).toInt = 127 := by decide
  have k167 : (167 : Int32).toInt = 167 := by decide
  have lo_p0 := i32_lo p0
  have hi_p0 := i32_hi p0
  refine lv_iload_n hx hb d_CD_resultType_0 rfl (lv_at hl 0 rfl) ?_
  refine lv_bipush (v := 120) hx hb d_CD_resultType_1 (by decide) ?_
  refine lv_icmp_le (tgt := 13) hx hb d_CD_resultType_3 (by decide) (fun c3 => ?_) (fun c3 => ?_)
  · have q3 := leI c3
    refine lv_bipush (v := 127) hx hb d_CD_resultType_13 (by decide) ?_
    refine lv_goto (tgt := 20) hx hb d_CD_resultType_15 (by decide) ?_
    have hP9 := hP.sb (wq := []) [] rfl
    have hD9 := hD.sb (wq := []) [] (by decide) rfl
    exact W.iret (v := 127) hx hb hr (fun t ht hW => ⟨⟨127, (), rfl, ((by (try dsimp only); (first | (apply Int.le_antisymm <;> omega) | omega))), va_P.he ht.symm hP9, va_K.moved hW.alike hK, hD9⟩, hS.F ht⟩) hS.2.2 d_CD_resultType_20
  · have q3 := nleI c3
    refine lv_iload_n hx hb d_CD_resultType_6 rfl (lv_at hl 0 rfl) ?_
    refine lv_sipush (v := 167) hx hb d_CD_resultType_7 (by decide) ?_
    refine lv_icmp_ne (tgt := 18) hx hb d_CD_resultType_10 (by decide) (fun c10 => ?_) (fun c10 => ?_)
    · have q10 := neI c10
      refine lv_bipush (v := 126) hx hb d_CD_resultType_18 (by decide) ?_
      have hP9 := hP.sb (wq := []) [] rfl
      have hD9 := hD.sb (wq := []) [] (by decide) rfl
      exact W.iret (v := 126) hx hb hr (fun t ht hW => ⟨⟨126, (), rfl, ((by (try dsimp only); (first | (apply Int.le_antisymm <;> omega) | omega))), va_P.he ht.symm hP9, va_K.moved hW.alike hK, hD9⟩, hS.F ht⟩) hS.2.2 d_CD_resultType_20
    · have q10 := eqI c10
      refine lv_bipush (v := 127) hx hb d_CD_resultType_13 (by decide) ?_
      refine lv_goto (tgt := 20) hx hb d_CD_resultType_15 (by decide) ?_
      have hP9 := hP.sb (wq := []) [] rfl
      have hD9 := hD.sb (wq := []) [] (by decide) rfl
      exact W.iret (v := 127) hx hb hr (fun t ht hW => ⟨⟨127, (), rfl, ((by (try dsimp only); (first | (apply Int.le_antisymm <;> omega) | omega))), va_P.he ht.symm hP9, va_K.moved hW.alike hK, hD9⟩, hS.F ht⟩) hS.2.2 d_CD_resultType_20
theorem ntz_a {p a b x : Int32} (ea : a = p ^^^ (-1)) (eb : b = p - 1) (e : x = a &&& b) (hp : p.toInt = 1 ∨ p.toInt = 4 ∨ p.toInt = 8) : x.toInt = p.toInt - 1 := by
  rcases hp with h | h | h
  · have hq : p = 1 := Int32.toInt_inj.mp (by rw [h]; decide)
    rw [e, ea, eb, hq]
    decide
  · have hq : p = 4 := Int32.toInt_inj.mp (by rw [h]; decide)
    rw [e, ea, eb, hq]
    decide
  · have hq : p = 8 := Int32.toInt_inj.mp (by rw [h]; decide)
    rw [e, ea, eb, hq]
    decide
theorem ntz_b {p x : Int32} (e : x = p &&& 32) (hp : p.toInt = 0) : x.toInt = 0 := by
  have hq : p = 0 := Int32.toInt_inj.mp (by rw [hp]; decide)
  rw [e, hq]
  decide
theorem vin_t {t op : Int32} (h : (t.toInt = 126 ∧ ((80 ≤ op.toInt ∧ op.toInt ≤ 90) ∨ (121 ≤ op.toInt ∧ op.toInt ≤ 138) ∨ op.toInt = 167)) ∨ (t.toInt = 127 ∧ ¬ ((80 ≤ op.toInt ∧ op.toInt ≤ 90) ∨ (121 ≤ op.toInt ∧ op.toInt ≤ 138) ∨ op.toInt = 167))) (h0 : 0 ≤ op.toInt) : t.toInt.toNat = vin op.toInt.toNat := by
  unfold vin
  rcases h with ⟨h1, h2⟩ | ⟨h1, h2⟩
  · rw [if_pos (by (first | (apply Int.le_antisymm <;> omega) | omega))]
    (first | (apply Int.le_antisymm <;> omega) | omega)
  · rw [if_neg (by (first | (apply Int.le_antisymm <;> omega) | omega))]
    (first | (apply Int.le_antisymm <;> omega) | omega)
theorem vout_t {t op : Int32} (h : (t.toInt = 127 ∧ (op.toInt ≤ 120 ∨ op.toInt = 167)) ∨ (t.toInt = 126 ∧ ¬ (op.toInt ≤ 120 ∨ op.toInt = 167))) (h0 : 0 ≤ op.toInt) : t.toInt.toNat = vout op.toInt.toNat := by
  unfold vout
  rcases h with ⟨h1, h2⟩ | ⟨h1, h2⟩
  · rw [if_pos (by (first | (apply Int.le_antisymm <;> omega) | omega))]
    (first | (apply Int.le_antisymm <;> omega) | omega)
  · rw [if_neg (by (first | (apply Int.le_antisymm <;> omega) | omega))]
    (first | (apply Int.le_antisymm <;> omega) | omega)
abbrev at_JI_numberOfTrailingZerosy (dC : Nat → ClassId) (dI : Nat → Nat → Nat)  (A : Nat → Prop) (u : Unit) (t : State) : Prop := match u with | _ => va_P (dC, dI) cls [] t.heap ∧ va_K (dC, dI) cls [] t ∧ va_D A []
set_option maxHeartbeats 4000000 in
set_option maxRecDepth 100000 in
theorem c_JI_numberOfTrailingZerosy (l : Launch) (dC : Nat → ClassId) (dI : Nat → Nat → Nat) (sz : Nat)    (p0 : Int32)  (hp : p0.toInt = 1 ∨ p0.toInt = 4 ∨ p0.toInt = 8) : Met l y_JI_numberOfTrailingZeros w_JI_numberOfTrailingZeros ({ frames := 0, cells := 0, slots := 0, locals := 0 }) (va_Pc [.int p0] (fun U => U.heap.size = sz ∧ va_P (dC, dI) cls [] U.heap ∧ va_K (dC, dI) cls [] U ∧ va_D (fun _ => True) [])) (va_Qi (fun (r : Int32) (u : Unit) => match u with | _ => ((p0.toInt = 1 → r.toInt = 0) ∧ (p0.toInt = 4 → r.toInt = 2) ∧ (p0.toInt = 8 → r.toInt = 3))) (at_JI_numberOfTrailingZerosy dC dI  (va_A [] sz)) (va_A [] sz)) 0 0 (va_A [] sz) := by
  refine Met.ofW (cc := b_JI_numberOfTrailingZeros) (maxL := 2) (ret := (Option.some .int)) (by decide) rfl ?_
  intro p e s m args below meth c s₁ B hml hv
  obtain ⟨rfl, hsz, hP, hK, hD0⟩ := hv
  have hx := B.exec
  have hb := B.bytes
  have hr := B.returns
  have hts0 := atoms_spec (ws := w_JI_numberOfTrailingZeros) B.pre
  have hts : ∀ w ∈ lw_g, w.before _ s = true := fun w h => hts0 w (List.mem_cons_of_mem _ h)
  have hown : s.vm.findClass R_JI = some m.cls := findClass_of_methodNamed B.named
  have hlocks := B.notSynchronized
  clear hts0
  subst hsz
  have hD := hD0.self (sz := s.heap.size)
  generalize hAe : va_A [] s.heap.size = A at hD ⊢
  have hA : ∀ q : Nat, s.heap.size ≤ q → A q := fun q h => by rw [← hAe]; exact Or.inr h
  clear hAe
  have hP : va_P (dC, dI) cls [] s.heap := hP
  have hl := lv_entry ([.int p0]) (n := 2) (Nat.le_of_ble_eq_true rfl)
  rw [lg_entry_eq]
  generalize (lg_sl ([.int p0]) ++ List.replicate (2 - (lg_sl ([.int p0])).length) Slot.unset).toArray = ls at hl ⊢
  have hl : lv_has ls 2 [(0, .int p0)] := hl
  have k0 : (0 : Int32).toInt = 0 := by decide
  refine w_gen (A := A) hP (fun H locs hP hS => ?_)
  have km1 : (-1 : Int32).toInt = -1 := by decide
  have k1 : (1 : Int32).toInt = 1 := by decide
  have k2 : (2 : Int32).toInt = 2 := by decide
  have k4 : (4 : Int32).toInt = 4 := by decide
  have k8 : (8 : Int32).toInt = 8 := by decide
  have k16 : (16 : Int32).toInt = 16 := by decide
  have k32 : (32 : Int32).toInt = 32 := by decide
  have k256 : (256 : Int32).toInt = 256 := by decide
  have lo_p0 := i32_lo p0
  have hi_p0 := i32_hi p0
  refine lv_iload_n hx hb d_JI_numberOfTrailingZeros_0 rfl (lv_at hl 0 rfl) ?_
  refine lv_iconst (v := (-1)) hx hb d_JI_numberOfTrailingZeros_1 (by decide) ?_
  refine lv_ixor hx hb d_JI_numberOfTrailingZeros_2 ?_
  refine lv_topi (fun x1 ex1 => ?_)
  refine lv_iload_n hx hb d_JI_numberOfTrailingZeros_3 rfl (lv_at hl 0 rfl) ?_
  refine lv_iconst (v := 1) hx hb d_JI_numberOfTrailingZeros_4 (by decide) ?_
  refine lv_isub hx hb d_JI_numberOfTrailingZeros_5 ?_
  refine lv_topi (fun x2 ex2 => ?_)
  refine lv_iand hx hb d_JI_numberOfTrailingZeros_6 ?_
  refine lv_topi (fun x3 ex3 => ?_)
  have tx3 := ntz_a ex1 ex2 ex3 hp
  refine lv_istore_n (lv' := [(0, .int x3)]) hx hb d_JI_numberOfTrailingZeros_7 rfl hl (by decide) rfl (fun ls hl => ?_)
  refine lv_iload_n hx hb d_JI_numberOfTrailingZeros_8 rfl (lv_at hl 0 rfl) ?_
  refine lv_if_gt (tgt := 17) hx hb d_JI_numberOfTrailingZeros_9 (by decide) (fun c9 => ?_) (fun c9 => ?_)
  · have q9 := ltI c9
    refine lv_iconst (v := 1) hx hb d_JI_numberOfTrailingZeros_17 (by decide) ?_
    refine lv_istore_n (lv' := [(1, .int 1), (0, .int x3)]) hx hb d_JI_numberOfTrailingZeros_18 rfl hl (by decide) rfl (fun ls hl => ?_)
    refine lv_iload_n hx hb d_JI_numberOfTrailingZeros_19 rfl (lv_at hl 1 rfl) ?_
    refine lv_ldcw hx hb hown (hts _ kJ_JI_264) d_JI_numberOfTrailingZeros_20 ?_
    refine lv_topi (fun x4 ex4 => ?_)
    have tx4 : x4.toInt = 65536 := by rw [ex4]; decide
    refine lv_icmp_le (tgt := 34) hx hb d_JI_numberOfTrailingZeros_23 (by decide) (fun c23 => ?_) (fun c23 => absurd (nleI c23) (by (first | (apply Int.le_antisymm <;> omega) | omega)))
    have q23 := leI c23
    refine lv_iload_n hx hb d_JI_numberOfTrailingZeros_34 rfl (lv_at hl 1 rfl) ?_
    refine lv_sipush (v := 256) hx hb d_JI_numberOfTrailingZeros_35 (by decide) ?_
    refine lv_icmp_le (tgt := 49) hx hb d_JI_numberOfTrailingZeros_38 (by decide) (fun c38 => ?_) (fun c38 => absurd (nleI c38) (by (first | (apply Int.le_antisymm <;> omega) | omega)))
    have q38 := leI c38
    refine lv_iload_n hx hb d_JI_numberOfTrailingZeros_49 rfl (lv_at hl 1 rfl) ?_
    refine lv_bipush (v := 16) hx hb d_JI_numberOfTrailingZeros_50 (by decide) ?_
    refine lv_icmp_le (tgt := 62) hx hb d_JI_numberOfTrailingZeros_52 (by decide) (fun c52 => ?_) (fun c52 => absurd (nleI c52) (by (first | (apply Int.le_antisymm <;> omega) | omega)))
    have q52 := leI c52
    refine lv_iload_n hx hb d_JI_numberOfTrailingZeros_62 rfl (lv_at hl 1 rfl) ?_
    refine lv_iconst (v := 4) hx hb d_JI_numberOfTrailingZeros_63 (by decide) ?_
    refine lv_icmp_le (tgt := 74) hx hb d_JI_numberOfTrailingZeros_64 (by decide) (fun c64 => ?_) (fun c64 => ?_)
    · have q64 := leI c64
      refine lv_iload_n hx hb d_JI_numberOfTrailingZeros_74 rfl (lv_at hl 0 rfl) ?_
      refine lv_iload_n hx hb d_JI_numberOfTrailingZeros_75 rfl (lv_at hl 1 rfl) ?_
      refine lv_iconst (v := 1) hx hb d_JI_numberOfTrailingZeros_76 (by decide) ?_
      refine lv_iushr hx hb d_JI_numberOfTrailingZeros_77 rfl ?_
      refine lv_topi (fun x5 ex5 => ?_)
      have tx5 := ushr_t (k := 1) ex5 (by decide) (by (first | (apply Int.le_antisymm <;> omega) | omega))
      rw [show (2 : Nat) ^ 1 = 2 from rfl] at tx5
      refine lv_iadd hx hb d_JI_numberOfTrailingZeros_78 ?_
      refine lv_topi (fun x6 ex6 => ?_)
      have tx6 : x6.toInt = 1 + x5.toInt := by have z := i32_add ex6 (by (first | (apply Int.le_antisymm <;> omega) | omega)) (by (first | (apply Int.le_antisymm <;> omega) | omega)); first | exact z | (first | (apply Int.le_antisymm <;> omega) | omega)
      have hP9 := hP.sb (wq := []) [] rfl
      have hD9 := hD.sb (wq := []) [] (by decide) rfl
      exact W.iret (v := x6) hx hb hr (fun t ht hW => ⟨⟨x6, (), rfl, (⟨fun _ => (by (try dsimp only); (first | (apply Int.le_antisymm <;> omega) | omega)), fun _ => (by (try dsimp only); (first | (apply Int.le_antisymm <;> omega) | omega)), fun _ => (by (try dsimp only); (first | (apply Int.le_antisymm <;> omega) | omega))⟩), va_P.he ht.symm hP9, va_K.moved hW.alike hK, hD9⟩, hS.F ht⟩) hS.2.2 d_JI_numberOfTrailingZeros_79
    · have q64 := nleI c64
      obtain ⟨x7, ex7⟩ : ∃ z : Int32, z = 1 + 2 := ⟨_, rfl⟩
      have tx7 : x7.toInt = 1 + 2 := by have z := i32_add ex7 (by (first | (apply Int.le_antisymm <;> omega) | omega)) (by (first | (apply Int.le_antisymm <;> omega) | omega)); first | exact z | (first | (apply Int.le_antisymm <;> omega) | omega)
      refine lv_iinc (v := x7) (lv' := [(1, .int x7), (0, .int x3)]) hx hb d_JI_numberOfTrailingZeros_67 hl (k := 0) rfl (by rw [ex7]; rfl) (by decide) rfl (fun ls hl => ?_)
      refine lv_iload_n hx hb d_JI_numberOfTrailingZeros_70 rfl (lv_at hl 1 rfl) ?_
      refine lv_iconst (v := 2) hx hb d_JI_numberOfTrailingZeros_71 (by decide) ?_
      refine lv_iushr hx hb d_JI_numberOfTrailingZeros_72 rfl ?_
      refine lv_topi (fun x8 ex8 => ?_)
      have tx8 := ushr_t (k := 2) ex8 (by decide) (by (first | (apply Int.le_antisymm <;> omega) | omega))
      rw [show (2 : Nat) ^ 2 = 4 from rfl] at tx8
      refine lv_istore_n (lv' := [(0, .int x8), (1, .int x7)]) hx hb d_JI_numberOfTrailingZeros_73 rfl hl (by decide) rfl (fun ls hl => ?_)
      refine lv_iload_n hx hb d_JI_numberOfTrailingZeros_74 rfl (lv_at hl 1 rfl) ?_
      refine lv_iload_n hx hb d_JI_numberOfTrailingZeros_75 rfl (lv_at hl 0 rfl) ?_
      refine lv_iconst (v := 1) hx hb d_JI_numberOfTrailingZeros_76 (by decide) ?_
      refine lv_iushr hx hb d_JI_numberOfTrailingZeros_77 rfl ?_
      refine lv_topi (fun x9 ex9 => ?_)
      have tx9 := ushr_t (k := 1) ex9 (by decide) (by (first | (apply Int.le_antisymm <;> omega) | omega))
      rw [show (2 : Nat) ^ 1 = 2 from rfl] at tx9
      refine lv_iadd hx hb d_JI_numberOfTrailingZeros_78 ?_
      refine lv_topi (fun x10 ex10 => ?_)
      have tx10 : x10.toInt = x7.toInt + x9.toInt := by have z := i32_add ex10 (by (first | (apply Int.le_antisymm <;> omega) | omega)) (by (first | (apply Int.le_antisymm <;> omega) | omega)); first | exact z | (first | (apply Int.le_antisymm <;> omega) | omega)
      have hP9 := hP.sb (wq := []) [] rfl
      have hD9 := hD.sb (wq := []) [] (by decide) rfl
      exact W.iret (v := x10) hx hb hr (fun t ht hW => ⟨⟨x10, (), rfl, (⟨fun _ => (by (try dsimp only); (first | (apply Int.le_antisymm <;> omega) | omega)), fun _ => (by (try dsimp only); (first | (apply Int.le_antisymm <;> omega) | omega)), fun _ => (by (try dsimp only); (first | (apply Int.le_antisymm <;> omega) | omega))⟩), va_P.he ht.symm hP9, va_K.moved hW.alike hK, hD9⟩, hS.F ht⟩) hS.2.2 d_JI_numberOfTrailingZeros_79
  · have q9 := nltI c9
    refine lv_iload_n hx hb d_JI_numberOfTrailingZeros_12 rfl (lv_at hl 0 rfl) ?_
    refine lv_bipush (v := 32) hx hb d_JI_numberOfTrailingZeros_13 (by decide) ?_
    refine lv_iand hx hb d_JI_numberOfTrailingZeros_15 ?_
    refine lv_topi (fun x11 ex11 => ?_)
    have tx11 := ntz_b ex11 (by (first | (apply Int.le_antisymm <;> omega) | omega))
    have hP9 := hP.sb (wq := []) [] rfl
    have hD9 := hD.sb (wq := []) [] (by decide) rfl
    exact W.iret (v := x11) hx hb hr (fun t ht hW => ⟨⟨x11, (), rfl, (⟨fun _ => (by (try dsimp only); (first | (apply Int.le_antisymm <;> omega) | omega)), fun _ => (by (try dsimp only); (first | (apply Int.le_antisymm <;> omega) | omega)), fun _ => (by (try dsimp only); (first | (apply Int.le_antisymm <;> omega) | omega))⟩), va_P.he ht.symm hP9, va_K.moved hW.alike hK, hD9⟩, hS.F ht⟩) hS.2.2 d_JI_numberOfTrailingZeros_16
abbrev at_CD_greatestAlignmenty (dC : Nat → ClassId) (dI : Nat → Nat → Nat)  (A : Nat → Prop) (u : Unit) (t : State) : Prop := match u with | _ => va_P (dC, dI) cls [] t.heap ∧ va_K (dC, dI) cls [] t ∧ va_D A []
set_option maxHeartbeats 4000000 in
set_option maxRecDepth 100000 in
theorem c_CD_greatestAlignmenty (l : Launch) (dC : Nat → ClassId) (dI : Nat → Nat → Nat) (sz : Nat)    (p0 : Int32)  (hp : p0.toInt = 40 ∨ p0.toInt = 41 ∨ p0.toInt = 44 ∨ p0.toInt = 45 ∨ p0.toInt = 54 ∨ p0.toInt = 55 ∨ p0.toInt = 58) : Met l y_CD_greatestAlignment w_CD_greatestAlignment ({ frames := 1, cells := 0, slots := 0, locals := 21 }) (va_Pc [.int p0] (fun U => U.heap.size = sz ∧ va_P (dC, dI) cls [] U.heap ∧ va_K (dC, dI) cls [] U ∧ va_D (fun _ => True) [])) (va_Qi (fun (r : Int32) (u : Unit) => match u with | _ => (r.toInt = (val_ p0.toInt.toNat : Int))) (at_CD_greatestAlignmenty dC dI  (va_A [] sz)) (va_A [] sz)) 0 0 (va_A [] sz) := by
  refine Met.ofW (cc := b_CD_greatestAlignment) (maxL := 1) (ret := (Option.some .int)) (by decide) rfl ?_
  intro p e s m args below meth c s₁ B hml hv
  obtain ⟨rfl, hsz, hP, hK, hD0⟩ := hv
  have hx := B.exec
  have hb := B.bytes
  have hr := B.returns
  have hts0 := atoms_spec (ws := w_CD_greatestAlignment) B.pre
  have hts : ∀ w ∈ lw_g, w.before _ s = true := fun w h => hts0 w (List.mem_cons_of_mem _ h)
  have hown : s.vm.findClass R_CD = some m.cls := findClass_of_methodNamed B.named
  have hlocks := B.notSynchronized
  clear hts0
  subst hsz
  have hD := hD0.self (sz := s.heap.size)
  generalize hAe : va_A [] s.heap.size = A at hD ⊢
  have hA : ∀ q : Nat, s.heap.size ≤ q → A q := fun q h => by rw [← hAe]; exact Or.inr h
  clear hAe
  have hP : va_P (dC, dI) cls [] s.heap := hP
  have hl := lv_entry ([.int p0]) (n := 1) (Nat.le_of_ble_eq_true rfl)
  rw [lg_entry_eq]
  generalize (lg_sl ([.int p0]) ++ List.replicate (1 - (lg_sl ([.int p0])).length) Slot.unset).toArray = ls at hl ⊢
  have hl : lv_has ls 1 [(0, .int p0)] := hl
  have k0 : (0 : Int32).toInt = 0 := by decide
  refine w_gen (A := A) hP (fun H locs hP hS => ?_)
  have lo_p0 := i32_lo p0
  have hi_p0 := i32_hi p0
  refine lv_iload_n hx hb d_CD_greatestAlignment_0 rfl (lv_at hl 0 rfl) ?_
  have hPc := hP.sb (wq := []) [] rfl
  have hDc := hD.sb (wq := []) [] (by decide) rfl
  have hKc := hK.sb (tyq := []) [] rfl
  have hFc := va_free (wc := []) hD hS hA [] rfl
  refine va_calli (va_runS (As := [.int p0]) (rest := []) ⟨hx, hb, hml, hown, hts⟩ (c_CD_accessBytes l dC dI H.size p0) ⟨callB_of 1 hts (gW kC_CD_accessBytes) rfl rfl rfl (hts _ kI_CD) (hts _ kM_CD_37) (by decide +kernel) ⟨Nat.le_of_ble_eq_true rfl, Nat.le_of_ble_eq_true rfl⟩, hts _ kT_CD_accessBytes⟩ ⟨fun a U g mk z => by obtain ⟨z0, z1, zP, zK, zD⟩ := z; exact ⟨z0, z1, zP, va_K.moved (u := U) (U := U.calling g mk a) (Vm.Alike.refl U.vm) zK, zD⟩, fun U hU hW => ⟨rfl, by rw [hU], va_P.he hU.symm hPc, va_K.moved hW.alike hKc, hDc.weaken (fun _ _ _ _ => trivial)⟩⟩ rfl rfl hl.1 rfl (lv_room (Nat.le_of_ble_eq_true rfl)) d_CD_greatestAlignment_1 ⟨(Nat.zero_le _), (Nat.zero_le _)⟩) hS (fun q _ h => hFc q h) hFc (fun r1 u t H1 locs ht hvm hw hB hz1 hk1 hS => ?_)
  try dsimp only at hw
  have tr1 := hw
  obtain ⟨hP1, hK1, hD1⟩ := hB
  replace hP1 := va_P.he ht hP1
  obtain ⟨hP, hD⟩ := va_join (wr := []) (w1 := []) hP hD [] [] rfl rfl (by decide) (by decide) hk1 hFc hP1 hD1
  clear hPc hDc hKc hFc hz1 hk1 hP1 hK1 hD1
  rename Heap => H
  have hP : va_P (dC, dI) cls [] H := hP
  have hD : va_D A [] := hD
  have hPc := hP.sb (wq := []) [] rfl
  have hDc := hD.sb (wq := []) [] (by decide) rfl
  have hKc := hK.sb (tyq := []) [] rfl
  have hFc := va_free (wc := []) hD hS hA [] rfl
  refine va_calli (va_runS (As := [.int r1]) (rest := []) ⟨hx, hb, hml, hown, hts⟩ (c_JI_numberOfTrailingZerosy l dC dI H.size r1 (by (first | (apply Int.le_antisymm <;> omega) | omega))) ⟨callB_of 1 hts (gW kC_JI_numberOfTrailingZeros) rfl rfl rfl (hts _ kI_JI) (hts _ kM_CD_41) (by decide +kernel) ⟨Nat.le_of_ble_eq_true rfl, Nat.le_of_ble_eq_true rfl⟩, hts _ kT_JI_numberOfTrailingZeros⟩ ⟨fun a U g mk z => by obtain ⟨z0, z1, zP, zK, zD⟩ := z; exact ⟨z0, z1, zP, va_K.moved (u := U) (U := U.calling g mk a) (Vm.Alike.refl U.vm) zK, zD⟩, fun U hU hW => ⟨rfl, by rw [hU], va_P.he hU.symm hPc, va_K.moved hW.alike hKc, hDc.weaken (fun _ _ _ _ => trivial)⟩⟩ rfl rfl hl.1 rfl (lv_room (Nat.le_of_ble_eq_true rfl)) d_CD_greatestAlignment_4 ⟨(Nat.zero_le _), (Nat.zero_le _)⟩) hS (fun q _ h => hFc q h) hFc (fun r2 u t H1 locs ht hvm hw hB hz1 hk1 hS => ?_)
  try dsimp only at hw
  have xr2 := hw
  try clear hw
  obtain ⟨hP1, hK1, hD1⟩ := hB
  replace hP1 := va_P.he ht hP1
  obtain ⟨hP, hD⟩ := va_join (wr := []) (w1 := []) hP hD [] [] rfl rfl (by decide) (by decide) hk1 hFc hP1 hD1
  clear hPc hDc hKc hFc hz1 hk1 hP1 hK1 hD1
  rename Heap => H
  have hP : va_P (dC, dI) cls [] H := hP
  have hD : va_D A [] := hD
  have hP9 := hP.sb (wq := []) [] rfl
  have hD9 := hD.sb (wq := []) [] (by decide) rfl
  exact W.iret (v := r2) hx hb hr (fun t ht hW => ⟨⟨r2, (), rfl, ((by rw [val_i (by (first | (apply Int.le_antisymm <;> omega) | omega))]; (try dsimp only); split; ((first | (apply Int.le_antisymm <;> omega) | omega)); (split <;> (first | (apply Int.le_antisymm <;> omega) | omega)))), va_P.he ht.symm hP9, va_K.moved hW.alike hK, hD9⟩, hS.F ht⟩) hS.2.2 d_CD_greatestAlignment_7
abbrev at_VA_checkNumbery (dC : Nat → ClassId) (dI : Nat → Nat → Nat) (h0 aw ac ty bo bg bh bd : Nat) (cty cbo cbg cbh cbd : ClassId) (h0_function : Int32) (h0_depth : Int32) (gbo : Nat → Int32) (gbg : Nat → Int32) (gbh : Nat → Int32) (gbd : Nat → Int32) (A : Nat → Prop) (u : (Nat → Int32) × Int32 × Int32) (t : State) : Prop := match u with | (gty, h0_height, h0_sound) => va_P (dC, dI) cls (wz_86 h0 aw ac h0_sound h0_function ty h0_height bo bg bh bd h0_depth ty cty gty bo cbo gbo bg cbg gbg bh cbh gbh bd cbd gbd) t.heap ∧ va_K (dC, dI) cls [(cty, .int), (cbo, .int), (cbg, .int), (cbh, .int), (cbd, .boolean)] t ∧ va_D A (wz_86 h0 aw ac h0_sound h0_function ty h0_height bo bg bh bd h0_depth ty cty gty bo cbo gbo bg cbg gbg bh cbh gbh bd cbd gbd)
set_option maxHeartbeats 4000000 in
set_option maxRecDepth 100000 in
theorem c_VA_checkNumbery (l : Launch) (dC : Nat → ClassId) (dI : Nat → Nat → Nat) (sz : Nat) (h0 aw ac ty bo bg bh bd : Nat) (cty cbo cbg cbh cbd : ClassId) (h0_sound : Int32) (h0_function : Int32) (h0_height : Int32) (h0_depth : Int32) (gty : Nat → Int32) (gbo : Nat → Int32) (gbg : Nat → Int32) (gbh : Nat → Int32) (gbd : Nat → Int32) (S9 : List Nat) (B9 : List zBl)  (b_h0_sound : h0_sound = 0 ∨ h0_sound = 1) (b_h0_height : 0 ≤ h0_height.toInt ∧ h0_height.toInt ≤ 5000) (b_h0_depth : 0 ≤ h0_depth.toInt ∧ h0_depth.toInt ≤ 101) (b_gty : ∀ j : Nat, (gty j).toInt ≠ 64) (b_gbh : ∀ j : Nat, 0 ≤ (gbh j).toInt ∧ (gbh j).toInt ≤ 5000) (p0 : Int32)  (hv : h0_sound.toInt = 1 → vA S9 B9 h0_height h0_depth gty gbo gbg gbh gbd) (h5 : h0_sound.toInt = 1 → h0_height.toInt < 5000) (hop0 : 0 ≤ p0.toInt) : Met l y_VA_checkNumber w_VA_checkNumber ({ frames := 2, cells := 0, slots := 0, locals := 42 }) (va_Pc [.ref h0, .int p0] (fun U => U.heap.size = sz ∧ va_P (dC, dI) cls (wz_86 h0 aw ac h0_sound h0_function ty h0_height bo bg bh bd h0_depth ty cty gty bo cbo gbo bg cbg gbg bh cbh gbh bd cbd gbd) U.heap ∧ va_K (dC, dI) cls [(cty, .int), (cbo, .int), (cbg, .int), (cbh, .int), (cbd, .boolean)] U ∧ va_D (fun _ => True) (wz_86 h0 aw ac h0_sound h0_function ty h0_height bo bg bh bd h0_depth ty cty gty bo cbo gbo bg cbg gbg bh cbh gbh bd cbd gbd))) (va_Qv (fun (u : (Nat → Int32) × Int32 × Int32) => match u with | (gty2, h0_height2, h0_sound2) => (∀ j : Nat, (gty2 j).toInt ≠ 64) ∧ (0 ≤ h0_height2.toInt ∧ h0_height2.toInt ≤ 5000) ∧ (h0_sound2 = 0 ∨ h0_sound2 = 1) ∧ (h0_height2.toInt ≤ h0_height.toInt + 1 ∧ vsz (vnum p0.toInt.toNat S9 B9) h0_sound h0_sound2 h0_height2 h0_depth gty2 gbo gbg gbh gbd)) (at_VA_checkNumbery dC dI h0 aw ac ty bo bg bh bd cty cbo cbg cbh cbd h0_function h0_depth gbo gbg gbh gbd (va_A (wz_86 h0 aw ac h0_sound h0_function ty h0_height bo bg bh bd h0_depth ty cty gty bo cbo gbo bg cbg gbg bh cbh gbh bd cbd gbd) sz)) (va_A (wz_86 h0 aw ac h0_sound h0_function ty h0_height bo bg bh bd h0_depth ty cty gty bo cbo gbo bg cbg gbg bh cbh gbh bd cbd gbd) sz)) 0 0 (va_A (wz_86 h0 aw ac h0_sound h0_function ty h0_height bo bg bh bd h0_depth ty cty gty bo cbo gbo bg cbg gbg bh cbh gbh bd cbd gbd) sz) := by
  refine Met.ofW (cc := b_VA_checkNumber) (maxL := 2) (ret := none) (by decide) rfl ?_
  intro p e s m args below meth c s₁ B hml hv
  obtain ⟨rfl, hsz, hP, hK, hD0⟩ := hv
  have hx := B.exec
  have hb := B.bytes
  have hr := B.returns
  have hts0 := atoms_spec (ws := w_VA_checkNumber) B.pre
  have hts : ∀ w ∈ lw_g, w.before _ s = true := fun w h => hts0 w (List.mem_cons_of_mem _ h)
  have hown : s.vm.findClass R_VA = some m.cls := findClass_of_methodNamed B.named
  have hlocks := B.notSynchronized
  clear hts0
  subst hsz
  have hD := hD0.self (sz := s.heap.size)
  generalize hAe : va_A (wz_86 h0 aw ac h0_sound h0_function ty h0_height bo bg bh bd h0_depth ty cty gty bo cbo gbo bg cbg gbg bh cbh gbh bd cbd gbd) s.heap.size = A at hD ⊢
  have hA : ∀ q : Nat, s.heap.size ≤ q → A q := fun q h => by rw [← hAe]; exact Or.inr h
  clear hAe
  have hP : va_P (dC, dI) cls (wz_86 h0 aw ac h0_sound h0_function ty h0_height bo bg bh bd h0_depth ty cty gty bo cbo gbo bg cbg gbg bh cbh gbh bd cbd gbd) s.heap := hP
  have hl := lv_entry ([.ref h0, .int p0]) (n := 2) (Nat.le_of_ble_eq_true rfl)
  rw [lg_entry_eq]
  generalize (lg_sl ([.ref h0, .int p0]) ++ List.replicate (2 - (lg_sl ([.ref h0, .int p0])).length) Slot.unset).toArray = ls at hl ⊢
  have hl : lv_has ls 2 [(0, .ref h0), (1, .int p0)] := hl
  have k0 : (0 : Int32).toInt = 0 := by decide
  refine w_gen (A := A) hP (fun H locs hP hS => ?_)
  have k65 : (65 : Int32).toInt = 65 := by decide
  have k66 : (66 : Int32).toInt = 66 := by decide
  have k126 : (126 : Int32).toInt = 126 := by decide
  have k127 : (127 : Int32).toInt = 127 := by decide
  have lo_p0 := i32_lo p0
  have hi_p0 := i32_hi p0
  have th0_sound := b01 b_h0_sound
  refine lv_iload_n hx hb d_VA_checkNumber_0 rfl (lv_at hl 1 rfl) ?_
  refine lv_bipush (v := 65) hx hb d_VA_checkNumber_1 (by decide) ?_
  refine w_cut (pc2 := 12) (σ := Unit) (fun u H locs ls => match u with | _ => (p0.toInt = 65 ∨ p0.toInt = 66) ∧ va_P (dC, dI) cls (wz_86 h0 aw ac h0_sound h0_function ty h0_height bo bg bh bd h0_depth ty cty gty bo cbo gbo bg cbg gbg bh cbh gbh bd cbd gbd) H ∧ va_D A (wz_86 h0 aw ac h0_sound h0_function ty h0_height bo bg bh bd h0_depth ty cty gty bo cbo gbo bg cbg gbg bh cbh gbh bd cbd gbd) ∧ va_S A s.heap H locs ∧ lv_has ls 2 [(0, .ref h0), (1, .int p0)]) (fun u => match u with | _ => []) ?_ (fun jn12 => ?_)
  · intro u H locs ls hI
    obtain ⟨y12, hP, hD, hS, hl⟩ := hI
    refine lv_aload_n hx hb d_VA_checkNumber_12 rfl (lv_at hl 0 rfl) ?_
    refine lv_iload_n hx hb d_VA_checkNumber_13 rfl (lv_at hl 1 rfl) ?_
    refine lv_bipush (v := 65) hx hb d_VA_checkNumber_14 (by decide) ?_
    refine w_cut (pc2 := 26) (σ := Int32) (fun u H locs ls => match u with | j26_s0 => (126 ≤ j26_s0.toInt ∧ j26_s0.toInt ≤ 127) ∧ ((p0.toInt = 65 ∧ j26_s0.toInt = 127) ∨ (p0.toInt = 66 ∧ j26_s0.toInt = 126)) ∧ va_P (dC, dI) cls (wz_86 h0 aw ac h0_sound h0_function ty h0_height bo bg bh bd h0_depth ty cty gty bo cbo gbo bg cbg gbg bh cbh gbh bd cbd gbd) H ∧ va_D A (wz_86 h0 aw ac h0_sound h0_function ty h0_height bo bg bh bd h0_depth ty cty gty bo cbo gbo bg cbg gbg bh cbh gbh bd cbd gbd) ∧ va_S A s.heap H locs ∧ lv_has ls 2 []) (fun u => match u with | j26_s0 => [.int j26_s0, .ref h0]) ?_ (fun jn26 => ?_)
    · intro u H locs ls hI
      obtain ⟨j26_s0, rfl⟩ : ∃ z, z = u := ⟨_, rfl⟩
      obtain ⟨b_j26_s0, y26, hP, hD, hS, hl⟩ := hI
      have hPc := hP.sb (wq := (wz_86 h0 aw ac h0_sound h0_function ty h0_height bo bg bh bd h0_depth ty cty gty bo cbo gbo bg cbg gbg bh cbh gbh bd cbd gbd)) [0, 1, 2, 3, 4, 5] rfl
      have hDc := hD.sb (wq := (wz_86 h0 aw ac h0_sound h0_function ty h0_height bo bg bh bd h0_depth ty cty gty bo cbo gbo bg cbg gbg bh cbh gbh bd cbd gbd)) [0, 1, 2, 3, 4, 5] (by decide) rfl
      have hKc := hK.sb (tyq := [(cty, .int), (cbo, .int), (cbg, .int), (cbh, .int), (cbd, .boolean)]) [0, 1, 2, 3, 4] rfl
      have hFc := va_free (wc := (wz_86 h0 aw ac h0_sound h0_function ty h0_height bo bg bh bd h0_depth ty cty gty bo cbo gbo bg cbg gbg bh cbh gbh bd cbd gbd)) hD hS hA [0, 1, 2, 3, 4, 5] rfl
      refine va_callv (va_runV (As := [.int j26_s0]) (rest := []) ⟨hx, hb, hml, hown, hts⟩ (c_VA_pushy l dC dI H.size h0 aw ac ty bo bg bh bd cty cbo cbg cbh cbd h0_sound h0_function h0_height h0_depth gty gbo gbg gbh gbd S9 B9 (b_h0_sound) (b_h0_height) (b_h0_depth) (b_gty) (b_gbh) j26_s0 (hv) ((fun _ => by (first | (apply Int.le_antisymm <;> omega) | omega))) (h5)) (cwV 1 hts (gV kM_VA_167 kV_VA_push kS_VA_push kI_VA kC_VA_push) rfl rfl rfl (by decide +kernel) ⟨Nat.le_of_ble_eq_true rfl, Nat.le_of_ble_eq_true rfl⟩) ⟨fun a U g mk z => by obtain ⟨z0, z1, zP, zK, zD⟩ := z; exact ⟨z0, z1, zP, va_K.moved (u := U) (U := U.calling g mk a) (Vm.Alike.refl U.vm) zK, zD⟩, va_recv hKc hPc (ci := 9) (q0 := 0) rfl rfl, fun U hU hW => ⟨rfl, by rw [hU], va_P.he hU.symm hPc, va_K.moved hW.alike hKc, hDc.weaken (fun _ _ _ _ => trivial)⟩⟩ rfl rfl hl.1 rfl (lv_room (Nat.le_of_ble_eq_true rfl)) d_VA_checkNumber_26 ⟨(Nat.zero_le _), (Nat.zero_le _)⟩) hS (fun q _ h => hFc q h) hFc (fun u t H1 locs ht hvm hw hB hz1 hk1 hS => ?_)
      obtain ⟨n2, n3⟩ := u
      try dsimp only at hw
      obtain ⟨bn2, bn3, xr1⟩ := hw
      try clear hw
      have hl26 := xr1.1
      have w_26 := xr1.2
      clear xr1
      obtain ⟨hP1, hK1, hD1⟩ := hB
      replace hP1 := va_P.he ht hP1
      obtain ⟨hP, hD⟩ := va_join (wr := []) (w1 := (wz_86 h0 aw ac h0_sound h0_function ty n3 bo bg bh bd h0_depth ty cty n2 bo cbo gbo bg cbg gbg bh cbh gbh bd cbd gbd)) hP hD [0, 1, 2, 3, 4, 5] [] rfl rfl (by decide) (by decide) hk1 hFc hP1 hD1
      clear hPc hDc hKc hFc hz1 hk1 hP1 hK1 hD1
      rename Heap => H
      have hP : va_P (dC, dI) cls (wz_86 h0 aw ac h0_sound h0_function ty n3 bo bg bh bd h0_depth ty cty n2 bo cbo gbo bg cbg gbg bh cbh gbh bd cbd gbd) H := hP
      have hD : va_D A (wz_86 h0 aw ac h0_sound h0_function ty n3 bo bg bh bd h0_depth ty cty n2 bo cbo gbo bg cbg gbg bh cbh gbh bd cbd gbd) := hD
      have hP9 := hP.sb (wq := (wz_86 h0 aw ac h0_sound h0_function ty n3 bo bg bh bd h0_depth ty cty n2 bo cbo gbo bg cbg gbg bh cbh gbh bd cbd gbd)) [0, 1, 2, 3, 4, 5] rfl
      have hD9 := hD.sb (wq := (wz_86 h0 aw ac h0_sound h0_function ty n3 bo bg bh bd h0_depth ty cty n2 bo cbo gbo bg cbg gbg bh cbh gbh bd cbd gbd)) [0, 1, 2, 3, 4, 5] (by decide) rfl
      exact W.vret hx hb hr (fun t ht hW => ⟨⟨(n2, n3, h0_sound), rfl, ⟨bn2, bn3, b_h0_sound, ⟨by (try dsimp only) <;> (first | (apply Int.le_antisymm <;> omega) | omega), nu_c (by (first | (apply Int.le_antisymm <;> omega) | omega)) th0_sound w_26⟩⟩, va_P.he ht.symm hP9, va_K.moved hW.alike hK, hD9⟩, hS.F ht⟩) hS.2.2 d_VA_checkNumber_29
    · skip
      refine lv_icmp_ne (tgt := 24) hx hb d_VA_checkNumber_16 (by decide) (fun c16 => ?_) (fun c16 => ?_)
      · have q16 := neI c16
        refine lv_bipush (v := 126) hx hb d_VA_checkNumber_24 (by decide) ?_
        exact jn26 126 _ _ _ ⟨by (try dsimp only) <;> (first | (apply Int.le_antisymm <;> omega) | omega), by (try dsimp only) <;> (first | (apply Int.le_antisymm <;> omega) | omega), hP, hD, hS, lv_sub hl [] rfl⟩
      · have q16 := eqI c16
        refine lv_bipush (v := 127) hx hb d_VA_checkNumber_19 (by decide) ?_
        refine lv_goto (tgt := 26) hx hb d_VA_checkNumber_21 (by decide) ?_
        exact jn26 127 _ _ _ ⟨by (try dsimp only) <;> (first | (apply Int.le_antisymm <;> omega) | omega), by (try dsimp only) <;> (first | (apply Int.le_antisymm <;> omega) | omega), hP, hD, hS, lv_sub hl [] rfl⟩
  · skip
    refine lv_icmp_eq (tgt := 12) hx hb d_VA_checkNumber_3 (by decide) (fun c3 => ?_) (fun c3 => ?_)
    · have q3 := eqI c3
      exact jn12 () _ _ _ ⟨by (try dsimp only) <;> (first | (apply Int.le_antisymm <;> omega) | omega), hP, hD, hS, lv_sub hl [0, 1] rfl⟩
    · have q3 := neI c3
      refine lv_iload_n hx hb d_VA_checkNumber_6 rfl (lv_at hl 1 rfl) ?_
      refine lv_bipush (v := 66) hx hb d_VA_checkNumber_7 (by decide) ?_
      refine lv_icmp_ne (tgt := 30) hx hb d_VA_checkNumber_9 (by decide) (fun c9 => ?_) (fun c9 => ?_)
      · have q9 := neI c9
        refine lv_aload_n hx hb d_VA_checkNumber_30 rfl (lv_at hl 0 rfl) ?_
        refine lv_iload_n hx hb d_VA_checkNumber_31 rfl (lv_at hl 1 rfl) ?_
        have hPc := hP.sb (wq := []) [] rfl
        have hDc := hD.sb (wq := []) [] (by decide) rfl
        have hKc := hK.sb (tyq := []) [] rfl
        have hFc := va_free (wc := []) hD hS hA [] rfl
        refine va_calli (va_runS (As := [.int p0]) (rest := [.ref h0]) ⟨hx, hb, hml, hown, hts⟩ (c_CD_operandTypey l dC dI H.size p0) ⟨callB_of 1 hts (gW kC_CD_operandType) rfl rfl rfl (hts _ kI_CD) (hts _ kM_VA_209) (by decide +kernel) ⟨Nat.le_of_ble_eq_true rfl, Nat.le_of_ble_eq_true rfl⟩, hts _ kT_CD_operandType⟩ ⟨fun a U g mk z => by obtain ⟨z0, z1, zP, zK, zD⟩ := z; exact ⟨z0, z1, zP, va_K.moved (u := U) (U := U.calling g mk a) (Vm.Alike.refl U.vm) zK, zD⟩, fun U hU hW => ⟨rfl, by rw [hU], va_P.he hU.symm hPc, va_K.moved hW.alike hKc, hDc.weaken (fun _ _ _ _ => trivial)⟩⟩ rfl rfl hl.1 rfl (lv_room (Nat.le_of_ble_eq_true rfl)) d_VA_checkNumber_32 ⟨(Nat.zero_le _), (Nat.zero_le _)⟩) hS (fun q _ h => hFc q h) hFc (fun r4 u t H1 locs ht hvm hw hB hz1 hk1 hS => ?_)
        try dsimp only at hw
        have xr4 := hw
        try clear hw
        have o32 := xr4
        obtain ⟨hP1, hK1, hD1⟩ := hB
        replace hP1 := va_P.he ht hP1
        obtain ⟨hP, hD⟩ := va_join (wr := (wz_86 h0 aw ac h0_sound h0_function ty h0_height bo bg bh bd h0_depth ty cty gty bo cbo gbo bg cbg gbg bh cbh gbh bd cbd gbd)) (w1 := []) hP hD [] [0, 1, 2, 3, 4, 5] rfl rfl (by decide) (by decide) hk1 hFc hP1 hD1
        clear hPc hDc hKc hFc hz1 hk1 hP1 hK1 hD1
        rename Heap => H
        have hP : va_P (dC, dI) cls (wz_86 h0 aw ac h0_sound h0_function ty h0_height bo bg bh bd h0_depth ty cty gty bo cbo gbo bg cbg gbg bh cbh gbh bd cbd gbd) H := hP
        have hD : va_D A (wz_86 h0 aw ac h0_sound h0_function ty h0_height bo bg bh bd h0_depth ty cty gty bo cbo gbo bg cbg gbg bh cbh gbh bd cbd gbd) := hD
        have hPc := hP.sb (wq := (wz_86 h0 aw ac h0_sound h0_function ty h0_height bo bg bh bd h0_depth ty cty gty bo cbo gbo bg cbg gbg bh cbh gbh bd cbd gbd)) [0, 1, 2, 3, 4, 5] rfl
        have hDc := hD.sb (wq := (wz_86 h0 aw ac h0_sound h0_function ty h0_height bo bg bh bd h0_depth ty cty gty bo cbo gbo bg cbg gbg bh cbh gbh bd cbd gbd)) [0, 1, 2, 3, 4, 5] (by decide) rfl
        have hKc := hK.sb (tyq := [(cty, .int), (cbo, .int), (cbg, .int), (cbh, .int), (cbd, .boolean)]) [0, 1, 2, 3, 4] rfl
        have hFc := va_free (wc := (wz_86 h0 aw ac h0_sound h0_function ty h0_height bo bg bh bd h0_depth ty cty gty bo cbo gbo bg cbg gbg bh cbh gbh bd cbd gbd)) hD hS hA [0, 1, 2, 3, 4, 5] rfl
        refine va_callv (va_runV (As := [.int r4]) (rest := []) ⟨hx, hb, hml, hown, hts⟩ (c_VA_popy l dC dI H.size h0 aw ac ty bo bg bh bd cty cbo cbg cbh cbd h0_sound h0_function h0_height h0_depth gty gbo gbg gbh gbd S9 B9 (b_h0_sound) (b_h0_height) (b_h0_depth) (b_gty) (b_gbh) r4 (hv) ((fun _ => by (first | (apply Int.le_antisymm <;> omega) | omega)))) (cwV 1 hts (gV kM_VA_161 kV_VA_pop kS_VA_pop kI_VA kC_VA_pop) rfl rfl rfl (by decide +kernel) ⟨Nat.le_of_ble_eq_true rfl, Nat.le_of_ble_eq_true rfl⟩) ⟨fun a U g mk z => by obtain ⟨z0, z1, zP, zK, zD⟩ := z; exact ⟨z0, z1, zP, va_K.moved (u := U) (U := U.calling g mk a) (Vm.Alike.refl U.vm) zK, zD⟩, va_recv hKc hPc (ci := 9) (q0 := 0) rfl rfl, fun U hU hW => ⟨rfl, by rw [hU], va_P.he hU.symm hPc, va_K.moved hW.alike hKc, hDc.weaken (fun _ _ _ _ => trivial)⟩⟩ rfl rfl hl.1 rfl (lv_room (Nat.le_of_ble_eq_true rfl)) d_VA_checkNumber_35 ⟨(Nat.zero_le _), (Nat.zero_le _)⟩) hS (fun q _ h => hFc q h) hFc (fun u t H1 locs ht hvm hw hB hz1 hk1 hS => ?_)
        obtain ⟨n6, n7⟩ := u
        try dsimp only at hw
        obtain ⟨bn6, bn7, xr5⟩ := hw
        try clear hw
        have tn7 := b01 bn7
        have hl35 := xr5.1
        obtain ⟨S_35, q_35, w_35⟩ := vwz_1 xr5.2
        have ql35 : n7.toInt = 1 → h0_sound.toInt = 1 := by rcases q_35 with z2 | z2; (exact fun _ => z2.2.1); (exact fun z => absurd z2.1 (by (first | (apply Int.le_antisymm <;> omega) | omega)))
        clear xr5
        obtain ⟨hP1, hK1, hD1⟩ := hB
        replace hP1 := va_P.he ht hP1
        obtain ⟨hP, hD⟩ := va_join (wr := []) (w1 := (wz_86 h0 aw ac n7 h0_function ty n6 bo bg bh bd h0_depth ty cty gty bo cbo gbo bg cbg gbg bh cbh gbh bd cbd gbd)) hP hD [0, 1, 2, 3, 4, 5] [] rfl rfl (by decide) (by decide) hk1 hFc hP1 hD1
        clear hPc hDc hKc hFc hz1 hk1 hP1 hK1 hD1
        rename Heap => H
        have hP : va_P (dC, dI) cls (wz_86 h0 aw ac n7 h0_function ty n6 bo bg bh bd h0_depth ty cty gty bo cbo gbo bg cbg gbg bh cbh gbh bd cbd gbd) H := hP
        have hD : va_D A (wz_86 h0 aw ac n7 h0_function ty n6 bo bg bh bd h0_depth ty cty gty bo cbo gbo bg cbg gbg bh cbh gbh bd cbd gbd) := hD
        refine lv_iload_n hx hb d_VA_checkNumber_38 rfl (lv_at hl 1 rfl) ?_
        have hPc := hP.sb (wq := []) [] rfl
        have hDc := hD.sb (wq := []) [] (by decide) rfl
        have hKc := hK.sb (tyq := []) [] rfl
        have hFc := va_free (wc := []) hD hS hA [] rfl
        refine va_calli (va_runS (As := [.int p0]) (rest := []) ⟨hx, hb, hml, hown, hts⟩ (c_CD_takesOne l dC dI H.size p0) ⟨callB_of 1 hts (gW kC_CD_takesOne) rfl rfl rfl (hts _ kI_CD) (hts _ kM_VA_212) (by decide +kernel) ⟨Nat.le_of_ble_eq_true rfl, Nat.le_of_ble_eq_true rfl⟩, hts _ kT_CD_takesOne⟩ ⟨fun a U g mk z => by obtain ⟨z0, z1, zP, zK, zD⟩ := z; exact ⟨z0, z1, zP, va_K.moved (u := U) (U := U.calling g mk a) (Vm.Alike.refl U.vm) zK, zD⟩, fun U hU hW => ⟨rfl, by rw [hU], va_P.he hU.symm hPc, va_K.moved hW.alike hKc, hDc.weaken (fun _ _ _ _ => trivial)⟩⟩ rfl rfl hl.1 rfl (lv_room (Nat.le_of_ble_eq_true rfl)) d_VA_checkNumber_39 ⟨(Nat.zero_le _), (Nat.zero_le _)⟩) hS (fun q _ h => hFc q h) hFc (fun r8 u t H1 locs ht hvm hw hB hz1 hk1 hS => ?_)
        try dsimp only at hw
        have tr8 := hw
        obtain ⟨hP1, hK1, hD1⟩ := hB
        replace hP1 := va_P.he ht hP1
        obtain ⟨hP, hD⟩ := va_join (wr := (wz_86 h0 aw ac n7 h0_function ty n6 bo bg bh bd h0_depth ty cty gty bo cbo gbo bg cbg gbg bh cbh gbh bd cbd gbd)) (w1 := []) hP hD [] [0, 1, 2, 3, 4, 5] rfl rfl (by decide) (by decide) hk1 hFc hP1 hD1
        clear hPc hDc hKc hFc hz1 hk1 hP1 hK1 hD1
        rename Heap => H
        have hP : va_P (dC, dI) cls (wz_86 h0 aw ac n7 h0_function ty n6 bo bg bh bd h0_depth ty cty gty bo cbo gbo bg cbg gbg bh cbh gbh bd cbd gbd) H := hP
        have hD : va_D A (wz_86 h0 aw ac n7 h0_function ty n6 bo bg bh bd h0_depth ty cty gty bo cbo gbo bg cbg gbg bh cbh gbh bd cbd gbd) := hD
        refine lv_if_ne (tgt := 53) hx hb d_VA_checkNumber_42 (by decide) (fun c42 => ?_) (fun c42 => ?_)
        · have q42 := neI c42
          refine lv_aload_n hx hb d_VA_checkNumber_53 rfl (lv_at hl 0 rfl) ?_
          refine lv_iload_n hx hb d_VA_checkNumber_54 rfl (lv_at hl 1 rfl) ?_
          have hPc := hP.sb (wq := []) [] rfl
          have hDc := hD.sb (wq := []) [] (by decide) rfl
          have hKc := hK.sb (tyq := []) [] rfl
          have hFc := va_free (wc := []) hD hS hA [] rfl
          refine va_calli (va_runS (As := [.int p0]) (rest := [.ref h0]) ⟨hx, hb, hml, hown, hts⟩ (c_CD_resultTypey l dC dI H.size p0) ⟨callB_of 1 hts (gW kC_CD_resultType) rfl rfl rfl (hts _ kI_CD) (hts _ kM_VA_215) (by decide +kernel) ⟨Nat.le_of_ble_eq_true rfl, Nat.le_of_ble_eq_true rfl⟩, hts _ kT_CD_resultType⟩ ⟨fun a U g mk z => by obtain ⟨z0, z1, zP, zK, zD⟩ := z; exact ⟨z0, z1, zP, va_K.moved (u := U) (U := U.calling g mk a) (Vm.Alike.refl U.vm) zK, zD⟩, fun U hU hW => ⟨rfl, by rw [hU], va_P.he hU.symm hPc, va_K.moved hW.alike hKc, hDc.weaken (fun _ _ _ _ => trivial)⟩⟩ rfl rfl hl.1 rfl (lv_room (Nat.le_of_ble_eq_true rfl)) d_VA_checkNumber_55 ⟨(Nat.zero_le _), (Nat.zero_le _)⟩) hS (fun q _ h => hFc q h) hFc (fun r9 u t H1 locs ht hvm hw hB hz1 hk1 hS => ?_)
          try dsimp only at hw
          have xr9 := hw
          try clear hw
          have o55 := xr9
          obtain ⟨hP1, hK1, hD1⟩ := hB
          replace hP1 := va_P.he ht hP1
          obtain ⟨hP, hD⟩ := va_join (wr := (wz_86 h0 aw ac n7 h0_function ty n6 bo bg bh bd h0_depth ty cty gty bo cbo gbo bg cbg gbg bh cbh gbh bd cbd gbd)) (w1 := []) hP hD [] [0, 1, 2, 3, 4, 5] rfl rfl (by decide) (by decide) hk1 hFc hP1 hD1
          clear hPc hDc hKc hFc hz1 hk1 hP1 hK1 hD1
          rename Heap => H
          have hP : va_P (dC, dI) cls (wz_86 h0 aw ac n7 h0_function ty n6 bo bg bh bd h0_depth ty cty gty bo cbo gbo bg cbg gbg bh cbh gbh bd cbd gbd) H := hP
          have hD : va_D A (wz_86 h0 aw ac n7 h0_function ty n6 bo bg bh bd h0_depth ty cty gty bo cbo gbo bg cbg gbg bh cbh gbh bd cbd gbd) := hD
          have hPc := hP.sb (wq := (wz_86 h0 aw ac n7 h0_function ty n6 bo bg bh bd h0_depth ty cty gty bo cbo gbo bg cbg gbg bh cbh gbh bd cbd gbd)) [0, 1, 2, 3, 4, 5] rfl
          have hDc := hD.sb (wq := (wz_86 h0 aw ac n7 h0_function ty n6 bo bg bh bd h0_depth ty cty gty bo cbo gbo bg cbg gbg bh cbh gbh bd cbd gbd)) [0, 1, 2, 3, 4, 5] (by decide) rfl
          have hKc := hK.sb (tyq := [(cty, .int), (cbo, .int), (cbg, .int), (cbh, .int), (cbd, .boolean)]) [0, 1, 2, 3, 4] rfl
          have hFc := va_free (wc := (wz_86 h0 aw ac n7 h0_function ty n6 bo bg bh bd h0_depth ty cty gty bo cbo gbo bg cbg gbg bh cbh gbh bd cbd gbd)) hD hS hA [0, 1, 2, 3, 4, 5] rfl
          refine va_callv (va_runV (As := [.int r9]) (rest := []) ⟨hx, hb, hml, hown, hts⟩ (c_VA_pushy l dC dI H.size h0 aw ac ty bo bg bh bd cty cbo cbg cbh cbd n7 h0_function n6 h0_depth gty gbo gbg gbh gbd S_35 B9 (bn7) (bn6) (b_h0_depth) (b_gty) (b_gbh) r9 (w_35) ((fun _ => by (first | (apply Int.le_antisymm <;> omega) | omega))) ((fun z => by have := h5 (by (first | (apply Int.le_antisymm <;> omega) | omega)); (first | (apply Int.le_antisymm <;> omega) | omega)))) (cwV 1 hts (gV kM_VA_167 kV_VA_push kS_VA_push kI_VA kC_VA_push) rfl rfl rfl (by decide +kernel) ⟨Nat.le_of_ble_eq_true rfl, Nat.le_of_ble_eq_true rfl⟩) ⟨fun a U g mk z => by obtain ⟨z0, z1, zP, zK, zD⟩ := z; exact ⟨z0, z1, zP, va_K.moved (u := U) (U := U.calling g mk a) (Vm.Alike.refl U.vm) zK, zD⟩, va_recv hKc hPc (ci := 9) (q0 := 0) rfl rfl, fun U hU hW => ⟨rfl, by rw [hU], va_P.he hU.symm hPc, va_K.moved hW.alike hKc, hDc.weaken (fun _ _ _ _ => trivial)⟩⟩ rfl rfl hl.1 rfl (lv_room (Nat.le_of_ble_eq_true rfl)) d_VA_checkNumber_58 ⟨(Nat.zero_le _), (Nat.zero_le _)⟩) hS (fun q _ h => hFc q h) hFc (fun u t H1 locs ht hvm hw hB hz1 hk1 hS => ?_)
          obtain ⟨n11, n12⟩ := u
          try dsimp only at hw
          obtain ⟨bn11, bn12, xr10⟩ := hw
          try clear hw
          have hl58 := xr10.1
          have w_58 := xr10.2
          clear xr10
          obtain ⟨hP1, hK1, hD1⟩ := hB
          replace hP1 := va_P.he ht hP1
          obtain ⟨hP, hD⟩ := va_join (wr := []) (w1 := (wz_86 h0 aw ac n7 h0_function ty n12 bo bg bh bd h0_depth ty cty n11 bo cbo gbo bg cbg gbg bh cbh gbh bd cbd gbd)) hP hD [0, 1, 2, 3, 4, 5] [] rfl rfl (by decide) (by decide) hk1 hFc hP1 hD1
          clear hPc hDc hKc hFc hz1 hk1 hP1 hK1 hD1
          rename Heap => H
          have hP : va_P (dC, dI) cls (wz_86 h0 aw ac n7 h0_function ty n12 bo bg bh bd h0_depth ty cty n11 bo cbo gbo bg cbg gbg bh cbh gbh bd cbd gbd) H := hP
          have hD : va_D A (wz_86 h0 aw ac n7 h0_function ty n12 bo bg bh bd h0_depth ty cty n11 bo cbo gbo bg cbg gbg bh cbh gbh bd cbd gbd) := hD
          have hP9 := hP.sb (wq := (wz_86 h0 aw ac n7 h0_function ty n12 bo bg bh bd h0_depth ty cty n11 bo cbo gbo bg cbg gbg bh cbh gbh bd cbd gbd)) [0, 1, 2, 3, 4, 5] rfl
          have hD9 := hD.sb (wq := (wz_86 h0 aw ac n7 h0_function ty n12 bo bg bh bd h0_depth ty cty n11 bo cbo gbo bg cbg gbg bh cbh gbh bd cbd gbd)) [0, 1, 2, 3, 4, 5] (by decide) rfl
          exact W.vret hx hb hr (fun t ht hW => ⟨⟨(n11, n12, n7), rfl, ⟨bn11, bn12, bn7, ⟨by (try dsimp only) <;> (first | (apply Int.le_antisymm <;> omega) | omega), nu_1 (by (first | (apply Int.le_antisymm <;> omega) | omega)) (by (first | (apply Int.le_antisymm <;> omega) | omega)) ((vone_i (by (first | (apply Int.le_antisymm <;> omega) | omega))).mpr (by (first | (apply Int.le_antisymm <;> omega) | omega))) (vin_t o32 (by (first | (apply Int.le_antisymm <;> omega) | omega))) (vout_t o55 (by (first | (apply Int.le_antisymm <;> omega) | omega))) (by (first | (apply Int.le_antisymm <;> omega) | omega)) q_35 w_58⟩⟩, va_P.he ht.symm hP9, va_K.moved hW.alike hK, hD9⟩, hS.F ht⟩) hS.2.2 d_VA_checkNumber_61
        · have q42 := eqI c42
          refine lv_aload_n hx hb d_VA_checkNumber_45 rfl (lv_at hl 0 rfl) ?_
          refine lv_iload_n hx hb d_VA_checkNumber_46 rfl (lv_at hl 1 rfl) ?_
          have hPc := hP.sb (wq := []) [] rfl
          have hDc := hD.sb (wq := []) [] (by decide) rfl
          have hKc := hK.sb (tyq := []) [] rfl
          have hFc := va_free (wc := []) hD hS hA [] rfl
          refine va_calli (va_runS (As := [.int p0]) (rest := [.ref h0]) ⟨hx, hb, hml, hown, hts⟩ (c_CD_operandTypey l dC dI H.size p0) ⟨callB_of 1 hts (gW kC_CD_operandType) rfl rfl rfl (hts _ kI_CD) (hts _ kM_VA_209) (by decide +kernel) ⟨Nat.le_of_ble_eq_true rfl, Nat.le_of_ble_eq_true rfl⟩, hts _ kT_CD_operandType⟩ ⟨fun a U g mk z => by obtain ⟨z0, z1, zP, zK, zD⟩ := z; exact ⟨z0, z1, zP, va_K.moved (u := U) (U := U.calling g mk a) (Vm.Alike.refl U.vm) zK, zD⟩, fun U hU hW => ⟨rfl, by rw [hU], va_P.he hU.symm hPc, va_K.moved hW.alike hKc, hDc.weaken (fun _ _ _ _ => trivial)⟩⟩ rfl rfl hl.1 rfl (lv_room (Nat.le_of_ble_eq_true rfl)) d_VA_checkNumber_47 ⟨(Nat.zero_le _), (Nat.zero_le _)⟩) hS (fun q _ h => hFc q h) hFc (fun r13 u t H1 locs ht hvm hw hB hz1 hk1 hS => ?_)
          try dsimp only at hw
          have xr13 := hw
          try clear hw
          have o47 := xr13
          obtain ⟨hP1, hK1, hD1⟩ := hB
          replace hP1 := va_P.he ht hP1
          obtain ⟨hP, hD⟩ := va_join (wr := (wz_86 h0 aw ac n7 h0_function ty n6 bo bg bh bd h0_depth ty cty gty bo cbo gbo bg cbg gbg bh cbh gbh bd cbd gbd)) (w1 := []) hP hD [] [0, 1, 2, 3, 4, 5] rfl rfl (by decide) (by decide) hk1 hFc hP1 hD1
          clear hPc hDc hKc hFc hz1 hk1 hP1 hK1 hD1
          rename Heap => H
          have hP : va_P (dC, dI) cls (wz_86 h0 aw ac n7 h0_function ty n6 bo bg bh bd h0_depth ty cty gty bo cbo gbo bg cbg gbg bh cbh gbh bd cbd gbd) H := hP
          have hD : va_D A (wz_86 h0 aw ac n7 h0_function ty n6 bo bg bh bd h0_depth ty cty gty bo cbo gbo bg cbg gbg bh cbh gbh bd cbd gbd) := hD
          have hPc := hP.sb (wq := (wz_86 h0 aw ac n7 h0_function ty n6 bo bg bh bd h0_depth ty cty gty bo cbo gbo bg cbg gbg bh cbh gbh bd cbd gbd)) [0, 1, 2, 3, 4, 5] rfl
          have hDc := hD.sb (wq := (wz_86 h0 aw ac n7 h0_function ty n6 bo bg bh bd h0_depth ty cty gty bo cbo gbo bg cbg gbg bh cbh gbh bd cbd gbd)) [0, 1, 2, 3, 4, 5] (by decide) rfl
          have hKc := hK.sb (tyq := [(cty, .int), (cbo, .int), (cbg, .int), (cbh, .int), (cbd, .boolean)]) [0, 1, 2, 3, 4] rfl
          have hFc := va_free (wc := (wz_86 h0 aw ac n7 h0_function ty n6 bo bg bh bd h0_depth ty cty gty bo cbo gbo bg cbg gbg bh cbh gbh bd cbd gbd)) hD hS hA [0, 1, 2, 3, 4, 5] rfl
          refine va_callv (va_runV (As := [.int r13]) (rest := []) ⟨hx, hb, hml, hown, hts⟩ (c_VA_popy l dC dI H.size h0 aw ac ty bo bg bh bd cty cbo cbg cbh cbd n7 h0_function n6 h0_depth gty gbo gbg gbh gbd S_35 B9 (bn7) (bn6) (b_h0_depth) (b_gty) (b_gbh) r13 (w_35) ((fun _ => by (first | (apply Int.le_antisymm <;> omega) | omega)))) (cwV 1 hts (gV kM_VA_161 kV_VA_pop kS_VA_pop kI_VA kC_VA_pop) rfl rfl rfl (by decide +kernel) ⟨Nat.le_of_ble_eq_true rfl, Nat.le_of_ble_eq_true rfl⟩) ⟨fun a U g mk z => by obtain ⟨z0, z1, zP, zK, zD⟩ := z; exact ⟨z0, z1, zP, va_K.moved (u := U) (U := U.calling g mk a) (Vm.Alike.refl U.vm) zK, zD⟩, va_recv hKc hPc (ci := 9) (q0 := 0) rfl rfl, fun U hU hW => ⟨rfl, by rw [hU], va_P.he hU.symm hPc, va_K.moved hW.alike hKc, hDc.weaken (fun _ _ _ _ => trivial)⟩⟩ rfl rfl hl.1 rfl (lv_room (Nat.le_of_ble_eq_true rfl)) d_VA_checkNumber_50 ⟨(Nat.zero_le _), (Nat.zero_le _)⟩) hS (fun q _ h => hFc q h) hFc (fun u t H1 locs ht hvm hw hB hz1 hk1 hS => ?_)
          obtain ⟨n15, n16⟩ := u
          try dsimp only at hw
          obtain ⟨bn15, bn16, xr14⟩ := hw
          try clear hw
          have tn16 := b01 bn16
          have hl50 := xr14.1
          obtain ⟨S_50, q_50, w_50⟩ := vwz_1 xr14.2
          have ql50 : n16.toInt = 1 → n7.toInt = 1 := by rcases q_50 with z2 | z2; (exact fun _ => z2.2.1); (exact fun z => absurd z2.1 (by (first | (apply Int.le_antisymm <;> omega) | omega)))
          clear xr14
          obtain ⟨hP1, hK1, hD1⟩ := hB
          replace hP1 := va_P.he ht hP1
          obtain ⟨hP, hD⟩ := va_join (wr := []) (w1 := (wz_86 h0 aw ac n16 h0_function ty n15 bo bg bh bd h0_depth ty cty gty bo cbo gbo bg cbg gbg bh cbh gbh bd cbd gbd)) hP hD [0, 1, 2, 3, 4, 5] [] rfl rfl (by decide) (by decide) hk1 hFc hP1 hD1
          clear hPc hDc hKc hFc hz1 hk1 hP1 hK1 hD1
          rename Heap => H
          have hP : va_P (dC, dI) cls (wz_86 h0 aw ac n16 h0_function ty n15 bo bg bh bd h0_depth ty cty gty bo cbo gbo bg cbg gbg bh cbh gbh bd cbd gbd) H := hP
          have hD : va_D A (wz_86 h0 aw ac n16 h0_function ty n15 bo bg bh bd h0_depth ty cty gty bo cbo gbo bg cbg gbg bh cbh gbh bd cbd gbd) := hD
          refine lv_aload_n hx hb d_VA_checkNumber_53 rfl (lv_at hl 0 rfl) ?_
          refine lv_iload_n hx hb d_VA_checkNumber_54 rfl (lv_at hl 1 rfl) ?_
          have hPc := hP.sb (wq := []) [] rfl
          have hDc := hD.sb (wq := []) [] (by decide) rfl
          have hKc := hK.sb (tyq := []) [] rfl
          have hFc := va_free (wc := []) hD hS hA [] rfl
          refine va_calli (va_runS (As := [.int p0]) (rest := [.ref h0]) ⟨hx, hb, hml, hown, hts⟩ (c_CD_resultTypey l dC dI H.size p0) ⟨callB_of 1 hts (gW kC_CD_resultType) rfl rfl rfl (hts _ kI_CD) (hts _ kM_VA_215) (by decide +kernel) ⟨Nat.le_of_ble_eq_true rfl, Nat.le_of_ble_eq_true rfl⟩, hts _ kT_CD_resultType⟩ ⟨fun a U g mk z => by obtain ⟨z0, z1, zP, zK, zD⟩ := z; exact ⟨z0, z1, zP, va_K.moved (u := U) (U := U.calling g mk a) (Vm.Alike.refl U.vm) zK, zD⟩, fun U hU hW => ⟨rfl, by rw [hU], va_P.he hU.symm hPc, va_K.moved hW.alike hKc, hDc.weaken (fun _ _ _ _ => trivial)⟩⟩ rfl rfl hl.1 rfl (lv_room (Nat.le_of_ble_eq_true rfl)) d_VA_checkNumber_55 ⟨(Nat.zero_le _), (Nat.zero_le _)⟩) hS (fun q _ h => hFc q h) hFc (fun r17 u t H1 locs ht hvm hw hB hz1 hk1 hS => ?_)
          try dsimp only at hw
          have xr17 := hw
          try clear hw
          have o55 := xr17
          obtain ⟨hP1, hK1, hD1⟩ := hB
          replace hP1 := va_P.he ht hP1
          obtain ⟨hP, hD⟩ := va_join (wr := (wz_86 h0 aw ac n16 h0_function ty n15 bo bg bh bd h0_depth ty cty gty bo cbo gbo bg cbg gbg bh cbh gbh bd cbd gbd)) (w1 := []) hP hD [] [0, 1, 2, 3, 4, 5] rfl rfl (by decide) (by decide) hk1 hFc hP1 hD1
          clear hPc hDc hKc hFc hz1 hk1 hP1 hK1 hD1
          rename Heap => H
          have hP : va_P (dC, dI) cls (wz_86 h0 aw ac n16 h0_function ty n15 bo bg bh bd h0_depth ty cty gty bo cbo gbo bg cbg gbg bh cbh gbh bd cbd gbd) H := hP
          have hD : va_D A (wz_86 h0 aw ac n16 h0_function ty n15 bo bg bh bd h0_depth ty cty gty bo cbo gbo bg cbg gbg bh cbh gbh bd cbd gbd) := hD
          have hPc := hP.sb (wq := (wz_86 h0 aw ac n16 h0_function ty n15 bo bg bh bd h0_depth ty cty gty bo cbo gbo bg cbg gbg bh cbh gbh bd cbd gbd)) [0, 1, 2, 3, 4, 5] rfl
          have hDc := hD.sb (wq := (wz_86 h0 aw ac n16 h0_function ty n15 bo bg bh bd h0_depth ty cty gty bo cbo gbo bg cbg gbg bh cbh gbh bd cbd gbd)) [0, 1, 2, 3, 4, 5] (by decide) rfl
          have hKc := hK.sb (tyq := [(cty, .int), (cbo, .int), (cbg, .int), (cbh, .int), (cbd, .boolean)]) [0, 1, 2, 3, 4] rfl
          have hFc := va_free (wc := (wz_86 h0 aw ac n16 h0_function ty n15 bo bg bh bd h0_depth ty cty gty bo cbo gbo bg cbg gbg bh cbh gbh bd cbd gbd)) hD hS hA [0, 1, 2, 3, 4, 5] rfl
          refine va_callv (va_runV (As := [.int r17]) (rest := []) ⟨hx, hb, hml, hown, hts⟩ (c_VA_pushy l dC dI H.size h0 aw ac ty bo bg bh bd cty cbo cbg cbh cbd n16 h0_function n15 h0_depth gty gbo gbg gbh gbd S_50 B9 (bn16) (bn15) (b_h0_depth) (b_gty) (b_gbh) r17 (w_50) ((fun _ => by (first | (apply Int.le_antisymm <;> omega) | omega))) ((fun z => by have := h5 (by (first | (apply Int.le_antisymm <;> omega) | omega)); (first | (apply Int.le_antisymm <;> omega) | omega)))) (cwV 1 hts (gV kM_VA_167 kV_VA_push kS_VA_push kI_VA kC_VA_push) rfl rfl rfl (by decide +kernel) ⟨Nat.le_of_ble_eq_true rfl, Nat.le_of_ble_eq_true rfl⟩) ⟨fun a U g mk z => by obtain ⟨z0, z1, zP, zK, zD⟩ := z; exact ⟨z0, z1, zP, va_K.moved (u := U) (U := U.calling g mk a) (Vm.Alike.refl U.vm) zK, zD⟩, va_recv hKc hPc (ci := 9) (q0 := 0) rfl rfl, fun U hU hW => ⟨rfl, by rw [hU], va_P.he hU.symm hPc, va_K.moved hW.alike hKc, hDc.weaken (fun _ _ _ _ => trivial)⟩⟩ rfl rfl hl.1 rfl (lv_room (Nat.le_of_ble_eq_true rfl)) d_VA_checkNumber_58 ⟨(Nat.zero_le _), (Nat.zero_le _)⟩) hS (fun q _ h => hFc q h) hFc (fun u t H1 locs ht hvm hw hB hz1 hk1 hS => ?_)
          obtain ⟨n19, n20⟩ := u
          try dsimp only at hw
          obtain ⟨bn19, bn20, xr18⟩ := hw
          try clear hw
          have hl58 := xr18.1
          have w_58 := xr18.2
          clear xr18
          obtain ⟨hP1, hK1, hD1⟩ := hB
          replace hP1 := va_P.he ht hP1
          obtain ⟨hP, hD⟩ := va_join (wr := []) (w1 := (wz_86 h0 aw ac n16 h0_function ty n20 bo bg bh bd h0_depth ty cty n19 bo cbo gbo bg cbg gbg bh cbh gbh bd cbd gbd)) hP hD [0, 1, 2, 3, 4, 5] [] rfl rfl (by decide) (by decide) hk1 hFc hP1 hD1
          clear hPc hDc hKc hFc hz1 hk1 hP1 hK1 hD1
          rename Heap => H
          have hP : va_P (dC, dI) cls (wz_86 h0 aw ac n16 h0_function ty n20 bo bg bh bd h0_depth ty cty n19 bo cbo gbo bg cbg gbg bh cbh gbh bd cbd gbd) H := hP
          have hD : va_D A (wz_86 h0 aw ac n16 h0_function ty n20 bo bg bh bd h0_depth ty cty n19 bo cbo gbo bg cbg gbg bh cbh gbh bd cbd gbd) := hD
          have hP9 := hP.sb (wq := (wz_86 h0 aw ac n16 h0_function ty n20 bo bg bh bd h0_depth ty cty n19 bo cbo gbo bg cbg gbg bh cbh gbh bd cbd gbd)) [0, 1, 2, 3, 4, 5] rfl
          have hD9 := hD.sb (wq := (wz_86 h0 aw ac n16 h0_function ty n20 bo bg bh bd h0_depth ty cty n19 bo cbo gbo bg cbg gbg bh cbh gbh bd cbd gbd)) [0, 1, 2, 3, 4, 5] (by decide) rfl
          exact W.vret hx hb hr (fun t ht hW => ⟨⟨(n19, n20, n16), rfl, ⟨bn19, bn20, bn16, ⟨by (try dsimp only) <;> (first | (apply Int.le_antisymm <;> omega) | omega), nu_2 (by (first | (apply Int.le_antisymm <;> omega) | omega)) (by (first | (apply Int.le_antisymm <;> omega) | omega)) (fun z => absurd ((vone_i (by (first | (apply Int.le_antisymm <;> omega) | omega))).mp z) (by (first | (apply Int.le_antisymm <;> omega) | omega))) (vin_t o32 (by (first | (apply Int.le_antisymm <;> omega) | omega))) (vin_t o47 (by (first | (apply Int.le_antisymm <;> omega) | omega))) (vout_t o55 (by (first | (apply Int.le_antisymm <;> omega) | omega))) (by (first | (apply Int.le_antisymm <;> omega) | omega)) q_35 q_50 w_58⟩⟩, va_P.he ht.symm hP9, va_K.moved hW.alike hK, hD9⟩, hS.F ht⟩) hS.2.2 d_VA_checkNumber_61
      · have q9 := eqI c9
        exact jn12 () _ _ _ ⟨by (try dsimp only) <;> (first | (apply Int.le_antisymm <;> omega) | omega), hP, hD, hS, lv_sub hl [0, 1] rfl⟩
abbrev at_VA_checkMemoryy (dC : Nat → ClassId) (dI : Nat → Nat → Nat) (h0 aw ac ty bo bg bh bd : Nat) (cty cbo cbg cbh cbd : ClassId) (h0_function : Int32) (h0_depth : Int32) (law : List Value) (aw_hasMemory : Int32) (gbo : Nat → Int32) (gbg : Nat → Int32) (gbh : Nat → Int32) (gbd : Nat → Int32) (A : Nat → Prop) (u : (Nat → Int32) × Int32 × Int32) (t : State) : Prop := match u with | (gty, h0_height, h0_sound) => va_P (dC, dI) cls [(h0, .inr (9, [.ref aw, .ref ac, .int h0_sound, .int h0_function, .ref ty, .int h0_height, .ref bo, .ref bg, .ref bh, .ref bd, .int h0_depth])), (aw, .inr (10, law)), (ty, .inl (cty, 5000, .inl gty)), (bo, .inl (cbo, 101, .inl gbo)), (bg, .inl (cbg, 101, .inl gbg)), (bh, .inl (cbh, 101, .inl gbh)), (bd, .inl (cbd, 101, .inl gbd))] t.heap ∧ va_K (dC, dI) cls [(cty, .int), (cbo, .int), (cbg, .int), (cbh, .int), (cbd, .boolean)] t ∧ va_D A [(h0, .inr (9, [.ref aw, .ref ac, .int h0_sound, .int h0_function, .ref ty, .int h0_height, .ref bo, .ref bg, .ref bh, .ref bd, .int h0_depth])), (aw, .inr (10, law)), (ty, .inl (cty, 5000, .inl gty)), (bo, .inl (cbo, 101, .inl gbo)), (bg, .inl (cbg, 101, .inl gbg)), (bh, .inl (cbh, 101, .inl gbh)), (bd, .inl (cbd, 101, .inl gbd))]
set_option maxHeartbeats 4000000 in
set_option maxRecDepth 100000 in
theorem c_VA_checkMemoryy (l : Launch) (dC : Nat → ClassId) (dI : Nat → Nat → Nat) (sz : Nat) (h0 aw ac ty bo bg bh bd : Nat) (cty cbo cbg cbh cbd : ClassId) (h0_sound : Int32) (h0_function : Int32) (h0_height : Int32) (h0_depth : Int32) (law : List Value) (aw_hasMemory : Int32) (gty : Nat → Int32) (gbo : Nat → Int32) (gbg : Nat → Int32) (gbh : Nat → Int32) (gbd : Nat → Int32) (S9 : List Nat) (B9 : List zBl) (paw_8 : law[8]? = some (.int aw_hasMemory)) (plaw : law.length = 21) (b_h0_sound : h0_sound = 0 ∨ h0_sound = 1) (b_h0_height : 0 ≤ h0_height.toInt ∧ h0_height.toInt ≤ 5000) (b_h0_depth : 0 ≤ h0_depth.toInt ∧ h0_depth.toInt ≤ 101) (b_gty : ∀ j : Nat, (gty j).toInt ≠ 64) (b_gbh : ∀ j : Nat, 0 ≤ (gbh j).toInt ∧ (gbh j).toInt ≤ 5000) (b_aw_hasMemory : aw_hasMemory = 0 ∨ aw_hasMemory = 1) (p0 : Int32) (p1 : Int32)  (hv : h0_sound.toInt = 1 → vA S9 B9 h0_height h0_depth gty gbo gbg gbh gbd) (h5 : h0_sound.toInt = 1 → h0_height.toInt < 5000) (ho : p0.toInt = 40 ∨ p0.toInt = 41 ∨ p0.toInt = 44 ∨ p0.toInt = 45 ∨ p0.toInt = 54 ∨ p0.toInt = 55 ∨ p0.toInt = 58 ∨ p0.toInt = 63 ∨ p0.toInt = 64) (hl : p0.toInt = 63 ∨ p0.toInt = 64 ∨ 0 ≤ p1.toInt) : Met l y_VA_checkMemory w_VA_checkMemory ({ frames := 2, cells := 0, slots := 0, locals := 42 }) (va_Pc [.ref h0, .int p0, .int p1] (fun U => U.heap.size = sz ∧ va_P (dC, dI) cls [(h0, .inr (9, [.ref aw, .ref ac, .int h0_sound, .int h0_function, .ref ty, .int h0_height, .ref bo, .ref bg, .ref bh, .ref bd, .int h0_depth])), (aw, .inr (10, law)), (ty, .inl (cty, 5000, .inl gty)), (bo, .inl (cbo, 101, .inl gbo)), (bg, .inl (cbg, 101, .inl gbg)), (bh, .inl (cbh, 101, .inl gbh)), (bd, .inl (cbd, 101, .inl gbd))] U.heap ∧ va_K (dC, dI) cls [(cty, .int), (cbo, .int), (cbg, .int), (cbh, .int), (cbd, .boolean)] U ∧ va_D (fun _ => True) [(h0, .inr (9, [.ref aw, .ref ac, .int h0_sound, .int h0_function, .ref ty, .int h0_height, .ref bo, .ref bg, .ref bh, .ref bd, .int h0_depth])), (aw, .inr (10, law)), (ty, .inl (cty, 5000, .inl gty)), (bo, .inl (cbo, 101, .inl gbo)), (bg, .inl (cbg, 101, .inl gbg)), (bh, .inl (cbh, 101, .inl gbh)), (bd, .inl (cbd, 101, .inl gbd))])) (va_Qv (fun (u : (Nat → Int32) × Int32 × Int32) => match u with | (gty2, h0_height2, h0_sound2) => (∀ j : Nat, (gty2 j).toInt ≠ 64) ∧ (0 ≤ h0_height2.toInt ∧ h0_height2.toInt ≤ 5000) ∧ (h0_sound2 = 0 ∨ h0_sound2 = 1) ∧ (h0_height2.toInt ≤ h0_height.toInt + 1 ∧ vsz (vmem aw_hasMemory.toInt.toNat p0.toInt.toNat p1.toInt.toNat S9 B9) h0_sound h0_sound2 h0_height2 h0_depth gty2 gbo gbg gbh gbd)) (at_VA_checkMemoryy dC dI h0 aw ac ty bo bg bh bd cty cbo cbg cbh cbd h0_function h0_depth law aw_hasMemory gbo gbg gbh gbd (va_A [(h0, .inr (9, [.ref aw, .ref ac, .int h0_sound, .int h0_function, .ref ty, .int h0_height, .ref bo, .ref bg, .ref bh, .ref bd, .int h0_depth])), (aw, .inr (10, law)), (ty, .inl (cty, 5000, .inl gty)), (bo, .inl (cbo, 101, .inl gbo)), (bg, .inl (cbg, 101, .inl gbg)), (bh, .inl (cbh, 101, .inl gbh)), (bd, .inl (cbd, 101, .inl gbd))] sz)) (va_A [(h0, .inr (9, [.ref aw, .ref ac, .int h0_sound, .int h0_function, .ref ty, .int h0_height, .ref bo, .ref bg, .ref bh, .ref bd, .int h0_depth])), (aw, .inr (10, law)), (ty, .inl (cty, 5000, .inl gty)), (bo, .inl (cbo, 101, .inl gbo)), (bg, .inl (cbg, 101, .inl gbg)), (bh, .inl (cbh, 101, .inl gbh)), (bd, .inl (cbd, 101, .inl gbd))] sz)) 0 0 (va_A [(h0, .inr (9, [.ref aw, .ref ac, .int h0_sound, .int h0_function, .ref ty, .int h0_height, .ref bo, .ref bg, .ref bh, .ref bd, .int h0_depth])), (aw, .inr (10, law)), (ty, .inl (cty, 5000, .inl gty)), (bo, .inl (cbo, 101, .inl gbo)), (bg, .inl (cbg, 101, .inl gbg)), (bh, .inl (cbh, 101, .inl gbh)), (bd, .inl (cbd, 101, .inl gbd))] sz) := by
  refine Met.ofW (cc := b_VA_checkMemory) (maxL := 4) (ret := none) (by decide) rfl ?_
  intro p e s m args below meth c s₁ B hml hv
  obtain ⟨rfl, hsz, hP, hK, hD0⟩ := hv
  have hx := B.exec
  have hb := B.bytes
  have hr := B.returns
  have hts0 := atoms_spec (ws := w_VA_checkMemory) B.pre
  have hts : ∀ w ∈ lw_g, w.before _ s = true := fun w h => hts0 w (List.mem_cons_of_mem _ h)
  have hown : s.vm.findClass R_VA = some m.cls := findClass_of_methodNamed B.named
  have hlocks := B.notSynchronized
  clear hts0
  subst hsz
  have hD := hD0.self (sz := s.heap.size)
  generalize hAe : va_A [(h0, .inr (9, [.ref aw, .ref ac, .int h0_sound, .int h0_function, .ref ty, .int h0_height, .ref bo, .ref bg, .ref bh, .ref bd, .int h0_depth])), (aw, .inr (10, law)), (ty, .inl (cty, 5000, .inl gty)), (bo, .inl (cbo, 101, .inl gbo)), (bg, .inl (cbg, 101, .inl gbg)), (bh, .inl (cbh, 101, .inl gbh)), (bd, .inl (cbd, 101, .inl gbd))] s.heap.size = A at hD ⊢
  have hA : ∀ q : Nat, s.heap.size ≤ q → A q := fun q h => by rw [← hAe]; exact Or.inr h
  clear hAe
  have hP : va_P (dC, dI) cls [(h0, .inr (9, [.ref aw, .ref ac, .int h0_sound, .int h0_function, .ref ty, .int h0_height, .ref bo, .ref bg, .ref bh, .ref bd, .int h0_depth])), (aw, .inr (10, law)), (ty, .inl (cty, 5000, .inl gty)), (bo, .inl (cbo, 101, .inl gbo)), (bg, .inl (cbg, 101, .inl gbg)), (bh, .inl (cbh, 101, .inl gbh)), (bd, .inl (cbd, 101, .inl gbd))] s.heap := hP
  have hl := lv_entry ([.ref h0, .int p0, .int p1]) (n := 4) (Nat.le_of_ble_eq_true rfl)
  rw [lg_entry_eq]
  generalize (lg_sl ([.ref h0, .int p0, .int p1]) ++ List.replicate (4 - (lg_sl ([.ref h0, .int p0, .int p1])).length) Slot.unset).toArray = ls at hl ⊢
  have hl : lv_has ls 4 [(0, .ref h0), (1, .int p0), (2, .int p1)] := hl
  have k0 : (0 : Int32).toInt = 0 := by decide
  refine w_gen (A := A) hP (fun H locs hP hS => ?_)
  have k1 : (1 : Int32).toInt = 1 := by decide
  have k41 : (41 : Int32).toInt = 41 := by decide
  have k55 : (55 : Int32).toInt = 55 := by decide
  have k63 : (63 : Int32).toInt = 63 := by decide
  have k126 : (126 : Int32).toInt = 126 := by decide
  have k127 : (127 : Int32).toInt = 127 := by decide
  have lo_p0 := i32_lo p0
  have hi_p0 := i32_hi p0
  have lo_p1 := i32_lo p1
  have hi_p1 := i32_hi p1
  have th0_sound := b01 b_h0_sound
  have taw_hasMemory := b01 b_aw_hasMemory
  have thm : aw_hasMemory.toInt = 0 ∨ aw_hasMemory.toInt = 1 := by (first | (apply Int.le_antisymm <;> omega) | omega)
  refine lv_aload_n hx hb d_VA_checkMemory_0 rfl (lv_at hl 0 rfl) ?_
  refine lv_aload_n hx hb d_VA_checkMemory_1 rfl (lv_at hl 0 rfl) ?_
  refine va_get (D := (dC, dI)) (ci := 9) (v := .int h0_sound) (C := R_VA) (T := F_VA) (N := 11) hx hb hts i_VA hown hK hP 0 rfl rfl 2 (by decide) (hts _ kF_VA_39) (fun _ h9 => h9) rfl d_VA_checkMemory_2 ?_
  refine w_cut (pc2 := 38) (σ := Int32) (fun u H locs ls => match u with | j38_s0 => (j38_s0 = 0 ∨ j38_s0 = 1) ∧ ((j38_s0.toInt = 1 ∧ h0_sound.toInt = 1 ∧ aw_hasMemory.toInt = 1 ∧ (p0.toInt = 63 ∨ p0.toInt = 64 ∨ p1.toInt ≤ (val_ p0.toInt.toNat : Int))) ∨ (j38_s0.toInt = 0 ∧ ¬ (h0_sound.toInt = 1 ∧ aw_hasMemory.toInt = 1 ∧ (p0.toInt = 63 ∨ p0.toInt = 64 ∨ p1.toInt ≤ (val_ p0.toInt.toNat : Int))))) ∧ va_P (dC, dI) cls [(h0, .inr (9, [.ref aw, .ref ac, .int h0_sound, .int h0_function, .ref ty, .int h0_height, .ref bo, .ref bg, .ref bh, .ref bd, .int h0_depth])), (aw, .inr (10, law)), (ty, .inl (cty, 5000, .inl gty)), (bo, .inl (cbo, 101, .inl gbo)), (bg, .inl (cbg, 101, .inl gbg)), (bh, .inl (cbh, 101, .inl gbh)), (bd, .inl (cbd, 101, .inl gbd))] H ∧ va_D A [(h0, .inr (9, [.ref aw, .ref ac, .int h0_sound, .int h0_function, .ref ty, .int h0_height, .ref bo, .ref bg, .ref bh, .ref bd, .int h0_depth])), (aw, .inr (10, law)), (ty, .inl (cty, 5000, .inl gty)), (bo, .inl (cbo, 101, .inl gbo)), (bg, .inl (cbg, 101, .inl gbg)), (bh, .inl (cbh, 101, .inl gbh)), (bd, .inl (cbd, 101, .inl gbd))] ∧ va_S A s.heap H locs ∧ lv_has ls 4 [(0, .ref h0), (1, .int p0)]) (fun u => match u with | j38_s0 => [.int j38_s0, .ref h0]) ?_ (fun jn38 => ?_)
  · intro u H locs ls hI
    obtain ⟨j38_s0, rfl⟩ : ∃ z, z = u := ⟨_, rfl⟩
    obtain ⟨b_j38_s0, y38, hP, hD, hS, hl⟩ := hI
    have tj38_s0 := b01 b_j38_s0
    refine va_put (D := (dC, dI)) (ci := 9) (v := .int j38_s0) (ty := .boolean) (C := R_VA) (T := F_VA) (N := 11) hx hb hts i_VA t_VA t_VA_ok n_VA hown hK hP hD hS 0 rfl rfl 2 (by decide) (hts _ kF_VA_39) (fun _ h9 => h9) rfl (by decide +kernel) (zn01 (b_j38_s0)) (fz01 (b_j38_s0)) (Nat.le_of_ble_eq_true rfl) d_VA_checkMemory_38 (fun H locs hP hD hS => ?_)
    refine lv_iload_n hx hb d_VA_checkMemory_41 rfl (lv_at hl 1 rfl) ?_
    refine lv_bipush (v := 41) hx hb d_VA_checkMemory_42 (by decide) ?_
    refine w_cut (pc2 := 60) (σ := Int32) (fun u H locs ls => match u with | j60_s0 => (126 ≤ j60_s0.toInt ∧ j60_s0.toInt ≤ 127) ∧ ((j60_s0.toInt = 126 ∧ (p0.toInt = 41 ∨ p0.toInt = 55)) ∨ (j60_s0.toInt = 127 ∧ ¬ (p0.toInt = 41 ∨ p0.toInt = 55))) ∧ va_P (dC, dI) cls [(h0, .inr (9, [.ref aw, .ref ac, .int j38_s0, .int h0_function, .ref ty, .int h0_height, .ref bo, .ref bg, .ref bh, .ref bd, .int h0_depth])), (aw, .inr (10, law)), (ty, .inl (cty, 5000, .inl gty)), (bo, .inl (cbo, 101, .inl gbo)), (bg, .inl (cbg, 101, .inl gbg)), (bh, .inl (cbh, 101, .inl gbh)), (bd, .inl (cbd, 101, .inl gbd))] H ∧ va_D A [(h0, .inr (9, [.ref aw, .ref ac, .int j38_s0, .int h0_function, .ref ty, .int h0_height, .ref bo, .ref bg, .ref bh, .ref bd, .int h0_depth])), (aw, .inr (10, law)), (ty, .inl (cty, 5000, .inl gty)), (bo, .inl (cbo, 101, .inl gbo)), (bg, .inl (cbg, 101, .inl gbg)), (bh, .inl (cbh, 101, .inl gbh)), (bd, .inl (cbd, 101, .inl gbd))] ∧ va_S A s.heap H locs ∧ lv_has ls 4 [(0, .ref h0), (1, .int p0)]) (fun u => match u with | j60_s0 => [.int j60_s0]) ?_ (fun jn60 => ?_)
    · intro u H locs ls hI
      obtain ⟨j60_s0, rfl⟩ : ∃ z, z = u := ⟨_, rfl⟩
      obtain ⟨b_j60_s0, y60, hP, hD, hS, hl⟩ := hI
      refine lv_istore_n (lv' := [(3, .int j60_s0), (0, .ref h0), (1, .int p0)]) hx hb d_VA_checkMemory_60 rfl hl (by decide) rfl (fun ls hl => ?_)
      refine lv_iload_n hx hb d_VA_checkMemory_61 rfl (lv_at hl 2 rfl) ?_
      have hPc := hP.sb (wq := []) [] rfl
      have hDc := hD.sb (wq := []) [] (by decide) rfl
      have hKc := hK.sb (tyq := []) [] rfl
      have hFc := va_free (wc := []) hD hS hA [] rfl
      refine va_calli (va_runS (As := [.int p0]) (rest := []) ⟨hx, hb, hml, hown, hts⟩ (c_CD_isStore l dC dI H.size p0) ⟨callB_of 1 hts (gW kC_CD_isStore) rfl rfl rfl (hts _ kI_CD) (hts _ kM_VA_206) (by decide +kernel) ⟨Nat.le_of_ble_eq_true rfl, Nat.le_of_ble_eq_true rfl⟩, hts _ kT_CD_isStore⟩ ⟨fun a U g mk z => by obtain ⟨z0, z1, zP, zK, zD⟩ := z; exact ⟨z0, z1, zP, va_K.moved (u := U) (U := U.calling g mk a) (Vm.Alike.refl U.vm) zK, zD⟩, fun U hU hW => ⟨rfl, by rw [hU], va_P.he hU.symm hPc, va_K.moved hW.alike hKc, hDc.weaken (fun _ _ _ _ => trivial)⟩⟩ rfl rfl hl.1 rfl (lv_room (Nat.le_of_ble_eq_true rfl)) d_VA_checkMemory_62 ⟨(Nat.zero_le _), (Nat.zero_le _)⟩) hS (fun q _ h => hFc q h) hFc (fun r1 u t H1 locs ht hvm hw hB hz1 hk1 hS => ?_)
      try dsimp only at hw
      have tr1 := hw
      obtain ⟨hP1, hK1, hD1⟩ := hB
      replace hP1 := va_P.he ht hP1
      obtain ⟨hP, hD⟩ := va_join (wr := [(h0, .inr (9, [.ref aw, .ref ac, .int j38_s0, .int h0_function, .ref ty, .int h0_height, .ref bo, .ref bg, .ref bh, .ref bd, .int h0_depth])), (aw, .inr (10, law)), (ty, .inl (cty, 5000, .inl gty)), (bo, .inl (cbo, 101, .inl gbo)), (bg, .inl (cbg, 101, .inl gbg)), (bh, .inl (cbh, 101, .inl gbh)), (bd, .inl (cbd, 101, .inl gbd))]) (w1 := []) hP hD [] [0, 1, 2, 3, 4, 5, 6] rfl rfl (by decide) (by decide) hk1 hFc hP1 hD1
      clear hPc hDc hKc hFc hz1 hk1 hP1 hK1 hD1
      rename Heap => H
      have hP : va_P (dC, dI) cls [(h0, .inr (9, [.ref aw, .ref ac, .int j38_s0, .int h0_function, .ref ty, .int h0_height, .ref bo, .ref bg, .ref bh, .ref bd, .int h0_depth])), (aw, .inr (10, law)), (ty, .inl (cty, 5000, .inl gty)), (bo, .inl (cbo, 101, .inl gbo)), (bg, .inl (cbg, 101, .inl gbg)), (bh, .inl (cbh, 101, .inl gbh)), (bd, .inl (cbd, 101, .inl gbd))] H := hP
      have hD : va_D A [(h0, .inr (9, [.ref aw, .ref ac, .int j38_s0, .int h0_function, .ref ty, .int h0_height, .ref bo, .ref bg, .ref bh, .ref bd, .int h0_depth])), (aw, .inr (10, law)), (ty, .inl (cty, 5000, .inl gty)), (bo, .inl (cbo, 101, .inl gbo)), (bg, .inl (cbg, 101, .inl gbg)), (bh, .inl (cbh, 101, .inl gbh)), (bd, .inl (cbd, 101, .inl gbd))] := hD
      refine lv_if_eq (tgt := 80) hx hb d_VA_checkMemory_65 (by decide) (fun c65 => ?_) (fun c65 => ?_)
      · have q65 := eqI c65
        refine lv_iload_n hx hb d_VA_checkMemory_80 rfl (lv_at hl 2 rfl) ?_
        refine lv_bipush (v := 63) hx hb d_VA_checkMemory_81 (by decide) ?_
        refine lv_icmp_eq (tgt := 92) hx hb d_VA_checkMemory_83 (by decide) (fun c83 => ?_) (fun c83 => ?_)
        · have q83 := eqI c83
          refine lv_aload_n hx hb d_VA_checkMemory_92 rfl (lv_at hl 1 rfl) ?_
          refine lv_iload_n hx hb d_VA_checkMemory_93 rfl (lv_at hl 0 rfl) ?_
          have hPc := hP.sb (wq := (wz_86 h0 aw ac j38_s0 h0_function ty h0_height bo bg bh bd h0_depth ty cty gty bo cbo gbo bg cbg gbg bh cbh gbh bd cbd gbd)) [0, 2, 3, 4, 5, 6] rfl
          have hDc := hD.sb (wq := (wz_86 h0 aw ac j38_s0 h0_function ty h0_height bo bg bh bd h0_depth ty cty gty bo cbo gbo bg cbg gbg bh cbh gbh bd cbd gbd)) [0, 2, 3, 4, 5, 6] (by decide) rfl
          have hKc := hK.sb (tyq := [(cty, .int), (cbo, .int), (cbg, .int), (cbh, .int), (cbd, .boolean)]) [0, 1, 2, 3, 4] rfl
          have hFc := va_free (wc := (wz_86 h0 aw ac j38_s0 h0_function ty h0_height bo bg bh bd h0_depth ty cty gty bo cbo gbo bg cbg gbg bh cbh gbh bd cbd gbd)) hD hS hA [0, 2, 3, 4, 5, 6] rfl
          refine va_callv (va_runV (As := [.int j60_s0]) (rest := []) ⟨hx, hb, hml, hown, hts⟩ (c_VA_pushy l dC dI H.size h0 aw ac ty bo bg bh bd cty cbo cbg cbh cbd j38_s0 h0_function h0_height h0_depth gty gbo gbg gbh gbd S9 B9 (b_j38_s0) (b_h0_height) (b_h0_depth) (b_gty) (b_gbh) j60_s0 ((fun z => hv (by (first | (apply Int.le_antisymm <;> omega) | omega)))) ((fun _ => by (first | (apply Int.le_antisymm <;> omega) | omega))) ((fun z => by have := h5 (by (first | (apply Int.le_antisymm <;> omega) | omega)); (first | (apply Int.le_antisymm <;> omega) | omega)))) (cwV 1 hts (gV kM_VA_167 kV_VA_push kS_VA_push kI_VA kC_VA_push) rfl rfl rfl (by decide +kernel) ⟨Nat.le_of_ble_eq_true rfl, Nat.le_of_ble_eq_true rfl⟩) ⟨fun a U g mk z => by obtain ⟨z0, z1, zP, zK, zD⟩ := z; exact ⟨z0, z1, zP, va_K.moved (u := U) (U := U.calling g mk a) (Vm.Alike.refl U.vm) zK, zD⟩, va_recv hKc hPc (ci := 9) (q0 := 0) rfl rfl, fun U hU hW => ⟨rfl, by rw [hU], va_P.he hU.symm hPc, va_K.moved hW.alike hKc, hDc.weaken (fun _ _ _ _ => trivial)⟩⟩ rfl rfl hl.1 rfl (lv_room (Nat.le_of_ble_eq_true rfl)) d_VA_checkMemory_94 ⟨(Nat.zero_le _), (Nat.zero_le _)⟩) hS (fun q _ h => hFc q h) hFc (fun u t H1 locs ht hvm hw hB hz1 hk1 hS => ?_)
          obtain ⟨n3, n4⟩ := u
          try dsimp only at hw
          obtain ⟨bn3, bn4, xr2⟩ := hw
          try clear hw
          have hl94 := xr2.1
          have w_94 := xr2.2
          clear xr2
          obtain ⟨hP1, hK1, hD1⟩ := hB
          replace hP1 := va_P.he ht hP1
          obtain ⟨hP, hD⟩ := va_join (wr := [(aw, .inr (10, law))]) (w1 := (wz_86 h0 aw ac j38_s0 h0_function ty n4 bo bg bh bd h0_depth ty cty n3 bo cbo gbo bg cbg gbg bh cbh gbh bd cbd gbd)) hP hD [0, 2, 3, 4, 5, 6] [1] rfl rfl (by decide) (by decide) hk1 hFc hP1 hD1
          clear hPc hDc hKc hFc hz1 hk1 hP1 hK1 hD1
          rename Heap => H
          have hP : va_P (dC, dI) cls [(aw, .inr (10, law)), (h0, .inr (9, [.ref aw, .ref ac, .int j38_s0, .int h0_function, .ref ty, .int n4, .ref bo, .ref bg, .ref bh, .ref bd, .int h0_depth])), (ty, .inl (cty, 5000, .inl n3)), (bo, .inl (cbo, 101, .inl gbo)), (bg, .inl (cbg, 101, .inl gbg)), (bh, .inl (cbh, 101, .inl gbh)), (bd, .inl (cbd, 101, .inl gbd))] H := hP
          have hD : va_D A [(aw, .inr (10, law)), (h0, .inr (9, [.ref aw, .ref ac, .int j38_s0, .int h0_function, .ref ty, .int n4, .ref bo, .ref bg, .ref bh, .ref bd, .int h0_depth])), (ty, .inl (cty, 5000, .inl n3)), (bo, .inl (cbo, 101, .inl gbo)), (bg, .inl (cbg, 101, .inl gbg)), (bh, .inl (cbh, 101, .inl gbh)), (bd, .inl (cbd, 101, .inl gbd))] := hD
          have hP9 := hP.sb (wq := [(h0, .inr (9, [.ref aw, .ref ac, .int j38_s0, .int h0_function, .ref ty, .int n4, .ref bo, .ref bg, .ref bh, .ref bd, .int h0_depth])), (aw, .inr (10, law)), (ty, .inl (cty, 5000, .inl n3)), (bo, .inl (cbo, 101, .inl gbo)), (bg, .inl (cbg, 101, .inl gbg)), (bh, .inl (cbh, 101, .inl gbh)), (bd, .inl (cbd, 101, .inl gbd))]) [1, 0, 2, 3, 4, 5, 6] rfl
          have hD9 := hD.sb (wq := [(h0, .inr (9, [.ref aw, .ref ac, .int j38_s0, .int h0_function, .ref ty, .int n4, .ref bo, .ref bg, .ref bh, .ref bd, .int h0_depth])), (aw, .inr (10, law)), (ty, .inl (cty, 5000, .inl n3)), (bo, .inl (cbo, 101, .inl gbo)), (bg, .inl (cbg, 101, .inl gbg)), (bh, .inl (cbh, 101, .inl gbh)), (bd, .inl (cbd, 101, .inl gbd))]) [1, 0, 2, 3, 4, 5, 6] (by decide) rfl
          exact W.vret hx hb hr (fun t ht hW => ⟨⟨(n3, n4, j38_s0), rfl, ⟨bn3, bn4, b_j38_s0, ⟨by (try dsimp only) <;> (first | (apply Int.le_antisymm <;> omega) | omega), mm_z (by unfold vmc; exact y38) thm (by (first | (apply Int.le_antisymm <;> omega) | omega)) (by (first | (apply Int.le_antisymm <;> omega) | omega)) (by (first | (apply Int.le_antisymm <;> omega) | omega)) w_94⟩⟩, va_P.he ht.symm hP9, va_K.moved hW.alike hK, hD9⟩, hS.F ht⟩) hS.2.2 d_VA_checkMemory_97
        · have q83 := neI c83
          refine lv_aload_n hx hb d_VA_checkMemory_86 rfl (lv_at hl 1 rfl) ?_
          refine lv_bipush (v := 127) hx hb d_VA_checkMemory_87 (by decide) ?_
          have hPc := hP.sb (wq := (wz_86 h0 aw ac j38_s0 h0_function ty h0_height bo bg bh bd h0_depth ty cty gty bo cbo gbo bg cbg gbg bh cbh gbh bd cbd gbd)) [0, 2, 3, 4, 5, 6] rfl
          have hDc := hD.sb (wq := (wz_86 h0 aw ac j38_s0 h0_function ty h0_height bo bg bh bd h0_depth ty cty gty bo cbo gbo bg cbg gbg bh cbh gbh bd cbd gbd)) [0, 2, 3, 4, 5, 6] (by decide) rfl
          have hKc := hK.sb (tyq := [(cty, .int), (cbo, .int), (cbg, .int), (cbh, .int), (cbd, .boolean)]) [0, 1, 2, 3, 4] rfl
          have hFc := va_free (wc := (wz_86 h0 aw ac j38_s0 h0_function ty h0_height bo bg bh bd h0_depth ty cty gty bo cbo gbo bg cbg gbg bh cbh gbh bd cbd gbd)) hD hS hA [0, 2, 3, 4, 5, 6] rfl
          refine va_callv (va_runV (As := [.int 127]) (rest := []) ⟨hx, hb, hml, hown, hts⟩ (c_VA_popy l dC dI H.size h0 aw ac ty bo bg bh bd cty cbo cbg cbh cbd j38_s0 h0_function h0_height h0_depth gty gbo gbg gbh gbd S9 B9 (b_j38_s0) (b_h0_height) (b_h0_depth) (b_gty) (b_gbh) 127 ((fun z => hv (by (first | (apply Int.le_antisymm <;> omega) | omega)))) ((fun _ => by (first | (apply Int.le_antisymm <;> omega) | omega)))) (cwV 1 hts (gV kM_VA_161 kV_VA_pop kS_VA_pop kI_VA kC_VA_pop) rfl rfl rfl (by decide +kernel) ⟨Nat.le_of_ble_eq_true rfl, Nat.le_of_ble_eq_true rfl⟩) ⟨fun a U g mk z => by obtain ⟨z0, z1, zP, zK, zD⟩ := z; exact ⟨z0, z1, zP, va_K.moved (u := U) (U := U.calling g mk a) (Vm.Alike.refl U.vm) zK, zD⟩, va_recv hKc hPc (ci := 9) (q0 := 0) rfl rfl, fun U hU hW => ⟨rfl, by rw [hU], va_P.he hU.symm hPc, va_K.moved hW.alike hKc, hDc.weaken (fun _ _ _ _ => trivial)⟩⟩ rfl rfl hl.1 rfl (lv_room (Nat.le_of_ble_eq_true rfl)) d_VA_checkMemory_89 ⟨(Nat.zero_le _), (Nat.zero_le _)⟩) hS (fun q _ h => hFc q h) hFc (fun u t H1 locs ht hvm hw hB hz1 hk1 hS => ?_)
          obtain ⟨n6, n7⟩ := u
          try dsimp only at hw
          obtain ⟨bn6, bn7, xr5⟩ := hw
          try clear hw
          have tn7 := b01 bn7
          rw [show (127 : Int32).toInt.toNat = 127 from by decide] at xr5
          have hl89 := xr5.1
          obtain ⟨S_89, q_89, w_89⟩ := vwz_1 xr5.2
          have ql89 : n7.toInt = 1 → j38_s0.toInt = 1 := by rcases q_89 with z2 | z2; (exact fun _ => z2.2.1); (exact fun z => absurd z2.1 (by (first | (apply Int.le_antisymm <;> omega) | omega)))
          clear xr5
          obtain ⟨hP1, hK1, hD1⟩ := hB
          replace hP1 := va_P.he ht hP1
          obtain ⟨hP, hD⟩ := va_join (wr := [(aw, .inr (10, law))]) (w1 := (wz_86 h0 aw ac n7 h0_function ty n6 bo bg bh bd h0_depth ty cty gty bo cbo gbo bg cbg gbg bh cbh gbh bd cbd gbd)) hP hD [0, 2, 3, 4, 5, 6] [1] rfl rfl (by decide) (by decide) hk1 hFc hP1 hD1
          clear hPc hDc hKc hFc hz1 hk1 hP1 hK1 hD1
          rename Heap => H
          have hP : va_P (dC, dI) cls [(aw, .inr (10, law)), (h0, .inr (9, [.ref aw, .ref ac, .int n7, .int h0_function, .ref ty, .int n6, .ref bo, .ref bg, .ref bh, .ref bd, .int h0_depth])), (ty, .inl (cty, 5000, .inl gty)), (bo, .inl (cbo, 101, .inl gbo)), (bg, .inl (cbg, 101, .inl gbg)), (bh, .inl (cbh, 101, .inl gbh)), (bd, .inl (cbd, 101, .inl gbd))] H := hP
          have hD : va_D A [(aw, .inr (10, law)), (h0, .inr (9, [.ref aw, .ref ac, .int n7, .int h0_function, .ref ty, .int n6, .ref bo, .ref bg, .ref bh, .ref bd, .int h0_depth])), (ty, .inl (cty, 5000, .inl gty)), (bo, .inl (cbo, 101, .inl gbo)), (bg, .inl (cbg, 101, .inl gbg)), (bh, .inl (cbh, 101, .inl gbh)), (bd, .inl (cbd, 101, .inl gbd))] := hD
          refine lv_aload_n hx hb d_VA_checkMemory_92 rfl (lv_at hl 1 rfl) ?_
          refine lv_iload_n hx hb d_VA_checkMemory_93 rfl (lv_at hl 0 rfl) ?_
          have hPc := hP.sb (wq := (wz_86 h0 aw ac n7 h0_function ty n6 bo bg bh bd h0_depth ty cty gty bo cbo gbo bg cbg gbg bh cbh gbh bd cbd gbd)) [1, 2, 3, 4, 5, 6] rfl
          have hDc := hD.sb (wq := (wz_86 h0 aw ac n7 h0_function ty n6 bo bg bh bd h0_depth ty cty gty bo cbo gbo bg cbg gbg bh cbh gbh bd cbd gbd)) [1, 2, 3, 4, 5, 6] (by decide) rfl
          have hKc := hK.sb (tyq := [(cty, .int), (cbo, .int), (cbg, .int), (cbh, .int), (cbd, .boolean)]) [0, 1, 2, 3, 4] rfl
          have hFc := va_free (wc := (wz_86 h0 aw ac n7 h0_function ty n6 bo bg bh bd h0_depth ty cty gty bo cbo gbo bg cbg gbg bh cbh gbh bd cbd gbd)) hD hS hA [1, 2, 3, 4, 5, 6] rfl
          refine va_callv (va_runV (As := [.int j60_s0]) (rest := []) ⟨hx, hb, hml, hown, hts⟩ (c_VA_pushy l dC dI H.size h0 aw ac ty bo bg bh bd cty cbo cbg cbh cbd n7 h0_function n6 h0_depth gty gbo gbg gbh gbd S_89 B9 (bn7) (bn6) (b_h0_depth) (b_gty) (b_gbh) j60_s0 (w_89) ((fun _ => by (first | (apply Int.le_antisymm <;> omega) | omega))) ((fun z => by have := h5 (by (first | (apply Int.le_antisymm <;> omega) | omega)); (first | (apply Int.le_antisymm <;> omega) | omega)))) (cwV 1 hts (gV kM_VA_167 kV_VA_push kS_VA_push kI_VA kC_VA_push) rfl rfl rfl (by decide +kernel) ⟨Nat.le_of_ble_eq_true rfl, Nat.le_of_ble_eq_true rfl⟩) ⟨fun a U g mk z => by obtain ⟨z0, z1, zP, zK, zD⟩ := z; exact ⟨z0, z1, zP, va_K.moved (u := U) (U := U.calling g mk a) (Vm.Alike.refl U.vm) zK, zD⟩, va_recv hKc hPc (ci := 9) (q0 := 0) rfl rfl, fun U hU hW => ⟨rfl, by rw [hU], va_P.he hU.symm hPc, va_K.moved hW.alike hKc, hDc.weaken (fun _ _ _ _ => trivial)⟩⟩ rfl rfl hl.1 rfl (lv_room (Nat.le_of_ble_eq_true rfl)) d_VA_checkMemory_94 ⟨(Nat.zero_le _), (Nat.zero_le _)⟩) hS (fun q _ h => hFc q h) hFc (fun u t H1 locs ht hvm hw hB hz1 hk1 hS => ?_)
          obtain ⟨n9, n10⟩ := u
          try dsimp only at hw
          obtain ⟨bn9, bn10, xr8⟩ := hw
          try clear hw
          have hl94 := xr8.1
          have w_94 := xr8.2
          clear xr8
          obtain ⟨hP1, hK1, hD1⟩ := hB
          replace hP1 := va_P.he ht hP1
          obtain ⟨hP, hD⟩ := va_join (wr := [(aw, .inr (10, law))]) (w1 := (wz_86 h0 aw ac n7 h0_function ty n10 bo bg bh bd h0_depth ty cty n9 bo cbo gbo bg cbg gbg bh cbh gbh bd cbd gbd)) hP hD [1, 2, 3, 4, 5, 6] [0] rfl rfl (by decide) (by decide) hk1 hFc hP1 hD1
          clear hPc hDc hKc hFc hz1 hk1 hP1 hK1 hD1
          rename Heap => H
          have hP : va_P (dC, dI) cls [(aw, .inr (10, law)), (h0, .inr (9, [.ref aw, .ref ac, .int n7, .int h0_function, .ref ty, .int n10, .ref bo, .ref bg, .ref bh, .ref bd, .int h0_depth])), (ty, .inl (cty, 5000, .inl n9)), (bo, .inl (cbo, 101, .inl gbo)), (bg, .inl (cbg, 101, .inl gbg)), (bh, .inl (cbh, 101, .inl gbh)), (bd, .inl (cbd, 101, .inl gbd))] H := hP
          have hD : va_D A [(aw, .inr (10, law)), (h0, .inr (9, [.ref aw, .ref ac, .int n7, .int h0_function, .ref ty, .int n10, .ref bo, .ref bg, .ref bh, .ref bd, .int h0_depth])), (ty, .inl (cty, 5000, .inl n9)), (bo, .inl (cbo, 101, .inl gbo)), (bg, .inl (cbg, 101, .inl gbg)), (bh, .inl (cbh, 101, .inl gbh)), (bd, .inl (cbd, 101, .inl gbd))] := hD
          have hP9 := hP.sb (wq := [(h0, .inr (9, [.ref aw, .ref ac, .int n7, .int h0_function, .ref ty, .int n10, .ref bo, .ref bg, .ref bh, .ref bd, .int h0_depth])), (aw, .inr (10, law)), (ty, .inl (cty, 5000, .inl n9)), (bo, .inl (cbo, 101, .inl gbo)), (bg, .inl (cbg, 101, .inl gbg)), (bh, .inl (cbh, 101, .inl gbh)), (bd, .inl (cbd, 101, .inl gbd))]) [1, 0, 2, 3, 4, 5, 6] rfl
          have hD9 := hD.sb (wq := [(h0, .inr (9, [.ref aw, .ref ac, .int n7, .int h0_function, .ref ty, .int n10, .ref bo, .ref bg, .ref bh, .ref bd, .int h0_depth])), (aw, .inr (10, law)), (ty, .inl (cty, 5000, .inl n9)), (bo, .inl (cbo, 101, .inl gbo)), (bg, .inl (cbg, 101, .inl gbg)), (bh, .inl (cbh, 101, .inl gbh)), (bd, .inl (cbd, 101, .inl gbd))]) [1, 0, 2, 3, 4, 5, 6] (by decide) rfl
          exact W.vret hx hb hr (fun t ht hW => ⟨⟨(n9, n10, n7), rfl, ⟨bn9, bn10, bn7, ⟨by (try dsimp only) <;> (first | (apply Int.le_antisymm <;> omega) | omega), mm_l (by unfold vmc; exact y38) thm (by (first | (apply Int.le_antisymm <;> omega) | omega)) (by (first | (apply Int.le_antisymm <;> omega) | omega)) (by (first | (apply Int.le_antisymm <;> omega) | omega)) q_89 w_94⟩⟩, va_P.he ht.symm hP9, va_K.moved hW.alike hK, hD9⟩, hS.F ht⟩) hS.2.2 d_VA_checkMemory_97
      · have q65 := neI c65
        refine lv_aload_n hx hb d_VA_checkMemory_68 rfl (lv_at hl 1 rfl) ?_
        refine lv_iload_n hx hb d_VA_checkMemory_69 rfl (lv_at hl 0 rfl) ?_
        have hPc := hP.sb (wq := (wz_86 h0 aw ac j38_s0 h0_function ty h0_height bo bg bh bd h0_depth ty cty gty bo cbo gbo bg cbg gbg bh cbh gbh bd cbd gbd)) [0, 2, 3, 4, 5, 6] rfl
        have hDc := hD.sb (wq := (wz_86 h0 aw ac j38_s0 h0_function ty h0_height bo bg bh bd h0_depth ty cty gty bo cbo gbo bg cbg gbg bh cbh gbh bd cbd gbd)) [0, 2, 3, 4, 5, 6] (by decide) rfl
        have hKc := hK.sb (tyq := [(cty, .int), (cbo, .int), (cbg, .int), (cbh, .int), (cbd, .boolean)]) [0, 1, 2, 3, 4] rfl
        have hFc := va_free (wc := (wz_86 h0 aw ac j38_s0 h0_function ty h0_height bo bg bh bd h0_depth ty cty gty bo cbo gbo bg cbg gbg bh cbh gbh bd cbd gbd)) hD hS hA [0, 2, 3, 4, 5, 6] rfl
        refine va_callv (va_runV (As := [.int j60_s0]) (rest := []) ⟨hx, hb, hml, hown, hts⟩ (c_VA_popy l dC dI H.size h0 aw ac ty bo bg bh bd cty cbo cbg cbh cbd j38_s0 h0_function h0_height h0_depth gty gbo gbg gbh gbd S9 B9 (b_j38_s0) (b_h0_height) (b_h0_depth) (b_gty) (b_gbh) j60_s0 ((fun z => hv (by (first | (apply Int.le_antisymm <;> omega) | omega)))) ((fun _ => by (first | (apply Int.le_antisymm <;> omega) | omega)))) (cwV 1 hts (gV kM_VA_161 kV_VA_pop kS_VA_pop kI_VA kC_VA_pop) rfl rfl rfl (by decide +kernel) ⟨Nat.le_of_ble_eq_true rfl, Nat.le_of_ble_eq_true rfl⟩) ⟨fun a U g mk z => by obtain ⟨z0, z1, zP, zK, zD⟩ := z; exact ⟨z0, z1, zP, va_K.moved (u := U) (U := U.calling g mk a) (Vm.Alike.refl U.vm) zK, zD⟩, va_recv hKc hPc (ci := 9) (q0 := 0) rfl rfl, fun U hU hW => ⟨rfl, by rw [hU], va_P.he hU.symm hPc, va_K.moved hW.alike hKc, hDc.weaken (fun _ _ _ _ => trivial)⟩⟩ rfl rfl hl.1 rfl (lv_room (Nat.le_of_ble_eq_true rfl)) d_VA_checkMemory_70 ⟨(Nat.zero_le _), (Nat.zero_le _)⟩) hS (fun q _ h => hFc q h) hFc (fun u t H1 locs ht hvm hw hB hz1 hk1 hS => ?_)
        obtain ⟨n12, n13⟩ := u
        try dsimp only at hw
        obtain ⟨bn12, bn13, xr11⟩ := hw
        try clear hw
        have tn13 := b01 bn13
        have hl70 := xr11.1
        obtain ⟨S_70, q_70, w_70⟩ := vwz_1 xr11.2
        have ql70 : n13.toInt = 1 → j38_s0.toInt = 1 := by rcases q_70 with z2 | z2; (exact fun _ => z2.2.1); (exact fun z => absurd z2.1 (by (first | (apply Int.le_antisymm <;> omega) | omega)))
        clear xr11
        obtain ⟨hP1, hK1, hD1⟩ := hB
        replace hP1 := va_P.he ht hP1
        obtain ⟨hP, hD⟩ := va_join (wr := [(aw, .inr (10, law))]) (w1 := (wz_86 h0 aw ac n13 h0_function ty n12 bo bg bh bd h0_depth ty cty gty bo cbo gbo bg cbg gbg bh cbh gbh bd cbd gbd)) hP hD [0, 2, 3, 4, 5, 6] [1] rfl rfl (by decide) (by decide) hk1 hFc hP1 hD1
        clear hPc hDc hKc hFc hz1 hk1 hP1 hK1 hD1
        rename Heap => H
        have hP : va_P (dC, dI) cls [(aw, .inr (10, law)), (h0, .inr (9, [.ref aw, .ref ac, .int n13, .int h0_function, .ref ty, .int n12, .ref bo, .ref bg, .ref bh, .ref bd, .int h0_depth])), (ty, .inl (cty, 5000, .inl gty)), (bo, .inl (cbo, 101, .inl gbo)), (bg, .inl (cbg, 101, .inl gbg)), (bh, .inl (cbh, 101, .inl gbh)), (bd, .inl (cbd, 101, .inl gbd))] H := hP
        have hD : va_D A [(aw, .inr (10, law)), (h0, .inr (9, [.ref aw, .ref ac, .int n13, .int h0_function, .ref ty, .int n12, .ref bo, .ref bg, .ref bh, .ref bd, .int h0_depth])), (ty, .inl (cty, 5000, .inl gty)), (bo, .inl (cbo, 101, .inl gbo)), (bg, .inl (cbg, 101, .inl gbg)), (bh, .inl (cbh, 101, .inl gbh)), (bd, .inl (cbd, 101, .inl gbd))] := hD
        refine lv_aload_n hx hb d_VA_checkMemory_73 rfl (lv_at hl 1 rfl) ?_
        refine lv_bipush (v := 127) hx hb d_VA_checkMemory_74 (by decide) ?_
        have hPc := hP.sb (wq := (wz_86 h0 aw ac n13 h0_function ty n12 bo bg bh bd h0_depth ty cty gty bo cbo gbo bg cbg gbg bh cbh gbh bd cbd gbd)) [1, 2, 3, 4, 5, 6] rfl
        have hDc := hD.sb (wq := (wz_86 h0 aw ac n13 h0_function ty n12 bo bg bh bd h0_depth ty cty gty bo cbo gbo bg cbg gbg bh cbh gbh bd cbd gbd)) [1, 2, 3, 4, 5, 6] (by decide) rfl
        have hKc := hK.sb (tyq := [(cty, .int), (cbo, .int), (cbg, .int), (cbh, .int), (cbd, .boolean)]) [0, 1, 2, 3, 4] rfl
        have hFc := va_free (wc := (wz_86 h0 aw ac n13 h0_function ty n12 bo bg bh bd h0_depth ty cty gty bo cbo gbo bg cbg gbg bh cbh gbh bd cbd gbd)) hD hS hA [1, 2, 3, 4, 5, 6] rfl
        refine va_callv (va_runV (As := [.int 127]) (rest := []) ⟨hx, hb, hml, hown, hts⟩ (c_VA_popy l dC dI H.size h0 aw ac ty bo bg bh bd cty cbo cbg cbh cbd n13 h0_function n12 h0_depth gty gbo gbg gbh gbd S_70 B9 (bn13) (bn12) (b_h0_depth) (b_gty) (b_gbh) 127 (w_70) ((fun _ => by (first | (apply Int.le_antisymm <;> omega) | omega)))) (cwV 1 hts (gV kM_VA_161 kV_VA_pop kS_VA_pop kI_VA kC_VA_pop) rfl rfl rfl (by decide +kernel) ⟨Nat.le_of_ble_eq_true rfl, Nat.le_of_ble_eq_true rfl⟩) ⟨fun a U g mk z => by obtain ⟨z0, z1, zP, zK, zD⟩ := z; exact ⟨z0, z1, zP, va_K.moved (u := U) (U := U.calling g mk a) (Vm.Alike.refl U.vm) zK, zD⟩, va_recv hKc hPc (ci := 9) (q0 := 0) rfl rfl, fun U hU hW => ⟨rfl, by rw [hU], va_P.he hU.symm hPc, va_K.moved hW.alike hKc, hDc.weaken (fun _ _ _ _ => trivial)⟩⟩ rfl rfl hl.1 rfl (lv_room (Nat.le_of_ble_eq_true rfl)) d_VA_checkMemory_76 ⟨(Nat.zero_le _), (Nat.zero_le _)⟩) hS (fun q _ h => hFc q h) hFc (fun u t H1 locs ht hvm hw hB hz1 hk1 hS => ?_)
        obtain ⟨n15, n16⟩ := u
        try dsimp only at hw
        obtain ⟨bn15, bn16, xr14⟩ := hw
        try clear hw
        have tn16 := b01 bn16
        rw [show (127 : Int32).toInt.toNat = 127 from by decide] at xr14
        have hl76 := xr14.1
        obtain ⟨S_76, q_76, w_76⟩ := vwz_1 xr14.2
        have ql76 : n16.toInt = 1 → n13.toInt = 1 := by rcases q_76 with z2 | z2; (exact fun _ => z2.2.1); (exact fun z => absurd z2.1 (by (first | (apply Int.le_antisymm <;> omega) | omega)))
        clear xr14
        obtain ⟨hP1, hK1, hD1⟩ := hB
        replace hP1 := va_P.he ht hP1
        obtain ⟨hP, hD⟩ := va_join (wr := [(aw, .inr (10, law))]) (w1 := (wz_86 h0 aw ac n16 h0_function ty n15 bo bg bh bd h0_depth ty cty gty bo cbo gbo bg cbg gbg bh cbh gbh bd cbd gbd)) hP hD [1, 2, 3, 4, 5, 6] [0] rfl rfl (by decide) (by decide) hk1 hFc hP1 hD1
        clear hPc hDc hKc hFc hz1 hk1 hP1 hK1 hD1
        rename Heap => H
        have hP : va_P (dC, dI) cls [(aw, .inr (10, law)), (h0, .inr (9, [.ref aw, .ref ac, .int n16, .int h0_function, .ref ty, .int n15, .ref bo, .ref bg, .ref bh, .ref bd, .int h0_depth])), (ty, .inl (cty, 5000, .inl gty)), (bo, .inl (cbo, 101, .inl gbo)), (bg, .inl (cbg, 101, .inl gbg)), (bh, .inl (cbh, 101, .inl gbh)), (bd, .inl (cbd, 101, .inl gbd))] H := hP
        have hD : va_D A [(aw, .inr (10, law)), (h0, .inr (9, [.ref aw, .ref ac, .int n16, .int h0_function, .ref ty, .int n15, .ref bo, .ref bg, .ref bh, .ref bd, .int h0_depth])), (ty, .inl (cty, 5000, .inl gty)), (bo, .inl (cbo, 101, .inl gbo)), (bg, .inl (cbg, 101, .inl gbg)), (bh, .inl (cbh, 101, .inl gbh)), (bd, .inl (cbd, 101, .inl gbd))] := hD
        have hP9 := hP.sb (wq := [(h0, .inr (9, [.ref aw, .ref ac, .int n16, .int h0_function, .ref ty, .int n15, .ref bo, .ref bg, .ref bh, .ref bd, .int h0_depth])), (aw, .inr (10, law)), (ty, .inl (cty, 5000, .inl gty)), (bo, .inl (cbo, 101, .inl gbo)), (bg, .inl (cbg, 101, .inl gbg)), (bh, .inl (cbh, 101, .inl gbh)), (bd, .inl (cbd, 101, .inl gbd))]) [1, 0, 2, 3, 4, 5, 6] rfl
        have hD9 := hD.sb (wq := [(h0, .inr (9, [.ref aw, .ref ac, .int n16, .int h0_function, .ref ty, .int n15, .ref bo, .ref bg, .ref bh, .ref bd, .int h0_depth])), (aw, .inr (10, law)), (ty, .inl (cty, 5000, .inl gty)), (bo, .inl (cbo, 101, .inl gbo)), (bg, .inl (cbg, 101, .inl gbg)), (bh, .inl (cbh, 101, .inl gbh)), (bd, .inl (cbd, 101, .inl gbd))]) [1, 0, 2, 3, 4, 5, 6] (by decide) rfl
        exact W.vret hx hb hr (fun t ht hW => ⟨⟨(gty, n15, n16), rfl, ⟨b_gty, bn15, bn16, ⟨by (try dsimp only) <;> (first | (apply Int.le_antisymm <;> omega) | omega), mm_s (by unfold vmc; exact y38) thm (by (first | (apply Int.le_antisymm <;> omega) | omega)) (by (first | (apply Int.le_antisymm <;> omega) | omega)) (by (first | (apply Int.le_antisymm <;> omega) | omega)) q_70 q_76 w_76⟩⟩, va_P.he ht.symm hP9, va_K.moved hW.alike hK, hD9⟩, hS.F ht⟩) hS.2.2 d_VA_checkMemory_79
    · skip
      refine w_cut (pc2 := 53) (σ := Unit) (fun u H locs ls => match u with | _ => (p0.toInt = 41 ∨ p0.toInt = 55) ∧ va_P (dC, dI) cls [(h0, .inr (9, [.ref aw, .ref ac, .int j38_s0, .int h0_function, .ref ty, .int h0_height, .ref bo, .ref bg, .ref bh, .ref bd, .int h0_depth])), (aw, .inr (10, law)), (ty, .inl (cty, 5000, .inl gty)), (bo, .inl (cbo, 101, .inl gbo)), (bg, .inl (cbg, 101, .inl gbg)), (bh, .inl (cbh, 101, .inl gbh)), (bd, .inl (cbd, 101, .inl gbd))] H ∧ va_D A [(h0, .inr (9, [.ref aw, .ref ac, .int j38_s0, .int h0_function, .ref ty, .int h0_height, .ref bo, .ref bg, .ref bh, .ref bd, .int h0_depth])), (aw, .inr (10, law)), (ty, .inl (cty, 5000, .inl gty)), (bo, .inl (cbo, 101, .inl gbo)), (bg, .inl (cbg, 101, .inl gbg)), (bh, .inl (cbh, 101, .inl gbh)), (bd, .inl (cbd, 101, .inl gbd))] ∧ va_S A s.heap H locs ∧ lv_has ls 4 [(0, .ref h0), (1, .int p0)]) (fun u => match u with | _ => []) ?_ (fun jn53 => ?_)
      · intro u H locs ls hI
        obtain ⟨y53, hP, hD, hS, hl⟩ := hI
        refine lv_bipush (v := 126) hx hb d_VA_checkMemory_53 (by decide) ?_
        refine lv_goto (tgt := 60) hx hb d_VA_checkMemory_55 (by decide) ?_
        exact jn60 126 _ _ _ ⟨by (try dsimp only) <;> (first | (apply Int.le_antisymm <;> omega) | omega), by (try dsimp only) <;> (first | (apply Int.le_antisymm <;> omega) | omega), hP, hD, hS, lv_sub hl [0, 1] rfl⟩
      · skip
        refine lv_icmp_eq (tgt := 53) hx hb d_VA_checkMemory_44 (by decide) (fun c44 => ?_) (fun c44 => ?_)
        · have q44 := eqI c44
          exact jn53 () _ _ _ ⟨by (try dsimp only) <;> (first | (apply Int.le_antisymm <;> omega) | omega), hP, hD, hS, lv_sub hl [0, 1] rfl⟩
        · have q44 := neI c44
          refine lv_iload_n hx hb d_VA_checkMemory_47 rfl (lv_at hl 1 rfl) ?_
          refine lv_bipush (v := 55) hx hb d_VA_checkMemory_48 (by decide) ?_
          refine lv_icmp_ne (tgt := 58) hx hb d_VA_checkMemory_50 (by decide) (fun c50 => ?_) (fun c50 => ?_)
          · have q50 := neI c50
            refine lv_bipush (v := 127) hx hb d_VA_checkMemory_58 (by decide) ?_
            exact jn60 127 _ _ _ ⟨by (try dsimp only) <;> (first | (apply Int.le_antisymm <;> omega) | omega), by (try dsimp only) <;> (first | (apply Int.le_antisymm <;> omega) | omega), hP, hD, hS, lv_sub hl [0, 1] rfl⟩
          · have q50 := eqI c50
            exact jn53 () _ _ _ ⟨by (try dsimp only) <;> (first | (apply Int.le_antisymm <;> omega) | omega), hP, hD, hS, lv_sub hl [0, 1] rfl⟩
  · skip
    refine lv_if_eq (tgt := 37) hx hb d_VA_checkMemory_5 (by decide) (fun c5 => ?_) (fun c5 => ?_)
    · have q5 := eqI c5
      refine lv_iconst (v := 0) hx hb d_VA_checkMemory_37 (by decide) ?_
      exact jn38 0 _ _ _ ⟨Or.inl rfl, by (try dsimp only) <;> (first | (apply Int.le_antisymm <;> omega) | omega), hP, hD, hS, lv_sub hl [0, 1] rfl⟩
    · have q5 := neI c5
      refine lv_aload_n hx hb d_VA_checkMemory_8 rfl (lv_at hl 0 rfl) ?_
      refine va_get (D := (dC, dI)) (ci := 9) (v := .ref aw) (C := R_VA) (T := F_VA) (N := 11) hx hb hts i_VA hown hK hP 0 rfl rfl 0 (by decide) (hts _ kF_VA_28) (fun _ h9 => h9) rfl d_VA_checkMemory_9 ?_
      refine va_get (D := (dC, dI)) (ci := 10) (v := .int aw_hasMemory) (C := R_WA) (T := F_WA) (N := 21) hx hb hts i_WA hown hK hP 1 rfl rfl 8 (by decide) (hts _ kF_VA_89) (fun _ h9 => h9) paw_8 d_VA_checkMemory_12 ?_
      refine lv_if_eq (tgt := 37) hx hb d_VA_checkMemory_15 (by decide) (fun c15 => ?_) (fun c15 => ?_)
      · have q15 := eqI c15
        refine lv_iconst (v := 0) hx hb d_VA_checkMemory_37 (by decide) ?_
        exact jn38 0 _ _ _ ⟨Or.inl rfl, by (try dsimp only) <;> (first | (apply Int.le_antisymm <;> omega) | omega), hP, hD, hS, lv_sub hl [0, 1] rfl⟩
      · have q15 := neI c15
        refine lv_iload_n hx hb d_VA_checkMemory_18 rfl (lv_at hl 1 rfl) ?_
        have hPc := hP.sb (wq := []) [] rfl
        have hDc := hD.sb (wq := []) [] (by decide) rfl
        have hKc := hK.sb (tyq := []) [] rfl
        have hFc := va_free (wc := []) hD hS hA [] rfl
        refine va_calli (va_runS (As := [.int p0]) (rest := [.ref h0]) ⟨hx, hb, hml, hown, hts⟩ (c_CD_isAccess l dC dI H.size p0) ⟨callB_of 1 hts (gW kC_CD_isAccess) rfl rfl rfl (hts _ kI_CD) (hts _ kM_VA_199) (by decide +kernel) ⟨Nat.le_of_ble_eq_true rfl, Nat.le_of_ble_eq_true rfl⟩, hts _ kT_CD_isAccess⟩ ⟨fun a U g mk z => by obtain ⟨z0, z1, zP, zK, zD⟩ := z; exact ⟨z0, z1, zP, va_K.moved (u := U) (U := U.calling g mk a) (Vm.Alike.refl U.vm) zK, zD⟩, fun U hU hW => ⟨rfl, by rw [hU], va_P.he hU.symm hPc, va_K.moved hW.alike hKc, hDc.weaken (fun _ _ _ _ => trivial)⟩⟩ rfl rfl hl.1 rfl (lv_room (Nat.le_of_ble_eq_true rfl)) d_VA_checkMemory_19 ⟨(Nat.zero_le _), (Nat.zero_le _)⟩) hS (fun q _ h => hFc q h) hFc (fun r17 u t H1 locs ht hvm hw hB hz1 hk1 hS => ?_)
        try dsimp only at hw
        have tr17 := hw
        obtain ⟨hP1, hK1, hD1⟩ := hB
        replace hP1 := va_P.he ht hP1
        obtain ⟨hP, hD⟩ := va_join (wr := [(h0, .inr (9, [.ref aw, .ref ac, .int h0_sound, .int h0_function, .ref ty, .int h0_height, .ref bo, .ref bg, .ref bh, .ref bd, .int h0_depth])), (aw, .inr (10, law)), (ty, .inl (cty, 5000, .inl gty)), (bo, .inl (cbo, 101, .inl gbo)), (bg, .inl (cbg, 101, .inl gbg)), (bh, .inl (cbh, 101, .inl gbh)), (bd, .inl (cbd, 101, .inl gbd))]) (w1 := []) hP hD [] [0, 1, 2, 3, 4, 5, 6] rfl rfl (by decide) (by decide) hk1 hFc hP1 hD1
        clear hPc hDc hKc hFc hz1 hk1 hP1 hK1 hD1
        rename Heap => H
        have hP : va_P (dC, dI) cls [(h0, .inr (9, [.ref aw, .ref ac, .int h0_sound, .int h0_function, .ref ty, .int h0_height, .ref bo, .ref bg, .ref bh, .ref bd, .int h0_depth])), (aw, .inr (10, law)), (ty, .inl (cty, 5000, .inl gty)), (bo, .inl (cbo, 101, .inl gbo)), (bg, .inl (cbg, 101, .inl gbg)), (bh, .inl (cbh, 101, .inl gbh)), (bd, .inl (cbd, 101, .inl gbd))] H := hP
        have hD : va_D A [(h0, .inr (9, [.ref aw, .ref ac, .int h0_sound, .int h0_function, .ref ty, .int h0_height, .ref bo, .ref bg, .ref bh, .ref bd, .int h0_depth])), (aw, .inr (10, law)), (ty, .inl (cty, 5000, .inl gty)), (bo, .inl (cbo, 101, .inl gbo)), (bg, .inl (cbg, 101, .inl gbg)), (bh, .inl (cbh, 101, .inl gbh)), (bd, .inl (cbd, 101, .inl gbd))] := hD
        refine lv_if_eq (tgt := 33) hx hb d_VA_checkMemory_22 (by decide) (fun c22 => ?_) (fun c22 => ?_)
        · have q22 := eqI c22
          refine lv_iconst (v := 1) hx hb d_VA_checkMemory_33 (by decide) ?_
          refine lv_goto (tgt := 38) hx hb d_VA_checkMemory_34 (by decide) ?_
          exact jn38 1 _ _ _ ⟨Or.inr rfl, by (try dsimp only) <;> (first | (apply Int.le_antisymm <;> omega) | omega), hP, hD, hS, lv_sub hl [0, 1] rfl⟩
        · have q22 := neI c22
          refine lv_iload_n hx hb d_VA_checkMemory_25 rfl (lv_at hl 2 rfl) ?_
          refine lv_iload_n hx hb d_VA_checkMemory_26 rfl (lv_at hl 1 rfl) ?_
          have hPc := hP.sb (wq := []) [] rfl
          have hDc := hD.sb (wq := []) [] (by decide) rfl
          have hKc := hK.sb (tyq := []) [] rfl
          have hFc := va_free (wc := []) hD hS hA [] rfl
          refine va_calli (va_runS (As := [.int p0]) (rest := [.int p1, .ref h0]) ⟨hx, hb, hml, hown, hts⟩ (c_CD_greatestAlignmenty l dC dI H.size p0 (by (first | (apply Int.le_antisymm <;> omega) | omega))) ⟨callB_of 1 hts (gW kC_CD_greatestAlignment) rfl rfl rfl (hts _ kI_CD) (hts _ kM_VA_203) (by decide +kernel) ⟨Nat.le_of_ble_eq_true rfl, Nat.le_of_ble_eq_true rfl⟩, hts _ kT_CD_greatestAlignment⟩ ⟨fun a U g mk z => by obtain ⟨z0, z1, zP, zK, zD⟩ := z; exact ⟨z0, z1, zP, va_K.moved (u := U) (U := U.calling g mk a) (Vm.Alike.refl U.vm) zK, zD⟩, fun U hU hW => ⟨rfl, by rw [hU], va_P.he hU.symm hPc, va_K.moved hW.alike hKc, hDc.weaken (fun _ _ _ _ => trivial)⟩⟩ rfl rfl hl.1 rfl (lv_room (Nat.le_of_ble_eq_true rfl)) d_VA_checkMemory_27 ⟨(Nat.zero_le _), (Nat.zero_le _)⟩) hS (fun q _ h => hFc q h) hFc (fun r18 u t H1 locs ht hvm hw hB hz1 hk1 hS => ?_)
          try dsimp only at hw
          have xr18 := hw
          try clear hw
          obtain ⟨hP1, hK1, hD1⟩ := hB
          replace hP1 := va_P.he ht hP1
          obtain ⟨hP, hD⟩ := va_join (wr := [(h0, .inr (9, [.ref aw, .ref ac, .int h0_sound, .int h0_function, .ref ty, .int h0_height, .ref bo, .ref bg, .ref bh, .ref bd, .int h0_depth])), (aw, .inr (10, law)), (ty, .inl (cty, 5000, .inl gty)), (bo, .inl (cbo, 101, .inl gbo)), (bg, .inl (cbg, 101, .inl gbg)), (bh, .inl (cbh, 101, .inl gbh)), (bd, .inl (cbd, 101, .inl gbd))]) (w1 := []) hP hD [] [0, 1, 2, 3, 4, 5, 6] rfl rfl (by decide) (by decide) hk1 hFc hP1 hD1
          clear hPc hDc hKc hFc hz1 hk1 hP1 hK1 hD1
          rename Heap => H
          have hP : va_P (dC, dI) cls [(h0, .inr (9, [.ref aw, .ref ac, .int h0_sound, .int h0_function, .ref ty, .int h0_height, .ref bo, .ref bg, .ref bh, .ref bd, .int h0_depth])), (aw, .inr (10, law)), (ty, .inl (cty, 5000, .inl gty)), (bo, .inl (cbo, 101, .inl gbo)), (bg, .inl (cbg, 101, .inl gbg)), (bh, .inl (cbh, 101, .inl gbh)), (bd, .inl (cbd, 101, .inl gbd))] H := hP
          have hD : va_D A [(h0, .inr (9, [.ref aw, .ref ac, .int h0_sound, .int h0_function, .ref ty, .int h0_height, .ref bo, .ref bg, .ref bh, .ref bd, .int h0_depth])), (aw, .inr (10, law)), (ty, .inl (cty, 5000, .inl gty)), (bo, .inl (cbo, 101, .inl gbo)), (bg, .inl (cbg, 101, .inl gbg)), (bh, .inl (cbh, 101, .inl gbh)), (bd, .inl (cbd, 101, .inl gbd))] := hD
          refine lv_icmp_gt (tgt := 37) hx hb d_VA_checkMemory_30 (by decide) (fun c30 => ?_) (fun c30 => ?_)
          · have q30 := ltI c30
            refine lv_iconst (v := 0) hx hb d_VA_checkMemory_37 (by decide) ?_
            exact jn38 0 _ _ _ ⟨Or.inl rfl, by (try dsimp only) <;> (first | (apply Int.le_antisymm <;> omega) | omega), hP, hD, hS, lv_sub hl [0, 1] rfl⟩
          · have q30 := nltI c30
            refine lv_iconst (v := 1) hx hb d_VA_checkMemory_33 (by decide) ?_
            refine lv_goto (tgt := 38) hx hb d_VA_checkMemory_34 (by decide) ?_
            exact jn38 1 _ _ _ ⟨Or.inr rfl, by (try dsimp only) <;> (first | (apply Int.le_antisymm <;> omega) | omega), hP, hD, hS, lv_sub hl [0, 1] rfl⟩
abbrev at_VA_checkSelecty (dC : Nat → ClassId) (dI : Nat → Nat → Nat) (h0 aw ac ty bo bg bh bd : Nat) (cty cbo cbg cbh cbd : ClassId) (h0_function : Int32) (h0_depth : Int32) (gbo : Nat → Int32) (gbg : Nat → Int32) (gbh : Nat → Int32) (gbd : Nat → Int32) (A : Nat → Prop) (u : (Nat → Int32) × Int32 × Int32) (t : State) : Prop := match u with | (gty, h0_height, h0_sound) => va_P (dC, dI) cls (wz_86 h0 aw ac h0_sound h0_function ty h0_height bo bg bh bd h0_depth ty cty gty bo cbo gbo bg cbg gbg bh cbh gbh bd cbd gbd) t.heap ∧ va_K (dC, dI) cls [(cty, .int), (cbo, .int), (cbg, .int), (cbh, .int), (cbd, .boolean)] t ∧ va_D A (wz_86 h0 aw ac h0_sound h0_function ty h0_height bo bg bh bd h0_depth ty cty gty bo cbo gbo bg cbg gbg bh cbh gbh bd cbd gbd)
set_option maxHeartbeats 4000000 in
set_option maxRecDepth 100000 in
theorem c_VA_checkSelecty (l : Launch) (dC : Nat → ClassId) (dI : Nat → Nat → Nat) (sz : Nat) (h0 aw ac ty bo bg bh bd : Nat) (cty cbo cbg cbh cbd : ClassId) (h0_sound : Int32) (h0_function : Int32) (h0_height : Int32) (h0_depth : Int32) (gty : Nat → Int32) (gbo : Nat → Int32) (gbg : Nat → Int32) (gbh : Nat → Int32) (gbd : Nat → Int32) (S9 : List Nat) (B9 : List zBl)  (b_h0_sound : h0_sound = 0 ∨ h0_sound = 1) (b_h0_height : 0 ≤ h0_height.toInt ∧ h0_height.toInt ≤ 5000) (b_h0_depth : 0 ≤ h0_depth.toInt ∧ h0_depth.toInt ≤ 101) (b_gty : ∀ j : Nat, (gty j).toInt ≠ 64) (b_gbh : ∀ j : Nat, 0 ≤ (gbh j).toInt ∧ (gbh j).toInt ≤ 5000)   (hv : h0_sound.toInt = 1 → vA S9 B9 h0_height h0_depth gty gbo gbg gbh gbd) (h5 : h0_sound.toInt = 1 → h0_height.toInt < 5000) : Met l y_VA_checkSelect w_VA_checkSelect ({ frames := 2, cells := 0, slots := 0, locals := 42 }) (va_Pc [.ref h0] (fun U => U.heap.size = sz ∧ va_P (dC, dI) cls (wz_86 h0 aw ac h0_sound h0_function ty h0_height bo bg bh bd h0_depth ty cty gty bo cbo gbo bg cbg gbg bh cbh gbh bd cbd gbd) U.heap ∧ va_K (dC, dI) cls [(cty, .int), (cbo, .int), (cbg, .int), (cbh, .int), (cbd, .boolean)] U ∧ va_D (fun _ => True) (wz_86 h0 aw ac h0_sound h0_function ty h0_height bo bg bh bd h0_depth ty cty gty bo cbo gbo bg cbg gbg bh cbh gbh bd cbd gbd))) (va_Qv (fun (u : (Nat → Int32) × Int32 × Int32) => match u with | (gty2, h0_height2, h0_sound2) => (∀ j : Nat, (gty2 j).toInt ≠ 64) ∧ (0 ≤ h0_height2.toInt ∧ h0_height2.toInt ≤ 5000) ∧ (h0_sound2 = 0 ∨ h0_sound2 = 1) ∧ (h0_height2.toInt ≤ h0_height.toInt + 1 ∧ vsz (vsel S9 B9) h0_sound h0_sound2 h0_height2 h0_depth gty2 gbo gbg gbh gbd)) (at_VA_checkSelecty dC dI h0 aw ac ty bo bg bh bd cty cbo cbg cbh cbd h0_function h0_depth gbo gbg gbh gbd (va_A (wz_86 h0 aw ac h0_sound h0_function ty h0_height bo bg bh bd h0_depth ty cty gty bo cbo gbo bg cbg gbg bh cbh gbh bd cbd gbd) sz)) (va_A (wz_86 h0 aw ac h0_sound h0_function ty h0_height bo bg bh bd h0_depth ty cty gty bo cbo gbo bg cbg gbg bh cbh gbh bd cbd gbd) sz)) 0 0 (va_A (wz_86 h0 aw ac h0_sound h0_function ty h0_height bo bg bh bd h0_depth ty cty gty bo cbo gbo bg cbg gbg bh cbh gbh bd cbd gbd) sz) := by
  refine Met.ofW (cc := b_VA_checkSelect) (maxL := 3) (ret := none) (by decide) rfl ?_
  intro p e s m args below meth c s₁ B hml hv
  obtain ⟨rfl, hsz, hP, hK, hD0⟩ := hv
  have hx := B.exec
  have hb := B.bytes
  have hr := B.returns
  have hts0 := atoms_spec (ws := w_VA_checkSelect) B.pre
  have hts : ∀ w ∈ lw_g, w.before _ s = true := fun w h => hts0 w (List.mem_cons_of_mem _ h)
  have hown : s.vm.findClass R_VA = some m.cls := findClass_of_methodNamed B.named
  have hlocks := B.notSynchronized
  clear hts0
  subst hsz
  have hD := hD0.self (sz := s.heap.size)
  generalize hAe : va_A (wz_86 h0 aw ac h0_sound h0_function ty h0_height bo bg bh bd h0_depth ty cty gty bo cbo gbo bg cbg gbg bh cbh gbh bd cbd gbd) s.heap.size = A at hD ⊢
  have hA : ∀ q : Nat, s.heap.size ≤ q → A q := fun q h => by rw [← hAe]; exact Or.inr h
  clear hAe
  have hP : va_P (dC, dI) cls (wz_86 h0 aw ac h0_sound h0_function ty h0_height bo bg bh bd h0_depth ty cty gty bo cbo gbo bg cbg gbg bh cbh gbh bd cbd gbd) s.heap := hP
  have hl := lv_entry ([.ref h0]) (n := 3) (Nat.le_of_ble_eq_true rfl)
  rw [lg_entry_eq]
  generalize (lg_sl ([.ref h0]) ++ List.replicate (3 - (lg_sl ([.ref h0])).length) Slot.unset).toArray = ls at hl ⊢
  have hl : lv_has ls 3 [(0, .ref h0)] := hl
  have k0 : (0 : Int32).toInt = 0 := by decide
  refine w_gen (A := A) hP (fun H locs hP hS => ?_)
  have k1 : (1 : Int32).toInt = 1 := by decide
  have k127 : (127 : Int32).toInt = 127 := by decide
  have th0_sound := b01 b_h0_sound
  refine lv_aload_n hx hb d_VA_checkSelect_0 rfl (lv_at hl 0 rfl) ?_
  refine lv_bipush (v := 127) hx hb d_VA_checkSelect_1 (by decide) ?_
  have hPc := hP.sb (wq := (wz_86 h0 aw ac h0_sound h0_function ty h0_height bo bg bh bd h0_depth ty cty gty bo cbo gbo bg cbg gbg bh cbh gbh bd cbd gbd)) [0, 1, 2, 3, 4, 5] rfl
  have hDc := hD.sb (wq := (wz_86 h0 aw ac h0_sound h0_function ty h0_height bo bg bh bd h0_depth ty cty gty bo cbo gbo bg cbg gbg bh cbh gbh bd cbd gbd)) [0, 1, 2, 3, 4, 5] (by decide) rfl
  have hKc := hK.sb (tyq := [(cty, .int), (cbo, .int), (cbg, .int), (cbh, .int), (cbd, .boolean)]) [0, 1, 2, 3, 4] rfl
  have hFc := va_free (wc := (wz_86 h0 aw ac h0_sound h0_function ty h0_height bo bg bh bd h0_depth ty cty gty bo cbo gbo bg cbg gbg bh cbh gbh bd cbd gbd)) hD hS hA [0, 1, 2, 3, 4, 5] rfl
  refine va_callv (va_runV (As := [.int 127]) (rest := []) ⟨hx, hb, hml, hown, hts⟩ (c_VA_popy l dC dI H.size h0 aw ac ty bo bg bh bd cty cbo cbg cbh cbd h0_sound h0_function h0_height h0_depth gty gbo gbg gbh gbd S9 B9 (b_h0_sound) (b_h0_height) (b_h0_depth) (b_gty) (b_gbh) 127 (hv) ((fun _ => by (first | (apply Int.le_antisymm <;> omega) | omega)))) (cwV 1 hts (gV kM_VA_161 kV_VA_pop kS_VA_pop kI_VA kC_VA_pop) rfl rfl rfl (by decide +kernel) ⟨Nat.le_of_ble_eq_true rfl, Nat.le_of_ble_eq_true rfl⟩) ⟨fun a U g mk z => by obtain ⟨z0, z1, zP, zK, zD⟩ := z; exact ⟨z0, z1, zP, va_K.moved (u := U) (U := U.calling g mk a) (Vm.Alike.refl U.vm) zK, zD⟩, va_recv hKc hPc (ci := 9) (q0 := 0) rfl rfl, fun U hU hW => ⟨rfl, by rw [hU], va_P.he hU.symm hPc, va_K.moved hW.alike hKc, hDc.weaken (fun _ _ _ _ => trivial)⟩⟩ rfl rfl hl.1 rfl (lv_room (Nat.le_of_ble_eq_true rfl)) d_VA_checkSelect_3 ⟨(Nat.zero_le _), (Nat.zero_le _)⟩) hS (fun q _ h => hFc q h) hFc (fun u t H1 locs ht hvm hw hB hz1 hk1 hS => ?_)
  obtain ⟨n2, n3⟩ := u
  try dsimp only at hw
  obtain ⟨bn2, bn3, xr1⟩ := hw
  try clear hw
  have tn3 := b01 bn3
  rw [show (127 : Int32).toInt.toNat = 127 from by decide] at xr1
  have hl3 := xr1.1
  obtain ⟨S_3, q_3, w_3⟩ := vwz_1 xr1.2
  have ql3 : n3.toInt = 1 → h0_sound.toInt = 1 := by rcases q_3 with z2 | z2; (exact fun _ => z2.2.1); (exact fun z => absurd z2.1 (by (first | (apply Int.le_antisymm <;> omega) | omega)))
  clear xr1
  obtain ⟨hP1, hK1, hD1⟩ := hB
  replace hP1 := va_P.he ht hP1
  obtain ⟨hP, hD⟩ := va_join (wr := []) (w1 := (wz_86 h0 aw ac n3 h0_function ty n2 bo bg bh bd h0_depth ty cty gty bo cbo gbo bg cbg gbg bh cbh gbh bd cbd gbd)) hP hD [0, 1, 2, 3, 4, 5] [] rfl rfl (by decide) (by decide) hk1 hFc hP1 hD1
  clear hPc hDc hKc hFc hz1 hk1 hP1 hK1 hD1
  rename Heap => H
  have hP : va_P (dC, dI) cls (wz_86 h0 aw ac n3 h0_function ty n2 bo bg bh bd h0_depth ty cty gty bo cbo gbo bg cbg gbg bh cbh gbh bd cbd gbd) H := hP
  have hD : va_D A (wz_86 h0 aw ac n3 h0_function ty n2 bo bg bh bd h0_depth ty cty gty bo cbo gbo bg cbg gbg bh cbh gbh bd cbd gbd) := hD
  refine lv_aload_n hx hb d_VA_checkSelect_6 rfl (lv_at hl 0 rfl) ?_
  have hPc := hP.sb (wq := (wz_86 h0 aw ac n3 h0_function ty n2 bo bg bh bd h0_depth ty cty gty bo cbo gbo bg cbg gbg bh cbh gbh bd cbd gbd)) [0, 1, 2, 3, 4, 5] rfl
  have hDc := hD.sb (wq := (wz_86 h0 aw ac n3 h0_function ty n2 bo bg bh bd h0_depth ty cty gty bo cbo gbo bg cbg gbg bh cbh gbh bd cbd gbd)) [0, 1, 2, 3, 4, 5] (by decide) rfl
  have hKc := hK.sb (tyq := [(cty, .int), (cbo, .int), (cbg, .int), (cbh, .int), (cbd, .boolean)]) [0, 1, 2, 3, 4] rfl
  have hFc := va_free (wc := (wz_86 h0 aw ac n3 h0_function ty n2 bo bg bh bd h0_depth ty cty gty bo cbo gbo bg cbg gbg bh cbh gbh bd cbd gbd)) hD hS hA [0, 1, 2, 3, 4, 5] rfl
  refine va_calli (va_runV (As := []) (rest := []) ⟨hx, hb, hml, hown, hts⟩ (c_VA_popAnyy l dC dI H.size h0 aw ac ty bo bg bh bd cty cbo cbg cbh cbd n3 h0_function n2 h0_depth gty gbo gbg gbh gbd S_3 B9 (bn3) (bn2) (b_h0_depth) (b_gty) (b_gbh) (w_3)) (cwV 0 hts (gV kM_VA_189 kV_VA_popAny kS_VA_popAny kI_VA kC_VA_popAny) rfl rfl rfl (by decide +kernel) ⟨Nat.le_of_ble_eq_true rfl, Nat.le_of_ble_eq_true rfl⟩) ⟨fun a U g mk z => by obtain ⟨z0, z1, zP, zK, zD⟩ := z; exact ⟨z0, z1, zP, va_K.moved (u := U) (U := U.calling g mk a) (Vm.Alike.refl U.vm) zK, zD⟩, va_recv hKc hPc (ci := 9) (q0 := 0) rfl rfl, fun U hU hW => ⟨rfl, by rw [hU], va_P.he hU.symm hPc, va_K.moved hW.alike hKc, hDc.weaken (fun _ _ _ _ => trivial)⟩⟩ rfl rfl hl.1 rfl (lv_room (Nat.le_of_ble_eq_true rfl)) d_VA_checkSelect_7 ⟨(Nat.zero_le _), (Nat.zero_le _)⟩) hS (fun q _ h => hFc q h) hFc (fun r4 u t H1 locs ht hvm hw hB hz1 hk1 hS => ?_)
  obtain ⟨n5, n6⟩ := u
  try dsimp only at hw
  obtain ⟨bn5, bn6, xr4⟩ := hw
  try clear hw
  have tn6 := b01 bn6
  have hl7 := xr4.1
  have hn7 := xr4.2.1
  obtain ⟨S_7, q_7, w_7⟩ := vpz_1 xr4.2.2
  have ql7 : n6.toInt = 1 → n3.toInt = 1 := by rcases q_7 with z2 | z2; (exact fun _ => z2.2.1); (exact fun z => absurd z2.1 (by (first | (apply Int.le_antisymm <;> omega) | omega)))
  clear xr4
  obtain ⟨hP1, hK1, hD1⟩ := hB
  replace hP1 := va_P.he ht hP1
  obtain ⟨hP, hD⟩ := va_join (wr := []) (w1 := (wz_86 h0 aw ac n6 h0_function ty n5 bo bg bh bd h0_depth ty cty gty bo cbo gbo bg cbg gbg bh cbh gbh bd cbd gbd)) hP hD [0, 1, 2, 3, 4, 5] [] rfl rfl (by decide) (by decide) hk1 hFc hP1 hD1
  clear hPc hDc hKc hFc hz1 hk1 hP1 hK1 hD1
  rename Heap => H
  have hP : va_P (dC, dI) cls (wz_86 h0 aw ac n6 h0_function ty n5 bo bg bh bd h0_depth ty cty gty bo cbo gbo bg cbg gbg bh cbh gbh bd cbd gbd) H := hP
  have hD : va_D A (wz_86 h0 aw ac n6 h0_function ty n5 bo bg bh bd h0_depth ty cty gty bo cbo gbo bg cbg gbg bh cbh gbh bd cbd gbd) := hD
  refine lv_istore_n (lv' := [(1, .int r4), (0, .ref h0)]) hx hb d_VA_checkSelect_10 rfl hl (by decide) rfl (fun ls hl => ?_)
  refine lv_aload_n hx hb d_VA_checkSelect_11 rfl (lv_at hl 1 rfl) ?_
  have hPc := hP.sb (wq := (wz_86 h0 aw ac n6 h0_function ty n5 bo bg bh bd h0_depth ty cty gty bo cbo gbo bg cbg gbg bh cbh gbh bd cbd gbd)) [0, 1, 2, 3, 4, 5] rfl
  have hDc := hD.sb (wq := (wz_86 h0 aw ac n6 h0_function ty n5 bo bg bh bd h0_depth ty cty gty bo cbo gbo bg cbg gbg bh cbh gbh bd cbd gbd)) [0, 1, 2, 3, 4, 5] (by decide) rfl
  have hKc := hK.sb (tyq := [(cty, .int), (cbo, .int), (cbg, .int), (cbh, .int), (cbd, .boolean)]) [0, 1, 2, 3, 4] rfl
  have hFc := va_free (wc := (wz_86 h0 aw ac n6 h0_function ty n5 bo bg bh bd h0_depth ty cty gty bo cbo gbo bg cbg gbg bh cbh gbh bd cbd gbd)) hD hS hA [0, 1, 2, 3, 4, 5] rfl
  refine va_calli (va_runV (As := []) (rest := []) ⟨hx, hb, hml, hown, hts⟩ (c_VA_popAnyy l dC dI H.size h0 aw ac ty bo bg bh bd cty cbo cbg cbh cbd n6 h0_function n5 h0_depth gty gbo gbg gbh gbd S_7 B9 (bn6) (bn5) (b_h0_depth) (b_gty) (b_gbh) (w_7)) (cwV 0 hts (gV kM_VA_189 kV_VA_popAny kS_VA_popAny kI_VA kC_VA_popAny) rfl rfl rfl (by decide +kernel) ⟨Nat.le_of_ble_eq_true rfl, Nat.le_of_ble_eq_true rfl⟩) ⟨fun a U g mk z => by obtain ⟨z0, z1, zP, zK, zD⟩ := z; exact ⟨z0, z1, zP, va_K.moved (u := U) (U := U.calling g mk a) (Vm.Alike.refl U.vm) zK, zD⟩, va_recv hKc hPc (ci := 9) (q0 := 0) rfl rfl, fun U hU hW => ⟨rfl, by rw [hU], va_P.he hU.symm hPc, va_K.moved hW.alike hKc, hDc.weaken (fun _ _ _ _ => trivial)⟩⟩ rfl rfl hl.1 rfl (lv_room (Nat.le_of_ble_eq_true rfl)) d_VA_checkSelect_12 ⟨(Nat.zero_le _), (Nat.zero_le _)⟩) hS (fun q _ h => hFc q h) hFc (fun r7 u t H1 locs ht hvm hw hB hz1 hk1 hS => ?_)
  obtain ⟨n8, n9⟩ := u
  try dsimp only at hw
  obtain ⟨bn8, bn9, xr7⟩ := hw
  try clear hw
  have tn9 := b01 bn9
  have hl12 := xr7.1
  have hn12 := xr7.2.1
  obtain ⟨S_12, q_12, w_12⟩ := vpz_1 xr7.2.2
  have ql12 : n9.toInt = 1 → n6.toInt = 1 := by rcases q_12 with z2 | z2; (exact fun _ => z2.2.1); (exact fun z => absurd z2.1 (by (first | (apply Int.le_antisymm <;> omega) | omega)))
  clear xr7
  obtain ⟨hP1, hK1, hD1⟩ := hB
  replace hP1 := va_P.he ht hP1
  obtain ⟨hP, hD⟩ := va_join (wr := []) (w1 := (wz_86 h0 aw ac n9 h0_function ty n8 bo bg bh bd h0_depth ty cty gty bo cbo gbo bg cbg gbg bh cbh gbh bd cbd gbd)) hP hD [0, 1, 2, 3, 4, 5] [] rfl rfl (by decide) (by decide) hk1 hFc hP1 hD1
  clear hPc hDc hKc hFc hz1 hk1 hP1 hK1 hD1
  rename Heap => H
  have hP : va_P (dC, dI) cls (wz_86 h0 aw ac n9 h0_function ty n8 bo bg bh bd h0_depth ty cty gty bo cbo gbo bg cbg gbg bh cbh gbh bd cbd gbd) H := hP
  have hD : va_D A (wz_86 h0 aw ac n9 h0_function ty n8 bo bg bh bd h0_depth ty cty gty bo cbo gbo bg cbg gbg bh cbh gbh bd cbd gbd) := hD
  refine lv_istore_n (lv' := [(2, .int r7), (1, .int r4), (0, .ref h0)]) hx hb d_VA_checkSelect_15 rfl hl (by decide) rfl (fun ls hl => ?_)
  refine lv_aload_n hx hb d_VA_checkSelect_16 rfl (lv_at hl 2 rfl) ?_
  refine lv_aload_n hx hb d_VA_checkSelect_17 rfl (lv_at hl 2 rfl) ?_
  refine va_get (D := (dC, dI)) (ci := 9) (v := .int n9) (C := R_VA) (T := F_VA) (N := 11) hx hb hts i_VA hown hK hP 0 rfl rfl 2 (by decide) (hts _ kF_VA_39) (fun _ h9 => h9) rfl d_VA_checkSelect_18 ?_
  refine w_cut (pc2 := 42) (σ := Int32) (fun u H locs ls => match u with | j42_s0 => (j42_s0 = 0 ∨ j42_s0 = 1) ∧ ((j42_s0.toInt = 1 ∧ n9.toInt = 1 ∧ (r4.toInt = r7.toInt ∨ r4.toInt = 0 ∨ r7.toInt = 0)) ∨ (j42_s0.toInt = 0 ∧ ¬ (n9.toInt = 1 ∧ (r4.toInt = r7.toInt ∨ r4.toInt = 0 ∨ r7.toInt = 0)))) ∧ va_P (dC, dI) cls (wz_86 h0 aw ac n9 h0_function ty n8 bo bg bh bd h0_depth ty cty gty bo cbo gbo bg cbg gbg bh cbh gbh bd cbd gbd) H ∧ va_D A (wz_86 h0 aw ac n9 h0_function ty n8 bo bg bh bd h0_depth ty cty gty bo cbo gbo bg cbg gbg bh cbh gbh bd cbd gbd) ∧ va_S A s.heap H locs ∧ lv_has ls 3 [(0, .ref h0), (1, .int r4), (2, .int r7)]) (fun u => match u with | j42_s0 => [.int j42_s0, .ref h0]) ?_ (fun jn42 => ?_)
  · intro u H locs ls hI
    obtain ⟨j42_s0, rfl⟩ : ∃ z, z = u := ⟨_, rfl⟩
    obtain ⟨b_j42_s0, y42, hP, hD, hS, hl⟩ := hI
    have tj42_s0 := b01 b_j42_s0
    refine va_put (D := (dC, dI)) (ci := 9) (v := .int j42_s0) (ty := .boolean) (C := R_VA) (T := F_VA) (N := 11) hx hb hts i_VA t_VA t_VA_ok n_VA hown hK hP hD hS 0 rfl rfl 2 (by decide) (hts _ kF_VA_39) (fun _ h9 => h9) rfl (by decide +kernel) (zn01 (b_j42_s0)) (fz01 (b_j42_s0)) (Nat.le_of_ble_eq_true rfl) d_VA_checkSelect_42 (fun H locs hP hD hS => ?_)
    refine lv_aload_n hx hb d_VA_checkSelect_45 rfl (lv_at hl 0 rfl) ?_
    refine lv_iload_n hx hb d_VA_checkSelect_46 rfl (lv_at hl 1 rfl) ?_
    refine w_cut (pc2 := 55) (σ := Int32) (fun u H locs ls => match u with | j55_s0 => (j55_s0.toInt ≠ 64) ∧ ((r4.toInt = 0 ∧ j55_s0 = r7) ∨ (r4.toInt ≠ 0 ∧ j55_s0 = r4)) ∧ va_P (dC, dI) cls (wz_86 h0 aw ac j42_s0 h0_function ty n8 bo bg bh bd h0_depth ty cty gty bo cbo gbo bg cbg gbg bh cbh gbh bd cbd gbd) H ∧ va_D A (wz_86 h0 aw ac j42_s0 h0_function ty n8 bo bg bh bd h0_depth ty cty gty bo cbo gbo bg cbg gbg bh cbh gbh bd cbd gbd) ∧ va_S A s.heap H locs ∧ lv_has ls 3 []) (fun u => match u with | j55_s0 => [.int j55_s0, .ref h0]) ?_ (fun jn55 => ?_)
    · intro u H locs ls hI
      obtain ⟨j55_s0, rfl⟩ : ∃ z, z = u := ⟨_, rfl⟩
      obtain ⟨b_j55_s0, y55, hP, hD, hS, hl⟩ := hI
      have hPc := hP.sb (wq := (wz_86 h0 aw ac j42_s0 h0_function ty n8 bo bg bh bd h0_depth ty cty gty bo cbo gbo bg cbg gbg bh cbh gbh bd cbd gbd)) [0, 1, 2, 3, 4, 5] rfl
      have hDc := hD.sb (wq := (wz_86 h0 aw ac j42_s0 h0_function ty n8 bo bg bh bd h0_depth ty cty gty bo cbo gbo bg cbg gbg bh cbh gbh bd cbd gbd)) [0, 1, 2, 3, 4, 5] (by decide) rfl
      have hKc := hK.sb (tyq := [(cty, .int), (cbo, .int), (cbg, .int), (cbh, .int), (cbd, .boolean)]) [0, 1, 2, 3, 4] rfl
      have hFc := va_free (wc := (wz_86 h0 aw ac j42_s0 h0_function ty n8 bo bg bh bd h0_depth ty cty gty bo cbo gbo bg cbg gbg bh cbh gbh bd cbd gbd)) hD hS hA [0, 1, 2, 3, 4, 5] rfl
      refine va_callv (va_runV (As := [.int j55_s0]) (rest := []) ⟨hx, hb, hml, hown, hts⟩ (c_VA_pushy l dC dI H.size h0 aw ac ty bo bg bh bd cty cbo cbg cbh cbd j42_s0 h0_function n8 h0_depth gty gbo gbg gbh gbd S_12 B9 (b_j42_s0) (bn8) (b_h0_depth) (b_gty) (b_gbh) j55_s0 ((fun z => w_12 (by (first | (apply Int.le_antisymm <;> omega) | omega)))) ((fun z => by have z1 := ql12 (by (first | (apply Int.le_antisymm <;> omega) | omega)); have z2 := ql7 z1; rcases y55 with ⟨-, z5⟩ | ⟨-, z5⟩; (rw [z5]; rcases q_12 with z4 | z4; (exact z4.2.2.1); ((first | (apply Int.le_antisymm <;> omega) | omega))); (rw [z5]; rcases q_7 with z3 | z3; (exact z3.2.2.1); ((first | (apply Int.le_antisymm <;> omega) | omega))))) ((fun z => by have := h5 (by (first | (apply Int.le_antisymm <;> omega) | omega)); (first | (apply Int.le_antisymm <;> omega) | omega)))) (cwV 1 hts (gV kM_VA_167 kV_VA_push kS_VA_push kI_VA kC_VA_push) rfl rfl rfl (by decide +kernel) ⟨Nat.le_of_ble_eq_true rfl, Nat.le_of_ble_eq_true rfl⟩) ⟨fun a U g mk z => by obtain ⟨z0, z1, zP, zK, zD⟩ := z; exact ⟨z0, z1, zP, va_K.moved (u := U) (U := U.calling g mk a) (Vm.Alike.refl U.vm) zK, zD⟩, va_recv hKc hPc (ci := 9) (q0 := 0) rfl rfl, fun U hU hW => ⟨rfl, by rw [hU], va_P.he hU.symm hPc, va_K.moved hW.alike hKc, hDc.weaken (fun _ _ _ _ => trivial)⟩⟩ rfl rfl hl.1 rfl (lv_room (Nat.le_of_ble_eq_true rfl)) d_VA_checkSelect_55 ⟨(Nat.zero_le _), (Nat.zero_le _)⟩) hS (fun q _ h => hFc q h) hFc (fun u t H1 locs ht hvm hw hB hz1 hk1 hS => ?_)
      obtain ⟨n11, n12⟩ := u
      try dsimp only at hw
      obtain ⟨bn11, bn12, xr10⟩ := hw
      try clear hw
      have hl55 := xr10.1
      have w_55 := xr10.2
      clear xr10
      obtain ⟨hP1, hK1, hD1⟩ := hB
      replace hP1 := va_P.he ht hP1
      obtain ⟨hP, hD⟩ := va_join (wr := []) (w1 := (wz_86 h0 aw ac j42_s0 h0_function ty n12 bo bg bh bd h0_depth ty cty n11 bo cbo gbo bg cbg gbg bh cbh gbh bd cbd gbd)) hP hD [0, 1, 2, 3, 4, 5] [] rfl rfl (by decide) (by decide) hk1 hFc hP1 hD1
      clear hPc hDc hKc hFc hz1 hk1 hP1 hK1 hD1
      rename Heap => H
      have hP : va_P (dC, dI) cls (wz_86 h0 aw ac j42_s0 h0_function ty n12 bo bg bh bd h0_depth ty cty n11 bo cbo gbo bg cbg gbg bh cbh gbh bd cbd gbd) H := hP
      have hD : va_D A (wz_86 h0 aw ac j42_s0 h0_function ty n12 bo bg bh bd h0_depth ty cty n11 bo cbo gbo bg cbg gbg bh cbh gbh bd cbd gbd) := hD
      have hP9 := hP.sb (wq := (wz_86 h0 aw ac j42_s0 h0_function ty n12 bo bg bh bd h0_depth ty cty n11 bo cbo gbo bg cbg gbg bh cbh gbh bd cbd gbd)) [0, 1, 2, 3, 4, 5] rfl
      have hD9 := hD.sb (wq := (wz_86 h0 aw ac j42_s0 h0_function ty n12 bo bg bh bd h0_depth ty cty n11 bo cbo gbo bg cbg gbg bh cbh gbh bd cbd gbd)) [0, 1, 2, 3, 4, 5] (by decide) rfl
      exact W.vret hx hb hr (fun t ht hW => ⟨⟨(n11, n12, j42_s0), rfl, ⟨bn11, bn12, b_j42_s0, ⟨by (try dsimp only) <;> (first | (apply Int.le_antisymm <;> omega) | omega), se_z q_3 q_7 q_12 y42 y55 (by rcases y55 with ⟨z1, z2⟩ | ⟨z1, z2⟩ <;> (rw [z2]; (first | (apply Int.le_antisymm <;> omega) | omega))) w_55⟩⟩, va_P.he ht.symm hP9, va_K.moved hW.alike hK, hD9⟩, hS.F ht⟩) hS.2.2 d_VA_checkSelect_58
    · skip
      refine lv_if_ne (tgt := 54) hx hb d_VA_checkSelect_47 (by decide) (fun c47 => ?_) (fun c47 => ?_)
      · have q47 := neI c47
        refine lv_iload_n hx hb d_VA_checkSelect_54 rfl (lv_at hl 1 rfl) ?_
        exact jn55 r4 _ _ _ ⟨by (try dsimp only) <;> (first | (apply Int.le_antisymm <;> omega) | omega), (by first | exact Or.inl ⟨by (first | (apply Int.le_antisymm <;> omega) | omega), rfl⟩ | exact Or.inr ⟨by (first | (apply Int.le_antisymm <;> omega) | omega), rfl⟩), hP, hD, hS, lv_sub hl [] rfl⟩
      · have q47 := eqI c47
        refine lv_iload_n hx hb d_VA_checkSelect_50 rfl (lv_at hl 2 rfl) ?_
        refine lv_goto (tgt := 55) hx hb d_VA_checkSelect_51 (by decide) ?_
        exact jn55 r7 _ _ _ ⟨by (try dsimp only) <;> (first | (apply Int.le_antisymm <;> omega) | omega), (by first | exact Or.inl ⟨by (first | (apply Int.le_antisymm <;> omega) | omega), rfl⟩ | exact Or.inr ⟨by (first | (apply Int.le_antisymm <;> omega) | omega), rfl⟩), hP, hD, hS, lv_sub hl [] rfl⟩
  · skip
    refine w_cut (pc2 := 41) (σ := Unit) (fun u H locs ls => match u with | _ => (¬ (n9.toInt = 1 ∧ (r4.toInt = r7.toInt ∨ r4.toInt = 0 ∨ r7.toInt = 0))) ∧ va_P (dC, dI) cls (wz_86 h0 aw ac n9 h0_function ty n8 bo bg bh bd h0_depth ty cty gty bo cbo gbo bg cbg gbg bh cbh gbh bd cbd gbd) H ∧ va_D A (wz_86 h0 aw ac n9 h0_function ty n8 bo bg bh bd h0_depth ty cty gty bo cbo gbo bg cbg gbg bh cbh gbh bd cbd gbd) ∧ va_S A s.heap H locs ∧ lv_has ls 3 [(0, .ref h0), (1, .int r4), (2, .int r7)]) (fun u => match u with | _ => [.ref h0]) ?_ (fun jn41 => ?_)
    · intro u H locs ls hI
      obtain ⟨y41, hP, hD, hS, hl⟩ := hI
      refine lv_iconst (v := 0) hx hb d_VA_checkSelect_41 (by decide) ?_
      exact jn42 0 _ _ _ ⟨Or.inl rfl, by (try dsimp only) <;> (first | (apply Int.le_antisymm <;> omega) | omega), hP, hD, hS, lv_sub hl [0, 1, 2] rfl⟩
    · skip
      refine lv_if_eq (tgt := 41) hx hb d_VA_checkSelect_21 (by decide) (fun c21 => ?_) (fun c21 => ?_)
      · have q21 := eqI c21
        exact jn41 () _ _ _ ⟨by (try dsimp only) <;> (first | (apply Int.le_antisymm <;> omega) | omega), hP, hD, hS, lv_sub hl [2, 1, 0] rfl⟩
      · have q21 := neI c21
        refine lv_iload_n hx hb d_VA_checkSelect_24 rfl (lv_at hl 1 rfl) ?_
        refine lv_iload_n hx hb d_VA_checkSelect_25 rfl (lv_at hl 0 rfl) ?_
        refine w_cut (pc2 := 37) (σ := Unit) (fun u H locs ls => match u with | _ => (n9.toInt = 1 ∧ (r4.toInt = r7.toInt ∨ r4.toInt = 0 ∨ r7.toInt = 0)) ∧ va_P (dC, dI) cls (wz_86 h0 aw ac n9 h0_function ty n8 bo bg bh bd h0_depth ty cty gty bo cbo gbo bg cbg gbg bh cbh gbh bd cbd gbd) H ∧ va_D A (wz_86 h0 aw ac n9 h0_function ty n8 bo bg bh bd h0_depth ty cty gty bo cbo gbo bg cbg gbg bh cbh gbh bd cbd gbd) ∧ va_S A s.heap H locs ∧ lv_has ls 3 [(0, .ref h0), (1, .int r4), (2, .int r7)]) (fun u => match u with | _ => [.ref h0]) ?_ (fun jn37 => ?_)
        · intro u H locs ls hI
          obtain ⟨y37, hP, hD, hS, hl⟩ := hI
          refine lv_iconst (v := 1) hx hb d_VA_checkSelect_37 (by decide) ?_
          refine lv_goto (tgt := 42) hx hb d_VA_checkSelect_38 (by decide) ?_
          exact jn42 1 _ _ _ ⟨Or.inr rfl, by (try dsimp only) <;> (first | (apply Int.le_antisymm <;> omega) | omega), hP, hD, hS, lv_sub hl [0, 1, 2] rfl⟩
        · skip
          refine lv_icmp_eq (tgt := 37) hx hb d_VA_checkSelect_26 (by decide) (fun c26 => ?_) (fun c26 => ?_)
          · have q26 := eqI c26
            exact jn37 () _ _ _ ⟨by (try dsimp only) <;> (first | (apply Int.le_antisymm <;> omega) | omega), hP, hD, hS, lv_sub hl [2, 1, 0] rfl⟩
          · have q26 := neI c26
            refine lv_iload_n hx hb d_VA_checkSelect_29 rfl (lv_at hl 1 rfl) ?_
            refine lv_if_eq (tgt := 37) hx hb d_VA_checkSelect_30 (by decide) (fun c30 => ?_) (fun c30 => ?_)
            · have q30 := eqI c30
              exact jn37 () _ _ _ ⟨by (try dsimp only) <;> (first | (apply Int.le_antisymm <;> omega) | omega), hP, hD, hS, lv_sub hl [2, 1, 0] rfl⟩
            · have q30 := neI c30
              refine lv_iload_n hx hb d_VA_checkSelect_33 rfl (lv_at hl 0 rfl) ?_
              refine lv_if_ne (tgt := 41) hx hb d_VA_checkSelect_34 (by decide) (fun c34 => ?_) (fun c34 => ?_)
              · have q34 := neI c34
                exact jn41 () _ _ _ ⟨by (try dsimp only) <;> (first | (apply Int.le_antisymm <;> omega) | omega), hP, hD, hS, lv_sub hl [2, 1, 0] rfl⟩
              · have q34 := eqI c34
                exact jn37 () _ _ _ ⟨by (try dsimp only) <;> (first | (apply Int.le_antisymm <;> omega) | omega), hP, hD, hS, lv_sub hl [2, 1, 0] rfl⟩
def glB (gt gc : Nat → Int32) (G : List (Nat × Nat × Nat)) : Prop := ∀ (k : Nat) (x : Nat × Nat × Nat), G[k]? = some x → (gt k).toInt = (x.1 : Int) ∧ (gc k).toInt = (x.2.1 : Int)
theorem gl_t {G : List (Nat × Nat × Nat)} {lo : List Nat} {gt gc : Nat → Int32} {op p r : Int32} (h : glB gt gc G) (hk : ∀ x ∈ G, x.1 = 127 ∨ x.1 = 126) (hop : 35 ≤ op.toInt) (hp : 0 ≤ p.toInt) (x : (p.toInt < (G.length : Int) ∧ r = gt p.toNatClampNeg) ∨ ((G.length : Int) ≤ p.toInt ∧ r.toInt = 0)) : vtz (vtyp G lo op.toInt.toNat p.toInt.toNat) r := by
  unfold vtyp
  rw [if_neg (by (first | (apply Int.le_antisymm <;> omega) | omega))]
  have kp := i32_clamp hp
  rcases x with ⟨x1, x2⟩ | ⟨x1, x2⟩
  · have q : p.toInt.toNat < G.length := by (first | (apply Int.le_antisymm <;> omega) | omega)
    have e := List.getElem?_eq_getElem q
    have k1 := (h _ _ e).1
    have k2 := hk _ (List.getElem_mem q)
    refine Or.inr ⟨_, by rw [e], ?_, k2⟩
    rw [x2, show p.toNatClampNeg = p.toInt.toNat by (first | (apply Int.le_antisymm <;> omega) | omega)]
    exact k1
  · refine Or.inl ⟨x2, ?_⟩
    rw [List.getElem?_eq_none (by (first | (apply Int.le_antisymm <;> omega) | omega))]
theorem gl_c {G : List (Nat × Nat × Nat)} {gt gc : Nat → Int32} {p : Int32} (h : glB gt gc G) (hp : 0 ≤ p.toInt) : ((gc p.toNatClampNeg).toInt = 0 → ∀ x, G[p.toInt.toNat]? = some x → x.2.1 ≠ 1) ∧ ((gc p.toNatClampNeg).toInt = 1 → ∀ x, G[p.toInt.toNat]? = some x → x.2.1 = 1) := by
  have kp := i32_clamp hp
  refine ⟨fun q x e => ?_, fun q x e => ?_⟩
  · have k1 := (h _ _ e).2
    rw [show p.toInt.toNat = p.toNatClampNeg by (first | (apply Int.le_antisymm <;> omega) | omega)] at k1
    (first | (apply Int.le_antisymm <;> omega) | omega)
  · have k1 := (h _ _ e).2
    rw [show p.toInt.toNat = p.toNatClampNeg by (first | (apply Int.le_antisymm <;> omega) | omega)] at k1
    (first | (apply Int.le_antisymm <;> omega) | omega)
abbrev at_VA_checkVariabley (dC : Nat → ClassId) (dI : Nat → Nat → Nat) (h0 aw ac ty bo bg bh bd wat wap waf wgt wgc cfi clk clt cop cva cpt cel cla : Nat) (cty cbo cbg cbh cbd cwaf cwat cwap cwgt cwgc cclk cclt : ClassId) (h0_function : Int32) (h0_depth : Int32) (law : List Value) (aw_globalCount : Int32) (ac_length : Int32) (ac_labelCount : Int32) (gbo : Nat → Int32) (gbg : Nat → Int32) (gbh : Nat → Int32) (gbd : Nat → Int32) (gwaf : Nat → Int32) (gwat : Nat → Int32) (gwap : Nat → Int32) (gwgt : Nat → Int32) (gwgc : Nat → Int32) (gclk : Nat → Int32) (gclt : Nat → Int32) (A : Nat → Prop) (u : (Nat → Int32) × Int32 × Int32) (t : State) : Prop := match u with | (gty, h0_height, h0_sound) => va_P (dC, dI) cls [(h0, .inr (9, [.ref aw, .ref ac, .int h0_sound, .int h0_function, .ref ty, .int h0_height, .ref bo, .ref bg, .ref bh, .ref bd, .int h0_depth])), (aw, .inr (10, law)), (ac, .inr (3, [.ref cfi, .ref clk, .ref clt, .int ac_length, .ref cop, .ref cva, .ref cpt, .ref cel, .int ac_labelCount, .ref cla])), (ty, .inl (cty, 5000, .inl gty)), (bo, .inl (cbo, 101, .inl gbo)), (bg, .inl (cbg, 101, .inl gbg)), (bh, .inl (cbh, 101, .inl gbh)), (bd, .inl (cbd, 101, .inl gbd)), (waf, .inl (cwaf, 30, .inl gwaf)), (wat, .inl (cwat, 20, .inl gwat)), (wap, .inl (cwap, 160, .inl gwap)), (wgt, .inl (cwgt, 20, .inl gwgt)), (wgc, .inl (cwgc, 20, .inl gwgc)), (clk, .inl (cclk, 30, .inl gclk)), (clt, .inl (cclt, 1800, .inl gclt))] t.heap ∧ va_K (dC, dI) cls [(cty, .int), (cbo, .int), (cbg, .int), (cbh, .int), (cbd, .boolean), (cwaf, .int), (cwat, .int), (cwap, .int), (cwgt, .int), (cwgc, .boolean), (cclk, .int), (cclt, .int)] t ∧ va_D A [(h0, .inr (9, [.ref aw, .ref ac, .int h0_sound, .int h0_function, .ref ty, .int h0_height, .ref bo, .ref bg, .ref bh, .ref bd, .int h0_depth])), (aw, .inr (10, law)), (ac, .inr (3, [.ref cfi, .ref clk, .ref clt, .int ac_length, .ref cop, .ref cva, .ref cpt, .ref cel, .int ac_labelCount, .ref cla])), (ty, .inl (cty, 5000, .inl gty)), (bo, .inl (cbo, 101, .inl gbo)), (bg, .inl (cbg, 101, .inl gbg)), (bh, .inl (cbh, 101, .inl gbh)), (bd, .inl (cbd, 101, .inl gbd)), (waf, .inl (cwaf, 30, .inl gwaf)), (wat, .inl (cwat, 20, .inl gwat)), (wap, .inl (cwap, 160, .inl gwap)), (wgt, .inl (cwgt, 20, .inl gwgt)), (wgc, .inl (cwgc, 20, .inl gwgc)), (clk, .inl (cclk, 30, .inl gclk)), (clt, .inl (cclt, 1800, .inl gclt))]
set_option maxHeartbeats 4000000 in
set_option maxRecDepth 100000 in
theorem c_VA_checkVariabley (l : Launch) (dC : Nat → ClassId) (dI : Nat → Nat → Nat) (sz : Nat) (h0 aw ac ty bo bg bh bd wat wap waf wgt wgc cfi clk clt cop cva cpt cel cla : Nat) (cty cbo cbg cbh cbd cwaf cwat cwap cwgt cwgc cclk cclt : ClassId) (h0_sound : Int32) (h0_function : Int32) (h0_height : Int32) (h0_depth : Int32) (law : List Value) (aw_globalCount : Int32) (ac_length : Int32) (ac_labelCount : Int32) (gty : Nat → Int32) (gbo : Nat → Int32) (gbg : Nat → Int32) (gbh : Nat → Int32) (gbd : Nat → Int32) (gwaf : Nat → Int32) (gwat : Nat → Int32) (gwap : Nat → Int32) (gwgt : Nat → Int32) (gwgc : Nat → Int32) (gclk : Nat → Int32) (gclt : Nat → Int32) (S9 : List Nat) (B9 : List zBl) (lo9 : List Nat) (G9 : List (Nat × Nat × Nat)) (paw_1 : law[1]? = some (.ref ac)) (paw_3 : law[3]? = some (.ref wat)) (paw_4 : law[4]? = some (.ref wap)) (paw_7 : law[7]? = some (.ref waf)) (paw_11 : law[11]? = some (.int aw_globalCount)) (paw_12 : law[12]? = some (.ref wgt)) (paw_15 : law[15]? = some (.ref wgc)) (plaw : law.length = 21) (b_h0_sound : h0_sound = 0 ∨ h0_sound = 1) (b_h0_height : 0 ≤ h0_height.toInt ∧ h0_height.toInt ≤ 5000) (b_h0_depth : 0 ≤ h0_depth.toInt ∧ h0_depth.toInt ≤ 101) (b_gty : ∀ j : Nat, (gty j).toInt ≠ 64) (b_gbh : ∀ j : Nat, 0 ≤ (gbh j).toInt ∧ (gbh j).toInt ≤ 5000) (b_aw_globalCount : 0 ≤ aw_globalCount.toInt ∧ aw_globalCount.toInt ≤ 20) (p0 : Int32) (p1 : Int32)  (hv : h0_sound.toInt = 1 → vA S9 B9 h0_height h0_depth gty gbo gbg gbh gbd) (h5 : h0_sound.toInt = 1 → h0_height.toInt < 5000) (hfn : 0 ≤ h0_function.toInt ∧ h0_function.toInt < 30 ∧ (0 ≤ (gwaf h0_function.toNatClampNeg).toInt ∧ (gwaf h0_function.toNatClampNeg).toInt < 20) ∧ (0 ≤ (gwat (gwaf h0_function.toNatClampNeg).toNatClampNeg).toInt ∧ (gwat (gwaf h0_function.toNatClampNeg).toNatClampNeg).toInt ≤ 8 ∧ 0 ≤ (gclk h0_function.toNatClampNeg).toInt ∧ (gclk h0_function.toNatClampNeg).toInt ≤ 60)) (hlo : loA (gwat (gwaf h0_function.toNatClampNeg).toNatClampNeg).toInt (gclk h0_function.toNatClampNeg).toInt (8 * (gwaf h0_function.toNatClampNeg).toInt) (60 * h0_function.toInt) gwap gclt lo9) (hgl : aw_globalCount.toInt = (G9.length : Int) ∧ glB gwgt gwgc G9) (htk : bx (∀ x ∈ G9, (x.1 = 127 ∨ x.1 = 126) ∧ x.2.1 ≤ 1)) (hop : p0.toInt = 26 ∨ p0.toInt = 27 ∨ (32 ≤ p0.toInt ∧ p0.toInt ≤ 36)) (hp1 : 32 ≤ p0.toInt → 0 ≤ p1.toInt) : Met l y_VA_checkVariable w_VA_checkVariable ({ frames := 3, cells := 0, slots := 0, locals := 64 }) (va_Pc [.ref h0, .int p0, .int p1] (fun U => U.heap.size = sz ∧ va_P (dC, dI) cls [(h0, .inr (9, [.ref aw, .ref ac, .int h0_sound, .int h0_function, .ref ty, .int h0_height, .ref bo, .ref bg, .ref bh, .ref bd, .int h0_depth])), (aw, .inr (10, law)), (ac, .inr (3, [.ref cfi, .ref clk, .ref clt, .int ac_length, .ref cop, .ref cva, .ref cpt, .ref cel, .int ac_labelCount, .ref cla])), (ty, .inl (cty, 5000, .inl gty)), (bo, .inl (cbo, 101, .inl gbo)), (bg, .inl (cbg, 101, .inl gbg)), (bh, .inl (cbh, 101, .inl gbh)), (bd, .inl (cbd, 101, .inl gbd)), (waf, .inl (cwaf, 30, .inl gwaf)), (wat, .inl (cwat, 20, .inl gwat)), (wap, .inl (cwap, 160, .inl gwap)), (wgt, .inl (cwgt, 20, .inl gwgt)), (wgc, .inl (cwgc, 20, .inl gwgc)), (clk, .inl (cclk, 30, .inl gclk)), (clt, .inl (cclt, 1800, .inl gclt))] U.heap ∧ va_K (dC, dI) cls [(cty, .int), (cbo, .int), (cbg, .int), (cbh, .int), (cbd, .boolean), (cwaf, .int), (cwat, .int), (cwap, .int), (cwgt, .int), (cwgc, .boolean), (cclk, .int), (cclt, .int)] U ∧ va_D (fun _ => True) [(h0, .inr (9, [.ref aw, .ref ac, .int h0_sound, .int h0_function, .ref ty, .int h0_height, .ref bo, .ref bg, .ref bh, .ref bd, .int h0_depth])), (aw, .inr (10, law)), (ac, .inr (3, [.ref cfi, .ref clk, .ref clt, .int ac_length, .ref cop, .ref cva, .ref cpt, .ref cel, .int ac_labelCount, .ref cla])), (ty, .inl (cty, 5000, .inl gty)), (bo, .inl (cbo, 101, .inl gbo)), (bg, .inl (cbg, 101, .inl gbg)), (bh, .inl (cbh, 101, .inl gbh)), (bd, .inl (cbd, 101, .inl gbd)), (waf, .inl (cwaf, 30, .inl gwaf)), (wat, .inl (cwat, 20, .inl gwat)), (wap, .inl (cwap, 160, .inl gwap)), (wgt, .inl (cwgt, 20, .inl gwgt)), (wgc, .inl (cwgc, 20, .inl gwgc)), (clk, .inl (cclk, 30, .inl gclk)), (clt, .inl (cclt, 1800, .inl gclt))])) (va_Qv (fun (u : (Nat → Int32) × Int32 × Int32) => match u with | (gty2, h0_height2, h0_sound2) => (∀ j : Nat, (gty2 j).toInt ≠ 64) ∧ (0 ≤ h0_height2.toInt ∧ h0_height2.toInt ≤ 5000) ∧ (h0_sound2 = 0 ∨ h0_sound2 = 1) ∧ (h0_height2.toInt ≤ h0_height.toInt + 1 ∧ vsz (vvar G9 lo9 p0.toInt.toNat p1.toInt.toNat S9 B9) h0_sound h0_sound2 h0_height2 h0_depth gty2 gbo gbg gbh gbd)) (at_VA_checkVariabley dC dI h0 aw ac ty bo bg bh bd wat wap waf wgt wgc cfi clk clt cop cva cpt cel cla cty cbo cbg cbh cbd cwaf cwat cwap cwgt cwgc cclk cclt h0_function h0_depth law aw_globalCount ac_length ac_labelCount gbo gbg gbh gbd gwaf gwat gwap gwgt gwgc gclk gclt (va_A [(h0, .inr (9, [.ref aw, .ref ac, .int h0_sound, .int h0_function, .ref ty, .int h0_height, .ref bo, .ref bg, .ref bh, .ref bd, .int h0_depth])), (aw, .inr (10, law)), (ac, .inr (3, [.ref cfi, .ref clk, .ref clt, .int ac_length, .ref cop, .ref cva, .ref cpt, .ref cel, .int ac_labelCount, .ref cla])), (ty, .inl (cty, 5000, .inl gty)), (bo, .inl (cbo, 101, .inl gbo)), (bg, .inl (cbg, 101, .inl gbg)), (bh, .inl (cbh, 101, .inl gbh)), (bd, .inl (cbd, 101, .inl gbd)), (waf, .inl (cwaf, 30, .inl gwaf)), (wat, .inl (cwat, 20, .inl gwat)), (wap, .inl (cwap, 160, .inl gwap)), (wgt, .inl (cwgt, 20, .inl gwgt)), (wgc, .inl (cwgc, 20, .inl gwgc)), (clk, .inl (cclk, 30, .inl gclk)), (clt, .inl (cclt, 1800, .inl gclt))] sz)) (va_A [(h0, .inr (9, [.ref aw, .ref ac, .int h0_sound, .int h0_function, .ref ty, .int h0_height, .ref bo, .ref bg, .ref bh, .ref bd, .int h0_depth])), (aw, .inr (10, law)), (ac, .inr (3, [.ref cfi, .ref clk, .ref clt, .int ac_length, .ref cop, .ref cva, .ref cpt, .ref cel, .int ac_labelCount, .ref cla])), (ty, .inl (cty, 5000, .inl gty)), (bo, .inl (cbo, 101, .inl gbo)), (bg, .inl (cbg, 101, .inl gbg)), (bh, .inl (cbh, 101, .inl gbh)), (bd, .inl (cbd, 101, .inl gbd)), (waf, .inl (cwaf, 30, .inl gwaf)), (wat, .inl (cwat, 20, .inl gwat)), (wap, .inl (cwap, 160, .inl gwap)), (wgt, .inl (cwgt, 20, .inl gwgt)), (wgc, .inl (cwgc, 20, .inl gwgc)), (clk, .inl (cclk, 30, .inl gclk)), (clt, .inl (cclt, 1800, .inl gclt))] sz)) 0 0 (va_A [(h0, .inr (9, [.ref aw, .ref ac, .int h0_sound, .int h0_function, .ref ty, .int h0_height, .ref bo, .ref bg, .ref bh, .ref bd, .int h0_depth])), (aw, .inr (10, law)), (ac, .inr (3, [.ref cfi, .ref clk, .ref clt, .int ac_length, .ref cop, .ref cva, .ref cpt, .ref cel, .int ac_labelCount, .ref cla])), (ty, .inl (cty, 5000, .inl gty)), (bo, .inl (cbo, 101, .inl gbo)), (bg, .inl (cbg, 101, .inl gbg)), (bh, .inl (cbh, 101, .inl gbh)), (bd, .inl (cbd, 101, .inl gbd)), (waf, .inl (cwaf, 30, .inl gwaf)), (wat, .inl (cwat, 20, .inl gwat)), (wap, .inl (cwap, 160, .inl gwap)), (wgt, .inl (cwgt, 20, .inl gwgt)), (wgc, .inl (cwgc, 20, .inl gwgc)), (clk, .inl (cclk, 30, .inl gclk)), (clt, .inl (cclt, 1800, .inl gclt))] sz) := by
  refine Met.ofW (cc := b_VA_checkVariable) (maxL := 5) (ret := none) (by decide) rfl ?_
  intro p e s m args below meth c s₁ B hml hv
  obtain ⟨rfl, hsz, hP, hK, hD0⟩ := hv
  have hx := B.exec
  have hb := B.bytes
  have hr := B.returns
  have hts0 := atoms_spec (ws := w_VA_checkVariable) B.pre
  have hts : ∀ w ∈ lw_g, w.before _ s = true := fun w h => hts0 w (List.mem_cons_of_mem _ h)
  have hown : s.vm.findClass R_VA = some m.cls := findClass_of_methodNamed B.named
  have hlocks := B.notSynchronized
  clear hts0
  subst hsz
  have hD := hD0.self (sz := s.heap.size)
  generalize hAe : va_A [(h0, .inr (9, [.ref aw, .ref ac, .int h0_sound, .int h0_function, .ref ty, .int h0_height, .ref bo, .ref bg, .ref bh, .ref bd, .int h0_depth])), (aw, .inr (10, law)), (ac, .inr (3, [.ref cfi, .ref clk, .ref clt, .int ac_length, .ref cop, .ref cva, .ref cpt, .ref cel, .int ac_labelCount, .ref cla])), (ty, .inl (cty, 5000, .inl gty)), (bo, .inl (cbo, 101, .inl gbo)), (bg, .inl (cbg, 101, .inl gbg)), (bh, .inl (cbh, 101, .inl gbh)), (bd, .inl (cbd, 101, .inl gbd)), (waf, .inl (cwaf, 30, .inl gwaf)), (wat, .inl (cwat, 20, .inl gwat)), (wap, .inl (cwap, 160, .inl gwap)), (wgt, .inl (cwgt, 20, .inl gwgt)), (wgc, .inl (cwgc, 20, .inl gwgc)), (clk, .inl (cclk, 30, .inl gclk)), (clt, .inl (cclt, 1800, .inl gclt))] s.heap.size = A at hD ⊢
  have hA : ∀ q : Nat, s.heap.size ≤ q → A q := fun q h => by rw [← hAe]; exact Or.inr h
  clear hAe
  have hP : va_P (dC, dI) cls [(h0, .inr (9, [.ref aw, .ref ac, .int h0_sound, .int h0_function, .ref ty, .int h0_height, .ref bo, .ref bg, .ref bh, .ref bd, .int h0_depth])), (aw, .inr (10, law)), (ac, .inr (3, [.ref cfi, .ref clk, .ref clt, .int ac_length, .ref cop, .ref cva, .ref cpt, .ref cel, .int ac_labelCount, .ref cla])), (ty, .inl (cty, 5000, .inl gty)), (bo, .inl (cbo, 101, .inl gbo)), (bg, .inl (cbg, 101, .inl gbg)), (bh, .inl (cbh, 101, .inl gbh)), (bd, .inl (cbd, 101, .inl gbd)), (waf, .inl (cwaf, 30, .inl gwaf)), (wat, .inl (cwat, 20, .inl gwat)), (wap, .inl (cwap, 160, .inl gwap)), (wgt, .inl (cwgt, 20, .inl gwgt)), (wgc, .inl (cwgc, 20, .inl gwgc)), (clk, .inl (cclk, 30, .inl gclk)), (clt, .inl (cclt, 1800, .inl gclt))] s.heap := hP
  have hl := lv_entry ([.ref h0, .int p0, .int p1]) (n := 5) (Nat.le_of_ble_eq_true rfl)
  rw [lg_entry_eq]
  generalize (lg_sl ([.ref h0, .int p0, .int p1]) ++ List.replicate (5 - (lg_sl ([.ref h0, .int p0, .int p1])).length) Slot.unset).toArray = ls at hl ⊢
  have hl : lv_has ls 5 [(0, .ref h0), (1, .int p0), (2, .int p1)] := hl
  have k0 : (0 : Int32).toInt = 0 := by decide
  refine w_gen (A := A) hP (fun H locs hP hS => ?_)
  have k1 : (1 : Int32).toInt = 1 := by decide
  have k26 : (26 : Int32).toInt = 26 := by decide
  have k27 : (27 : Int32).toInt = 27 := by decide
  have k32 : (32 : Int32).toInt = 32 := by decide
  have k33 : (33 : Int32).toInt = 33 := by decide
  have k34 : (34 : Int32).toInt = 34 := by decide
  have k35 : (35 : Int32).toInt = 35 := by decide
  have k36 : (36 : Int32).toInt = 36 := by decide
  have lo_p0 := i32_lo p0
  have hi_p0 := i32_hi p0
  have lo_p1 := i32_lo p1
  have hi_p1 := i32_hi p1
  have th0_sound := b01 b_h0_sound
  have c9 := i32_clamp (x := h0_function) (by (first | (apply Int.le_antisymm <;> omega) | omega))
  refine lv_iload_n hx hb d_VA_checkVariable_0 rfl (lv_at hl 1 rfl) ?_
  refine lv_bipush (v := 26) hx hb d_VA_checkVariable_1 (by decide) ?_
  refine lv_icmp_ne (tgt := 12) hx hb d_VA_checkVariable_3 (by decide) (fun c3 => ?_) (fun c3 => ?_)
  · have q3 := neI c3
    refine lv_iload_n hx hb d_VA_checkVariable_12 rfl (lv_at hl 1 rfl) ?_
    refine lv_bipush (v := 27) hx hb d_VA_checkVariable_13 (by decide) ?_
    refine lv_icmp_ne (tgt := 23) hx hb d_VA_checkVariable_15 (by decide) (fun c15 => ?_) (fun c15 => ?_)
    · have q15 := neI c15
      refine lv_iload_n hx hb d_VA_checkVariable_23 rfl (lv_at hl 1 rfl) ?_
      refine lv_bipush (v := 35) hx hb d_VA_checkVariable_24 (by decide) ?_
      refine lv_icmp_lt (tgt := 33) hx hb d_VA_checkVariable_26 (by decide) (fun c26 => ?_) (fun c26 => ?_)
      · have q26 := ltI c26
        refine lv_iconst (v := 0) hx hb d_VA_checkVariable_33 (by decide) ?_
        refine lv_istore_n (lv' := [(3, .int 0), (0, .ref h0), (1, .int p0), (2, .int p1)]) hx hb d_VA_checkVariable_34 rfl hl (by decide) rfl (fun ls hl => ?_)
        refine lv_iload_n hx hb d_VA_checkVariable_35 rfl (lv_at hl 0 rfl) ?_
        refine w_cut (pc2 := 78) (σ := Int32) (fun u H locs ls => match u with | j78_s0 => (vtz (vtyp G9 lo9 p0.toInt.toNat p1.toInt.toNat) j78_s0) ∧ va_P (dC, dI) cls [(h0, .inr (9, [.ref aw, .ref ac, .int h0_sound, .int h0_function, .ref ty, .int h0_height, .ref bo, .ref bg, .ref bh, .ref bd, .int h0_depth])), (aw, .inr (10, law)), (ac, .inr (3, [.ref cfi, .ref clk, .ref clt, .int ac_length, .ref cop, .ref cva, .ref cpt, .ref cel, .int ac_labelCount, .ref cla])), (ty, .inl (cty, 5000, .inl gty)), (bo, .inl (cbo, 101, .inl gbo)), (bg, .inl (cbg, 101, .inl gbg)), (bh, .inl (cbh, 101, .inl gbh)), (bd, .inl (cbd, 101, .inl gbd)), (waf, .inl (cwaf, 30, .inl gwaf)), (wat, .inl (cwat, 20, .inl gwat)), (wap, .inl (cwap, 160, .inl gwap)), (wgt, .inl (cwgt, 20, .inl gwgt)), (wgc, .inl (cwgc, 20, .inl gwgc)), (clk, .inl (cclk, 30, .inl gclk)), (clt, .inl (cclt, 1800, .inl gclt))] H ∧ va_D A [(h0, .inr (9, [.ref aw, .ref ac, .int h0_sound, .int h0_function, .ref ty, .int h0_height, .ref bo, .ref bg, .ref bh, .ref bd, .int h0_depth])), (aw, .inr (10, law)), (ac, .inr (3, [.ref cfi, .ref clk, .ref clt, .int ac_length, .ref cop, .ref cva, .ref cpt, .ref cel, .int ac_labelCount, .ref cla])), (ty, .inl (cty, 5000, .inl gty)), (bo, .inl (cbo, 101, .inl gbo)), (bg, .inl (cbg, 101, .inl gbg)), (bh, .inl (cbh, 101, .inl gbh)), (bd, .inl (cbd, 101, .inl gbd)), (waf, .inl (cwaf, 30, .inl gwaf)), (wat, .inl (cwat, 20, .inl gwat)), (wap, .inl (cwap, 160, .inl gwap)), (wgt, .inl (cwgt, 20, .inl gwgt)), (wgc, .inl (cwgc, 20, .inl gwgc)), (clk, .inl (cclk, 30, .inl gclk)), (clt, .inl (cclt, 1800, .inl gclt))] ∧ va_S A s.heap H locs ∧ lv_has ls 5 [(0, .ref h0), (1, .int p0), (2, .int p1)]) (fun u => match u with | j78_s0 => [.int j78_s0]) ?_ (fun jn78 => ?_)
        · intro u H locs ls hI
          obtain ⟨j78_s0, rfl⟩ : ∃ z, z = u := ⟨_, rfl⟩
          obtain ⟨y78, hP, hD, hS, hl⟩ := hI
          refine lv_istore (lv' := [(4, .int j78_s0), (0, .ref h0), (1, .int p0), (2, .int p1)]) hx hb d_VA_checkVariable_78 hl (by decide) rfl (fun ls hl => ?_)
          refine lv_iload hx hb d_VA_checkVariable_80 (lv_at hl 0 rfl) ?_
          refine lv_if_eq (tgt := 103) hx hb d_VA_checkVariable_82 (by decide) (fun c82 => ?_) (fun c82 => ?_)
          · have q82 := eqI c82
            refine lv_aload_n hx hb d_VA_checkVariable_103 rfl (lv_at hl 1 rfl) ?_
            refine lv_iconst (v := 0) hx hb d_VA_checkVariable_104 (by decide) ?_
            refine va_put (D := (dC, dI)) (ci := 9) (v := .int 0) (ty := .boolean) (C := R_VA) (T := F_VA) (N := 11) hx hb hts i_VA t_VA t_VA_ok n_VA hown hK hP hD hS 0 rfl rfl 2 (by decide) (hts _ kF_VA_39) (fun _ h9 => h9) rfl (by decide +kernel) rfl rfl (Nat.le_of_ble_eq_true rfl) d_VA_checkVariable_105 (fun H locs hP hD hS => ?_)
            have hP9 := hP.sb (wq := [(h0, .inr (9, [.ref aw, .ref ac, .int 0, .int h0_function, .ref ty, .int h0_height, .ref bo, .ref bg, .ref bh, .ref bd, .int h0_depth])), (aw, .inr (10, law)), (ac, .inr (3, [.ref cfi, .ref clk, .ref clt, .int ac_length, .ref cop, .ref cva, .ref cpt, .ref cel, .int ac_labelCount, .ref cla])), (ty, .inl (cty, 5000, .inl gty)), (bo, .inl (cbo, 101, .inl gbo)), (bg, .inl (cbg, 101, .inl gbg)), (bh, .inl (cbh, 101, .inl gbh)), (bd, .inl (cbd, 101, .inl gbd)), (waf, .inl (cwaf, 30, .inl gwaf)), (wat, .inl (cwat, 20, .inl gwat)), (wap, .inl (cwap, 160, .inl gwap)), (wgt, .inl (cwgt, 20, .inl gwgt)), (wgc, .inl (cwgc, 20, .inl gwgc)), (clk, .inl (cclk, 30, .inl gclk)), (clt, .inl (cclt, 1800, .inl gclt))]) [0, 1, 2, 3, 4, 5, 6, 7, 8, 9, 10, 11, 12, 13, 14] rfl
            have hD9 := hD.sb (wq := [(h0, .inr (9, [.ref aw, .ref ac, .int 0, .int h0_function, .ref ty, .int h0_height, .ref bo, .ref bg, .ref bh, .ref bd, .int h0_depth])), (aw, .inr (10, law)), (ac, .inr (3, [.ref cfi, .ref clk, .ref clt, .int ac_length, .ref cop, .ref cva, .ref cpt, .ref cel, .int ac_labelCount, .ref cla])), (ty, .inl (cty, 5000, .inl gty)), (bo, .inl (cbo, 101, .inl gbo)), (bg, .inl (cbg, 101, .inl gbg)), (bh, .inl (cbh, 101, .inl gbh)), (bd, .inl (cbd, 101, .inl gbd)), (waf, .inl (cwaf, 30, .inl gwaf)), (wat, .inl (cwat, 20, .inl gwat)), (wap, .inl (cwap, 160, .inl gwap)), (wgt, .inl (cwgt, 20, .inl gwgt)), (wgc, .inl (cwgc, 20, .inl gwgc)), (clk, .inl (cclk, 30, .inl gclk)), (clt, .inl (cclt, 1800, .inl gclt))]) [0, 1, 2, 3, 4, 5, 6, 7, 8, 9, 10, 11, 12, 13, 14] (by decide) rfl
            exact W.vret hx hb hr (fun t ht hW => ⟨⟨(gty, h0_height, 0), rfl, ⟨b_gty, b_h0_height, Or.inl rfl, ⟨by (try dsimp only) <;> (first | (apply Int.le_antisymm <;> omega) | omega), [], [], Or.inr ⟨by decide, fun _ => vr_n (t := j78_s0) (by (first | (apply Int.le_antisymm <;> omega) | omega)) y78 (by exact Or.inl (by (first | (apply Int.le_antisymm <;> omega) | omega)))⟩⟩⟩, va_P.he ht.symm hP9, va_K.moved hW.alike hK, hD9⟩, hS.F ht⟩) hS.2.2 d_VA_checkVariable_108
          · have q82 := neI c82
            refine lv_iload_n hx hb d_VA_checkVariable_85 rfl (lv_at hl 2 rfl) ?_
            refine lv_bipush (v := 36) hx hb d_VA_checkVariable_86 (by decide) ?_
            refine w_cut (pc2 := 109) (σ := Unit) (fun u H locs ls => match u with | _ => (bx (p0.toInt = 36 → (gwgc p1.toNatClampNeg).toInt = 1)) ∧ va_P (dC, dI) cls [(h0, .inr (9, [.ref aw, .ref ac, .int h0_sound, .int h0_function, .ref ty, .int h0_height, .ref bo, .ref bg, .ref bh, .ref bd, .int h0_depth])), (aw, .inr (10, law)), (ac, .inr (3, [.ref cfi, .ref clk, .ref clt, .int ac_length, .ref cop, .ref cva, .ref cpt, .ref cel, .int ac_labelCount, .ref cla])), (ty, .inl (cty, 5000, .inl gty)), (bo, .inl (cbo, 101, .inl gbo)), (bg, .inl (cbg, 101, .inl gbg)), (bh, .inl (cbh, 101, .inl gbh)), (bd, .inl (cbd, 101, .inl gbd)), (waf, .inl (cwaf, 30, .inl gwaf)), (wat, .inl (cwat, 20, .inl gwat)), (wap, .inl (cwap, 160, .inl gwap)), (wgt, .inl (cwgt, 20, .inl gwgt)), (wgc, .inl (cwgc, 20, .inl gwgc)), (clk, .inl (cclk, 30, .inl gclk)), (clt, .inl (cclt, 1800, .inl gclt))] H ∧ va_D A [(h0, .inr (9, [.ref aw, .ref ac, .int h0_sound, .int h0_function, .ref ty, .int h0_height, .ref bo, .ref bg, .ref bh, .ref bd, .int h0_depth])), (aw, .inr (10, law)), (ac, .inr (3, [.ref cfi, .ref clk, .ref clt, .int ac_length, .ref cop, .ref cva, .ref cpt, .ref cel, .int ac_labelCount, .ref cla])), (ty, .inl (cty, 5000, .inl gty)), (bo, .inl (cbo, 101, .inl gbo)), (bg, .inl (cbg, 101, .inl gbg)), (bh, .inl (cbh, 101, .inl gbh)), (bd, .inl (cbd, 101, .inl gbd)), (waf, .inl (cwaf, 30, .inl gwaf)), (wat, .inl (cwat, 20, .inl gwat)), (wap, .inl (cwap, 160, .inl gwap)), (wgt, .inl (cwgt, 20, .inl gwgt)), (wgc, .inl (cwgc, 20, .inl gwgc)), (clk, .inl (cclk, 30, .inl gclk)), (clt, .inl (cclt, 1800, .inl gclt))] ∧ va_S A s.heap H locs ∧ lv_has ls 5 [(0, .ref h0), (1, .int p0), (4, .int j78_s0)]) (fun u => match u with | _ => []) ?_ (fun jn109 => ?_)
            · intro u H locs ls hI
              obtain ⟨y109, hP, hD, hS, hl⟩ := hI
              refine lv_iload_n hx hb d_VA_checkVariable_109 rfl (lv_at hl 1 rfl) ?_
              refine lv_bipush (v := 33) hx hb d_VA_checkVariable_110 (by decide) ?_
              refine w_cut (pc2 := 127) (σ := Unit) (fun u H locs ls => match u with | _ => (p0.toInt = 33 ∨ p0.toInt = 34 ∨ p0.toInt = 36) ∧ va_P (dC, dI) cls [(h0, .inr (9, [.ref aw, .ref ac, .int h0_sound, .int h0_function, .ref ty, .int h0_height, .ref bo, .ref bg, .ref bh, .ref bd, .int h0_depth])), (aw, .inr (10, law)), (ac, .inr (3, [.ref cfi, .ref clk, .ref clt, .int ac_length, .ref cop, .ref cva, .ref cpt, .ref cel, .int ac_labelCount, .ref cla])), (ty, .inl (cty, 5000, .inl gty)), (bo, .inl (cbo, 101, .inl gbo)), (bg, .inl (cbg, 101, .inl gbg)), (bh, .inl (cbh, 101, .inl gbh)), (bd, .inl (cbd, 101, .inl gbd)), (waf, .inl (cwaf, 30, .inl gwaf)), (wat, .inl (cwat, 20, .inl gwat)), (wap, .inl (cwap, 160, .inl gwap)), (wgt, .inl (cwgt, 20, .inl gwgt)), (wgc, .inl (cwgc, 20, .inl gwgc)), (clk, .inl (cclk, 30, .inl gclk)), (clt, .inl (cclt, 1800, .inl gclt))] H ∧ va_D A [(h0, .inr (9, [.ref aw, .ref ac, .int h0_sound, .int h0_function, .ref ty, .int h0_height, .ref bo, .ref bg, .ref bh, .ref bd, .int h0_depth])), (aw, .inr (10, law)), (ac, .inr (3, [.ref cfi, .ref clk, .ref clt, .int ac_length, .ref cop, .ref cva, .ref cpt, .ref cel, .int ac_labelCount, .ref cla])), (ty, .inl (cty, 5000, .inl gty)), (bo, .inl (cbo, 101, .inl gbo)), (bg, .inl (cbg, 101, .inl gbg)), (bh, .inl (cbh, 101, .inl gbh)), (bd, .inl (cbd, 101, .inl gbd)), (waf, .inl (cwaf, 30, .inl gwaf)), (wat, .inl (cwat, 20, .inl gwat)), (wap, .inl (cwap, 160, .inl gwap)), (wgt, .inl (cwgt, 20, .inl gwgt)), (wgc, .inl (cwgc, 20, .inl gwgc)), (clk, .inl (cclk, 30, .inl gclk)), (clt, .inl (cclt, 1800, .inl gclt))] ∧ va_S A s.heap H locs ∧ lv_has ls 5 [(0, .ref h0), (1, .int p0), (4, .int j78_s0)]) (fun u => match u with | _ => []) ?_ (fun jn127 => ?_)
              · intro u H locs ls hI
                obtain ⟨y127, hP, hD, hS, hl⟩ := hI
                refine lv_aload_n hx hb d_VA_checkVariable_127 rfl (lv_at hl 0 rfl) ?_
                refine lv_iload hx hb d_VA_checkVariable_128 (lv_at hl 2 rfl) ?_
                have hPc := hP.sb (wq := (wz_86 h0 aw ac h0_sound h0_function ty h0_height bo bg bh bd h0_depth ty cty gty bo cbo gbo bg cbg gbg bh cbh gbh bd cbd gbd)) [0, 3, 4, 5, 6, 7] rfl
                have hDc := hD.sb (wq := (wz_86 h0 aw ac h0_sound h0_function ty h0_height bo bg bh bd h0_depth ty cty gty bo cbo gbo bg cbg gbg bh cbh gbh bd cbd gbd)) [0, 3, 4, 5, 6, 7] (by decide) rfl
                have hKc := hK.sb (tyq := [(cty, .int), (cbo, .int), (cbg, .int), (cbh, .int), (cbd, .boolean)]) [0, 1, 2, 3, 4] rfl
                have hFc := va_free (wc := (wz_86 h0 aw ac h0_sound h0_function ty h0_height bo bg bh bd h0_depth ty cty gty bo cbo gbo bg cbg gbg bh cbh gbh bd cbd gbd)) hD hS hA [0, 3, 4, 5, 6, 7] rfl
                refine va_callv (va_runV (As := [.int j78_s0]) (rest := []) ⟨hx, hb, hml, hown, hts⟩ (c_VA_popy l dC dI H.size h0 aw ac ty bo bg bh bd cty cbo cbg cbh cbd h0_sound h0_function h0_height h0_depth gty gbo gbg gbh gbd S9 B9 (b_h0_sound) (b_h0_height) (b_h0_depth) (b_gty) (b_gbh) j78_s0 (hv) ((fun _ => by rcases y78 with z | ⟨k, z1, z2, z3⟩; ((first | (apply Int.le_antisymm <;> omega) | omega)); ((first | (apply Int.le_antisymm <;> omega) | omega))))) (cwV 1 hts (gV kM_VA_161 kV_VA_pop kS_VA_pop kI_VA kC_VA_pop) rfl rfl rfl (by decide +kernel) ⟨Nat.le_of_ble_eq_true rfl, Nat.le_of_ble_eq_true rfl⟩) ⟨fun a U g mk z => by obtain ⟨z0, z1, zP, zK, zD⟩ := z; exact ⟨z0, z1, zP, va_K.moved (u := U) (U := U.calling g mk a) (Vm.Alike.refl U.vm) zK, zD⟩, va_recv hKc hPc (ci := 9) (q0 := 0) rfl rfl, fun U hU hW => ⟨rfl, by rw [hU], va_P.he hU.symm hPc, va_K.moved hW.alike hKc, hDc.weaken (fun _ _ _ _ => trivial)⟩⟩ rfl rfl hl.1 rfl (lv_room (Nat.le_of_ble_eq_true rfl)) d_VA_checkVariable_130 ⟨(Nat.zero_le _), (Nat.zero_le _)⟩) hS (fun q _ h => hFc q h) hFc (fun u t H1 locs ht hvm hw hB hz1 hk1 hS => ?_)
                obtain ⟨n2, n3⟩ := u
                try dsimp only at hw
                obtain ⟨bn2, bn3, xr1⟩ := hw
                try clear hw
                have tn3 := b01 bn3
                have hl130 := xr1.1
                obtain ⟨S_130, q_130, w_130⟩ := vwz_1 xr1.2
                have ql130 : n3.toInt = 1 → h0_sound.toInt = 1 := by rcases q_130 with z2 | z2; (exact fun _ => z2.2.1); (exact fun z => absurd z2.1 (by (first | (apply Int.le_antisymm <;> omega) | omega)))
                clear xr1
                obtain ⟨hP1, hK1, hD1⟩ := hB
                replace hP1 := va_P.he ht hP1
                obtain ⟨hP, hD⟩ := va_join (wr := (wz_76 aw law ac cfi clk clt ac_length cop cva cpt cel ac_labelCount cla waf cwaf gwaf wat cwat gwat wap cwap gwap wgt cwgt gwgt wgc cwgc gwgc clk cclk gclk clt cclt gclt)) (w1 := (wz_86 h0 aw ac n3 h0_function ty n2 bo bg bh bd h0_depth ty cty gty bo cbo gbo bg cbg gbg bh cbh gbh bd cbd gbd)) hP hD [0, 3, 4, 5, 6, 7] [1, 2, 8, 9, 10, 11, 12, 13, 14] rfl rfl (by decide) (by decide) hk1 hFc hP1 hD1
                clear hPc hDc hKc hFc hz1 hk1 hP1 hK1 hD1
                rename Heap => H
                have hP : va_P (dC, dI) cls [(aw, .inr (10, law)), (ac, .inr (3, [.ref cfi, .ref clk, .ref clt, .int ac_length, .ref cop, .ref cva, .ref cpt, .ref cel, .int ac_labelCount, .ref cla])), (waf, .inl (cwaf, 30, .inl gwaf)), (wat, .inl (cwat, 20, .inl gwat)), (wap, .inl (cwap, 160, .inl gwap)), (wgt, .inl (cwgt, 20, .inl gwgt)), (wgc, .inl (cwgc, 20, .inl gwgc)), (clk, .inl (cclk, 30, .inl gclk)), (clt, .inl (cclt, 1800, .inl gclt)), (h0, .inr (9, [.ref aw, .ref ac, .int n3, .int h0_function, .ref ty, .int n2, .ref bo, .ref bg, .ref bh, .ref bd, .int h0_depth])), (ty, .inl (cty, 5000, .inl gty)), (bo, .inl (cbo, 101, .inl gbo)), (bg, .inl (cbg, 101, .inl gbg)), (bh, .inl (cbh, 101, .inl gbh)), (bd, .inl (cbd, 101, .inl gbd))] H := hP
                have hD : va_D A [(aw, .inr (10, law)), (ac, .inr (3, [.ref cfi, .ref clk, .ref clt, .int ac_length, .ref cop, .ref cva, .ref cpt, .ref cel, .int ac_labelCount, .ref cla])), (waf, .inl (cwaf, 30, .inl gwaf)), (wat, .inl (cwat, 20, .inl gwat)), (wap, .inl (cwap, 160, .inl gwap)), (wgt, .inl (cwgt, 20, .inl gwgt)), (wgc, .inl (cwgc, 20, .inl gwgc)), (clk, .inl (cclk, 30, .inl gclk)), (clt, .inl (cclt, 1800, .inl gclt)), (h0, .inr (9, [.ref aw, .ref ac, .int n3, .int h0_function, .ref ty, .int n2, .ref bo, .ref bg, .ref bh, .ref bd, .int h0_depth])), (ty, .inl (cty, 5000, .inl gty)), (bo, .inl (cbo, 101, .inl gbo)), (bg, .inl (cbg, 101, .inl gbg)), (bh, .inl (cbh, 101, .inl gbh)), (bd, .inl (cbd, 101, .inl gbd))] := hD
                refine lv_iload_n hx hb d_VA_checkVariable_133 rfl (lv_at hl 1 rfl) ?_
                refine lv_bipush (v := 32) hx hb d_VA_checkVariable_134 (by decide) ?_
                refine lv_icmp_eq (tgt := 151) hx hb d_VA_checkVariable_136 (by decide) (fun c136 => ?_) (fun c136 => ?_)
                · have q136 := eqI c136
                  refine lv_aload_n hx hb d_VA_checkVariable_151 rfl (lv_at hl 0 rfl) ?_
                  refine lv_iload hx hb d_VA_checkVariable_152 (lv_at hl 2 rfl) ?_
                  have hPc := hP.sb (wq := (wz_86 h0 aw ac n3 h0_function ty n2 bo bg bh bd h0_depth ty cty gty bo cbo gbo bg cbg gbg bh cbh gbh bd cbd gbd)) [9, 10, 11, 12, 13, 14] rfl
                  have hDc := hD.sb (wq := (wz_86 h0 aw ac n3 h0_function ty n2 bo bg bh bd h0_depth ty cty gty bo cbo gbo bg cbg gbg bh cbh gbh bd cbd gbd)) [9, 10, 11, 12, 13, 14] (by decide) rfl
                  have hKc := hK.sb (tyq := [(cty, .int), (cbo, .int), (cbg, .int), (cbh, .int), (cbd, .boolean)]) [0, 1, 2, 3, 4] rfl
                  have hFc := va_free (wc := (wz_86 h0 aw ac n3 h0_function ty n2 bo bg bh bd h0_depth ty cty gty bo cbo gbo bg cbg gbg bh cbh gbh bd cbd gbd)) hD hS hA [9, 10, 11, 12, 13, 14] rfl
                  refine va_callv (va_runV (As := [.int j78_s0]) (rest := []) ⟨hx, hb, hml, hown, hts⟩ (c_VA_pushy l dC dI H.size h0 aw ac ty bo bg bh bd cty cbo cbg cbh cbd n3 h0_function n2 h0_depth gty gbo gbg gbh gbd S_130 B9 (bn3) (bn2) (b_h0_depth) (b_gty) (b_gbh) j78_s0 (w_130) ((fun _ => by rcases y78 with z | ⟨k, z1, z2, z3⟩; ((first | (apply Int.le_antisymm <;> omega) | omega)); ((first | (apply Int.le_antisymm <;> omega) | omega)))) ((fun z => by have := h5 (by (first | (apply Int.le_antisymm <;> omega) | omega)); (first | (apply Int.le_antisymm <;> omega) | omega)))) (cwV 1 hts (gV kM_VA_167 kV_VA_push kS_VA_push kI_VA kC_VA_push) rfl rfl rfl (by decide +kernel) ⟨Nat.le_of_ble_eq_true rfl, Nat.le_of_ble_eq_true rfl⟩) ⟨fun a U g mk z => by obtain ⟨z0, z1, zP, zK, zD⟩ := z; exact ⟨z0, z1, zP, va_K.moved (u := U) (U := U.calling g mk a) (Vm.Alike.refl U.vm) zK, zD⟩, va_recv hKc hPc (ci := 9) (q0 := 0) rfl rfl, fun U hU hW => ⟨rfl, by rw [hU], va_P.he hU.symm hPc, va_K.moved hW.alike hKc, hDc.weaken (fun _ _ _ _ => trivial)⟩⟩ rfl rfl hl.1 rfl (lv_room (Nat.le_of_ble_eq_true rfl)) d_VA_checkVariable_154 ⟨(Nat.zero_le _), (Nat.zero_le _)⟩) hS (fun q _ h => hFc q h) hFc (fun u t H1 locs ht hvm hw hB hz1 hk1 hS => ?_)
                  obtain ⟨n5, n6⟩ := u
                  try dsimp only at hw
                  obtain ⟨bn5, bn6, xr4⟩ := hw
                  try clear hw
                  have hl154 := xr4.1
                  have w_154 := xr4.2
                  clear xr4
                  obtain ⟨hP1, hK1, hD1⟩ := hB
                  replace hP1 := va_P.he ht hP1
                  obtain ⟨hP, hD⟩ := va_join (wr := (wz_76 aw law ac cfi clk clt ac_length cop cva cpt cel ac_labelCount cla waf cwaf gwaf wat cwat gwat wap cwap gwap wgt cwgt gwgt wgc cwgc gwgc clk cclk gclk clt cclt gclt)) (w1 := (wz_86 h0 aw ac n3 h0_function ty n6 bo bg bh bd h0_depth ty cty n5 bo cbo gbo bg cbg gbg bh cbh gbh bd cbd gbd)) hP hD [9, 10, 11, 12, 13, 14] [0, 1, 2, 3, 4, 5, 6, 7, 8] rfl rfl (by decide) (by decide) hk1 hFc hP1 hD1
                  clear hPc hDc hKc hFc hz1 hk1 hP1 hK1 hD1
                  rename Heap => H
                  have hP : va_P (dC, dI) cls [(aw, .inr (10, law)), (ac, .inr (3, [.ref cfi, .ref clk, .ref clt, .int ac_length, .ref cop, .ref cva, .ref cpt, .ref cel, .int ac_labelCount, .ref cla])), (waf, .inl (cwaf, 30, .inl gwaf)), (wat, .inl (cwat, 20, .inl gwat)), (wap, .inl (cwap, 160, .inl gwap)), (wgt, .inl (cwgt, 20, .inl gwgt)), (wgc, .inl (cwgc, 20, .inl gwgc)), (clk, .inl (cclk, 30, .inl gclk)), (clt, .inl (cclt, 1800, .inl gclt)), (h0, .inr (9, [.ref aw, .ref ac, .int n3, .int h0_function, .ref ty, .int n6, .ref bo, .ref bg, .ref bh, .ref bd, .int h0_depth])), (ty, .inl (cty, 5000, .inl n5)), (bo, .inl (cbo, 101, .inl gbo)), (bg, .inl (cbg, 101, .inl gbg)), (bh, .inl (cbh, 101, .inl gbh)), (bd, .inl (cbd, 101, .inl gbd))] H := hP
                  have hD : va_D A [(aw, .inr (10, law)), (ac, .inr (3, [.ref cfi, .ref clk, .ref clt, .int ac_length, .ref cop, .ref cva, .ref cpt, .ref cel, .int ac_labelCount, .ref cla])), (waf, .inl (cwaf, 30, .inl gwaf)), (wat, .inl (cwat, 20, .inl gwat)), (wap, .inl (cwap, 160, .inl gwap)), (wgt, .inl (cwgt, 20, .inl gwgt)), (wgc, .inl (cwgc, 20, .inl gwgc)), (clk, .inl (cclk, 30, .inl gclk)), (clt, .inl (cclt, 1800, .inl gclt)), (h0, .inr (9, [.ref aw, .ref ac, .int n3, .int h0_function, .ref ty, .int n6, .ref bo, .ref bg, .ref bh, .ref bd, .int h0_depth])), (ty, .inl (cty, 5000, .inl n5)), (bo, .inl (cbo, 101, .inl gbo)), (bg, .inl (cbg, 101, .inl gbg)), (bh, .inl (cbh, 101, .inl gbh)), (bd, .inl (cbd, 101, .inl gbd))] := hD
                  have hP9 := hP.sb (wq := [(h0, .inr (9, [.ref aw, .ref ac, .int n3, .int h0_function, .ref ty, .int n6, .ref bo, .ref bg, .ref bh, .ref bd, .int h0_depth])), (aw, .inr (10, law)), (ac, .inr (3, [.ref cfi, .ref clk, .ref clt, .int ac_length, .ref cop, .ref cva, .ref cpt, .ref cel, .int ac_labelCount, .ref cla])), (ty, .inl (cty, 5000, .inl n5)), (bo, .inl (cbo, 101, .inl gbo)), (bg, .inl (cbg, 101, .inl gbg)), (bh, .inl (cbh, 101, .inl gbh)), (bd, .inl (cbd, 101, .inl gbd)), (waf, .inl (cwaf, 30, .inl gwaf)), (wat, .inl (cwat, 20, .inl gwat)), (wap, .inl (cwap, 160, .inl gwap)), (wgt, .inl (cwgt, 20, .inl gwgt)), (wgc, .inl (cwgc, 20, .inl gwgc)), (clk, .inl (cclk, 30, .inl gclk)), (clt, .inl (cclt, 1800, .inl gclt))]) [9, 0, 1, 10, 11, 12, 13, 14, 2, 3, 4, 5, 6, 7, 8] rfl
                  have hD9 := hD.sb (wq := [(h0, .inr (9, [.ref aw, .ref ac, .int n3, .int h0_function, .ref ty, .int n6, .ref bo, .ref bg, .ref bh, .ref bd, .int h0_depth])), (aw, .inr (10, law)), (ac, .inr (3, [.ref cfi, .ref clk, .ref clt, .int ac_length, .ref cop, .ref cva, .ref cpt, .ref cel, .int ac_labelCount, .ref cla])), (ty, .inl (cty, 5000, .inl n5)), (bo, .inl (cbo, 101, .inl gbo)), (bg, .inl (cbg, 101, .inl gbg)), (bh, .inl (cbh, 101, .inl gbh)), (bd, .inl (cbd, 101, .inl gbd)), (waf, .inl (cwaf, 30, .inl gwaf)), (wat, .inl (cwat, 20, .inl gwat)), (wap, .inl (cwap, 160, .inl gwap)), (wgt, .inl (cwgt, 20, .inl gwgt)), (wgc, .inl (cwgc, 20, .inl gwgc)), (clk, .inl (cclk, 30, .inl gclk)), (clt, .inl (cclt, 1800, .inl gclt))]) [9, 0, 1, 10, 11, 12, 13, 14, 2, 3, 4, 5, 6, 7, 8] (by decide) rfl
                  exact W.vret hx hb hr (fun t ht hW => ⟨⟨(n5, n6, n3), rfl, ⟨bn5, bn6, bn3, ⟨by (try dsimp only) <;> (first | (apply Int.le_antisymm <;> omega) | omega), vr_t (t := j78_s0) (by (first | (apply Int.le_antisymm <;> omega) | omega)) y78 (by (first | (apply Int.le_antisymm <;> omega) | omega)) q_130 w_154⟩⟩, va_P.he ht.symm hP9, va_K.moved hW.alike hK, hD9⟩, hS.F ht⟩) hS.2.2 d_VA_checkVariable_157
                · have q136 := neI c136
                  refine lv_iload_n hx hb d_VA_checkVariable_139 rfl (lv_at hl 1 rfl) ?_
                  refine lv_bipush (v := 34) hx hb d_VA_checkVariable_140 (by decide) ?_
                  refine lv_icmp_eq (tgt := 151) hx hb d_VA_checkVariable_142 (by decide) (fun c142 => ?_) (fun c142 => ?_)
                  · have q142 := eqI c142
                    refine lv_aload_n hx hb d_VA_checkVariable_151 rfl (lv_at hl 0 rfl) ?_
                    refine lv_iload hx hb d_VA_checkVariable_152 (lv_at hl 2 rfl) ?_
                    have hPc := hP.sb (wq := (wz_86 h0 aw ac n3 h0_function ty n2 bo bg bh bd h0_depth ty cty gty bo cbo gbo bg cbg gbg bh cbh gbh bd cbd gbd)) [9, 10, 11, 12, 13, 14] rfl
                    have hDc := hD.sb (wq := (wz_86 h0 aw ac n3 h0_function ty n2 bo bg bh bd h0_depth ty cty gty bo cbo gbo bg cbg gbg bh cbh gbh bd cbd gbd)) [9, 10, 11, 12, 13, 14] (by decide) rfl
                    have hKc := hK.sb (tyq := [(cty, .int), (cbo, .int), (cbg, .int), (cbh, .int), (cbd, .boolean)]) [0, 1, 2, 3, 4] rfl
                    have hFc := va_free (wc := (wz_86 h0 aw ac n3 h0_function ty n2 bo bg bh bd h0_depth ty cty gty bo cbo gbo bg cbg gbg bh cbh gbh bd cbd gbd)) hD hS hA [9, 10, 11, 12, 13, 14] rfl
                    refine va_callv (va_runV (As := [.int j78_s0]) (rest := []) ⟨hx, hb, hml, hown, hts⟩ (c_VA_pushy l dC dI H.size h0 aw ac ty bo bg bh bd cty cbo cbg cbh cbd n3 h0_function n2 h0_depth gty gbo gbg gbh gbd S_130 B9 (bn3) (bn2) (b_h0_depth) (b_gty) (b_gbh) j78_s0 (w_130) ((fun _ => by rcases y78 with z | ⟨k, z1, z2, z3⟩; ((first | (apply Int.le_antisymm <;> omega) | omega)); ((first | (apply Int.le_antisymm <;> omega) | omega)))) ((fun z => by have := h5 (by (first | (apply Int.le_antisymm <;> omega) | omega)); (first | (apply Int.le_antisymm <;> omega) | omega)))) (cwV 1 hts (gV kM_VA_167 kV_VA_push kS_VA_push kI_VA kC_VA_push) rfl rfl rfl (by decide +kernel) ⟨Nat.le_of_ble_eq_true rfl, Nat.le_of_ble_eq_true rfl⟩) ⟨fun a U g mk z => by obtain ⟨z0, z1, zP, zK, zD⟩ := z; exact ⟨z0, z1, zP, va_K.moved (u := U) (U := U.calling g mk a) (Vm.Alike.refl U.vm) zK, zD⟩, va_recv hKc hPc (ci := 9) (q0 := 0) rfl rfl, fun U hU hW => ⟨rfl, by rw [hU], va_P.he hU.symm hPc, va_K.moved hW.alike hKc, hDc.weaken (fun _ _ _ _ => trivial)⟩⟩ rfl rfl hl.1 rfl (lv_room (Nat.le_of_ble_eq_true rfl)) d_VA_checkVariable_154 ⟨(Nat.zero_le _), (Nat.zero_le _)⟩) hS (fun q _ h => hFc q h) hFc (fun u t H1 locs ht hvm hw hB hz1 hk1 hS => ?_)
                    obtain ⟨n8, n9⟩ := u
                    try dsimp only at hw
                    obtain ⟨bn8, bn9, xr7⟩ := hw
                    try clear hw
                    have hl154 := xr7.1
                    have w_154 := xr7.2
                    clear xr7
                    obtain ⟨hP1, hK1, hD1⟩ := hB
                    replace hP1 := va_P.he ht hP1
                    obtain ⟨hP, hD⟩ := va_join (wr := (wz_76 aw law ac cfi clk clt ac_length cop cva cpt cel ac_labelCount cla waf cwaf gwaf wat cwat gwat wap cwap gwap wgt cwgt gwgt wgc cwgc gwgc clk cclk gclk clt cclt gclt)) (w1 := (wz_86 h0 aw ac n3 h0_function ty n9 bo bg bh bd h0_depth ty cty n8 bo cbo gbo bg cbg gbg bh cbh gbh bd cbd gbd)) hP hD [9, 10, 11, 12, 13, 14] [0, 1, 2, 3, 4, 5, 6, 7, 8] rfl rfl (by decide) (by decide) hk1 hFc hP1 hD1
                    clear hPc hDc hKc hFc hz1 hk1 hP1 hK1 hD1
                    rename Heap => H
                    have hP : va_P (dC, dI) cls [(aw, .inr (10, law)), (ac, .inr (3, [.ref cfi, .ref clk, .ref clt, .int ac_length, .ref cop, .ref cva, .ref cpt, .ref cel, .int ac_labelCount, .ref cla])), (waf, .inl (cwaf, 30, .inl gwaf)), (wat, .inl (cwat, 20, .inl gwat)), (wap, .inl (cwap, 160, .inl gwap)), (wgt, .inl (cwgt, 20, .inl gwgt)), (wgc, .inl (cwgc, 20, .inl gwgc)), (clk, .inl (cclk, 30, .inl gclk)), (clt, .inl (cclt, 1800, .inl gclt)), (h0, .inr (9, [.ref aw, .ref ac, .int n3, .int h0_function, .ref ty, .int n9, .ref bo, .ref bg, .ref bh, .ref bd, .int h0_depth])), (ty, .inl (cty, 5000, .inl n8)), (bo, .inl (cbo, 101, .inl gbo)), (bg, .inl (cbg, 101, .inl gbg)), (bh, .inl (cbh, 101, .inl gbh)), (bd, .inl (cbd, 101, .inl gbd))] H := hP
                    have hD : va_D A [(aw, .inr (10, law)), (ac, .inr (3, [.ref cfi, .ref clk, .ref clt, .int ac_length, .ref cop, .ref cva, .ref cpt, .ref cel, .int ac_labelCount, .ref cla])), (waf, .inl (cwaf, 30, .inl gwaf)), (wat, .inl (cwat, 20, .inl gwat)), (wap, .inl (cwap, 160, .inl gwap)), (wgt, .inl (cwgt, 20, .inl gwgt)), (wgc, .inl (cwgc, 20, .inl gwgc)), (clk, .inl (cclk, 30, .inl gclk)), (clt, .inl (cclt, 1800, .inl gclt)), (h0, .inr (9, [.ref aw, .ref ac, .int n3, .int h0_function, .ref ty, .int n9, .ref bo, .ref bg, .ref bh, .ref bd, .int h0_depth])), (ty, .inl (cty, 5000, .inl n8)), (bo, .inl (cbo, 101, .inl gbo)), (bg, .inl (cbg, 101, .inl gbg)), (bh, .inl (cbh, 101, .inl gbh)), (bd, .inl (cbd, 101, .inl gbd))] := hD
                    have hP9 := hP.sb (wq := [(h0, .inr (9, [.ref aw, .ref ac, .int n3, .int h0_function, .ref ty, .int n9, .ref bo, .ref bg, .ref bh, .ref bd, .int h0_depth])), (aw, .inr (10, law)), (ac, .inr (3, [.ref cfi, .ref clk, .ref clt, .int ac_length, .ref cop, .ref cva, .ref cpt, .ref cel, .int ac_labelCount, .ref cla])), (ty, .inl (cty, 5000, .inl n8)), (bo, .inl (cbo, 101, .inl gbo)), (bg, .inl (cbg, 101, .inl gbg)), (bh, .inl (cbh, 101, .inl gbh)), (bd, .inl (cbd, 101, .inl gbd)), (waf, .inl (cwaf, 30, .inl gwaf)), (wat, .inl (cwat, 20, .inl gwat)), (wap, .inl (cwap, 160, .inl gwap)), (wgt, .inl (cwgt, 20, .inl gwgt)), (wgc, .inl (cwgc, 20, .inl gwgc)), (clk, .inl (cclk, 30, .inl gclk)), (clt, .inl (cclt, 1800, .inl gclt))]) [9, 0, 1, 10, 11, 12, 13, 14, 2, 3, 4, 5, 6, 7, 8] rfl
                    have hD9 := hD.sb (wq := [(h0, .inr (9, [.ref aw, .ref ac, .int n3, .int h0_function, .ref ty, .int n9, .ref bo, .ref bg, .ref bh, .ref bd, .int h0_depth])), (aw, .inr (10, law)), (ac, .inr (3, [.ref cfi, .ref clk, .ref clt, .int ac_length, .ref cop, .ref cva, .ref cpt, .ref cel, .int ac_labelCount, .ref cla])), (ty, .inl (cty, 5000, .inl n8)), (bo, .inl (cbo, 101, .inl gbo)), (bg, .inl (cbg, 101, .inl gbg)), (bh, .inl (cbh, 101, .inl gbh)), (bd, .inl (cbd, 101, .inl gbd)), (waf, .inl (cwaf, 30, .inl gwaf)), (wat, .inl (cwat, 20, .inl gwat)), (wap, .inl (cwap, 160, .inl gwap)), (wgt, .inl (cwgt, 20, .inl gwgt)), (wgc, .inl (cwgc, 20, .inl gwgc)), (clk, .inl (cclk, 30, .inl gclk)), (clt, .inl (cclt, 1800, .inl gclt))]) [9, 0, 1, 10, 11, 12, 13, 14, 2, 3, 4, 5, 6, 7, 8] (by decide) rfl
                    exact W.vret hx hb hr (fun t ht hW => ⟨⟨(n8, n9, n3), rfl, ⟨bn8, bn9, bn3, ⟨by (try dsimp only) <;> (first | (apply Int.le_antisymm <;> omega) | omega), vr_t (t := j78_s0) (by (first | (apply Int.le_antisymm <;> omega) | omega)) y78 (by (first | (apply Int.le_antisymm <;> omega) | omega)) q_130 w_154⟩⟩, va_P.he ht.symm hP9, va_K.moved hW.alike hK, hD9⟩, hS.F ht⟩) hS.2.2 d_VA_checkVariable_157
                  · have q142 := neI c142
                    refine lv_iload_n hx hb d_VA_checkVariable_145 rfl (lv_at hl 1 rfl) ?_
                    refine lv_bipush (v := 35) hx hb d_VA_checkVariable_146 (by decide) ?_
                    refine lv_icmp_ne (tgt := 157) hx hb d_VA_checkVariable_148 (by decide) (fun c148 => ?_) (fun c148 => ?_)
                    · have q148 := neI c148
                      have hP9 := hP.sb (wq := [(h0, .inr (9, [.ref aw, .ref ac, .int n3, .int h0_function, .ref ty, .int n2, .ref bo, .ref bg, .ref bh, .ref bd, .int h0_depth])), (aw, .inr (10, law)), (ac, .inr (3, [.ref cfi, .ref clk, .ref clt, .int ac_length, .ref cop, .ref cva, .ref cpt, .ref cel, .int ac_labelCount, .ref cla])), (ty, .inl (cty, 5000, .inl gty)), (bo, .inl (cbo, 101, .inl gbo)), (bg, .inl (cbg, 101, .inl gbg)), (bh, .inl (cbh, 101, .inl gbh)), (bd, .inl (cbd, 101, .inl gbd)), (waf, .inl (cwaf, 30, .inl gwaf)), (wat, .inl (cwat, 20, .inl gwat)), (wap, .inl (cwap, 160, .inl gwap)), (wgt, .inl (cwgt, 20, .inl gwgt)), (wgc, .inl (cwgc, 20, .inl gwgc)), (clk, .inl (cclk, 30, .inl gclk)), (clt, .inl (cclt, 1800, .inl gclt))]) [9, 0, 1, 10, 11, 12, 13, 14, 2, 3, 4, 5, 6, 7, 8] rfl
                      have hD9 := hD.sb (wq := [(h0, .inr (9, [.ref aw, .ref ac, .int n3, .int h0_function, .ref ty, .int n2, .ref bo, .ref bg, .ref bh, .ref bd, .int h0_depth])), (aw, .inr (10, law)), (ac, .inr (3, [.ref cfi, .ref clk, .ref clt, .int ac_length, .ref cop, .ref cva, .ref cpt, .ref cel, .int ac_labelCount, .ref cla])), (ty, .inl (cty, 5000, .inl gty)), (bo, .inl (cbo, 101, .inl gbo)), (bg, .inl (cbg, 101, .inl gbg)), (bh, .inl (cbh, 101, .inl gbh)), (bd, .inl (cbd, 101, .inl gbd)), (waf, .inl (cwaf, 30, .inl gwaf)), (wat, .inl (cwat, 20, .inl gwat)), (wap, .inl (cwap, 160, .inl gwap)), (wgt, .inl (cwgt, 20, .inl gwgt)), (wgc, .inl (cwgc, 20, .inl gwgc)), (clk, .inl (cclk, 30, .inl gclk)), (clt, .inl (cclt, 1800, .inl gclt))]) [9, 0, 1, 10, 11, 12, 13, 14, 2, 3, 4, 5, 6, 7, 8] (by decide) rfl
                      exact W.vret hx hb hr (fun t ht hW => ⟨⟨(gty, n2, n3), rfl, ⟨b_gty, bn2, bn3, ⟨by (try dsimp only) <;> (first | (apply Int.le_antisymm <;> omega) | omega), vr_p (t := j78_s0) (by (first | (apply Int.le_antisymm <;> omega) | omega)) y78 (by (first | (apply Int.le_antisymm <;> omega) | omega)) (fun z => (gl_c hgl.2 (by (first | (apply Int.le_antisymm <;> omega) | omega))).2 (y109.out z)) q_130 w_130⟩⟩, va_P.he ht.symm hP9, va_K.moved hW.alike hK, hD9⟩, hS.F ht⟩) hS.2.2 d_VA_checkVariable_157
                    · have q148 := eqI c148
                      refine lv_aload_n hx hb d_VA_checkVariable_151 rfl (lv_at hl 0 rfl) ?_
                      refine lv_iload hx hb d_VA_checkVariable_152 (lv_at hl 2 rfl) ?_
                      have hPc := hP.sb (wq := (wz_86 h0 aw ac n3 h0_function ty n2 bo bg bh bd h0_depth ty cty gty bo cbo gbo bg cbg gbg bh cbh gbh bd cbd gbd)) [9, 10, 11, 12, 13, 14] rfl
                      have hDc := hD.sb (wq := (wz_86 h0 aw ac n3 h0_function ty n2 bo bg bh bd h0_depth ty cty gty bo cbo gbo bg cbg gbg bh cbh gbh bd cbd gbd)) [9, 10, 11, 12, 13, 14] (by decide) rfl
                      have hKc := hK.sb (tyq := [(cty, .int), (cbo, .int), (cbg, .int), (cbh, .int), (cbd, .boolean)]) [0, 1, 2, 3, 4] rfl
                      have hFc := va_free (wc := (wz_86 h0 aw ac n3 h0_function ty n2 bo bg bh bd h0_depth ty cty gty bo cbo gbo bg cbg gbg bh cbh gbh bd cbd gbd)) hD hS hA [9, 10, 11, 12, 13, 14] rfl
                      refine va_callv (va_runV (As := [.int j78_s0]) (rest := []) ⟨hx, hb, hml, hown, hts⟩ (c_VA_pushy l dC dI H.size h0 aw ac ty bo bg bh bd cty cbo cbg cbh cbd n3 h0_function n2 h0_depth gty gbo gbg gbh gbd S_130 B9 (bn3) (bn2) (b_h0_depth) (b_gty) (b_gbh) j78_s0 (w_130) ((fun _ => by rcases y78 with z | ⟨k, z1, z2, z3⟩; ((first | (apply Int.le_antisymm <;> omega) | omega)); ((first | (apply Int.le_antisymm <;> omega) | omega)))) ((fun z => by have := h5 (by (first | (apply Int.le_antisymm <;> omega) | omega)); (first | (apply Int.le_antisymm <;> omega) | omega)))) (cwV 1 hts (gV kM_VA_167 kV_VA_push kS_VA_push kI_VA kC_VA_push) rfl rfl rfl (by decide +kernel) ⟨Nat.le_of_ble_eq_true rfl, Nat.le_of_ble_eq_true rfl⟩) ⟨fun a U g mk z => by obtain ⟨z0, z1, zP, zK, zD⟩ := z; exact ⟨z0, z1, zP, va_K.moved (u := U) (U := U.calling g mk a) (Vm.Alike.refl U.vm) zK, zD⟩, va_recv hKc hPc (ci := 9) (q0 := 0) rfl rfl, fun U hU hW => ⟨rfl, by rw [hU], va_P.he hU.symm hPc, va_K.moved hW.alike hKc, hDc.weaken (fun _ _ _ _ => trivial)⟩⟩ rfl rfl hl.1 rfl (lv_room (Nat.le_of_ble_eq_true rfl)) d_VA_checkVariable_154 ⟨(Nat.zero_le _), (Nat.zero_le _)⟩) hS (fun q _ h => hFc q h) hFc (fun u t H1 locs ht hvm hw hB hz1 hk1 hS => ?_)
                      obtain ⟨n11, n12⟩ := u
                      try dsimp only at hw
                      obtain ⟨bn11, bn12, xr10⟩ := hw
                      try clear hw
                      have hl154 := xr10.1
                      have w_154 := xr10.2
                      clear xr10
                      obtain ⟨hP1, hK1, hD1⟩ := hB
                      replace hP1 := va_P.he ht hP1
                      obtain ⟨hP, hD⟩ := va_join (wr := (wz_76 aw law ac cfi clk clt ac_length cop cva cpt cel ac_labelCount cla waf cwaf gwaf wat cwat gwat wap cwap gwap wgt cwgt gwgt wgc cwgc gwgc clk cclk gclk clt cclt gclt)) (w1 := (wz_86 h0 aw ac n3 h0_function ty n12 bo bg bh bd h0_depth ty cty n11 bo cbo gbo bg cbg gbg bh cbh gbh bd cbd gbd)) hP hD [9, 10, 11, 12, 13, 14] [0, 1, 2, 3, 4, 5, 6, 7, 8] rfl rfl (by decide) (by decide) hk1 hFc hP1 hD1
                      clear hPc hDc hKc hFc hz1 hk1 hP1 hK1 hD1
                      rename Heap => H
                      have hP : va_P (dC, dI) cls [(aw, .inr (10, law)), (ac, .inr (3, [.ref cfi, .ref clk, .ref clt, .int ac_length, .ref cop, .ref cva, .ref cpt, .ref cel, .int ac_labelCount, .ref cla])), (waf, .inl (cwaf, 30, .inl gwaf)), (wat, .inl (cwat, 20, .inl gwat)), (wap, .inl (cwap, 160, .inl gwap)), (wgt, .inl (cwgt, 20, .inl gwgt)), (wgc, .inl (cwgc, 20, .inl gwgc)), (clk, .inl (cclk, 30, .inl gclk)), (clt, .inl (cclt, 1800, .inl gclt)), (h0, .inr (9, [.ref aw, .ref ac, .int n3, .int h0_function, .ref ty, .int n12, .ref bo, .ref bg, .ref bh, .ref bd, .int h0_depth])), (ty, .inl (cty, 5000, .inl n11)), (bo, .inl (cbo, 101, .inl gbo)), (bg, .inl (cbg, 101, .inl gbg)), (bh, .inl (cbh, 101, .inl gbh)), (bd, .inl (cbd, 101, .inl gbd))] H := hP
                      have hD : va_D A [(aw, .inr (10, law)), (ac, .inr (3, [.ref cfi, .ref clk, .ref clt, .int ac_length, .ref cop, .ref cva, .ref cpt, .ref cel, .int ac_labelCount, .ref cla])), (waf, .inl (cwaf, 30, .inl gwaf)), (wat, .inl (cwat, 20, .inl gwat)), (wap, .inl (cwap, 160, .inl gwap)), (wgt, .inl (cwgt, 20, .inl gwgt)), (wgc, .inl (cwgc, 20, .inl gwgc)), (clk, .inl (cclk, 30, .inl gclk)), (clt, .inl (cclt, 1800, .inl gclt)), (h0, .inr (9, [.ref aw, .ref ac, .int n3, .int h0_function, .ref ty, .int n12, .ref bo, .ref bg, .ref bh, .ref bd, .int h0_depth])), (ty, .inl (cty, 5000, .inl n11)), (bo, .inl (cbo, 101, .inl gbo)), (bg, .inl (cbg, 101, .inl gbg)), (bh, .inl (cbh, 101, .inl gbh)), (bd, .inl (cbd, 101, .inl gbd))] := hD
                      have hP9 := hP.sb (wq := [(h0, .inr (9, [.ref aw, .ref ac, .int n3, .int h0_function, .ref ty, .int n12, .ref bo, .ref bg, .ref bh, .ref bd, .int h0_depth])), (aw, .inr (10, law)), (ac, .inr (3, [.ref cfi, .ref clk, .ref clt, .int ac_length, .ref cop, .ref cva, .ref cpt, .ref cel, .int ac_labelCount, .ref cla])), (ty, .inl (cty, 5000, .inl n11)), (bo, .inl (cbo, 101, .inl gbo)), (bg, .inl (cbg, 101, .inl gbg)), (bh, .inl (cbh, 101, .inl gbh)), (bd, .inl (cbd, 101, .inl gbd)), (waf, .inl (cwaf, 30, .inl gwaf)), (wat, .inl (cwat, 20, .inl gwat)), (wap, .inl (cwap, 160, .inl gwap)), (wgt, .inl (cwgt, 20, .inl gwgt)), (wgc, .inl (cwgc, 20, .inl gwgc)), (clk, .inl (cclk, 30, .inl gclk)), (clt, .inl (cclt, 1800, .inl gclt))]) [9, 0, 1, 10, 11, 12, 13, 14, 2, 3, 4, 5, 6, 7, 8] rfl
                      have hD9 := hD.sb (wq := [(h0, .inr (9, [.ref aw, .ref ac, .int n3, .int h0_function, .ref ty, .int n12, .ref bo, .ref bg, .ref bh, .ref bd, .int h0_depth])), (aw, .inr (10, law)), (ac, .inr (3, [.ref cfi, .ref clk, .ref clt, .int ac_length, .ref cop, .ref cva, .ref cpt, .ref cel, .int ac_labelCount, .ref cla])), (ty, .inl (cty, 5000, .inl n11)), (bo, .inl (cbo, 101, .inl gbo)), (bg, .inl (cbg, 101, .inl gbg)), (bh, .inl (cbh, 101, .inl gbh)), (bd, .inl (cbd, 101, .inl gbd)), (waf, .inl (cwaf, 30, .inl gwaf)), (wat, .inl (cwat, 20, .inl gwat)), (wap, .inl (cwap, 160, .inl gwap)), (wgt, .inl (cwgt, 20, .inl gwgt)), (wgc, .inl (cwgc, 20, .inl gwgc)), (clk, .inl (cclk, 30, .inl gclk)), (clt, .inl (cclt, 1800, .inl gclt))]) [9, 0, 1, 10, 11, 12, 13, 14, 2, 3, 4, 5, 6, 7, 8] (by decide) rfl
                      exact W.vret hx hb hr (fun t ht hW => ⟨⟨(n11, n12, n3), rfl, ⟨bn11, bn12, bn3, ⟨by (try dsimp only) <;> (first | (apply Int.le_antisymm <;> omega) | omega), vr_t (t := j78_s0) (by (first | (apply Int.le_antisymm <;> omega) | omega)) y78 (by (first | (apply Int.le_antisymm <;> omega) | omega)) q_130 w_154⟩⟩, va_P.he ht.symm hP9, va_K.moved hW.alike hK, hD9⟩, hS.F ht⟩) hS.2.2 d_VA_checkVariable_157
              · skip
                refine lv_icmp_eq (tgt := 127) hx hb d_VA_checkVariable_112 (by decide) (fun c112 => ?_) (fun c112 => ?_)
                · have q112 := eqI c112
                  exact jn127 () _ _ _ ⟨by (try dsimp only) <;> (first | (apply Int.le_antisymm <;> omega) | omega), hP, hD, hS, lv_sub hl [0, 1, 2] rfl⟩
                · have q112 := neI c112
                  refine lv_iload_n hx hb d_VA_checkVariable_115 rfl (lv_at hl 1 rfl) ?_
                  refine lv_bipush (v := 34) hx hb d_VA_checkVariable_116 (by decide) ?_
                  refine lv_icmp_eq (tgt := 127) hx hb d_VA_checkVariable_118 (by decide) (fun c118 => ?_) (fun c118 => ?_)
                  · have q118 := eqI c118
                    exact jn127 () _ _ _ ⟨by (try dsimp only) <;> (first | (apply Int.le_antisymm <;> omega) | omega), hP, hD, hS, lv_sub hl [0, 1, 2] rfl⟩
                  · have q118 := neI c118
                    refine lv_iload_n hx hb d_VA_checkVariable_121 rfl (lv_at hl 1 rfl) ?_
                    refine lv_bipush (v := 36) hx hb d_VA_checkVariable_122 (by decide) ?_
                    refine lv_icmp_ne (tgt := 133) hx hb d_VA_checkVariable_124 (by decide) (fun c124 => ?_) (fun c124 => ?_)
                    · have q124 := neI c124
                      refine lv_iload_n hx hb d_VA_checkVariable_133 rfl (lv_at hl 1 rfl) ?_
                      refine lv_bipush (v := 32) hx hb d_VA_checkVariable_134 (by decide) ?_
                      refine lv_icmp_eq (tgt := 151) hx hb d_VA_checkVariable_136 (by decide) (fun c136 => ?_) (fun c136 => ?_)
                      · have q136 := eqI c136
                        refine lv_aload_n hx hb d_VA_checkVariable_151 rfl (lv_at hl 0 rfl) ?_
                        refine lv_iload hx hb d_VA_checkVariable_152 (lv_at hl 2 rfl) ?_
                        have hPc := hP.sb (wq := (wz_86 h0 aw ac h0_sound h0_function ty h0_height bo bg bh bd h0_depth ty cty gty bo cbo gbo bg cbg gbg bh cbh gbh bd cbd gbd)) [0, 3, 4, 5, 6, 7] rfl
                        have hDc := hD.sb (wq := (wz_86 h0 aw ac h0_sound h0_function ty h0_height bo bg bh bd h0_depth ty cty gty bo cbo gbo bg cbg gbg bh cbh gbh bd cbd gbd)) [0, 3, 4, 5, 6, 7] (by decide) rfl
                        have hKc := hK.sb (tyq := [(cty, .int), (cbo, .int), (cbg, .int), (cbh, .int), (cbd, .boolean)]) [0, 1, 2, 3, 4] rfl
                        have hFc := va_free (wc := (wz_86 h0 aw ac h0_sound h0_function ty h0_height bo bg bh bd h0_depth ty cty gty bo cbo gbo bg cbg gbg bh cbh gbh bd cbd gbd)) hD hS hA [0, 3, 4, 5, 6, 7] rfl
                        refine va_callv (va_runV (As := [.int j78_s0]) (rest := []) ⟨hx, hb, hml, hown, hts⟩ (c_VA_pushy l dC dI H.size h0 aw ac ty bo bg bh bd cty cbo cbg cbh cbd h0_sound h0_function h0_height h0_depth gty gbo gbg gbh gbd S9 B9 (b_h0_sound) (b_h0_height) (b_h0_depth) (b_gty) (b_gbh) j78_s0 (hv) ((fun _ => by rcases y78 with z | ⟨k, z1, z2, z3⟩; ((first | (apply Int.le_antisymm <;> omega) | omega)); ((first | (apply Int.le_antisymm <;> omega) | omega)))) (h5)) (cwV 1 hts (gV kM_VA_167 kV_VA_push kS_VA_push kI_VA kC_VA_push) rfl rfl rfl (by decide +kernel) ⟨Nat.le_of_ble_eq_true rfl, Nat.le_of_ble_eq_true rfl⟩) ⟨fun a U g mk z => by obtain ⟨z0, z1, zP, zK, zD⟩ := z; exact ⟨z0, z1, zP, va_K.moved (u := U) (U := U.calling g mk a) (Vm.Alike.refl U.vm) zK, zD⟩, va_recv hKc hPc (ci := 9) (q0 := 0) rfl rfl, fun U hU hW => ⟨rfl, by rw [hU], va_P.he hU.symm hPc, va_K.moved hW.alike hKc, hDc.weaken (fun _ _ _ _ => trivial)⟩⟩ rfl rfl hl.1 rfl (lv_room (Nat.le_of_ble_eq_true rfl)) d_VA_checkVariable_154 ⟨(Nat.zero_le _), (Nat.zero_le _)⟩) hS (fun q _ h => hFc q h) hFc (fun u t H1 locs ht hvm hw hB hz1 hk1 hS => ?_)
                        obtain ⟨n14, n15⟩ := u
                        try dsimp only at hw
                        obtain ⟨bn14, bn15, xr13⟩ := hw
                        try clear hw
                        have hl154 := xr13.1
                        have w_154 := xr13.2
                        clear xr13
                        obtain ⟨hP1, hK1, hD1⟩ := hB
                        replace hP1 := va_P.he ht hP1
                        obtain ⟨hP, hD⟩ := va_join (wr := (wz_76 aw law ac cfi clk clt ac_length cop cva cpt cel ac_labelCount cla waf cwaf gwaf wat cwat gwat wap cwap gwap wgt cwgt gwgt wgc cwgc gwgc clk cclk gclk clt cclt gclt)) (w1 := (wz_86 h0 aw ac h0_sound h0_function ty n15 bo bg bh bd h0_depth ty cty n14 bo cbo gbo bg cbg gbg bh cbh gbh bd cbd gbd)) hP hD [0, 3, 4, 5, 6, 7] [1, 2, 8, 9, 10, 11, 12, 13, 14] rfl rfl (by decide) (by decide) hk1 hFc hP1 hD1
                        clear hPc hDc hKc hFc hz1 hk1 hP1 hK1 hD1
                        rename Heap => H
                        have hP : va_P (dC, dI) cls [(aw, .inr (10, law)), (ac, .inr (3, [.ref cfi, .ref clk, .ref clt, .int ac_length, .ref cop, .ref cva, .ref cpt, .ref cel, .int ac_labelCount, .ref cla])), (waf, .inl (cwaf, 30, .inl gwaf)), (wat, .inl (cwat, 20, .inl gwat)), (wap, .inl (cwap, 160, .inl gwap)), (wgt, .inl (cwgt, 20, .inl gwgt)), (wgc, .inl (cwgc, 20, .inl gwgc)), (clk, .inl (cclk, 30, .inl gclk)), (clt, .inl (cclt, 1800, .inl gclt)), (h0, .inr (9, [.ref aw, .ref ac, .int h0_sound, .int h0_function, .ref ty, .int n15, .ref bo, .ref bg, .ref bh, .ref bd, .int h0_depth])), (ty, .inl (cty, 5000, .inl n14)), (bo, .inl (cbo, 101, .inl gbo)), (bg, .inl (cbg, 101, .inl gbg)), (bh, .inl (cbh, 101, .inl gbh)), (bd, .inl (cbd, 101, .inl gbd))] H := hP
                        have hD : va_D A [(aw, .inr (10, law)), (ac, .inr (3, [.ref cfi, .ref clk, .ref clt, .int ac_length, .ref cop, .ref cva, .ref cpt, .ref cel, .int ac_labelCount, .ref cla])), (waf, .inl (cwaf, 30, .inl gwaf)), (wat, .inl (cwat, 20, .inl gwat)), (wap, .inl (cwap, 160, .inl gwap)), (wgt, .inl (cwgt, 20, .inl gwgt)), (wgc, .inl (cwgc, 20, .inl gwgc)), (clk, .inl (cclk, 30, .inl gclk)), (clt, .inl (cclt, 1800, .inl gclt)), (h0, .inr (9, [.ref aw, .ref ac, .int h0_sound, .int h0_function, .ref ty, .int n15, .ref bo, .ref bg, .ref bh, .ref bd, .int h0_depth])), (ty, .inl (cty, 5000, .inl n14)), (bo, .inl (cbo, 101, .inl gbo)), (bg, .inl (cbg, 101, .inl gbg)), (bh, .inl (cbh, 101, .inl gbh)), (bd, .inl (cbd, 101, .inl gbd))] := hD
                        have hP9 := hP.sb (wq := [(h0, .inr (9, [.ref aw, .ref ac, .int h0_sound, .int h0_function, .ref ty, .int n15, .ref bo, .ref bg, .ref bh, .ref bd, .int h0_depth])), (aw, .inr (10, law)), (ac, .inr (3, [.ref cfi, .ref clk, .ref clt, .int ac_length, .ref cop, .ref cva, .ref cpt, .ref cel, .int ac_labelCount, .ref cla])), (ty, .inl (cty, 5000, .inl n14)), (bo, .inl (cbo, 101, .inl gbo)), (bg, .inl (cbg, 101, .inl gbg)), (bh, .inl (cbh, 101, .inl gbh)), (bd, .inl (cbd, 101, .inl gbd)), (waf, .inl (cwaf, 30, .inl gwaf)), (wat, .inl (cwat, 20, .inl gwat)), (wap, .inl (cwap, 160, .inl gwap)), (wgt, .inl (cwgt, 20, .inl gwgt)), (wgc, .inl (cwgc, 20, .inl gwgc)), (clk, .inl (cclk, 30, .inl gclk)), (clt, .inl (cclt, 1800, .inl gclt))]) [9, 0, 1, 10, 11, 12, 13, 14, 2, 3, 4, 5, 6, 7, 8] rfl
                        have hD9 := hD.sb (wq := [(h0, .inr (9, [.ref aw, .ref ac, .int h0_sound, .int h0_function, .ref ty, .int n15, .ref bo, .ref bg, .ref bh, .ref bd, .int h0_depth])), (aw, .inr (10, law)), (ac, .inr (3, [.ref cfi, .ref clk, .ref clt, .int ac_length, .ref cop, .ref cva, .ref cpt, .ref cel, .int ac_labelCount, .ref cla])), (ty, .inl (cty, 5000, .inl n14)), (bo, .inl (cbo, 101, .inl gbo)), (bg, .inl (cbg, 101, .inl gbg)), (bh, .inl (cbh, 101, .inl gbh)), (bd, .inl (cbd, 101, .inl gbd)), (waf, .inl (cwaf, 30, .inl gwaf)), (wat, .inl (cwat, 20, .inl gwat)), (wap, .inl (cwap, 160, .inl gwap)), (wgt, .inl (cwgt, 20, .inl gwgt)), (wgc, .inl (cwgc, 20, .inl gwgc)), (clk, .inl (cclk, 30, .inl gclk)), (clt, .inl (cclt, 1800, .inl gclt))]) [9, 0, 1, 10, 11, 12, 13, 14, 2, 3, 4, 5, 6, 7, 8] (by decide) rfl
                        exact W.vret hx hb hr (fun t ht hW => ⟨⟨(n14, n15, h0_sound), rfl, ⟨bn14, bn15, b_h0_sound, ⟨by (try dsimp only) <;> (first | (apply Int.le_antisymm <;> omega) | omega), vr_g (t := j78_s0) (by (first | (apply Int.le_antisymm <;> omega) | omega)) y78 (by (first | (apply Int.le_antisymm <;> omega) | omega)) th0_sound w_154⟩⟩, va_P.he ht.symm hP9, va_K.moved hW.alike hK, hD9⟩, hS.F ht⟩) hS.2.2 d_VA_checkVariable_157
                      · have q136 := neI c136
                        refine lv_iload_n hx hb d_VA_checkVariable_139 rfl (lv_at hl 1 rfl) ?_
                        refine lv_bipush (v := 34) hx hb d_VA_checkVariable_140 (by decide) ?_
                        refine lv_icmp_eq (tgt := 151) hx hb d_VA_checkVariable_142 (by decide) (fun c142 => ?_) (fun c142 => ?_)
                        · have q142 := eqI c142
                          refine lv_aload_n hx hb d_VA_checkVariable_151 rfl (lv_at hl 0 rfl) ?_
                          refine lv_iload hx hb d_VA_checkVariable_152 (lv_at hl 2 rfl) ?_
                          have hPc := hP.sb (wq := (wz_86 h0 aw ac h0_sound h0_function ty h0_height bo bg bh bd h0_depth ty cty gty bo cbo gbo bg cbg gbg bh cbh gbh bd cbd gbd)) [0, 3, 4, 5, 6, 7] rfl
                          have hDc := hD.sb (wq := (wz_86 h0 aw ac h0_sound h0_function ty h0_height bo bg bh bd h0_depth ty cty gty bo cbo gbo bg cbg gbg bh cbh gbh bd cbd gbd)) [0, 3, 4, 5, 6, 7] (by decide) rfl
                          have hKc := hK.sb (tyq := [(cty, .int), (cbo, .int), (cbg, .int), (cbh, .int), (cbd, .boolean)]) [0, 1, 2, 3, 4] rfl
                          have hFc := va_free (wc := (wz_86 h0 aw ac h0_sound h0_function ty h0_height bo bg bh bd h0_depth ty cty gty bo cbo gbo bg cbg gbg bh cbh gbh bd cbd gbd)) hD hS hA [0, 3, 4, 5, 6, 7] rfl
                          refine va_callv (va_runV (As := [.int j78_s0]) (rest := []) ⟨hx, hb, hml, hown, hts⟩ (c_VA_pushy l dC dI H.size h0 aw ac ty bo bg bh bd cty cbo cbg cbh cbd h0_sound h0_function h0_height h0_depth gty gbo gbg gbh gbd S9 B9 (b_h0_sound) (b_h0_height) (b_h0_depth) (b_gty) (b_gbh) j78_s0 (hv) ((fun _ => by rcases y78 with z | ⟨k, z1, z2, z3⟩; ((first | (apply Int.le_antisymm <;> omega) | omega)); ((first | (apply Int.le_antisymm <;> omega) | omega)))) (h5)) (cwV 1 hts (gV kM_VA_167 kV_VA_push kS_VA_push kI_VA kC_VA_push) rfl rfl rfl (by decide +kernel) ⟨Nat.le_of_ble_eq_true rfl, Nat.le_of_ble_eq_true rfl⟩) ⟨fun a U g mk z => by obtain ⟨z0, z1, zP, zK, zD⟩ := z; exact ⟨z0, z1, zP, va_K.moved (u := U) (U := U.calling g mk a) (Vm.Alike.refl U.vm) zK, zD⟩, va_recv hKc hPc (ci := 9) (q0 := 0) rfl rfl, fun U hU hW => ⟨rfl, by rw [hU], va_P.he hU.symm hPc, va_K.moved hW.alike hKc, hDc.weaken (fun _ _ _ _ => trivial)⟩⟩ rfl rfl hl.1 rfl (lv_room (Nat.le_of_ble_eq_true rfl)) d_VA_checkVariable_154 ⟨(Nat.zero_le _), (Nat.zero_le _)⟩) hS (fun q _ h => hFc q h) hFc (fun u t H1 locs ht hvm hw hB hz1 hk1 hS => ?_)
                          obtain ⟨n17, n18⟩ := u
                          try dsimp only at hw
                          obtain ⟨bn17, bn18, xr16⟩ := hw
                          try clear hw
                          have hl154 := xr16.1
                          have w_154 := xr16.2
                          clear xr16
                          obtain ⟨hP1, hK1, hD1⟩ := hB
                          replace hP1 := va_P.he ht hP1
                          obtain ⟨hP, hD⟩ := va_join (wr := (wz_76 aw law ac cfi clk clt ac_length cop cva cpt cel ac_labelCount cla waf cwaf gwaf wat cwat gwat wap cwap gwap wgt cwgt gwgt wgc cwgc gwgc clk cclk gclk clt cclt gclt)) (w1 := (wz_86 h0 aw ac h0_sound h0_function ty n18 bo bg bh bd h0_depth ty cty n17 bo cbo gbo bg cbg gbg bh cbh gbh bd cbd gbd)) hP hD [0, 3, 4, 5, 6, 7] [1, 2, 8, 9, 10, 11, 12, 13, 14] rfl rfl (by decide) (by decide) hk1 hFc hP1 hD1
                          clear hPc hDc hKc hFc hz1 hk1 hP1 hK1 hD1
                          rename Heap => H
                          have hP : va_P (dC, dI) cls [(aw, .inr (10, law)), (ac, .inr (3, [.ref cfi, .ref clk, .ref clt, .int ac_length, .ref cop, .ref cva, .ref cpt, .ref cel, .int ac_labelCount, .ref cla])), (waf, .inl (cwaf, 30, .inl gwaf)), (wat, .inl (cwat, 20, .inl gwat)), (wap, .inl (cwap, 160, .inl gwap)), (wgt, .inl (cwgt, 20, .inl gwgt)), (wgc, .inl (cwgc, 20, .inl gwgc)), (clk, .inl (cclk, 30, .inl gclk)), (clt, .inl (cclt, 1800, .inl gclt)), (h0, .inr (9, [.ref aw, .ref ac, .int h0_sound, .int h0_function, .ref ty, .int n18, .ref bo, .ref bg, .ref bh, .ref bd, .int h0_depth])), (ty, .inl (cty, 5000, .inl n17)), (bo, .inl (cbo, 101, .inl gbo)), (bg, .inl (cbg, 101, .inl gbg)), (bh, .inl (cbh, 101, .inl gbh)), (bd, .inl (cbd, 101, .inl gbd))] H := hP
                          have hD : va_D A [(aw, .inr (10, law)), (ac, .inr (3, [.ref cfi, .ref clk, .ref clt, .int ac_length, .ref cop, .ref cva, .ref cpt, .ref cel, .int ac_labelCount, .ref cla])), (waf, .inl (cwaf, 30, .inl gwaf)), (wat, .inl (cwat, 20, .inl gwat)), (wap, .inl (cwap, 160, .inl gwap)), (wgt, .inl (cwgt, 20, .inl gwgt)), (wgc, .inl (cwgc, 20, .inl gwgc)), (clk, .inl (cclk, 30, .inl gclk)), (clt, .inl (cclt, 1800, .inl gclt)), (h0, .inr (9, [.ref aw, .ref ac, .int h0_sound, .int h0_function, .ref ty, .int n18, .ref bo, .ref bg, .ref bh, .ref bd, .int h0_depth])), (ty, .inl (cty, 5000, .inl n17)), (bo, .inl (cbo, 101, .inl gbo)), (bg, .inl (cbg, 101, .inl gbg)), (bh, .inl (cbh, 101, .inl gbh)), (bd, .inl (cbd, 101, .inl gbd))] := hD
                          have hP9 := hP.sb (wq := [(h0, .inr (9, [.ref aw, .ref ac, .int h0_sound, .int h0_function, .ref ty, .int n18, .ref bo, .ref bg, .ref bh, .ref bd, .int h0_depth])), (aw, .inr (10, law)), (ac, .inr (3, [.ref cfi, .ref clk, .ref clt, .int ac_length, .ref cop, .ref cva, .ref cpt, .ref cel, .int ac_labelCount, .ref cla])), (ty, .inl (cty, 5000, .inl n17)), (bo, .inl (cbo, 101, .inl gbo)), (bg, .inl (cbg, 101, .inl gbg)), (bh, .inl (cbh, 101, .inl gbh)), (bd, .inl (cbd, 101, .inl gbd)), (waf, .inl (cwaf, 30, .inl gwaf)), (wat, .inl (cwat, 20, .inl gwat)), (wap, .inl (cwap, 160, .inl gwap)), (wgt, .inl (cwgt, 20, .inl gwgt)), (wgc, .inl (cwgc, 20, .inl gwgc)), (clk, .inl (cclk, 30, .inl gclk)), (clt, .inl (cclt, 1800, .inl gclt))]) [9, 0, 1, 10, 11, 12, 13, 14, 2, 3, 4, 5, 6, 7, 8] rfl
                          have hD9 := hD.sb (wq := [(h0, .inr (9, [.ref aw, .ref ac, .int h0_sound, .int h0_function, .ref ty, .int n18, .ref bo, .ref bg, .ref bh, .ref bd, .int h0_depth])), (aw, .inr (10, law)), (ac, .inr (3, [.ref cfi, .ref clk, .ref clt, .int ac_length, .ref cop, .ref cva, .ref cpt, .ref cel, .int ac_labelCount, .ref cla])), (ty, .inl (cty, 5000, .inl n17)), (bo, .inl (cbo, 101, .inl gbo)), (bg, .inl (cbg, 101, .inl gbg)), (bh, .inl (cbh, 101, .inl gbh)), (bd, .inl (cbd, 101, .inl gbd)), (waf, .inl (cwaf, 30, .inl gwaf)), (wat, .inl (cwat, 20, .inl gwat)), (wap, .inl (cwap, 160, .inl gwap)), (wgt, .inl (cwgt, 20, .inl gwgt)), (wgc, .inl (cwgc, 20, .inl gwgc)), (clk, .inl (cclk, 30, .inl gclk)), (clt, .inl (cclt, 1800, .inl gclt))]) [9, 0, 1, 10, 11, 12, 13, 14, 2, 3, 4, 5, 6, 7, 8] (by decide) rfl
                          exact W.vret hx hb hr (fun t ht hW => ⟨⟨(n17, n18, h0_sound), rfl, ⟨bn17, bn18, b_h0_sound, ⟨by (try dsimp only) <;> (first | (apply Int.le_antisymm <;> omega) | omega), vr_g (t := j78_s0) (by (first | (apply Int.le_antisymm <;> omega) | omega)) y78 (by (first | (apply Int.le_antisymm <;> omega) | omega)) th0_sound w_154⟩⟩, va_P.he ht.symm hP9, va_K.moved hW.alike hK, hD9⟩, hS.F ht⟩) hS.2.2 d_VA_checkVariable_157
                        · have q142 := neI c142
                          refine lv_iload_n hx hb d_VA_checkVariable_145 rfl (lv_at hl 1 rfl) ?_
                          refine lv_bipush (v := 35) hx hb d_VA_checkVariable_146 (by decide) ?_
                          refine lv_icmp_ne (tgt := 157) hx hb d_VA_checkVariable_148 (by decide) (fun c148 => ?_) (fun c148 => ?_)
                          · have q148 := neI c148
                            have hP9 := hP.sb (wq := [(h0, .inr (9, [.ref aw, .ref ac, .int h0_sound, .int h0_function, .ref ty, .int h0_height, .ref bo, .ref bg, .ref bh, .ref bd, .int h0_depth])), (aw, .inr (10, law)), (ac, .inr (3, [.ref cfi, .ref clk, .ref clt, .int ac_length, .ref cop, .ref cva, .ref cpt, .ref cel, .int ac_labelCount, .ref cla])), (ty, .inl (cty, 5000, .inl gty)), (bo, .inl (cbo, 101, .inl gbo)), (bg, .inl (cbg, 101, .inl gbg)), (bh, .inl (cbh, 101, .inl gbh)), (bd, .inl (cbd, 101, .inl gbd)), (waf, .inl (cwaf, 30, .inl gwaf)), (wat, .inl (cwat, 20, .inl gwat)), (wap, .inl (cwap, 160, .inl gwap)), (wgt, .inl (cwgt, 20, .inl gwgt)), (wgc, .inl (cwgc, 20, .inl gwgc)), (clk, .inl (cclk, 30, .inl gclk)), (clt, .inl (cclt, 1800, .inl gclt))]) [0, 1, 2, 3, 4, 5, 6, 7, 8, 9, 10, 11, 12, 13, 14] rfl
                            have hD9 := hD.sb (wq := [(h0, .inr (9, [.ref aw, .ref ac, .int h0_sound, .int h0_function, .ref ty, .int h0_height, .ref bo, .ref bg, .ref bh, .ref bd, .int h0_depth])), (aw, .inr (10, law)), (ac, .inr (3, [.ref cfi, .ref clk, .ref clt, .int ac_length, .ref cop, .ref cva, .ref cpt, .ref cel, .int ac_labelCount, .ref cla])), (ty, .inl (cty, 5000, .inl gty)), (bo, .inl (cbo, 101, .inl gbo)), (bg, .inl (cbg, 101, .inl gbg)), (bh, .inl (cbh, 101, .inl gbh)), (bd, .inl (cbd, 101, .inl gbd)), (waf, .inl (cwaf, 30, .inl gwaf)), (wat, .inl (cwat, 20, .inl gwat)), (wap, .inl (cwap, 160, .inl gwap)), (wgt, .inl (cwgt, 20, .inl gwgt)), (wgc, .inl (cwgc, 20, .inl gwgc)), (clk, .inl (cclk, 30, .inl gclk)), (clt, .inl (cclt, 1800, .inl gclt))]) [0, 1, 2, 3, 4, 5, 6, 7, 8, 9, 10, 11, 12, 13, 14] (by decide) rfl
                            exact W.vret hx hb hr (fun t ht hW => ⟨⟨(gty, h0_height, h0_sound), rfl, ⟨b_gty, b_h0_height, b_h0_sound, (by exfalso; (first | (apply Int.le_antisymm <;> omega) | omega))⟩, va_P.he ht.symm hP9, va_K.moved hW.alike hK, hD9⟩, hS.F ht⟩) hS.2.2 d_VA_checkVariable_157
                          · have q148 := eqI c148
                            refine lv_aload_n hx hb d_VA_checkVariable_151 rfl (lv_at hl 0 rfl) ?_
                            refine lv_iload hx hb d_VA_checkVariable_152 (lv_at hl 2 rfl) ?_
                            have hPc := hP.sb (wq := (wz_86 h0 aw ac h0_sound h0_function ty h0_height bo bg bh bd h0_depth ty cty gty bo cbo gbo bg cbg gbg bh cbh gbh bd cbd gbd)) [0, 3, 4, 5, 6, 7] rfl
                            have hDc := hD.sb (wq := (wz_86 h0 aw ac h0_sound h0_function ty h0_height bo bg bh bd h0_depth ty cty gty bo cbo gbo bg cbg gbg bh cbh gbh bd cbd gbd)) [0, 3, 4, 5, 6, 7] (by decide) rfl
                            have hKc := hK.sb (tyq := [(cty, .int), (cbo, .int), (cbg, .int), (cbh, .int), (cbd, .boolean)]) [0, 1, 2, 3, 4] rfl
                            have hFc := va_free (wc := (wz_86 h0 aw ac h0_sound h0_function ty h0_height bo bg bh bd h0_depth ty cty gty bo cbo gbo bg cbg gbg bh cbh gbh bd cbd gbd)) hD hS hA [0, 3, 4, 5, 6, 7] rfl
                            refine va_callv (va_runV (As := [.int j78_s0]) (rest := []) ⟨hx, hb, hml, hown, hts⟩ (c_VA_pushy l dC dI H.size h0 aw ac ty bo bg bh bd cty cbo cbg cbh cbd h0_sound h0_function h0_height h0_depth gty gbo gbg gbh gbd S9 B9 (b_h0_sound) (b_h0_height) (b_h0_depth) (b_gty) (b_gbh) j78_s0 (hv) ((fun _ => by rcases y78 with z | ⟨k, z1, z2, z3⟩; ((first | (apply Int.le_antisymm <;> omega) | omega)); ((first | (apply Int.le_antisymm <;> omega) | omega)))) (h5)) (cwV 1 hts (gV kM_VA_167 kV_VA_push kS_VA_push kI_VA kC_VA_push) rfl rfl rfl (by decide +kernel) ⟨Nat.le_of_ble_eq_true rfl, Nat.le_of_ble_eq_true rfl⟩) ⟨fun a U g mk z => by obtain ⟨z0, z1, zP, zK, zD⟩ := z; exact ⟨z0, z1, zP, va_K.moved (u := U) (U := U.calling g mk a) (Vm.Alike.refl U.vm) zK, zD⟩, va_recv hKc hPc (ci := 9) (q0 := 0) rfl rfl, fun U hU hW => ⟨rfl, by rw [hU], va_P.he hU.symm hPc, va_K.moved hW.alike hKc, hDc.weaken (fun _ _ _ _ => trivial)⟩⟩ rfl rfl hl.1 rfl (lv_room (Nat.le_of_ble_eq_true rfl)) d_VA_checkVariable_154 ⟨(Nat.zero_le _), (Nat.zero_le _)⟩) hS (fun q _ h => hFc q h) hFc (fun u t H1 locs ht hvm hw hB hz1 hk1 hS => ?_)
                            obtain ⟨n20, n21⟩ := u
                            try dsimp only at hw
                            obtain ⟨bn20, bn21, xr19⟩ := hw
                            try clear hw
                            have hl154 := xr19.1
                            have w_154 := xr19.2
                            clear xr19
                            obtain ⟨hP1, hK1, hD1⟩ := hB
                            replace hP1 := va_P.he ht hP1
                            obtain ⟨hP, hD⟩ := va_join (wr := (wz_76 aw law ac cfi clk clt ac_length cop cva cpt cel ac_labelCount cla waf cwaf gwaf wat cwat gwat wap cwap gwap wgt cwgt gwgt wgc cwgc gwgc clk cclk gclk clt cclt gclt)) (w1 := (wz_86 h0 aw ac h0_sound h0_function ty n21 bo bg bh bd h0_depth ty cty n20 bo cbo gbo bg cbg gbg bh cbh gbh bd cbd gbd)) hP hD [0, 3, 4, 5, 6, 7] [1, 2, 8, 9, 10, 11, 12, 13, 14] rfl rfl (by decide) (by decide) hk1 hFc hP1 hD1
                            clear hPc hDc hKc hFc hz1 hk1 hP1 hK1 hD1
                            rename Heap => H
                            have hP : va_P (dC, dI) cls [(aw, .inr (10, law)), (ac, .inr (3, [.ref cfi, .ref clk, .ref clt, .int ac_length, .ref cop, .ref cva, .ref cpt, .ref cel, .int ac_labelCount, .ref cla])), (waf, .inl (cwaf, 30, .inl gwaf)), (wat, .inl (cwat, 20, .inl gwat)), (wap, .inl (cwap, 160, .inl gwap)), (wgt, .inl (cwgt, 20, .inl gwgt)), (wgc, .inl (cwgc, 20, .inl gwgc)), (clk, .inl (cclk, 30, .inl gclk)), (clt, .inl (cclt, 1800, .inl gclt)), (h0, .inr (9, [.ref aw, .ref ac, .int h0_sound, .int h0_function, .ref ty, .int n21, .ref bo, .ref bg, .ref bh, .ref bd, .int h0_depth])), (ty, .inl (cty, 5000, .inl n20)), (bo, .inl (cbo, 101, .inl gbo)), (bg, .inl (cbg, 101, .inl gbg)), (bh, .inl (cbh, 101, .inl gbh)), (bd, .inl (cbd, 101, .inl gbd))] H := hP
                            have hD : va_D A [(aw, .inr (10, law)), (ac, .inr (3, [.ref cfi, .ref clk, .ref clt, .int ac_length, .ref cop, .ref cva, .ref cpt, .ref cel, .int ac_labelCount, .ref cla])), (waf, .inl (cwaf, 30, .inl gwaf)), (wat, .inl (cwat, 20, .inl gwat)), (wap, .inl (cwap, 160, .inl gwap)), (wgt, .inl (cwgt, 20, .inl gwgt)), (wgc, .inl (cwgc, 20, .inl gwgc)), (clk, .inl (cclk, 30, .inl gclk)), (clt, .inl (cclt, 1800, .inl gclt)), (h0, .inr (9, [.ref aw, .ref ac, .int h0_sound, .int h0_function, .ref ty, .int n21, .ref bo, .ref bg, .ref bh, .ref bd, .int h0_depth])), (ty, .inl (cty, 5000, .inl n20)), (bo, .inl (cbo, 101, .inl gbo)), (bg, .inl (cbg, 101, .inl gbg)), (bh, .inl (cbh, 101, .inl gbh)), (bd, .inl (cbd, 101, .inl gbd))] := hD
                            have hP9 := hP.sb (wq := [(h0, .inr (9, [.ref aw, .ref ac, .int h0_sound, .int h0_function, .ref ty, .int n21, .ref bo, .ref bg, .ref bh, .ref bd, .int h0_depth])), (aw, .inr (10, law)), (ac, .inr (3, [.ref cfi, .ref clk, .ref clt, .int ac_length, .ref cop, .ref cva, .ref cpt, .ref cel, .int ac_labelCount, .ref cla])), (ty, .inl (cty, 5000, .inl n20)), (bo, .inl (cbo, 101, .inl gbo)), (bg, .inl (cbg, 101, .inl gbg)), (bh, .inl (cbh, 101, .inl gbh)), (bd, .inl (cbd, 101, .inl gbd)), (waf, .inl (cwaf, 30, .inl gwaf)), (wat, .inl (cwat, 20, .inl gwat)), (wap, .inl (cwap, 160, .inl gwap)), (wgt, .inl (cwgt, 20, .inl gwgt)), (wgc, .inl (cwgc, 20, .inl gwgc)), (clk, .inl (cclk, 30, .inl gclk)), (clt, .inl (cclt, 1800, .inl gclt))]) [9, 0, 1, 10, 11, 12, 13, 14, 2, 3, 4, 5, 6, 7, 8] rfl
                            have hD9 := hD.sb (wq := [(h0, .inr (9, [.ref aw, .ref ac, .int h0_sound, .int h0_function, .ref ty, .int n21, .ref bo, .ref bg, .ref bh, .ref bd, .int h0_depth])), (aw, .inr (10, law)), (ac, .inr (3, [.ref cfi, .ref clk, .ref clt, .int ac_length, .ref cop, .ref cva, .ref cpt, .ref cel, .int ac_labelCount, .ref cla])), (ty, .inl (cty, 5000, .inl n20)), (bo, .inl (cbo, 101, .inl gbo)), (bg, .inl (cbg, 101, .inl gbg)), (bh, .inl (cbh, 101, .inl gbh)), (bd, .inl (cbd, 101, .inl gbd)), (waf, .inl (cwaf, 30, .inl gwaf)), (wat, .inl (cwat, 20, .inl gwat)), (wap, .inl (cwap, 160, .inl gwap)), (wgt, .inl (cwgt, 20, .inl gwgt)), (wgc, .inl (cwgc, 20, .inl gwgc)), (clk, .inl (cclk, 30, .inl gclk)), (clt, .inl (cclt, 1800, .inl gclt))]) [9, 0, 1, 10, 11, 12, 13, 14, 2, 3, 4, 5, 6, 7, 8] (by decide) rfl
                            exact W.vret hx hb hr (fun t ht hW => ⟨⟨(n20, n21, h0_sound), rfl, ⟨bn20, bn21, b_h0_sound, ⟨by (try dsimp only) <;> (first | (apply Int.le_antisymm <;> omega) | omega), vr_g (t := j78_s0) (by (first | (apply Int.le_antisymm <;> omega) | omega)) y78 (by (first | (apply Int.le_antisymm <;> omega) | omega)) th0_sound w_154⟩⟩, va_P.he ht.symm hP9, va_K.moved hW.alike hK, hD9⟩, hS.F ht⟩) hS.2.2 d_VA_checkVariable_157
                    · have q124 := eqI c124
                      exact jn127 () _ _ _ ⟨by (try dsimp only) <;> (first | (apply Int.le_antisymm <;> omega) | omega), hP, hD, hS, lv_sub hl [0, 1, 2] rfl⟩
            · skip
              refine lv_icmp_ne (tgt := 109) hx hb d_VA_checkVariable_88 (by decide) (fun c88 => ?_) (fun c88 => ?_)
              · have q88 := neI c88
                exact jn109 () _ _ _ ⟨(fun z => by (first | (apply Int.le_antisymm <;> omega) | omega)), hP, hD, hS, lv_sub hl [1, 2, 0] rfl⟩
              · have q88 := eqI c88
                obtain ⟨x9, ex9⟩ : ∃ x, G9[p1.toInt.toNat]? = some x := by rcases y78 with z | ⟨k, z1, z2, z3⟩; (exfalso; (first | (apply Int.le_antisymm <;> omega) | omega)); (unfold vtyp at z1; rw [if_neg (by (first | (apply Int.le_antisymm <;> omega) | omega))] at z1; rcases h9 : G9[p1.toInt.toNat]? with _ | x; (rw [h9] at z1; cases z1); (exact ⟨x, rfl⟩))
                have lt9 := (List.getElem?_eq_some_iff.mp ex9).1
                have gb9 := (hgl.2 _ _ ex9).2
                have gk9 := (htk.out x9 (List.mem_of_getElem? ex9)).2
                rw [show p1.toInt.toNat = p1.toNatClampNeg from by have := i32_clamp (x := p1) (by (first | (apply Int.le_antisymm <;> omega) | omega)); (first | (apply Int.le_antisymm <;> omega) | omega)] at gb9
                refine lv_aload_n hx hb d_VA_checkVariable_91 rfl (lv_at hl 1 rfl) ?_
                refine va_get (D := (dC, dI)) (ci := 9) (v := .ref aw) (C := R_VA) (T := F_VA) (N := 11) hx hb hts i_VA hown hK hP 0 rfl rfl 0 (by decide) (hts _ kF_VA_28) (fun _ h9 => h9) rfl d_VA_checkVariable_92 ?_
                refine va_get (D := (dC, dI)) (ci := 10) (v := .ref wgc) (C := R_WA) (T := F_WA) (N := 21) hx hb hts i_WA hown hK hP 1 rfl rfl 15 (by decide) (hts _ kF_VA_196) (fun _ h9 => h9) paw_15 d_VA_checkVariable_95 ?_
                refine lv_iload_n hx hb d_VA_checkVariable_98 rfl (lv_at hl 3 rfl) ?_
                have g99 : vp_in p1 20 := vp_in_iff.mpr ⟨by (first | (apply Int.le_antisymm <;> omega) | omega), by (first | (apply Int.le_antisymm <;> omega) | omega)⟩
                refine va_zald hx hb hK hP 12 9 rfl rfl g99 d_VA_checkVariable_99 ?_
                refine lv_topi (fun x22 ex22 => ?_)
                have tx22 : x22.toInt = (gwgc p1.toNatClampNeg).toInt := by rw [ex22]
                refine lv_if_ne (tgt := 109) hx hb d_VA_checkVariable_100 (by decide) (fun c100 => ?_) (fun c100 => ?_)
                · have q100 := neI c100
                  exact jn109 () _ _ _ ⟨(fun z => by (first | (apply Int.le_antisymm <;> omega) | omega)), hP, hD, hS, lv_sub hl [1, 2, 0] rfl⟩
                · have q100 := eqI c100
                  refine lv_aload_n hx hb d_VA_checkVariable_103 rfl (lv_at hl 1 rfl) ?_
                  refine lv_iconst (v := 0) hx hb d_VA_checkVariable_104 (by decide) ?_
                  refine va_put (D := (dC, dI)) (ci := 9) (v := .int 0) (ty := .boolean) (C := R_VA) (T := F_VA) (N := 11) hx hb hts i_VA t_VA t_VA_ok n_VA hown hK hP hD hS 0 rfl rfl 2 (by decide) (hts _ kF_VA_39) (fun _ h9 => h9) rfl (by decide +kernel) rfl rfl (Nat.le_of_ble_eq_true rfl) d_VA_checkVariable_105 (fun H locs hP hD hS => ?_)
                  have hP9 := hP.sb (wq := [(h0, .inr (9, [.ref aw, .ref ac, .int 0, .int h0_function, .ref ty, .int h0_height, .ref bo, .ref bg, .ref bh, .ref bd, .int h0_depth])), (aw, .inr (10, law)), (ac, .inr (3, [.ref cfi, .ref clk, .ref clt, .int ac_length, .ref cop, .ref cva, .ref cpt, .ref cel, .int ac_labelCount, .ref cla])), (ty, .inl (cty, 5000, .inl gty)), (bo, .inl (cbo, 101, .inl gbo)), (bg, .inl (cbg, 101, .inl gbg)), (bh, .inl (cbh, 101, .inl gbh)), (bd, .inl (cbd, 101, .inl gbd)), (waf, .inl (cwaf, 30, .inl gwaf)), (wat, .inl (cwat, 20, .inl gwat)), (wap, .inl (cwap, 160, .inl gwap)), (wgt, .inl (cwgt, 20, .inl gwgt)), (wgc, .inl (cwgc, 20, .inl gwgc)), (clk, .inl (cclk, 30, .inl gclk)), (clt, .inl (cclt, 1800, .inl gclt))]) [0, 1, 2, 3, 4, 5, 6, 7, 8, 9, 10, 11, 12, 13, 14] rfl
                  have hD9 := hD.sb (wq := [(h0, .inr (9, [.ref aw, .ref ac, .int 0, .int h0_function, .ref ty, .int h0_height, .ref bo, .ref bg, .ref bh, .ref bd, .int h0_depth])), (aw, .inr (10, law)), (ac, .inr (3, [.ref cfi, .ref clk, .ref clt, .int ac_length, .ref cop, .ref cva, .ref cpt, .ref cel, .int ac_labelCount, .ref cla])), (ty, .inl (cty, 5000, .inl gty)), (bo, .inl (cbo, 101, .inl gbo)), (bg, .inl (cbg, 101, .inl gbg)), (bh, .inl (cbh, 101, .inl gbh)), (bd, .inl (cbd, 101, .inl gbd)), (waf, .inl (cwaf, 30, .inl gwaf)), (wat, .inl (cwat, 20, .inl gwat)), (wap, .inl (cwap, 160, .inl gwap)), (wgt, .inl (cwgt, 20, .inl gwgt)), (wgc, .inl (cwgc, 20, .inl gwgc)), (clk, .inl (cclk, 30, .inl gclk)), (clt, .inl (cclt, 1800, .inl gclt))]) [0, 1, 2, 3, 4, 5, 6, 7, 8, 9, 10, 11, 12, 13, 14] (by decide) rfl
                  exact W.vret hx hb hr (fun t ht hW => ⟨⟨(gty, h0_height, 0), rfl, ⟨b_gty, b_h0_height, Or.inl rfl, ⟨by (try dsimp only) <;> (first | (apply Int.le_antisymm <;> omega) | omega), [], [], Or.inr ⟨by decide, fun _ => vr_n (t := j78_s0) (by (first | (apply Int.le_antisymm <;> omega) | omega)) y78 (by exact Or.inr ⟨by (first | (apply Int.le_antisymm <;> omega) | omega), (gl_c hgl.2 (by (first | (apply Int.le_antisymm <;> omega) | omega))).1 (by (first | (apply Int.le_antisymm <;> omega) | omega))⟩)⟩⟩⟩, va_P.he ht.symm hP9, va_K.moved hW.alike hK, hD9⟩, hS.F ht⟩) hS.2.2 d_VA_checkVariable_108
        · skip
          refine lv_if_ne (tgt := 54) hx hb d_VA_checkVariable_36 (by decide) (fun c36 => absurd (neI c36) (by (first | (apply Int.le_antisymm <;> omega) | omega))) (fun c36 => ?_)
          have q36 := eqI c36
          refine lv_aload_n hx hb d_VA_checkVariable_39 rfl (lv_at hl 1 rfl) ?_
          refine va_get (D := (dC, dI)) (ci := 9) (v := .ref aw) (C := R_VA) (T := F_VA) (N := 11) hx hb hts i_VA hown hK hP 0 rfl rfl 0 (by decide) (hts _ kF_VA_28) (fun _ h9 => h9) rfl d_VA_checkVariable_40 ?_
          refine lv_aload_n hx hb d_VA_checkVariable_43 rfl (lv_at hl 1 rfl) ?_
          refine va_get (D := (dC, dI)) (ci := 9) (v := .int h0_function) (C := R_VA) (T := F_VA) (N := 11) hx hb hts i_VA hown hK hP 0 rfl rfl 3 (by decide) (hts _ kF_VA_111) (fun _ h9 => h9) rfl d_VA_checkVariable_44 ?_
          refine lv_iload_n hx hb d_VA_checkVariable_47 rfl (lv_at hl 3 rfl) ?_
          have hPc := hP.sb (wq := (wz_32 aw law ac cfi clk clt ac_length cop cva cpt cel ac_labelCount cla waf cwaf gwaf wat cwat gwat wap cwap gwap clk cclk gclk clt cclt gclt)) [1, 2, 8, 9, 10, 13, 14] rfl
          have hDc := hD.sb (wq := (wz_32 aw law ac cfi clk clt ac_length cop cva cpt cel ac_labelCount cla waf cwaf gwaf wat cwat gwat wap cwap gwap clk cclk gclk clt cclt gclt)) [1, 2, 8, 9, 10, 13, 14] (by decide) rfl
          have hKc := hK.sb (tyq := [(cwaf, .int), (cwat, .int), (cwap, .int), (cclk, .int), (cclt, .int)]) [5, 6, 7, 10, 11] rfl
          have hFc := va_free (wc := (wz_32 aw law ac cfi clk clt ac_length cop cva cpt cel ac_labelCount cla waf cwaf gwaf wat cwat gwat wap cwap gwap clk cclk gclk clt cclt gclt)) hD hS hA [1, 2, 8, 9, 10, 13, 14] rfl
          refine va_calli (va_runV (As := [.int h0_function, .int p1]) (rest := []) ⟨hx, hb, hml, hown, hts⟩ (c_WA_localTypex l dC dI H.size aw ac wat wap waf cfi clk clt cop cva cpt cel cla cwaf cwat cwap cclk cclt law ac_length ac_labelCount gwaf gwat gwap gclk gclt paw_1 paw_3 paw_4 paw_7 plaw h0_function p1 (by (try dsimp only) <;> (first | (apply Int.le_antisymm <;> omega) | omega)) (by (first | (apply Int.le_antisymm <;> omega) | omega)) (by (first | (apply Int.le_antisymm <;> omega) | omega))) (cwV 2 hts (gV kM_VA_185 kV_WA_localType kS_WA_localType kI_WA kC_WA_localType) rfl rfl rfl (by decide +kernel) ⟨Nat.le_of_ble_eq_true rfl, Nat.le_of_ble_eq_true rfl⟩) ⟨fun a U g mk z => by obtain ⟨z0, z1, zP, zK, zD⟩ := z; exact ⟨z0, z1, zP, va_K.moved (u := U) (U := U.calling g mk a) (Vm.Alike.refl U.vm) zK, zD⟩, va_recv hKc hPc (ci := 10) (q0 := 0) rfl rfl, fun U hU hW => ⟨rfl, by rw [hU], va_P.he hU.symm hPc, va_K.moved hW.alike hKc, hDc.weaken (fun _ _ _ _ => trivial)⟩⟩ rfl rfl hl.1 rfl (lv_room (Nat.le_of_ble_eq_true rfl)) d_VA_checkVariable_48 ⟨(Nat.zero_le _), (Nat.zero_le _)⟩) hS (fun q _ h => hFc q h) hFc (fun r23 u t H1 locs ht hvm hw hB hz1 hk1 hS => ?_)
          try dsimp only at hw
          have xr23 := hw
          try clear hw
          have l48 : vtz (vtyp G9 lo9 p0.toInt.toNat p1.toInt.toNat) r23 := lo_t hlo (by (first | (apply Int.le_antisymm <;> omega) | omega)) (by (first | (apply Int.le_antisymm <;> omega) | omega)) (by (first | (apply Int.le_antisymm <;> omega) | omega)) (by (first | (apply Int.le_antisymm <;> omega) | omega)) (by (first | (apply Int.le_antisymm <;> omega) | omega)) xr23
          clear xr23
          obtain ⟨hP1, hK1, hD1⟩ := hB
          replace hP1 := va_P.he ht hP1
          obtain ⟨hP, hD⟩ := va_join (wr := [(h0, .inr (9, [.ref aw, .ref ac, .int h0_sound, .int h0_function, .ref ty, .int h0_height, .ref bo, .ref bg, .ref bh, .ref bd, .int h0_depth])), (ty, .inl (cty, 5000, .inl gty)), (bo, .inl (cbo, 101, .inl gbo)), (bg, .inl (cbg, 101, .inl gbg)), (bh, .inl (cbh, 101, .inl gbh)), (bd, .inl (cbd, 101, .inl gbd)), (wgt, .inl (cwgt, 20, .inl gwgt)), (wgc, .inl (cwgc, 20, .inl gwgc))]) (w1 := (wz_32 aw law ac cfi clk clt ac_length cop cva cpt cel ac_labelCount cla waf cwaf gwaf wat cwat gwat wap cwap gwap clk cclk gclk clt cclt gclt)) hP hD [1, 2, 8, 9, 10, 13, 14] [0, 3, 4, 5, 6, 7, 11, 12] rfl rfl (by decide) (by decide) hk1 hFc hP1 hD1
          clear hPc hDc hKc hFc hz1 hk1 hP1 hK1 hD1
          rename Heap => H
          have hP : va_P (dC, dI) cls [(h0, .inr (9, [.ref aw, .ref ac, .int h0_sound, .int h0_function, .ref ty, .int h0_height, .ref bo, .ref bg, .ref bh, .ref bd, .int h0_depth])), (ty, .inl (cty, 5000, .inl gty)), (bo, .inl (cbo, 101, .inl gbo)), (bg, .inl (cbg, 101, .inl gbg)), (bh, .inl (cbh, 101, .inl gbh)), (bd, .inl (cbd, 101, .inl gbd)), (wgt, .inl (cwgt, 20, .inl gwgt)), (wgc, .inl (cwgc, 20, .inl gwgc)), (aw, .inr (10, law)), (ac, .inr (3, [.ref cfi, .ref clk, .ref clt, .int ac_length, .ref cop, .ref cva, .ref cpt, .ref cel, .int ac_labelCount, .ref cla])), (waf, .inl (cwaf, 30, .inl gwaf)), (wat, .inl (cwat, 20, .inl gwat)), (wap, .inl (cwap, 160, .inl gwap)), (clk, .inl (cclk, 30, .inl gclk)), (clt, .inl (cclt, 1800, .inl gclt))] H := hP
          have hD : va_D A [(h0, .inr (9, [.ref aw, .ref ac, .int h0_sound, .int h0_function, .ref ty, .int h0_height, .ref bo, .ref bg, .ref bh, .ref bd, .int h0_depth])), (ty, .inl (cty, 5000, .inl gty)), (bo, .inl (cbo, 101, .inl gbo)), (bg, .inl (cbg, 101, .inl gbg)), (bh, .inl (cbh, 101, .inl gbh)), (bd, .inl (cbd, 101, .inl gbd)), (wgt, .inl (cwgt, 20, .inl gwgt)), (wgc, .inl (cwgc, 20, .inl gwgc)), (aw, .inr (10, law)), (ac, .inr (3, [.ref cfi, .ref clk, .ref clt, .int ac_length, .ref cop, .ref cva, .ref cpt, .ref cel, .int ac_labelCount, .ref cla])), (waf, .inl (cwaf, 30, .inl gwaf)), (wat, .inl (cwat, 20, .inl gwat)), (wap, .inl (cwap, 160, .inl gwap)), (clk, .inl (cclk, 30, .inl gclk)), (clt, .inl (cclt, 1800, .inl gclt))] := hD
          refine lv_goto (tgt := 78) hx hb d_VA_checkVariable_51 (by decide) ?_
          exact jn78 r23 _ _ _ ⟨l48, hP.sub [0, 8, 9, 1, 2, 3, 4, 5, 10, 11, 12, 6, 7, 13, 14] rfl, hD.sub [0, 8, 9, 1, 2, 3, 4, 5, 10, 11, 12, 6, 7, 13, 14] (by decide) rfl, hS, lv_sub hl [1, 2, 3] rfl⟩
      · have q26 := nltI c26
        refine lv_iconst (v := 1) hx hb d_VA_checkVariable_29 (by decide) ?_
        refine lv_goto (tgt := 34) hx hb d_VA_checkVariable_30 (by decide) ?_
        refine lv_istore_n (lv' := [(3, .int 1), (0, .ref h0), (1, .int p0), (2, .int p1)]) hx hb d_VA_checkVariable_34 rfl hl (by decide) rfl (fun ls hl => ?_)
        refine lv_iload_n hx hb d_VA_checkVariable_35 rfl (lv_at hl 0 rfl) ?_
        refine w_cut (pc2 := 78) (σ := Int32) (fun u H locs ls => match u with | j78_s0 => (vtz (vtyp G9 lo9 p0.toInt.toNat p1.toInt.toNat) j78_s0) ∧ va_P (dC, dI) cls [(h0, .inr (9, [.ref aw, .ref ac, .int h0_sound, .int h0_function, .ref ty, .int h0_height, .ref bo, .ref bg, .ref bh, .ref bd, .int h0_depth])), (aw, .inr (10, law)), (ac, .inr (3, [.ref cfi, .ref clk, .ref clt, .int ac_length, .ref cop, .ref cva, .ref cpt, .ref cel, .int ac_labelCount, .ref cla])), (ty, .inl (cty, 5000, .inl gty)), (bo, .inl (cbo, 101, .inl gbo)), (bg, .inl (cbg, 101, .inl gbg)), (bh, .inl (cbh, 101, .inl gbh)), (bd, .inl (cbd, 101, .inl gbd)), (waf, .inl (cwaf, 30, .inl gwaf)), (wat, .inl (cwat, 20, .inl gwat)), (wap, .inl (cwap, 160, .inl gwap)), (wgt, .inl (cwgt, 20, .inl gwgt)), (wgc, .inl (cwgc, 20, .inl gwgc)), (clk, .inl (cclk, 30, .inl gclk)), (clt, .inl (cclt, 1800, .inl gclt))] H ∧ va_D A [(h0, .inr (9, [.ref aw, .ref ac, .int h0_sound, .int h0_function, .ref ty, .int h0_height, .ref bo, .ref bg, .ref bh, .ref bd, .int h0_depth])), (aw, .inr (10, law)), (ac, .inr (3, [.ref cfi, .ref clk, .ref clt, .int ac_length, .ref cop, .ref cva, .ref cpt, .ref cel, .int ac_labelCount, .ref cla])), (ty, .inl (cty, 5000, .inl gty)), (bo, .inl (cbo, 101, .inl gbo)), (bg, .inl (cbg, 101, .inl gbg)), (bh, .inl (cbh, 101, .inl gbh)), (bd, .inl (cbd, 101, .inl gbd)), (waf, .inl (cwaf, 30, .inl gwaf)), (wat, .inl (cwat, 20, .inl gwat)), (wap, .inl (cwap, 160, .inl gwap)), (wgt, .inl (cwgt, 20, .inl gwgt)), (wgc, .inl (cwgc, 20, .inl gwgc)), (clk, .inl (cclk, 30, .inl gclk)), (clt, .inl (cclt, 1800, .inl gclt))] ∧ va_S A s.heap H locs ∧ lv_has ls 5 [(0, .ref h0), (1, .int p0), (2, .int p1)]) (fun u => match u with | j78_s0 => [.int j78_s0]) ?_ (fun jn78 => ?_)
        · intro u H locs ls hI
          obtain ⟨j78_s0, rfl⟩ : ∃ z, z = u := ⟨_, rfl⟩
          obtain ⟨y78, hP, hD, hS, hl⟩ := hI
          refine lv_istore (lv' := [(4, .int j78_s0), (0, .ref h0), (1, .int p0), (2, .int p1)]) hx hb d_VA_checkVariable_78 hl (by decide) rfl (fun ls hl => ?_)
          refine lv_iload hx hb d_VA_checkVariable_80 (lv_at hl 0 rfl) ?_
          refine lv_if_eq (tgt := 103) hx hb d_VA_checkVariable_82 (by decide) (fun c82 => ?_) (fun c82 => ?_)
          · have q82 := eqI c82
            refine lv_aload_n hx hb d_VA_checkVariable_103 rfl (lv_at hl 1 rfl) ?_
            refine lv_iconst (v := 0) hx hb d_VA_checkVariable_104 (by decide) ?_
            refine va_put (D := (dC, dI)) (ci := 9) (v := .int 0) (ty := .boolean) (C := R_VA) (T := F_VA) (N := 11) hx hb hts i_VA t_VA t_VA_ok n_VA hown hK hP hD hS 0 rfl rfl 2 (by decide) (hts _ kF_VA_39) (fun _ h9 => h9) rfl (by decide +kernel) rfl rfl (Nat.le_of_ble_eq_true rfl) d_VA_checkVariable_105 (fun H locs hP hD hS => ?_)
            have hP9 := hP.sb (wq := [(h0, .inr (9, [.ref aw, .ref ac, .int 0, .int h0_function, .ref ty, .int h0_height, .ref bo, .ref bg, .ref bh, .ref bd, .int h0_depth])), (aw, .inr (10, law)), (ac, .inr (3, [.ref cfi, .ref clk, .ref clt, .int ac_length, .ref cop, .ref cva, .ref cpt, .ref cel, .int ac_labelCount, .ref cla])), (ty, .inl (cty, 5000, .inl gty)), (bo, .inl (cbo, 101, .inl gbo)), (bg, .inl (cbg, 101, .inl gbg)), (bh, .inl (cbh, 101, .inl gbh)), (bd, .inl (cbd, 101, .inl gbd)), (waf, .inl (cwaf, 30, .inl gwaf)), (wat, .inl (cwat, 20, .inl gwat)), (wap, .inl (cwap, 160, .inl gwap)), (wgt, .inl (cwgt, 20, .inl gwgt)), (wgc, .inl (cwgc, 20, .inl gwgc)), (clk, .inl (cclk, 30, .inl gclk)), (clt, .inl (cclt, 1800, .inl gclt))]) [0, 1, 2, 3, 4, 5, 6, 7, 8, 9, 10, 11, 12, 13, 14] rfl
            have hD9 := hD.sb (wq := [(h0, .inr (9, [.ref aw, .ref ac, .int 0, .int h0_function, .ref ty, .int h0_height, .ref bo, .ref bg, .ref bh, .ref bd, .int h0_depth])), (aw, .inr (10, law)), (ac, .inr (3, [.ref cfi, .ref clk, .ref clt, .int ac_length, .ref cop, .ref cva, .ref cpt, .ref cel, .int ac_labelCount, .ref cla])), (ty, .inl (cty, 5000, .inl gty)), (bo, .inl (cbo, 101, .inl gbo)), (bg, .inl (cbg, 101, .inl gbg)), (bh, .inl (cbh, 101, .inl gbh)), (bd, .inl (cbd, 101, .inl gbd)), (waf, .inl (cwaf, 30, .inl gwaf)), (wat, .inl (cwat, 20, .inl gwat)), (wap, .inl (cwap, 160, .inl gwap)), (wgt, .inl (cwgt, 20, .inl gwgt)), (wgc, .inl (cwgc, 20, .inl gwgc)), (clk, .inl (cclk, 30, .inl gclk)), (clt, .inl (cclt, 1800, .inl gclt))]) [0, 1, 2, 3, 4, 5, 6, 7, 8, 9, 10, 11, 12, 13, 14] (by decide) rfl
            exact W.vret hx hb hr (fun t ht hW => ⟨⟨(gty, h0_height, 0), rfl, ⟨b_gty, b_h0_height, Or.inl rfl, ⟨by (try dsimp only) <;> (first | (apply Int.le_antisymm <;> omega) | omega), [], [], Or.inr ⟨by decide, fun _ => vr_n (t := j78_s0) (by (first | (apply Int.le_antisymm <;> omega) | omega)) y78 (by exact Or.inl (by (first | (apply Int.le_antisymm <;> omega) | omega)))⟩⟩⟩, va_P.he ht.symm hP9, va_K.moved hW.alike hK, hD9⟩, hS.F ht⟩) hS.2.2 d_VA_checkVariable_108
          · have q82 := neI c82
            refine lv_iload_n hx hb d_VA_checkVariable_85 rfl (lv_at hl 2 rfl) ?_
            refine lv_bipush (v := 36) hx hb d_VA_checkVariable_86 (by decide) ?_
            refine w_cut (pc2 := 109) (σ := Unit) (fun u H locs ls => match u with | _ => (bx (p0.toInt = 36 → (gwgc p1.toNatClampNeg).toInt = 1)) ∧ va_P (dC, dI) cls [(h0, .inr (9, [.ref aw, .ref ac, .int h0_sound, .int h0_function, .ref ty, .int h0_height, .ref bo, .ref bg, .ref bh, .ref bd, .int h0_depth])), (aw, .inr (10, law)), (ac, .inr (3, [.ref cfi, .ref clk, .ref clt, .int ac_length, .ref cop, .ref cva, .ref cpt, .ref cel, .int ac_labelCount, .ref cla])), (ty, .inl (cty, 5000, .inl gty)), (bo, .inl (cbo, 101, .inl gbo)), (bg, .inl (cbg, 101, .inl gbg)), (bh, .inl (cbh, 101, .inl gbh)), (bd, .inl (cbd, 101, .inl gbd)), (waf, .inl (cwaf, 30, .inl gwaf)), (wat, .inl (cwat, 20, .inl gwat)), (wap, .inl (cwap, 160, .inl gwap)), (wgt, .inl (cwgt, 20, .inl gwgt)), (wgc, .inl (cwgc, 20, .inl gwgc)), (clk, .inl (cclk, 30, .inl gclk)), (clt, .inl (cclt, 1800, .inl gclt))] H ∧ va_D A [(h0, .inr (9, [.ref aw, .ref ac, .int h0_sound, .int h0_function, .ref ty, .int h0_height, .ref bo, .ref bg, .ref bh, .ref bd, .int h0_depth])), (aw, .inr (10, law)), (ac, .inr (3, [.ref cfi, .ref clk, .ref clt, .int ac_length, .ref cop, .ref cva, .ref cpt, .ref cel, .int ac_labelCount, .ref cla])), (ty, .inl (cty, 5000, .inl gty)), (bo, .inl (cbo, 101, .inl gbo)), (bg, .inl (cbg, 101, .inl gbg)), (bh, .inl (cbh, 101, .inl gbh)), (bd, .inl (cbd, 101, .inl gbd)), (waf, .inl (cwaf, 30, .inl gwaf)), (wat, .inl (cwat, 20, .inl gwat)), (wap, .inl (cwap, 160, .inl gwap)), (wgt, .inl (cwgt, 20, .inl gwgt)), (wgc, .inl (cwgc, 20, .inl gwgc)), (clk, .inl (cclk, 30, .inl gclk)), (clt, .inl (cclt, 1800, .inl gclt))] ∧ va_S A s.heap H locs ∧ lv_has ls 5 [(0, .ref h0), (1, .int p0), (4, .int j78_s0)]) (fun u => match u with | _ => []) ?_ (fun jn109 => ?_)
            · intro u H locs ls hI
              obtain ⟨y109, hP, hD, hS, hl⟩ := hI
              refine lv_iload_n hx hb d_VA_checkVariable_109 rfl (lv_at hl 1 rfl) ?_
              refine lv_bipush (v := 33) hx hb d_VA_checkVariable_110 (by decide) ?_
              refine w_cut (pc2 := 127) (σ := Unit) (fun u H locs ls => match u with | _ => (p0.toInt = 33 ∨ p0.toInt = 34 ∨ p0.toInt = 36) ∧ va_P (dC, dI) cls [(h0, .inr (9, [.ref aw, .ref ac, .int h0_sound, .int h0_function, .ref ty, .int h0_height, .ref bo, .ref bg, .ref bh, .ref bd, .int h0_depth])), (aw, .inr (10, law)), (ac, .inr (3, [.ref cfi, .ref clk, .ref clt, .int ac_length, .ref cop, .ref cva, .ref cpt, .ref cel, .int ac_labelCount, .ref cla])), (ty, .inl (cty, 5000, .inl gty)), (bo, .inl (cbo, 101, .inl gbo)), (bg, .inl (cbg, 101, .inl gbg)), (bh, .inl (cbh, 101, .inl gbh)), (bd, .inl (cbd, 101, .inl gbd)), (waf, .inl (cwaf, 30, .inl gwaf)), (wat, .inl (cwat, 20, .inl gwat)), (wap, .inl (cwap, 160, .inl gwap)), (wgt, .inl (cwgt, 20, .inl gwgt)), (wgc, .inl (cwgc, 20, .inl gwgc)), (clk, .inl (cclk, 30, .inl gclk)), (clt, .inl (cclt, 1800, .inl gclt))] H ∧ va_D A [(h0, .inr (9, [.ref aw, .ref ac, .int h0_sound, .int h0_function, .ref ty, .int h0_height, .ref bo, .ref bg, .ref bh, .ref bd, .int h0_depth])), (aw, .inr (10, law)), (ac, .inr (3, [.ref cfi, .ref clk, .ref clt, .int ac_length, .ref cop, .ref cva, .ref cpt, .ref cel, .int ac_labelCount, .ref cla])), (ty, .inl (cty, 5000, .inl gty)), (bo, .inl (cbo, 101, .inl gbo)), (bg, .inl (cbg, 101, .inl gbg)), (bh, .inl (cbh, 101, .inl gbh)), (bd, .inl (cbd, 101, .inl gbd)), (waf, .inl (cwaf, 30, .inl gwaf)), (wat, .inl (cwat, 20, .inl gwat)), (wap, .inl (cwap, 160, .inl gwap)), (wgt, .inl (cwgt, 20, .inl gwgt)), (wgc, .inl (cwgc, 20, .inl gwgc)), (clk, .inl (cclk, 30, .inl gclk)), (clt, .inl (cclt, 1800, .inl gclt))] ∧ va_S A s.heap H locs ∧ lv_has ls 5 [(0, .ref h0), (1, .int p0), (4, .int j78_s0)]) (fun u => match u with | _ => []) ?_ (fun jn127 => ?_)
              · intro u H locs ls hI
                obtain ⟨y127, hP, hD, hS, hl⟩ := hI
                refine lv_aload_n hx hb d_VA_checkVariable_127 rfl (lv_at hl 0 rfl) ?_
                refine lv_iload hx hb d_VA_checkVariable_128 (lv_at hl 2 rfl) ?_
                have hPc := hP.sb (wq := (wz_86 h0 aw ac h0_sound h0_function ty h0_height bo bg bh bd h0_depth ty cty gty bo cbo gbo bg cbg gbg bh cbh gbh bd cbd gbd)) [0, 3, 4, 5, 6, 7] rfl
                have hDc := hD.sb (wq := (wz_86 h0 aw ac h0_sound h0_function ty h0_height bo bg bh bd h0_depth ty cty gty bo cbo gbo bg cbg gbg bh cbh gbh bd cbd gbd)) [0, 3, 4, 5, 6, 7] (by decide) rfl
                have hKc := hK.sb (tyq := [(cty, .int), (cbo, .int), (cbg, .int), (cbh, .int), (cbd, .boolean)]) [0, 1, 2, 3, 4] rfl
                have hFc := va_free (wc := (wz_86 h0 aw ac h0_sound h0_function ty h0_height bo bg bh bd h0_depth ty cty gty bo cbo gbo bg cbg gbg bh cbh gbh bd cbd gbd)) hD hS hA [0, 3, 4, 5, 6, 7] rfl
                refine va_callv (va_runV (As := [.int j78_s0]) (rest := []) ⟨hx, hb, hml, hown, hts⟩ (c_VA_popy l dC dI H.size h0 aw ac ty bo bg bh bd cty cbo cbg cbh cbd h0_sound h0_function h0_height h0_depth gty gbo gbg gbh gbd S9 B9 (b_h0_sound) (b_h0_height) (b_h0_depth) (b_gty) (b_gbh) j78_s0 (hv) ((fun _ => by rcases y78 with z | ⟨k, z1, z2, z3⟩; ((first | (apply Int.le_antisymm <;> omega) | omega)); ((first | (apply Int.le_antisymm <;> omega) | omega))))) (cwV 1 hts (gV kM_VA_161 kV_VA_pop kS_VA_pop kI_VA kC_VA_pop) rfl rfl rfl (by decide +kernel) ⟨Nat.le_of_ble_eq_true rfl, Nat.le_of_ble_eq_true rfl⟩) ⟨fun a U g mk z => by obtain ⟨z0, z1, zP, zK, zD⟩ := z; exact ⟨z0, z1, zP, va_K.moved (u := U) (U := U.calling g mk a) (Vm.Alike.refl U.vm) zK, zD⟩, va_recv hKc hPc (ci := 9) (q0 := 0) rfl rfl, fun U hU hW => ⟨rfl, by rw [hU], va_P.he hU.symm hPc, va_K.moved hW.alike hKc, hDc.weaken (fun _ _ _ _ => trivial)⟩⟩ rfl rfl hl.1 rfl (lv_room (Nat.le_of_ble_eq_true rfl)) d_VA_checkVariable_130 ⟨(Nat.zero_le _), (Nat.zero_le _)⟩) hS (fun q _ h => hFc q h) hFc (fun u t H1 locs ht hvm hw hB hz1 hk1 hS => ?_)
                obtain ⟨n25, n26⟩ := u
                try dsimp only at hw
                obtain ⟨bn25, bn26, xr24⟩ := hw
                try clear hw
                have tn26 := b01 bn26
                have hl130 := xr24.1
                obtain ⟨S_130, q_130, w_130⟩ := vwz_1 xr24.2
                have ql130 : n26.toInt = 1 → h0_sound.toInt = 1 := by rcases q_130 with z2 | z2; (exact fun _ => z2.2.1); (exact fun z => absurd z2.1 (by (first | (apply Int.le_antisymm <;> omega) | omega)))
                clear xr24
                obtain ⟨hP1, hK1, hD1⟩ := hB
                replace hP1 := va_P.he ht hP1
                obtain ⟨hP, hD⟩ := va_join (wr := (wz_76 aw law ac cfi clk clt ac_length cop cva cpt cel ac_labelCount cla waf cwaf gwaf wat cwat gwat wap cwap gwap wgt cwgt gwgt wgc cwgc gwgc clk cclk gclk clt cclt gclt)) (w1 := (wz_86 h0 aw ac n26 h0_function ty n25 bo bg bh bd h0_depth ty cty gty bo cbo gbo bg cbg gbg bh cbh gbh bd cbd gbd)) hP hD [0, 3, 4, 5, 6, 7] [1, 2, 8, 9, 10, 11, 12, 13, 14] rfl rfl (by decide) (by decide) hk1 hFc hP1 hD1
                clear hPc hDc hKc hFc hz1 hk1 hP1 hK1 hD1
                rename Heap => H
                have hP : va_P (dC, dI) cls [(aw, .inr (10, law)), (ac, .inr (3, [.ref cfi, .ref clk, .ref clt, .int ac_length, .ref cop, .ref cva, .ref cpt, .ref cel, .int ac_labelCount, .ref cla])), (waf, .inl (cwaf, 30, .inl gwaf)), (wat, .inl (cwat, 20, .inl gwat)), (wap, .inl (cwap, 160, .inl gwap)), (wgt, .inl (cwgt, 20, .inl gwgt)), (wgc, .inl (cwgc, 20, .inl gwgc)), (clk, .inl (cclk, 30, .inl gclk)), (clt, .inl (cclt, 1800, .inl gclt)), (h0, .inr (9, [.ref aw, .ref ac, .int n26, .int h0_function, .ref ty, .int n25, .ref bo, .ref bg, .ref bh, .ref bd, .int h0_depth])), (ty, .inl (cty, 5000, .inl gty)), (bo, .inl (cbo, 101, .inl gbo)), (bg, .inl (cbg, 101, .inl gbg)), (bh, .inl (cbh, 101, .inl gbh)), (bd, .inl (cbd, 101, .inl gbd))] H := hP
                have hD : va_D A [(aw, .inr (10, law)), (ac, .inr (3, [.ref cfi, .ref clk, .ref clt, .int ac_length, .ref cop, .ref cva, .ref cpt, .ref cel, .int ac_labelCount, .ref cla])), (waf, .inl (cwaf, 30, .inl gwaf)), (wat, .inl (cwat, 20, .inl gwat)), (wap, .inl (cwap, 160, .inl gwap)), (wgt, .inl (cwgt, 20, .inl gwgt)), (wgc, .inl (cwgc, 20, .inl gwgc)), (clk, .inl (cclk, 30, .inl gclk)), (clt, .inl (cclt, 1800, .inl gclt)), (h0, .inr (9, [.ref aw, .ref ac, .int n26, .int h0_function, .ref ty, .int n25, .ref bo, .ref bg, .ref bh, .ref bd, .int h0_depth])), (ty, .inl (cty, 5000, .inl gty)), (bo, .inl (cbo, 101, .inl gbo)), (bg, .inl (cbg, 101, .inl gbg)), (bh, .inl (cbh, 101, .inl gbh)), (bd, .inl (cbd, 101, .inl gbd))] := hD
                refine lv_iload_n hx hb d_VA_checkVariable_133 rfl (lv_at hl 1 rfl) ?_
                refine lv_bipush (v := 32) hx hb d_VA_checkVariable_134 (by decide) ?_
                refine lv_icmp_eq (tgt := 151) hx hb d_VA_checkVariable_136 (by decide) (fun c136 => ?_) (fun c136 => ?_)
                · have q136 := eqI c136
                  refine lv_aload_n hx hb d_VA_checkVariable_151 rfl (lv_at hl 0 rfl) ?_
                  refine lv_iload hx hb d_VA_checkVariable_152 (lv_at hl 2 rfl) ?_
                  have hPc := hP.sb (wq := (wz_86 h0 aw ac n26 h0_function ty n25 bo bg bh bd h0_depth ty cty gty bo cbo gbo bg cbg gbg bh cbh gbh bd cbd gbd)) [9, 10, 11, 12, 13, 14] rfl
                  have hDc := hD.sb (wq := (wz_86 h0 aw ac n26 h0_function ty n25 bo bg bh bd h0_depth ty cty gty bo cbo gbo bg cbg gbg bh cbh gbh bd cbd gbd)) [9, 10, 11, 12, 13, 14] (by decide) rfl
                  have hKc := hK.sb (tyq := [(cty, .int), (cbo, .int), (cbg, .int), (cbh, .int), (cbd, .boolean)]) [0, 1, 2, 3, 4] rfl
                  have hFc := va_free (wc := (wz_86 h0 aw ac n26 h0_function ty n25 bo bg bh bd h0_depth ty cty gty bo cbo gbo bg cbg gbg bh cbh gbh bd cbd gbd)) hD hS hA [9, 10, 11, 12, 13, 14] rfl
                  refine va_callv (va_runV (As := [.int j78_s0]) (rest := []) ⟨hx, hb, hml, hown, hts⟩ (c_VA_pushy l dC dI H.size h0 aw ac ty bo bg bh bd cty cbo cbg cbh cbd n26 h0_function n25 h0_depth gty gbo gbg gbh gbd S_130 B9 (bn26) (bn25) (b_h0_depth) (b_gty) (b_gbh) j78_s0 (w_130) ((fun _ => by rcases y78 with z | ⟨k, z1, z2, z3⟩; ((first | (apply Int.le_antisymm <;> omega) | omega)); ((first | (apply Int.le_antisymm <;> omega) | omega)))) ((fun z => by have := h5 (by (first | (apply Int.le_antisymm <;> omega) | omega)); (first | (apply Int.le_antisymm <;> omega) | omega)))) (cwV 1 hts (gV kM_VA_167 kV_VA_push kS_VA_push kI_VA kC_VA_push) rfl rfl rfl (by decide +kernel) ⟨Nat.le_of_ble_eq_true rfl, Nat.le_of_ble_eq_true rfl⟩) ⟨fun a U g mk z => by obtain ⟨z0, z1, zP, zK, zD⟩ := z; exact ⟨z0, z1, zP, va_K.moved (u := U) (U := U.calling g mk a) (Vm.Alike.refl U.vm) zK, zD⟩, va_recv hKc hPc (ci := 9) (q0 := 0) rfl rfl, fun U hU hW => ⟨rfl, by rw [hU], va_P.he hU.symm hPc, va_K.moved hW.alike hKc, hDc.weaken (fun _ _ _ _ => trivial)⟩⟩ rfl rfl hl.1 rfl (lv_room (Nat.le_of_ble_eq_true rfl)) d_VA_checkVariable_154 ⟨(Nat.zero_le _), (Nat.zero_le _)⟩) hS (fun q _ h => hFc q h) hFc (fun u t H1 locs ht hvm hw hB hz1 hk1 hS => ?_)
                  obtain ⟨n28, n29⟩ := u
                  try dsimp only at hw
                  obtain ⟨bn28, bn29, xr27⟩ := hw
                  try clear hw
                  have hl154 := xr27.1
                  have w_154 := xr27.2
                  clear xr27
                  obtain ⟨hP1, hK1, hD1⟩ := hB
                  replace hP1 := va_P.he ht hP1
                  obtain ⟨hP, hD⟩ := va_join (wr := (wz_76 aw law ac cfi clk clt ac_length cop cva cpt cel ac_labelCount cla waf cwaf gwaf wat cwat gwat wap cwap gwap wgt cwgt gwgt wgc cwgc gwgc clk cclk gclk clt cclt gclt)) (w1 := (wz_86 h0 aw ac n26 h0_function ty n29 bo bg bh bd h0_depth ty cty n28 bo cbo gbo bg cbg gbg bh cbh gbh bd cbd gbd)) hP hD [9, 10, 11, 12, 13, 14] [0, 1, 2, 3, 4, 5, 6, 7, 8] rfl rfl (by decide) (by decide) hk1 hFc hP1 hD1
                  clear hPc hDc hKc hFc hz1 hk1 hP1 hK1 hD1
                  rename Heap => H
                  have hP : va_P (dC, dI) cls [(aw, .inr (10, law)), (ac, .inr (3, [.ref cfi, .ref clk, .ref clt, .int ac_length, .ref cop, .ref cva, .ref cpt, .ref cel, .int ac_labelCount, .ref cla])), (waf, .inl (cwaf, 30, .inl gwaf)), (wat, .inl (cwat, 20, .inl gwat)), (wap, .inl (cwap, 160, .inl gwap)), (wgt, .inl (cwgt, 20, .inl gwgt)), (wgc, .inl (cwgc, 20, .inl gwgc)), (clk, .inl (cclk, 30, .inl gclk)), (clt, .inl (cclt, 1800, .inl gclt)), (h0, .inr (9, [.ref aw, .ref ac, .int n26, .int h0_function, .ref ty, .int n29, .ref bo, .ref bg, .ref bh, .ref bd, .int h0_depth])), (ty, .inl (cty, 5000, .inl n28)), (bo, .inl (cbo, 101, .inl gbo)), (bg, .inl (cbg, 101, .inl gbg)), (bh, .inl (cbh, 101, .inl gbh)), (bd, .inl (cbd, 101, .inl gbd))] H := hP
                  have hD : va_D A [(aw, .inr (10, law)), (ac, .inr (3, [.ref cfi, .ref clk, .ref clt, .int ac_length, .ref cop, .ref cva, .ref cpt, .ref cel, .int ac_labelCount, .ref cla])), (waf, .inl (cwaf, 30, .inl gwaf)), (wat, .inl (cwat, 20, .inl gwat)), (wap, .inl (cwap, 160, .inl gwap)), (wgt, .inl (cwgt, 20, .inl gwgt)), (wgc, .inl (cwgc, 20, .inl gwgc)), (clk, .inl (cclk, 30, .inl gclk)), (clt, .inl (cclt, 1800, .inl gclt)), (h0, .inr (9, [.ref aw, .ref ac, .int n26, .int h0_function, .ref ty, .int n29, .ref bo, .ref bg, .ref bh, .ref bd, .int h0_depth])), (ty, .inl (cty, 5000, .inl n28)), (bo, .inl (cbo, 101, .inl gbo)), (bg, .inl (cbg, 101, .inl gbg)), (bh, .inl (cbh, 101, .inl gbh)), (bd, .inl (cbd, 101, .inl gbd))] := hD
                  have hP9 := hP.sb (wq := [(h0, .inr (9, [.ref aw, .ref ac, .int n26, .int h0_function, .ref ty, .int n29, .ref bo, .ref bg, .ref bh, .ref bd, .int h0_depth])), (aw, .inr (10, law)), (ac, .inr (3, [.ref cfi, .ref clk, .ref clt, .int ac_length, .ref cop, .ref cva, .ref cpt, .ref cel, .int ac_labelCount, .ref cla])), (ty, .inl (cty, 5000, .inl n28)), (bo, .inl (cbo, 101, .inl gbo)), (bg, .inl (cbg, 101, .inl gbg)), (bh, .inl (cbh, 101, .inl gbh)), (bd, .inl (cbd, 101, .inl gbd)), (waf, .inl (cwaf, 30, .inl gwaf)), (wat, .inl (cwat, 20, .inl gwat)), (wap, .inl (cwap, 160, .inl gwap)), (wgt, .inl (cwgt, 20, .inl gwgt)), (wgc, .inl (cwgc, 20, .inl gwgc)), (clk, .inl (cclk, 30, .inl gclk)), (clt, .inl (cclt, 1800, .inl gclt))]) [9, 0, 1, 10, 11, 12, 13, 14, 2, 3, 4, 5, 6, 7, 8] rfl
                  have hD9 := hD.sb (wq := [(h0, .inr (9, [.ref aw, .ref ac, .int n26, .int h0_function, .ref ty, .int n29, .ref bo, .ref bg, .ref bh, .ref bd, .int h0_depth])), (aw, .inr (10, law)), (ac, .inr (3, [.ref cfi, .ref clk, .ref clt, .int ac_length, .ref cop, .ref cva, .ref cpt, .ref cel, .int ac_labelCount, .ref cla])), (ty, .inl (cty, 5000, .inl n28)), (bo, .inl (cbo, 101, .inl gbo)), (bg, .inl (cbg, 101, .inl gbg)), (bh, .inl (cbh, 101, .inl gbh)), (bd, .inl (cbd, 101, .inl gbd)), (waf, .inl (cwaf, 30, .inl gwaf)), (wat, .inl (cwat, 20, .inl gwat)), (wap, .inl (cwap, 160, .inl gwap)), (wgt, .inl (cwgt, 20, .inl gwgt)), (wgc, .inl (cwgc, 20, .inl gwgc)), (clk, .inl (cclk, 30, .inl gclk)), (clt, .inl (cclt, 1800, .inl gclt))]) [9, 0, 1, 10, 11, 12, 13, 14, 2, 3, 4, 5, 6, 7, 8] (by decide) rfl
                  exact W.vret hx hb hr (fun t ht hW => ⟨⟨(n28, n29, n26), rfl, ⟨bn28, bn29, bn26, ⟨by (try dsimp only) <;> (first | (apply Int.le_antisymm <;> omega) | omega), vr_t (t := j78_s0) (by (first | (apply Int.le_antisymm <;> omega) | omega)) y78 (by (first | (apply Int.le_antisymm <;> omega) | omega)) q_130 w_154⟩⟩, va_P.he ht.symm hP9, va_K.moved hW.alike hK, hD9⟩, hS.F ht⟩) hS.2.2 d_VA_checkVariable_157
                · have q136 := neI c136
                  refine lv_iload_n hx hb d_VA_checkVariable_139 rfl (lv_at hl 1 rfl) ?_
                  refine lv_bipush (v := 34) hx hb d_VA_checkVariable_140 (by decide) ?_
                  refine lv_icmp_eq (tgt := 151) hx hb d_VA_checkVariable_142 (by decide) (fun c142 => ?_) (fun c142 => ?_)
                  · have q142 := eqI c142
                    refine lv_aload_n hx hb d_VA_checkVariable_151 rfl (lv_at hl 0 rfl) ?_
                    refine lv_iload hx hb d_VA_checkVariable_152 (lv_at hl 2 rfl) ?_
                    have hPc := hP.sb (wq := (wz_86 h0 aw ac n26 h0_function ty n25 bo bg bh bd h0_depth ty cty gty bo cbo gbo bg cbg gbg bh cbh gbh bd cbd gbd)) [9, 10, 11, 12, 13, 14] rfl
                    have hDc := hD.sb (wq := (wz_86 h0 aw ac n26 h0_function ty n25 bo bg bh bd h0_depth ty cty gty bo cbo gbo bg cbg gbg bh cbh gbh bd cbd gbd)) [9, 10, 11, 12, 13, 14] (by decide) rfl
                    have hKc := hK.sb (tyq := [(cty, .int), (cbo, .int), (cbg, .int), (cbh, .int), (cbd, .boolean)]) [0, 1, 2, 3, 4] rfl
                    have hFc := va_free (wc := (wz_86 h0 aw ac n26 h0_function ty n25 bo bg bh bd h0_depth ty cty gty bo cbo gbo bg cbg gbg bh cbh gbh bd cbd gbd)) hD hS hA [9, 10, 11, 12, 13, 14] rfl
                    refine va_callv (va_runV (As := [.int j78_s0]) (rest := []) ⟨hx, hb, hml, hown, hts⟩ (c_VA_pushy l dC dI H.size h0 aw ac ty bo bg bh bd cty cbo cbg cbh cbd n26 h0_function n25 h0_depth gty gbo gbg gbh gbd S_130 B9 (bn26) (bn25) (b_h0_depth) (b_gty) (b_gbh) j78_s0 (w_130) ((fun _ => by rcases y78 with z | ⟨k, z1, z2, z3⟩; ((first | (apply Int.le_antisymm <;> omega) | omega)); ((first | (apply Int.le_antisymm <;> omega) | omega)))) ((fun z => by have := h5 (by (first | (apply Int.le_antisymm <;> omega) | omega)); (first | (apply Int.le_antisymm <;> omega) | omega)))) (cwV 1 hts (gV kM_VA_167 kV_VA_push kS_VA_push kI_VA kC_VA_push) rfl rfl rfl (by decide +kernel) ⟨Nat.le_of_ble_eq_true rfl, Nat.le_of_ble_eq_true rfl⟩) ⟨fun a U g mk z => by obtain ⟨z0, z1, zP, zK, zD⟩ := z; exact ⟨z0, z1, zP, va_K.moved (u := U) (U := U.calling g mk a) (Vm.Alike.refl U.vm) zK, zD⟩, va_recv hKc hPc (ci := 9) (q0 := 0) rfl rfl, fun U hU hW => ⟨rfl, by rw [hU], va_P.he hU.symm hPc, va_K.moved hW.alike hKc, hDc.weaken (fun _ _ _ _ => trivial)⟩⟩ rfl rfl hl.1 rfl (lv_room (Nat.le_of_ble_eq_true rfl)) d_VA_checkVariable_154 ⟨(Nat.zero_le _), (Nat.zero_le _)⟩) hS (fun q _ h => hFc q h) hFc (fun u t H1 locs ht hvm hw hB hz1 hk1 hS => ?_)
                    obtain ⟨n31, n32⟩ := u
                    try dsimp only at hw
                    obtain ⟨bn31, bn32, xr30⟩ := hw
                    try clear hw
                    have hl154 := xr30.1
                    have w_154 := xr30.2
                    clear xr30
                    obtain ⟨hP1, hK1, hD1⟩ := hB
                    replace hP1 := va_P.he ht hP1
                    obtain ⟨hP, hD⟩ := va_join (wr := (wz_76 aw law ac cfi clk clt ac_length cop cva cpt cel ac_labelCount cla waf cwaf gwaf wat cwat gwat wap cwap gwap wgt cwgt gwgt wgc cwgc gwgc clk cclk gclk clt cclt gclt)) (w1 := (wz_86 h0 aw ac n26 h0_function ty n32 bo bg bh bd h0_depth ty cty n31 bo cbo gbo bg cbg gbg bh cbh gbh bd cbd gbd)) hP hD [9, 10, 11, 12, 13, 14] [0, 1, 2, 3, 4, 5, 6, 7, 8] rfl rfl (by decide) (by decide) hk1 hFc hP1 hD1
                    clear hPc hDc hKc hFc hz1 hk1 hP1 hK1 hD1
                    rename Heap => H
                    have hP : va_P (dC, dI) cls [(aw, .inr (10, law)), (ac, .inr (3, [.ref cfi, .ref clk, .ref clt, .int ac_length, .ref cop, .ref cva, .ref cpt, .ref cel, .int ac_labelCount, .ref cla])), (waf, .inl (cwaf, 30, .inl gwaf)), (wat, .inl (cwat, 20, .inl gwat)), (wap, .inl (cwap, 160, .inl gwap)), (wgt, .inl (cwgt, 20, .inl gwgt)), (wgc, .inl (cwgc, 20, .inl gwgc)), (clk, .inl (cclk, 30, .inl gclk)), (clt, .inl (cclt, 1800, .inl gclt)), (h0, .inr (9, [.ref aw, .ref ac, .int n26, .int h0_function, .ref ty, .int n32, .ref bo, .ref bg, .ref bh, .ref bd, .int h0_depth])), (ty, .inl (cty, 5000, .inl n31)), (bo, .inl (cbo, 101, .inl gbo)), (bg, .inl (cbg, 101, .inl gbg)), (bh, .inl (cbh, 101, .inl gbh)), (bd, .inl (cbd, 101, .inl gbd))] H := hP
                    have hD : va_D A [(aw, .inr (10, law)), (ac, .inr (3, [.ref cfi, .ref clk, .ref clt, .int ac_length, .ref cop, .ref cva, .ref cpt, .ref cel, .int ac_labelCount, .ref cla])), (waf, .inl (cwaf, 30, .inl gwaf)), (wat, .inl (cwat, 20, .inl gwat)), (wap, .inl (cwap, 160, .inl gwap)), (wgt, .inl (cwgt, 20, .inl gwgt)), (wgc, .inl (cwgc, 20, .inl gwgc)), (clk, .inl (cclk, 30, .inl gclk)), (clt, .inl (cclt, 1800, .inl gclt)), (h0, .inr (9, [.ref aw, .ref ac, .int n26, .int h0_function, .ref ty, .int n32, .ref bo, .ref bg, .ref bh, .ref bd, .int h0_depth])), (ty, .inl (cty, 5000, .inl n31)), (bo, .inl (cbo, 101, .inl gbo)), (bg, .inl (cbg, 101, .inl gbg)), (bh, .inl (cbh, 101, .inl gbh)), (bd, .inl (cbd, 101, .inl gbd))] := hD
                    have hP9 := hP.sb (wq := [(h0, .inr (9, [.ref aw, .ref ac, .int n26, .int h0_function, .ref ty, .int n32, .ref bo, .ref bg, .ref bh, .ref bd, .int h0_depth])), (aw, .inr (10, law)), (ac, .inr (3, [.ref cfi, .ref clk, .ref clt, .int ac_length, .ref cop, .ref cva, .ref cpt, .ref cel, .int ac_labelCount, .ref cla])), (ty, .inl (cty, 5000, .inl n31)), (bo, .inl (cbo, 101, .inl gbo)), (bg, .inl (cbg, 101, .inl gbg)), (bh, .inl (cbh, 101, .inl gbh)), (bd, .inl (cbd, 101, .inl gbd)), (waf, .inl (cwaf, 30, .inl gwaf)), (wat, .inl (cwat, 20, .inl gwat)), (wap, .inl (cwap, 160, .inl gwap)), (wgt, .inl (cwgt, 20, .inl gwgt)), (wgc, .inl (cwgc, 20, .inl gwgc)), (clk, .inl (cclk, 30, .inl gclk)), (clt, .inl (cclt, 1800, .inl gclt))]) [9, 0, 1, 10, 11, 12, 13, 14, 2, 3, 4, 5, 6, 7, 8] rfl
                    have hD9 := hD.sb (wq := [(h0, .inr (9, [.ref aw, .ref ac, .int n26, .int h0_function, .ref ty, .int n32, .ref bo, .ref bg, .ref bh, .ref bd, .int h0_depth])), (aw, .inr (10, law)), (ac, .inr (3, [.ref cfi, .ref clk, .ref clt, .int ac_length, .ref cop, .ref cva, .ref cpt, .ref cel, .int ac_labelCount, .ref cla])), (ty, .inl (cty, 5000, .inl n31)), (bo, .inl (cbo, 101, .inl gbo)), (bg, .inl (cbg, 101, .inl gbg)), (bh, .inl (cbh, 101, .inl gbh)), (bd, .inl (cbd, 101, .inl gbd)), (waf, .inl (cwaf, 30, .inl gwaf)), (wat, .inl (cwat, 20, .inl gwat)), (wap, .inl (cwap, 160, .inl gwap)), (wgt, .inl (cwgt, 20, .inl gwgt)), (wgc, .inl (cwgc, 20, .inl gwgc)), (clk, .inl (cclk, 30, .inl gclk)), (clt, .inl (cclt, 1800, .inl gclt))]) [9, 0, 1, 10, 11, 12, 13, 14, 2, 3, 4, 5, 6, 7, 8] (by decide) rfl
                    exact W.vret hx hb hr (fun t ht hW => ⟨⟨(n31, n32, n26), rfl, ⟨bn31, bn32, bn26, ⟨by (try dsimp only) <;> (first | (apply Int.le_antisymm <;> omega) | omega), vr_t (t := j78_s0) (by (first | (apply Int.le_antisymm <;> omega) | omega)) y78 (by (first | (apply Int.le_antisymm <;> omega) | omega)) q_130 w_154⟩⟩, va_P.he ht.symm hP9, va_K.moved hW.alike hK, hD9⟩, hS.F ht⟩) hS.2.2 d_VA_checkVariable_157
                  · have q142 := neI c142
                    refine lv_iload_n hx hb d_VA_checkVariable_145 rfl (lv_at hl 1 rfl) ?_
                    refine lv_bipush (v := 35) hx hb d_VA_checkVariable_146 (by decide) ?_
                    refine lv_icmp_ne (tgt := 157) hx hb d_VA_checkVariable_148 (by decide) (fun c148 => ?_) (fun c148 => ?_)
                    · have q148 := neI c148
                      have hP9 := hP.sb (wq := [(h0, .inr (9, [.ref aw, .ref ac, .int n26, .int h0_function, .ref ty, .int n25, .ref bo, .ref bg, .ref bh, .ref bd, .int h0_depth])), (aw, .inr (10, law)), (ac, .inr (3, [.ref cfi, .ref clk, .ref clt, .int ac_length, .ref cop, .ref cva, .ref cpt, .ref cel, .int ac_labelCount, .ref cla])), (ty, .inl (cty, 5000, .inl gty)), (bo, .inl (cbo, 101, .inl gbo)), (bg, .inl (cbg, 101, .inl gbg)), (bh, .inl (cbh, 101, .inl gbh)), (bd, .inl (cbd, 101, .inl gbd)), (waf, .inl (cwaf, 30, .inl gwaf)), (wat, .inl (cwat, 20, .inl gwat)), (wap, .inl (cwap, 160, .inl gwap)), (wgt, .inl (cwgt, 20, .inl gwgt)), (wgc, .inl (cwgc, 20, .inl gwgc)), (clk, .inl (cclk, 30, .inl gclk)), (clt, .inl (cclt, 1800, .inl gclt))]) [9, 0, 1, 10, 11, 12, 13, 14, 2, 3, 4, 5, 6, 7, 8] rfl
                      have hD9 := hD.sb (wq := [(h0, .inr (9, [.ref aw, .ref ac, .int n26, .int h0_function, .ref ty, .int n25, .ref bo, .ref bg, .ref bh, .ref bd, .int h0_depth])), (aw, .inr (10, law)), (ac, .inr (3, [.ref cfi, .ref clk, .ref clt, .int ac_length, .ref cop, .ref cva, .ref cpt, .ref cel, .int ac_labelCount, .ref cla])), (ty, .inl (cty, 5000, .inl gty)), (bo, .inl (cbo, 101, .inl gbo)), (bg, .inl (cbg, 101, .inl gbg)), (bh, .inl (cbh, 101, .inl gbh)), (bd, .inl (cbd, 101, .inl gbd)), (waf, .inl (cwaf, 30, .inl gwaf)), (wat, .inl (cwat, 20, .inl gwat)), (wap, .inl (cwap, 160, .inl gwap)), (wgt, .inl (cwgt, 20, .inl gwgt)), (wgc, .inl (cwgc, 20, .inl gwgc)), (clk, .inl (cclk, 30, .inl gclk)), (clt, .inl (cclt, 1800, .inl gclt))]) [9, 0, 1, 10, 11, 12, 13, 14, 2, 3, 4, 5, 6, 7, 8] (by decide) rfl
                      exact W.vret hx hb hr (fun t ht hW => ⟨⟨(gty, n25, n26), rfl, ⟨b_gty, bn25, bn26, ⟨by (try dsimp only) <;> (first | (apply Int.le_antisymm <;> omega) | omega), vr_p (t := j78_s0) (by (first | (apply Int.le_antisymm <;> omega) | omega)) y78 (by (first | (apply Int.le_antisymm <;> omega) | omega)) (fun z => (gl_c hgl.2 (by (first | (apply Int.le_antisymm <;> omega) | omega))).2 (y109.out z)) q_130 w_130⟩⟩, va_P.he ht.symm hP9, va_K.moved hW.alike hK, hD9⟩, hS.F ht⟩) hS.2.2 d_VA_checkVariable_157
                    · have q148 := eqI c148
                      refine lv_aload_n hx hb d_VA_checkVariable_151 rfl (lv_at hl 0 rfl) ?_
                      refine lv_iload hx hb d_VA_checkVariable_152 (lv_at hl 2 rfl) ?_
                      have hPc := hP.sb (wq := (wz_86 h0 aw ac n26 h0_function ty n25 bo bg bh bd h0_depth ty cty gty bo cbo gbo bg cbg gbg bh cbh gbh bd cbd gbd)) [9, 10, 11, 12, 13, 14] rfl
                      have hDc := hD.sb (wq := (wz_86 h0 aw ac n26 h0_function ty n25 bo bg bh bd h0_depth ty cty gty bo cbo gbo bg cbg gbg bh cbh gbh bd cbd gbd)) [9, 10, 11, 12, 13, 14] (by decide) rfl
                      have hKc := hK.sb (tyq := [(cty, .int), (cbo, .int), (cbg, .int), (cbh, .int), (cbd, .boolean)]) [0, 1, 2, 3, 4] rfl
                      have hFc := va_free (wc := (wz_86 h0 aw ac n26 h0_function ty n25 bo bg bh bd h0_depth ty cty gty bo cbo gbo bg cbg gbg bh cbh gbh bd cbd gbd)) hD hS hA [9, 10, 11, 12, 13, 14] rfl
                      refine va_callv (va_runV (As := [.int j78_s0]) (rest := []) ⟨hx, hb, hml, hown, hts⟩ (c_VA_pushy l dC dI H.size h0 aw ac ty bo bg bh bd cty cbo cbg cbh cbd n26 h0_function n25 h0_depth gty gbo gbg gbh gbd S_130 B9 (bn26) (bn25) (b_h0_depth) (b_gty) (b_gbh) j78_s0 (w_130) ((fun _ => by rcases y78 with z | ⟨k, z1, z2, z3⟩; ((first | (apply Int.le_antisymm <;> omega) | omega)); ((first | (apply Int.le_antisymm <;> omega) | omega)))) ((fun z => by have := h5 (by (first | (apply Int.le_antisymm <;> omega) | omega)); (first | (apply Int.le_antisymm <;> omega) | omega)))) (cwV 1 hts (gV kM_VA_167 kV_VA_push kS_VA_push kI_VA kC_VA_push) rfl rfl rfl (by decide +kernel) ⟨Nat.le_of_ble_eq_true rfl, Nat.le_of_ble_eq_true rfl⟩) ⟨fun a U g mk z => by obtain ⟨z0, z1, zP, zK, zD⟩ := z; exact ⟨z0, z1, zP, va_K.moved (u := U) (U := U.calling g mk a) (Vm.Alike.refl U.vm) zK, zD⟩, va_recv hKc hPc (ci := 9) (q0 := 0) rfl rfl, fun U hU hW => ⟨rfl, by rw [hU], va_P.he hU.symm hPc, va_K.moved hW.alike hKc, hDc.weaken (fun _ _ _ _ => trivial)⟩⟩ rfl rfl hl.1 rfl (lv_room (Nat.le_of_ble_eq_true rfl)) d_VA_checkVariable_154 ⟨(Nat.zero_le _), (Nat.zero_le _)⟩) hS (fun q _ h => hFc q h) hFc (fun u t H1 locs ht hvm hw hB hz1 hk1 hS => ?_)
                      obtain ⟨n34, n35⟩ := u
                      try dsimp only at hw
                      obtain ⟨bn34, bn35, xr33⟩ := hw
                      try clear hw
                      have hl154 := xr33.1
                      have w_154 := xr33.2
                      clear xr33
                      obtain ⟨hP1, hK1, hD1⟩ := hB
                      replace hP1 := va_P.he ht hP1
                      obtain ⟨hP, hD⟩ := va_join (wr := (wz_76 aw law ac cfi clk clt ac_length cop cva cpt cel ac_labelCount cla waf cwaf gwaf wat cwat gwat wap cwap gwap wgt cwgt gwgt wgc cwgc gwgc clk cclk gclk clt cclt gclt)) (w1 := (wz_86 h0 aw ac n26 h0_function ty n35 bo bg bh bd h0_depth ty cty n34 bo cbo gbo bg cbg gbg bh cbh gbh bd cbd gbd)) hP hD [9, 10, 11, 12, 13, 14] [0, 1, 2, 3, 4, 5, 6, 7, 8] rfl rfl (by decide) (by decide) hk1 hFc hP1 hD1
                      clear hPc hDc hKc hFc hz1 hk1 hP1 hK1 hD1
                      rename Heap => H
                      have hP : va_P (dC, dI) cls [(aw, .inr (10, law)), (ac, .inr (3, [.ref cfi, .ref clk, .ref clt, .int ac_length, .ref cop, .ref cva, .ref cpt, .ref cel, .int ac_labelCount, .ref cla])), (waf, .inl (cwaf, 30, .inl gwaf)), (wat, .inl (cwat, 20, .inl gwat)), (wap, .inl (cwap, 160, .inl gwap)), (wgt, .inl (cwgt, 20, .inl gwgt)), (wgc, .inl (cwgc, 20, .inl gwgc)), (clk, .inl (cclk, 30, .inl gclk)), (clt, .inl (cclt, 1800, .inl gclt)), (h0, .inr (9, [.ref aw, .ref ac, .int n26, .int h0_function, .ref ty, .int n35, .ref bo, .ref bg, .ref bh, .ref bd, .int h0_depth])), (ty, .inl (cty, 5000, .inl n34)), (bo, .inl (cbo, 101, .inl gbo)), (bg, .inl (cbg, 101, .inl gbg)), (bh, .inl (cbh, 101, .inl gbh)), (bd, .inl (cbd, 101, .inl gbd))] H := hP
                      have hD : va_D A [(aw, .inr (10, law)), (ac, .inr (3, [.ref cfi, .ref clk, .ref clt, .int ac_length, .ref cop, .ref cva, .ref cpt, .ref cel, .int ac_labelCount, .ref cla])), (waf, .inl (cwaf, 30, .inl gwaf)), (wat, .inl (cwat, 20, .inl gwat)), (wap, .inl (cwap, 160, .inl gwap)), (wgt, .inl (cwgt, 20, .inl gwgt)), (wgc, .inl (cwgc, 20, .inl gwgc)), (clk, .inl (cclk, 30, .inl gclk)), (clt, .inl (cclt, 1800, .inl gclt)), (h0, .inr (9, [.ref aw, .ref ac, .int n26, .int h0_function, .ref ty, .int n35, .ref bo, .ref bg, .ref bh, .ref bd, .int h0_depth])), (ty, .inl (cty, 5000, .inl n34)), (bo, .inl (cbo, 101, .inl gbo)), (bg, .inl (cbg, 101, .inl gbg)), (bh, .inl (cbh, 101, .inl gbh)), (bd, .inl (cbd, 101, .inl gbd))] := hD
                      have hP9 := hP.sb (wq := [(h0, .inr (9, [.ref aw, .ref ac, .int n26, .int h0_function, .ref ty, .int n35, .ref bo, .ref bg, .ref bh, .ref bd, .int h0_depth])), (aw, .inr (10, law)), (ac, .inr (3, [.ref cfi, .ref clk, .ref clt, .int ac_length, .ref cop, .ref cva, .ref cpt, .ref cel, .int ac_labelCount, .ref cla])), (ty, .inl (cty, 5000, .inl n34)), (bo, .inl (cbo, 101, .inl gbo)), (bg, .inl (cbg, 101, .inl gbg)), (bh, .inl (cbh, 101, .inl gbh)), (bd, .inl (cbd, 101, .inl gbd)), (waf, .inl (cwaf, 30, .inl gwaf)), (wat, .inl (cwat, 20, .inl gwat)), (wap, .inl (cwap, 160, .inl gwap)), (wgt, .inl (cwgt, 20, .inl gwgt)), (wgc, .inl (cwgc, 20, .inl gwgc)), (clk, .inl (cclk, 30, .inl gclk)), (clt, .inl (cclt, 1800, .inl gclt))]) [9, 0, 1, 10, 11, 12, 13, 14, 2, 3, 4, 5, 6, 7, 8] rfl
                      have hD9 := hD.sb (wq := [(h0, .inr (9, [.ref aw, .ref ac, .int n26, .int h0_function, .ref ty, .int n35, .ref bo, .ref bg, .ref bh, .ref bd, .int h0_depth])), (aw, .inr (10, law)), (ac, .inr (3, [.ref cfi, .ref clk, .ref clt, .int ac_length, .ref cop, .ref cva, .ref cpt, .ref cel, .int ac_labelCount, .ref cla])), (ty, .inl (cty, 5000, .inl n34)), (bo, .inl (cbo, 101, .inl gbo)), (bg, .inl (cbg, 101, .inl gbg)), (bh, .inl (cbh, 101, .inl gbh)), (bd, .inl (cbd, 101, .inl gbd)), (waf, .inl (cwaf, 30, .inl gwaf)), (wat, .inl (cwat, 20, .inl gwat)), (wap, .inl (cwap, 160, .inl gwap)), (wgt, .inl (cwgt, 20, .inl gwgt)), (wgc, .inl (cwgc, 20, .inl gwgc)), (clk, .inl (cclk, 30, .inl gclk)), (clt, .inl (cclt, 1800, .inl gclt))]) [9, 0, 1, 10, 11, 12, 13, 14, 2, 3, 4, 5, 6, 7, 8] (by decide) rfl
                      exact W.vret hx hb hr (fun t ht hW => ⟨⟨(n34, n35, n26), rfl, ⟨bn34, bn35, bn26, ⟨by (try dsimp only) <;> (first | (apply Int.le_antisymm <;> omega) | omega), vr_t (t := j78_s0) (by (first | (apply Int.le_antisymm <;> omega) | omega)) y78 (by (first | (apply Int.le_antisymm <;> omega) | omega)) q_130 w_154⟩⟩, va_P.he ht.symm hP9, va_K.moved hW.alike hK, hD9⟩, hS.F ht⟩) hS.2.2 d_VA_checkVariable_157
              · skip
                refine lv_icmp_eq (tgt := 127) hx hb d_VA_checkVariable_112 (by decide) (fun c112 => ?_) (fun c112 => ?_)
                · have q112 := eqI c112
                  exact jn127 () _ _ _ ⟨by (try dsimp only) <;> (first | (apply Int.le_antisymm <;> omega) | omega), hP, hD, hS, lv_sub hl [0, 1, 2] rfl⟩
                · have q112 := neI c112
                  refine lv_iload_n hx hb d_VA_checkVariable_115 rfl (lv_at hl 1 rfl) ?_
                  refine lv_bipush (v := 34) hx hb d_VA_checkVariable_116 (by decide) ?_
                  refine lv_icmp_eq (tgt := 127) hx hb d_VA_checkVariable_118 (by decide) (fun c118 => ?_) (fun c118 => ?_)
                  · have q118 := eqI c118
                    exact jn127 () _ _ _ ⟨by (try dsimp only) <;> (first | (apply Int.le_antisymm <;> omega) | omega), hP, hD, hS, lv_sub hl [0, 1, 2] rfl⟩
                  · have q118 := neI c118
                    refine lv_iload_n hx hb d_VA_checkVariable_121 rfl (lv_at hl 1 rfl) ?_
                    refine lv_bipush (v := 36) hx hb d_VA_checkVariable_122 (by decide) ?_
                    refine lv_icmp_ne (tgt := 133) hx hb d_VA_checkVariable_124 (by decide) (fun c124 => ?_) (fun c124 => ?_)
                    · have q124 := neI c124
                      refine lv_iload_n hx hb d_VA_checkVariable_133 rfl (lv_at hl 1 rfl) ?_
                      refine lv_bipush (v := 32) hx hb d_VA_checkVariable_134 (by decide) ?_
                      refine lv_icmp_eq (tgt := 151) hx hb d_VA_checkVariable_136 (by decide) (fun c136 => ?_) (fun c136 => ?_)
                      · have q136 := eqI c136
                        refine lv_aload_n hx hb d_VA_checkVariable_151 rfl (lv_at hl 0 rfl) ?_
                        refine lv_iload hx hb d_VA_checkVariable_152 (lv_at hl 2 rfl) ?_
                        have hPc := hP.sb (wq := (wz_86 h0 aw ac h0_sound h0_function ty h0_height bo bg bh bd h0_depth ty cty gty bo cbo gbo bg cbg gbg bh cbh gbh bd cbd gbd)) [0, 3, 4, 5, 6, 7] rfl
                        have hDc := hD.sb (wq := (wz_86 h0 aw ac h0_sound h0_function ty h0_height bo bg bh bd h0_depth ty cty gty bo cbo gbo bg cbg gbg bh cbh gbh bd cbd gbd)) [0, 3, 4, 5, 6, 7] (by decide) rfl
                        have hKc := hK.sb (tyq := [(cty, .int), (cbo, .int), (cbg, .int), (cbh, .int), (cbd, .boolean)]) [0, 1, 2, 3, 4] rfl
                        have hFc := va_free (wc := (wz_86 h0 aw ac h0_sound h0_function ty h0_height bo bg bh bd h0_depth ty cty gty bo cbo gbo bg cbg gbg bh cbh gbh bd cbd gbd)) hD hS hA [0, 3, 4, 5, 6, 7] rfl
                        refine va_callv (va_runV (As := [.int j78_s0]) (rest := []) ⟨hx, hb, hml, hown, hts⟩ (c_VA_pushy l dC dI H.size h0 aw ac ty bo bg bh bd cty cbo cbg cbh cbd h0_sound h0_function h0_height h0_depth gty gbo gbg gbh gbd S9 B9 (b_h0_sound) (b_h0_height) (b_h0_depth) (b_gty) (b_gbh) j78_s0 (hv) ((fun _ => by rcases y78 with z | ⟨k, z1, z2, z3⟩; ((first | (apply Int.le_antisymm <;> omega) | omega)); ((first | (apply Int.le_antisymm <;> omega) | omega)))) (h5)) (cwV 1 hts (gV kM_VA_167 kV_VA_push kS_VA_push kI_VA kC_VA_push) rfl rfl rfl (by decide +kernel) ⟨Nat.le_of_ble_eq_true rfl, Nat.le_of_ble_eq_true rfl⟩) ⟨fun a U g mk z => by obtain ⟨z0, z1, zP, zK, zD⟩ := z; exact ⟨z0, z1, zP, va_K.moved (u := U) (U := U.calling g mk a) (Vm.Alike.refl U.vm) zK, zD⟩, va_recv hKc hPc (ci := 9) (q0 := 0) rfl rfl, fun U hU hW => ⟨rfl, by rw [hU], va_P.he hU.symm hPc, va_K.moved hW.alike hKc, hDc.weaken (fun _ _ _ _ => trivial)⟩⟩ rfl rfl hl.1 rfl (lv_room (Nat.le_of_ble_eq_true rfl)) d_VA_checkVariable_154 ⟨(Nat.zero_le _), (Nat.zero_le _)⟩) hS (fun q _ h => hFc q h) hFc (fun u t H1 locs ht hvm hw hB hz1 hk1 hS => ?_)
                        obtain ⟨n37, n38⟩ := u
                        try dsimp only at hw
                        obtain ⟨bn37, bn38, xr36⟩ := hw
                        try clear hw
                        have hl154 := xr36.1
                        have w_154 := xr36.2
                        clear xr36
                        obtain ⟨hP1, hK1, hD1⟩ := hB
                        replace hP1 := va_P.he ht hP1
                        obtain ⟨hP, hD⟩ := va_join (wr := (wz_76 aw law ac cfi clk clt ac_length cop cva cpt cel ac_labelCount cla waf cwaf gwaf wat cwat gwat wap cwap gwap wgt cwgt gwgt wgc cwgc gwgc clk cclk gclk clt cclt gclt)) (w1 := (wz_86 h0 aw ac h0_sound h0_function ty n38 bo bg bh bd h0_depth ty cty n37 bo cbo gbo bg cbg gbg bh cbh gbh bd cbd gbd)) hP hD [0, 3, 4, 5, 6, 7] [1, 2, 8, 9, 10, 11, 12, 13, 14] rfl rfl (by decide) (by decide) hk1 hFc hP1 hD1
                        clear hPc hDc hKc hFc hz1 hk1 hP1 hK1 hD1
                        rename Heap => H
                        have hP : va_P (dC, dI) cls [(aw, .inr (10, law)), (ac, .inr (3, [.ref cfi, .ref clk, .ref clt, .int ac_length, .ref cop, .ref cva, .ref cpt, .ref cel, .int ac_labelCount, .ref cla])), (waf, .inl (cwaf, 30, .inl gwaf)), (wat, .inl (cwat, 20, .inl gwat)), (wap, .inl (cwap, 160, .inl gwap)), (wgt, .inl (cwgt, 20, .inl gwgt)), (wgc, .inl (cwgc, 20, .inl gwgc)), (clk, .inl (cclk, 30, .inl gclk)), (clt, .inl (cclt, 1800, .inl gclt)), (h0, .inr (9, [.ref aw, .ref ac, .int h0_sound, .int h0_function, .ref ty, .int n38, .ref bo, .ref bg, .ref bh, .ref bd, .int h0_depth])), (ty, .inl (cty, 5000, .inl n37)), (bo, .inl (cbo, 101, .inl gbo)), (bg, .inl (cbg, 101, .inl gbg)), (bh, .inl (cbh, 101, .inl gbh)), (bd, .inl (cbd, 101, .inl gbd))] H := hP
                        have hD : va_D A [(aw, .inr (10, law)), (ac, .inr (3, [.ref cfi, .ref clk, .ref clt, .int ac_length, .ref cop, .ref cva, .ref cpt, .ref cel, .int ac_labelCount, .ref cla])), (waf, .inl (cwaf, 30, .inl gwaf)), (wat, .inl (cwat, 20, .inl gwat)), (wap, .inl (cwap, 160, .inl gwap)), (wgt, .inl (cwgt, 20, .inl gwgt)), (wgc, .inl (cwgc, 20, .inl gwgc)), (clk, .inl (cclk, 30, .inl gclk)), (clt, .inl (cclt, 1800, .inl gclt)), (h0, .inr (9, [.ref aw, .ref ac, .int h0_sound, .int h0_function, .ref ty, .int n38, .ref bo, .ref bg, .ref bh, .ref bd, .int h0_depth])), (ty, .inl (cty, 5000, .inl n37)), (bo, .inl (cbo, 101, .inl gbo)), (bg, .inl (cbg, 101, .inl gbg)), (bh, .inl (cbh, 101, .inl gbh)), (bd, .inl (cbd, 101, .inl gbd))] := hD
                        have hP9 := hP.sb (wq := [(h0, .inr (9, [.ref aw, .ref ac, .int h0_sound, .int h0_function, .ref ty, .int n38, .ref bo, .ref bg, .ref bh, .ref bd, .int h0_depth])), (aw, .inr (10, law)), (ac, .inr (3, [.ref cfi, .ref clk, .ref clt, .int ac_length, .ref cop, .ref cva, .ref cpt, .ref cel, .int ac_labelCount, .ref cla])), (ty, .inl (cty, 5000, .inl n37)), (bo, .inl (cbo, 101, .inl gbo)), (bg, .inl (cbg, 101, .inl gbg)), (bh, .inl (cbh, 101, .inl gbh)), (bd, .inl (cbd, 101, .inl gbd)), (waf, .inl (cwaf, 30, .inl gwaf)), (wat, .inl (cwat, 20, .inl gwat)), (wap, .inl (cwap, 160, .inl gwap)), (wgt, .inl (cwgt, 20, .inl gwgt)), (wgc, .inl (cwgc, 20, .inl gwgc)), (clk, .inl (cclk, 30, .inl gclk)), (clt, .inl (cclt, 1800, .inl gclt))]) [9, 0, 1, 10, 11, 12, 13, 14, 2, 3, 4, 5, 6, 7, 8] rfl
                        have hD9 := hD.sb (wq := [(h0, .inr (9, [.ref aw, .ref ac, .int h0_sound, .int h0_function, .ref ty, .int n38, .ref bo, .ref bg, .ref bh, .ref bd, .int h0_depth])), (aw, .inr (10, law)), (ac, .inr (3, [.ref cfi, .ref clk, .ref clt, .int ac_length, .ref cop, .ref cva, .ref cpt, .ref cel, .int ac_labelCount, .ref cla])), (ty, .inl (cty, 5000, .inl n37)), (bo, .inl (cbo, 101, .inl gbo)), (bg, .inl (cbg, 101, .inl gbg)), (bh, .inl (cbh, 101, .inl gbh)), (bd, .inl (cbd, 101, .inl gbd)), (waf, .inl (cwaf, 30, .inl gwaf)), (wat, .inl (cwat, 20, .inl gwat)), (wap, .inl (cwap, 160, .inl gwap)), (wgt, .inl (cwgt, 20, .inl gwgt)), (wgc, .inl (cwgc, 20, .inl gwgc)), (clk, .inl (cclk, 30, .inl gclk)), (clt, .inl (cclt, 1800, .inl gclt))]) [9, 0, 1, 10, 11, 12, 13, 14, 2, 3, 4, 5, 6, 7, 8] (by decide) rfl
                        exact W.vret hx hb hr (fun t ht hW => ⟨⟨(n37, n38, h0_sound), rfl, ⟨bn37, bn38, b_h0_sound, ⟨by (try dsimp only) <;> (first | (apply Int.le_antisymm <;> omega) | omega), vr_g (t := j78_s0) (by (first | (apply Int.le_antisymm <;> omega) | omega)) y78 (by (first | (apply Int.le_antisymm <;> omega) | omega)) th0_sound w_154⟩⟩, va_P.he ht.symm hP9, va_K.moved hW.alike hK, hD9⟩, hS.F ht⟩) hS.2.2 d_VA_checkVariable_157
                      · have q136 := neI c136
                        refine lv_iload_n hx hb d_VA_checkVariable_139 rfl (lv_at hl 1 rfl) ?_
                        refine lv_bipush (v := 34) hx hb d_VA_checkVariable_140 (by decide) ?_
                        refine lv_icmp_eq (tgt := 151) hx hb d_VA_checkVariable_142 (by decide) (fun c142 => ?_) (fun c142 => ?_)
                        · have q142 := eqI c142
                          refine lv_aload_n hx hb d_VA_checkVariable_151 rfl (lv_at hl 0 rfl) ?_
                          refine lv_iload hx hb d_VA_checkVariable_152 (lv_at hl 2 rfl) ?_
                          have hPc := hP.sb (wq := (wz_86 h0 aw ac h0_sound h0_function ty h0_height bo bg bh bd h0_depth ty cty gty bo cbo gbo bg cbg gbg bh cbh gbh bd cbd gbd)) [0, 3, 4, 5, 6, 7] rfl
                          have hDc := hD.sb (wq := (wz_86 h0 aw ac h0_sound h0_function ty h0_height bo bg bh bd h0_depth ty cty gty bo cbo gbo bg cbg gbg bh cbh gbh bd cbd gbd)) [0, 3, 4, 5, 6, 7] (by decide) rfl
                          have hKc := hK.sb (tyq := [(cty, .int), (cbo, .int), (cbg, .int), (cbh, .int), (cbd, .boolean)]) [0, 1, 2, 3, 4] rfl
                          have hFc := va_free (wc := (wz_86 h0 aw ac h0_sound h0_function ty h0_height bo bg bh bd h0_depth ty cty gty bo cbo gbo bg cbg gbg bh cbh gbh bd cbd gbd)) hD hS hA [0, 3, 4, 5, 6, 7] rfl
                          refine va_callv (va_runV (As := [.int j78_s0]) (rest := []) ⟨hx, hb, hml, hown, hts⟩ (c_VA_pushy l dC dI H.size h0 aw ac ty bo bg bh bd cty cbo cbg cbh cbd h0_sound h0_function h0_height h0_depth gty gbo gbg gbh gbd S9 B9 (b_h0_sound) (b_h0_height) (b_h0_depth) (b_gty) (b_gbh) j78_s0 (hv) ((fun _ => by rcases y78 with z | ⟨k, z1, z2, z3⟩; ((first | (apply Int.le_antisymm <;> omega) | omega)); ((first | (apply Int.le_antisymm <;> omega) | omega)))) (h5)) (cwV 1 hts (gV kM_VA_167 kV_VA_push kS_VA_push kI_VA kC_VA_push) rfl rfl rfl (by decide +kernel) ⟨Nat.le_of_ble_eq_true rfl, Nat.le_of_ble_eq_true rfl⟩) ⟨fun a U g mk z => by obtain ⟨z0, z1, zP, zK, zD⟩ := z; exact ⟨z0, z1, zP, va_K.moved (u := U) (U := U.calling g mk a) (Vm.Alike.refl U.vm) zK, zD⟩, va_recv hKc hPc (ci := 9) (q0 := 0) rfl rfl, fun U hU hW => ⟨rfl, by rw [hU], va_P.he hU.symm hPc, va_K.moved hW.alike hKc, hDc.weaken (fun _ _ _ _ => trivial)⟩⟩ rfl rfl hl.1 rfl (lv_room (Nat.le_of_ble_eq_true rfl)) d_VA_checkVariable_154 ⟨(Nat.zero_le _), (Nat.zero_le _)⟩) hS (fun q _ h => hFc q h) hFc (fun u t H1 locs ht hvm hw hB hz1 hk1 hS => ?_)
                          obtain ⟨n40, n41⟩ := u
                          try dsimp only at hw
                          obtain ⟨bn40, bn41, xr39⟩ := hw
                          try clear hw
                          have hl154 := xr39.1
                          have w_154 := xr39.2
                          clear xr39
                          obtain ⟨hP1, hK1, hD1⟩ := hB
                          replace hP1 := va_P.he ht hP1
                          obtain ⟨hP, hD⟩ := va_join (wr := (wz_76 aw law ac cfi clk clt ac_length cop cva cpt cel ac_labelCount cla waf cwaf gwaf wat cwat gwat wap cwap gwap wgt cwgt gwgt wgc cwgc gwgc clk cclk gclk clt cclt gclt)) (w1 := (wz_86 h0 aw ac h0_sound h0_function ty n41 bo bg bh bd h0_depth ty cty n40 bo cbo gbo bg cbg gbg bh cbh gbh bd cbd gbd)) hP hD [0, 3, 4, 5, 6, 7] [1, 2, 8, 9, 10, 11, 12, 13, 14] rfl rfl (by decide) (by decide) hk1 hFc hP1 hD1
                          clear hPc hDc hKc hFc hz1 hk1 hP1 hK1 hD1
                          rename Heap => H
                          have hP : va_P (dC, dI) cls [(aw, .inr (10, law)), (ac, .inr (3, [.ref cfi, .ref clk, .ref clt, .int ac_length, .ref cop, .ref cva, .ref cpt, .ref cel, .int ac_labelCount, .ref cla])), (waf, .inl (cwaf, 30, .inl gwaf)), (wat, .inl (cwat, 20, .inl gwat)), (wap, .inl (cwap, 160, .inl gwap)), (wgt, .inl (cwgt, 20, .inl gwgt)), (wgc, .inl (cwgc, 20, .inl gwgc)), (clk, .inl (cclk, 30, .inl gclk)), (clt, .inl (cclt, 1800, .inl gclt)), (h0, .inr (9, [.ref aw, .ref ac, .int h0_sound, .int h0_function, .ref ty, .int n41, .ref bo, .ref bg, .ref bh, .ref bd, .int h0_depth])), (ty, .inl (cty, 5000, .inl n40)), (bo, .inl (cbo, 101, .inl gbo)), (bg, .inl (cbg, 101, .inl gbg)), (bh, .inl (cbh, 101, .inl gbh)), (bd, .inl (cbd, 101, .inl gbd))] H := hP
                          have hD : va_D A [(aw, .inr (10, law)), (ac, .inr (3, [.ref cfi, .ref clk, .ref clt, .int ac_length, .ref cop, .ref cva, .ref cpt, .ref cel, .int ac_labelCount, .ref cla])), (waf, .inl (cwaf, 30, .inl gwaf)), (wat, .inl (cwat, 20, .inl gwat)), (wap, .inl (cwap, 160, .inl gwap)), (wgt, .inl (cwgt, 20, .inl gwgt)), (wgc, .inl (cwgc, 20, .inl gwgc)), (clk, .inl (cclk, 30, .inl gclk)), (clt, .inl (cclt, 1800, .inl gclt)), (h0, .inr (9, [.ref aw, .ref ac, .int h0_sound, .int h0_function, .ref ty, .int n41, .ref bo, .ref bg, .ref bh, .ref bd, .int h0_depth])), (ty, .inl (cty, 5000, .inl n40)), (bo, .inl (cbo, 101, .inl gbo)), (bg, .inl (cbg, 101, .inl gbg)), (bh, .inl (cbh, 101, .inl gbh)), (bd, .inl (cbd, 101, .inl gbd))] := hD
                          have hP9 := hP.sb (wq := [(h0, .inr (9, [.ref aw, .ref ac, .int h0_sound, .int h0_function, .ref ty, .int n41, .ref bo, .ref bg, .ref bh, .ref bd, .int h0_depth])), (aw, .inr (10, law)), (ac, .inr (3, [.ref cfi, .ref clk, .ref clt, .int ac_length, .ref cop, .ref cva, .ref cpt, .ref cel, .int ac_labelCount, .ref cla])), (ty, .inl (cty, 5000, .inl n40)), (bo, .inl (cbo, 101, .inl gbo)), (bg, .inl (cbg, 101, .inl gbg)), (bh, .inl (cbh, 101, .inl gbh)), (bd, .inl (cbd, 101, .inl gbd)), (waf, .inl (cwaf, 30, .inl gwaf)), (wat, .inl (cwat, 20, .inl gwat)), (wap, .inl (cwap, 160, .inl gwap)), (wgt, .inl (cwgt, 20, .inl gwgt)), (wgc, .inl (cwgc, 20, .inl gwgc)), (clk, .inl (cclk, 30, .inl gclk)), (clt, .inl (cclt, 1800, .inl gclt))]) [9, 0, 1, 10, 11, 12, 13, 14, 2, 3, 4, 5, 6, 7, 8] rfl
                          have hD9 := hD.sb (wq := [(h0, .inr (9, [.ref aw, .ref ac, .int h0_sound, .int h0_function, .ref ty, .int n41, .ref bo, .ref bg, .ref bh, .ref bd, .int h0_depth])), (aw, .inr (10, law)), (ac, .inr (3, [.ref cfi, .ref clk, .ref clt, .int ac_length, .ref cop, .ref cva, .ref cpt, .ref cel, .int ac_labelCount, .ref cla])), (ty, .inl (cty, 5000, .inl n40)), (bo, .inl (cbo, 101, .inl gbo)), (bg, .inl (cbg, 101, .inl gbg)), (bh, .inl (cbh, 101, .inl gbh)), (bd, .inl (cbd, 101, .inl gbd)), (waf, .inl (cwaf, 30, .inl gwaf)), (wat, .inl (cwat, 20, .inl gwat)), (wap, .inl (cwap, 160, .inl gwap)), (wgt, .inl (cwgt, 20, .inl gwgt)), (wgc, .inl (cwgc, 20, .inl gwgc)), (clk, .inl (cclk, 30, .inl gclk)), (clt, .inl (cclt, 1800, .inl gclt))]) [9, 0, 1, 10, 11, 12, 13, 14, 2, 3, 4, 5, 6, 7, 8] (by decide) rfl
                          exact W.vret hx hb hr (fun t ht hW => ⟨⟨(n40, n41, h0_sound), rfl, ⟨bn40, bn41, b_h0_sound, ⟨by (try dsimp only) <;> (first | (apply Int.le_antisymm <;> omega) | omega), vr_g (t := j78_s0) (by (first | (apply Int.le_antisymm <;> omega) | omega)) y78 (by (first | (apply Int.le_antisymm <;> omega) | omega)) th0_sound w_154⟩⟩, va_P.he ht.symm hP9, va_K.moved hW.alike hK, hD9⟩, hS.F ht⟩) hS.2.2 d_VA_checkVariable_157
                        · have q142 := neI c142
                          refine lv_iload_n hx hb d_VA_checkVariable_145 rfl (lv_at hl 1 rfl) ?_
                          refine lv_bipush (v := 35) hx hb d_VA_checkVariable_146 (by decide) ?_
                          refine lv_icmp_ne (tgt := 157) hx hb d_VA_checkVariable_148 (by decide) (fun c148 => ?_) (fun c148 => ?_)
                          · have q148 := neI c148
                            have hP9 := hP.sb (wq := [(h0, .inr (9, [.ref aw, .ref ac, .int h0_sound, .int h0_function, .ref ty, .int h0_height, .ref bo, .ref bg, .ref bh, .ref bd, .int h0_depth])), (aw, .inr (10, law)), (ac, .inr (3, [.ref cfi, .ref clk, .ref clt, .int ac_length, .ref cop, .ref cva, .ref cpt, .ref cel, .int ac_labelCount, .ref cla])), (ty, .inl (cty, 5000, .inl gty)), (bo, .inl (cbo, 101, .inl gbo)), (bg, .inl (cbg, 101, .inl gbg)), (bh, .inl (cbh, 101, .inl gbh)), (bd, .inl (cbd, 101, .inl gbd)), (waf, .inl (cwaf, 30, .inl gwaf)), (wat, .inl (cwat, 20, .inl gwat)), (wap, .inl (cwap, 160, .inl gwap)), (wgt, .inl (cwgt, 20, .inl gwgt)), (wgc, .inl (cwgc, 20, .inl gwgc)), (clk, .inl (cclk, 30, .inl gclk)), (clt, .inl (cclt, 1800, .inl gclt))]) [0, 1, 2, 3, 4, 5, 6, 7, 8, 9, 10, 11, 12, 13, 14] rfl
                            have hD9 := hD.sb (wq := [(h0, .inr (9, [.ref aw, .ref ac, .int h0_sound, .int h0_function, .ref ty, .int h0_height, .ref bo, .ref bg, .ref bh, .ref bd, .int h0_depth])), (aw, .inr (10, law)), (ac, .inr (3, [.ref cfi, .ref clk, .ref clt, .int ac_length, .ref cop, .ref cva, .ref cpt, .ref cel, .int ac_labelCount, .ref cla])), (ty, .inl (cty, 5000, .inl gty)), (bo, .inl (cbo, 101, .inl gbo)), (bg, .inl (cbg, 101, .inl gbg)), (bh, .inl (cbh, 101, .inl gbh)), (bd, .inl (cbd, 101, .inl gbd)), (waf, .inl (cwaf, 30, .inl gwaf)), (wat, .inl (cwat, 20, .inl gwat)), (wap, .inl (cwap, 160, .inl gwap)), (wgt, .inl (cwgt, 20, .inl gwgt)), (wgc, .inl (cwgc, 20, .inl gwgc)), (clk, .inl (cclk, 30, .inl gclk)), (clt, .inl (cclt, 1800, .inl gclt))]) [0, 1, 2, 3, 4, 5, 6, 7, 8, 9, 10, 11, 12, 13, 14] (by decide) rfl
                            exact W.vret hx hb hr (fun t ht hW => ⟨⟨(gty, h0_height, h0_sound), rfl, ⟨b_gty, b_h0_height, b_h0_sound, (by exfalso; (first | (apply Int.le_antisymm <;> omega) | omega))⟩, va_P.he ht.symm hP9, va_K.moved hW.alike hK, hD9⟩, hS.F ht⟩) hS.2.2 d_VA_checkVariable_157
                          · have q148 := eqI c148
                            refine lv_aload_n hx hb d_VA_checkVariable_151 rfl (lv_at hl 0 rfl) ?_
                            refine lv_iload hx hb d_VA_checkVariable_152 (lv_at hl 2 rfl) ?_
                            have hPc := hP.sb (wq := (wz_86 h0 aw ac h0_sound h0_function ty h0_height bo bg bh bd h0_depth ty cty gty bo cbo gbo bg cbg gbg bh cbh gbh bd cbd gbd)) [0, 3, 4, 5, 6, 7] rfl
                            have hDc := hD.sb (wq := (wz_86 h0 aw ac h0_sound h0_function ty h0_height bo bg bh bd h0_depth ty cty gty bo cbo gbo bg cbg gbg bh cbh gbh bd cbd gbd)) [0, 3, 4, 5, 6, 7] (by decide) rfl
                            have hKc := hK.sb (tyq := [(cty, .int), (cbo, .int), (cbg, .int), (cbh, .int), (cbd, .boolean)]) [0, 1, 2, 3, 4] rfl
                            have hFc := va_free (wc := (wz_86 h0 aw ac h0_sound h0_function ty h0_height bo bg bh bd h0_depth ty cty gty bo cbo gbo bg cbg gbg bh cbh gbh bd cbd gbd)) hD hS hA [0, 3, 4, 5, 6, 7] rfl
                            refine va_callv (va_runV (As := [.int j78_s0]) (rest := []) ⟨hx, hb, hml, hown, hts⟩ (c_VA_pushy l dC dI H.size h0 aw ac ty bo bg bh bd cty cbo cbg cbh cbd h0_sound h0_function h0_height h0_depth gty gbo gbg gbh gbd S9 B9 (b_h0_sound) (b_h0_height) (b_h0_depth) (b_gty) (b_gbh) j78_s0 (hv) ((fun _ => by rcases y78 with z | ⟨k, z1, z2, z3⟩; ((first | (apply Int.le_antisymm <;> omega) | omega)); ((first | (apply Int.le_antisymm <;> omega) | omega)))) (h5)) (cwV 1 hts (gV kM_VA_167 kV_VA_push kS_VA_push kI_VA kC_VA_push) rfl rfl rfl (by decide +kernel) ⟨Nat.le_of_ble_eq_true rfl, Nat.le_of_ble_eq_true rfl⟩) ⟨fun a U g mk z => by obtain ⟨z0, z1, zP, zK, zD⟩ := z; exact ⟨z0, z1, zP, va_K.moved (u := U) (U := U.calling g mk a) (Vm.Alike.refl U.vm) zK, zD⟩, va_recv hKc hPc (ci := 9) (q0 := 0) rfl rfl, fun U hU hW => ⟨rfl, by rw [hU], va_P.he hU.symm hPc, va_K.moved hW.alike hKc, hDc.weaken (fun _ _ _ _ => trivial)⟩⟩ rfl rfl hl.1 rfl (lv_room (Nat.le_of_ble_eq_true rfl)) d_VA_checkVariable_154 ⟨(Nat.zero_le _), (Nat.zero_le _)⟩) hS (fun q _ h => hFc q h) hFc (fun u t H1 locs ht hvm hw hB hz1 hk1 hS => ?_)
                            obtain ⟨n43, n44⟩ := u
                            try dsimp only at hw
                            obtain ⟨bn43, bn44, xr42⟩ := hw
                            try clear hw
                            have hl154 := xr42.1
                            have w_154 := xr42.2
                            clear xr42
                            obtain ⟨hP1, hK1, hD1⟩ := hB
                            replace hP1 := va_P.he ht hP1
                            obtain ⟨hP, hD⟩ := va_join (wr := (wz_76 aw law ac cfi clk clt ac_length cop cva cpt cel ac_labelCount cla waf cwaf gwaf wat cwat gwat wap cwap gwap wgt cwgt gwgt wgc cwgc gwgc clk cclk gclk clt cclt gclt)) (w1 := (wz_86 h0 aw ac h0_sound h0_function ty n44 bo bg bh bd h0_depth ty cty n43 bo cbo gbo bg cbg gbg bh cbh gbh bd cbd gbd)) hP hD [0, 3, 4, 5, 6, 7] [1, 2, 8, 9, 10, 11, 12, 13, 14] rfl rfl (by decide) (by decide) hk1 hFc hP1 hD1
                            clear hPc hDc hKc hFc hz1 hk1 hP1 hK1 hD1
                            rename Heap => H
                            have hP : va_P (dC, dI) cls [(aw, .inr (10, law)), (ac, .inr (3, [.ref cfi, .ref clk, .ref clt, .int ac_length, .ref cop, .ref cva, .ref cpt, .ref cel, .int ac_labelCount, .ref cla])), (waf, .inl (cwaf, 30, .inl gwaf)), (wat, .inl (cwat, 20, .inl gwat)), (wap, .inl (cwap, 160, .inl gwap)), (wgt, .inl (cwgt, 20, .inl gwgt)), (wgc, .inl (cwgc, 20, .inl gwgc)), (clk, .inl (cclk, 30, .inl gclk)), (clt, .inl (cclt, 1800, .inl gclt)), (h0, .inr (9, [.ref aw, .ref ac, .int h0_sound, .int h0_function, .ref ty, .int n44, .ref bo, .ref bg, .ref bh, .ref bd, .int h0_depth])), (ty, .inl (cty, 5000, .inl n43)), (bo, .inl (cbo, 101, .inl gbo)), (bg, .inl (cbg, 101, .inl gbg)), (bh, .inl (cbh, 101, .inl gbh)), (bd, .inl (cbd, 101, .inl gbd))] H := hP
                            have hD : va_D A [(aw, .inr (10, law)), (ac, .inr (3, [.ref cfi, .ref clk, .ref clt, .int ac_length, .ref cop, .ref cva, .ref cpt, .ref cel, .int ac_labelCount, .ref cla])), (waf, .inl (cwaf, 30, .inl gwaf)), (wat, .inl (cwat, 20, .inl gwat)), (wap, .inl (cwap, 160, .inl gwap)), (wgt, .inl (cwgt, 20, .inl gwgt)), (wgc, .inl (cwgc, 20, .inl gwgc)), (clk, .inl (cclk, 30, .inl gclk)), (clt, .inl (cclt, 1800, .inl gclt)), (h0, .inr (9, [.ref aw, .ref ac, .int h0_sound, .int h0_function, .ref ty, .int n44, .ref bo, .ref bg, .ref bh, .ref bd, .int h0_depth])), (ty, .inl (cty, 5000, .inl n43)), (bo, .inl (cbo, 101, .inl gbo)), (bg, .inl (cbg, 101, .inl gbg)), (bh, .inl (cbh, 101, .inl gbh)), (bd, .inl (cbd, 101, .inl gbd))] := hD
                            have hP9 := hP.sb (wq := [(h0, .inr (9, [.ref aw, .ref ac, .int h0_sound, .int h0_function, .ref ty, .int n44, .ref bo, .ref bg, .ref bh, .ref bd, .int h0_depth])), (aw, .inr (10, law)), (ac, .inr (3, [.ref cfi, .ref clk, .ref clt, .int ac_length, .ref cop, .ref cva, .ref cpt, .ref cel, .int ac_labelCount, .ref cla])), (ty, .inl (cty, 5000, .inl n43)), (bo, .inl (cbo, 101, .inl gbo)), (bg, .inl (cbg, 101, .inl gbg)), (bh, .inl (cbh, 101, .inl gbh)), (bd, .inl (cbd, 101, .inl gbd)), (waf, .inl (cwaf, 30, .inl gwaf)), (wat, .inl (cwat, 20, .inl gwat)), (wap, .inl (cwap, 160, .inl gwap)), (wgt, .inl (cwgt, 20, .inl gwgt)), (wgc, .inl (cwgc, 20, .inl gwgc)), (clk, .inl (cclk, 30, .inl gclk)), (clt, .inl (cclt, 1800, .inl gclt))]) [9, 0, 1, 10, 11, 12, 13, 14, 2, 3, 4, 5, 6, 7, 8] rfl
                            have hD9 := hD.sb (wq := [(h0, .inr (9, [.ref aw, .ref ac, .int h0_sound, .int h0_function, .ref ty, .int n44, .ref bo, .ref bg, .ref bh, .ref bd, .int h0_depth])), (aw, .inr (10, law)), (ac, .inr (3, [.ref cfi, .ref clk, .ref clt, .int ac_length, .ref cop, .ref cva, .ref cpt, .ref cel, .int ac_labelCount, .ref cla])), (ty, .inl (cty, 5000, .inl n43)), (bo, .inl (cbo, 101, .inl gbo)), (bg, .inl (cbg, 101, .inl gbg)), (bh, .inl (cbh, 101, .inl gbh)), (bd, .inl (cbd, 101, .inl gbd)), (waf, .inl (cwaf, 30, .inl gwaf)), (wat, .inl (cwat, 20, .inl gwat)), (wap, .inl (cwap, 160, .inl gwap)), (wgt, .inl (cwgt, 20, .inl gwgt)), (wgc, .inl (cwgc, 20, .inl gwgc)), (clk, .inl (cclk, 30, .inl gclk)), (clt, .inl (cclt, 1800, .inl gclt))]) [9, 0, 1, 10, 11, 12, 13, 14, 2, 3, 4, 5, 6, 7, 8] (by decide) rfl
                            exact W.vret hx hb hr (fun t ht hW => ⟨⟨(n43, n44, h0_sound), rfl, ⟨bn43, bn44, b_h0_sound, ⟨by (try dsimp only) <;> (first | (apply Int.le_antisymm <;> omega) | omega), vr_g (t := j78_s0) (by (first | (apply Int.le_antisymm <;> omega) | omega)) y78 (by (first | (apply Int.le_antisymm <;> omega) | omega)) th0_sound w_154⟩⟩, va_P.he ht.symm hP9, va_K.moved hW.alike hK, hD9⟩, hS.F ht⟩) hS.2.2 d_VA_checkVariable_157
                    · have q124 := eqI c124
                      exact jn127 () _ _ _ ⟨by (try dsimp only) <;> (first | (apply Int.le_antisymm <;> omega) | omega), hP, hD, hS, lv_sub hl [0, 1, 2] rfl⟩
            · skip
              refine lv_icmp_ne (tgt := 109) hx hb d_VA_checkVariable_88 (by decide) (fun c88 => ?_) (fun c88 => ?_)
              · have q88 := neI c88
                exact jn109 () _ _ _ ⟨(fun z => by (first | (apply Int.le_antisymm <;> omega) | omega)), hP, hD, hS, lv_sub hl [1, 2, 0] rfl⟩
              · have q88 := eqI c88
                obtain ⟨x9, ex9⟩ : ∃ x, G9[p1.toInt.toNat]? = some x := by rcases y78 with z | ⟨k, z1, z2, z3⟩; (exfalso; (first | (apply Int.le_antisymm <;> omega) | omega)); (unfold vtyp at z1; rw [if_neg (by (first | (apply Int.le_antisymm <;> omega) | omega))] at z1; rcases h9 : G9[p1.toInt.toNat]? with _ | x; (rw [h9] at z1; cases z1); (exact ⟨x, rfl⟩))
                have lt9 := (List.getElem?_eq_some_iff.mp ex9).1
                have gb9 := (hgl.2 _ _ ex9).2
                have gk9 := (htk.out x9 (List.mem_of_getElem? ex9)).2
                rw [show p1.toInt.toNat = p1.toNatClampNeg from by have := i32_clamp (x := p1) (by (first | (apply Int.le_antisymm <;> omega) | omega)); (first | (apply Int.le_antisymm <;> omega) | omega)] at gb9
                refine lv_aload_n hx hb d_VA_checkVariable_91 rfl (lv_at hl 1 rfl) ?_
                refine va_get (D := (dC, dI)) (ci := 9) (v := .ref aw) (C := R_VA) (T := F_VA) (N := 11) hx hb hts i_VA hown hK hP 0 rfl rfl 0 (by decide) (hts _ kF_VA_28) (fun _ h9 => h9) rfl d_VA_checkVariable_92 ?_
                refine va_get (D := (dC, dI)) (ci := 10) (v := .ref wgc) (C := R_WA) (T := F_WA) (N := 21) hx hb hts i_WA hown hK hP 1 rfl rfl 15 (by decide) (hts _ kF_VA_196) (fun _ h9 => h9) paw_15 d_VA_checkVariable_95 ?_
                refine lv_iload_n hx hb d_VA_checkVariable_98 rfl (lv_at hl 3 rfl) ?_
                have g99 : vp_in p1 20 := vp_in_iff.mpr ⟨by (first | (apply Int.le_antisymm <;> omega) | omega), by (first | (apply Int.le_antisymm <;> omega) | omega)⟩
                refine va_zald hx hb hK hP 12 9 rfl rfl g99 d_VA_checkVariable_99 ?_
                refine lv_topi (fun x45 ex45 => ?_)
                have tx45 : x45.toInt = (gwgc p1.toNatClampNeg).toInt := by rw [ex45]
                refine lv_if_ne (tgt := 109) hx hb d_VA_checkVariable_100 (by decide) (fun c100 => ?_) (fun c100 => ?_)
                · have q100 := neI c100
                  exact jn109 () _ _ _ ⟨(fun z => by (first | (apply Int.le_antisymm <;> omega) | omega)), hP, hD, hS, lv_sub hl [1, 2, 0] rfl⟩
                · have q100 := eqI c100
                  refine lv_aload_n hx hb d_VA_checkVariable_103 rfl (lv_at hl 1 rfl) ?_
                  refine lv_iconst (v := 0) hx hb d_VA_checkVariable_104 (by decide) ?_
                  refine va_put (D := (dC, dI)) (ci := 9) (v := .int 0) (ty := .boolean) (C := R_VA) (T := F_VA) (N := 11) hx hb hts i_VA t_VA t_VA_ok n_VA hown hK hP hD hS 0 rfl rfl 2 (by decide) (hts _ kF_VA_39) (fun _ h9 => h9) rfl (by decide +kernel) rfl rfl (Nat.le_of_ble_eq_true rfl) d_VA_checkVariable_105 (fun H locs hP hD hS => ?_)
                  have hP9 := hP.sb (wq := [(h0, .inr (9, [.ref aw, .ref ac, .int 0, .int h0_function, .ref ty, .int h0_height, .ref bo, .ref bg, .ref bh, .ref bd, .int h0_depth])), (aw, .inr (10, law)), (ac, .inr (3, [.ref cfi, .ref clk, .ref clt, .int ac_length, .ref cop, .ref cva, .ref cpt, .ref cel, .int ac_labelCount, .ref cla])), (ty, .inl (cty, 5000, .inl gty)), (bo, .inl (cbo, 101, .inl gbo)), (bg, .inl (cbg, 101, .inl gbg)), (bh, .inl (cbh, 101, .inl gbh)), (bd, .inl (cbd, 101, .inl gbd)), (waf, .inl (cwaf, 30, .inl gwaf)), (wat, .inl (cwat, 20, .inl gwat)), (wap, .inl (cwap, 160, .inl gwap)), (wgt, .inl (cwgt, 20, .inl gwgt)), (wgc, .inl (cwgc, 20, .inl gwgc)), (clk, .inl (cclk, 30, .inl gclk)), (clt, .inl (cclt, 1800, .inl gclt))]) [0, 1, 2, 3, 4, 5, 6, 7, 8, 9, 10, 11, 12, 13, 14] rfl
                  have hD9 := hD.sb (wq := [(h0, .inr (9, [.ref aw, .ref ac, .int 0, .int h0_function, .ref ty, .int h0_height, .ref bo, .ref bg, .ref bh, .ref bd, .int h0_depth])), (aw, .inr (10, law)), (ac, .inr (3, [.ref cfi, .ref clk, .ref clt, .int ac_length, .ref cop, .ref cva, .ref cpt, .ref cel, .int ac_labelCount, .ref cla])), (ty, .inl (cty, 5000, .inl gty)), (bo, .inl (cbo, 101, .inl gbo)), (bg, .inl (cbg, 101, .inl gbg)), (bh, .inl (cbh, 101, .inl gbh)), (bd, .inl (cbd, 101, .inl gbd)), (waf, .inl (cwaf, 30, .inl gwaf)), (wat, .inl (cwat, 20, .inl gwat)), (wap, .inl (cwap, 160, .inl gwap)), (wgt, .inl (cwgt, 20, .inl gwgt)), (wgc, .inl (cwgc, 20, .inl gwgc)), (clk, .inl (cclk, 30, .inl gclk)), (clt, .inl (cclt, 1800, .inl gclt))]) [0, 1, 2, 3, 4, 5, 6, 7, 8, 9, 10, 11, 12, 13, 14] (by decide) rfl
                  exact W.vret hx hb hr (fun t ht hW => ⟨⟨(gty, h0_height, 0), rfl, ⟨b_gty, b_h0_height, Or.inl rfl, ⟨by (try dsimp only) <;> (first | (apply Int.le_antisymm <;> omega) | omega), [], [], Or.inr ⟨by decide, fun _ => vr_n (t := j78_s0) (by (first | (apply Int.le_antisymm <;> omega) | omega)) y78 (by exact Or.inr ⟨by (first | (apply Int.le_antisymm <;> omega) | omega), (gl_c hgl.2 (by (first | (apply Int.le_antisymm <;> omega) | omega))).1 (by (first | (apply Int.le_antisymm <;> omega) | omega))⟩)⟩⟩⟩, va_P.he ht.symm hP9, va_K.moved hW.alike hK, hD9⟩, hS.F ht⟩) hS.2.2 d_VA_checkVariable_108
        · skip
          refine lv_if_ne (tgt := 54) hx hb d_VA_checkVariable_36 (by decide) (fun c36 => ?_) (fun c36 => absurd (eqI c36) (by (first | (apply Int.le_antisymm <;> omega) | omega)))
          have q36 := neI c36
          refine lv_iload_n hx hb d_VA_checkVariable_54 rfl (lv_at hl 3 rfl) ?_
          refine lv_aload_n hx hb d_VA_checkVariable_55 rfl (lv_at hl 1 rfl) ?_
          refine va_get (D := (dC, dI)) (ci := 9) (v := .ref aw) (C := R_VA) (T := F_VA) (N := 11) hx hb hts i_VA hown hK hP 0 rfl rfl 0 (by decide) (hts _ kF_VA_28) (fun _ h9 => h9) rfl d_VA_checkVariable_56 ?_
          refine va_get (D := (dC, dI)) (ci := 10) (v := .int aw_globalCount) (C := R_WA) (T := F_WA) (N := 21) hx hb hts i_WA hown hK hP 1 rfl rfl 11 (by decide) (hts _ kF_VA_63) (fun _ h9 => h9) paw_11 d_VA_checkVariable_59 ?_
          refine lv_icmp_ge (tgt := 77) hx hb d_VA_checkVariable_62 (by decide) (fun c62 => ?_) (fun c62 => ?_)
          · have q62 := leI c62
            refine lv_iconst (v := 0) hx hb d_VA_checkVariable_77 (by decide) ?_
            exact jn78 0 _ _ _ ⟨(gl_t hgl.2 (fun x hx => (htk.out x hx).1) (by (first | (apply Int.le_antisymm <;> omega) | omega)) (by (first | (apply Int.le_antisymm <;> omega) | omega)) (Or.inr ⟨by (first | (apply Int.le_antisymm <;> omega) | omega), by decide⟩)), hP, hD, hS, lv_sub hl [1, 2, 3] rfl⟩
          · have q62 := nleI c62
            refine lv_aload_n hx hb d_VA_checkVariable_65 rfl (lv_at hl 1 rfl) ?_
            refine va_get (D := (dC, dI)) (ci := 9) (v := .ref aw) (C := R_VA) (T := F_VA) (N := 11) hx hb hts i_VA hown hK hP 0 rfl rfl 0 (by decide) (hts _ kF_VA_28) (fun _ h9 => h9) rfl d_VA_checkVariable_66 ?_
            refine va_get (D := (dC, dI)) (ci := 10) (v := .ref wgt) (C := R_WA) (T := F_WA) (N := 21) hx hb hts i_WA hown hK hP 1 rfl rfl 12 (by decide) (hts _ kF_VA_66) (fun _ h9 => h9) paw_12 d_VA_checkVariable_69 ?_
            refine lv_iload_n hx hb d_VA_checkVariable_72 rfl (lv_at hl 3 rfl) ?_
            have g73 : vp_in p1 20 := vp_in_iff.mpr ⟨by (first | (apply Int.le_antisymm <;> omega) | omega), by (first | (apply Int.le_antisymm <;> omega) | omega)⟩
            refine va_iald hx hb hK hP 11 8 rfl rfl g73 d_VA_checkVariable_73 ?_
            refine lv_topi (fun x46 ex46 => ?_)
            refine lv_goto (tgt := 78) hx hb d_VA_checkVariable_74 (by decide) ?_
            exact jn78 x46 _ _ _ ⟨(gl_t hgl.2 (fun x hx => (htk.out x hx).1) (by (first | (apply Int.le_antisymm <;> omega) | omega)) (by (first | (apply Int.le_antisymm <;> omega) | omega)) (by first | exact Or.inl ⟨by (first | (apply Int.le_antisymm <;> omega) | omega), ex46⟩ | exact Or.inr ⟨by (first | (apply Int.le_antisymm <;> omega) | omega), by decide⟩)), hP, hD, hS, lv_sub hl [1, 2, 3] rfl⟩
    · have q15 := eqI c15
      refine lv_aload_n hx hb d_VA_checkVariable_18 rfl (lv_at hl 0 rfl) ?_
      have hPc := hP.sb (wq := (wz_86 h0 aw ac h0_sound h0_function ty h0_height bo bg bh bd h0_depth ty cty gty bo cbo gbo bg cbg gbg bh cbh gbh bd cbd gbd)) [0, 3, 4, 5, 6, 7] rfl
      have hDc := hD.sb (wq := (wz_86 h0 aw ac h0_sound h0_function ty h0_height bo bg bh bd h0_depth ty cty gty bo cbo gbo bg cbg gbg bh cbh gbh bd cbd gbd)) [0, 3, 4, 5, 6, 7] (by decide) rfl
      have hKc := hK.sb (tyq := [(cty, .int), (cbo, .int), (cbg, .int), (cbh, .int), (cbd, .boolean)]) [0, 1, 2, 3, 4] rfl
      have hFc := va_free (wc := (wz_86 h0 aw ac h0_sound h0_function ty h0_height bo bg bh bd h0_depth ty cty gty bo cbo gbo bg cbg gbg bh cbh gbh bd cbd gbd)) hD hS hA [0, 3, 4, 5, 6, 7] rfl
      refine va_callv (va_runV (As := []) (rest := []) ⟨hx, hb, hml, hown, hts⟩ (c_VA_checkSelecty l dC dI H.size h0 aw ac ty bo bg bh bd cty cbo cbg cbh cbd h0_sound h0_function h0_height h0_depth gty gbo gbg gbh gbd S9 B9 (b_h0_sound) (b_h0_height) (b_h0_depth) (b_gty) (b_gbh) (hv) (h5)) (cwV 0 hts (gV kM_VA_193 kV_VA_checkSelect kS_VA_checkSelect kI_VA kC_VA_checkSelect) rfl rfl rfl (by decide +kernel) ⟨Nat.le_of_ble_eq_true rfl, Nat.le_of_ble_eq_true rfl⟩) ⟨fun a U g mk z => by obtain ⟨z0, z1, zP, zK, zD⟩ := z; exact ⟨z0, z1, zP, va_K.moved (u := U) (U := U.calling g mk a) (Vm.Alike.refl U.vm) zK, zD⟩, va_recv hKc hPc (ci := 9) (q0 := 0) rfl rfl, fun U hU hW => ⟨rfl, by rw [hU], va_P.he hU.symm hPc, va_K.moved hW.alike hKc, hDc.weaken (fun _ _ _ _ => trivial)⟩⟩ rfl rfl hl.1 rfl (lv_room (Nat.le_of_ble_eq_true rfl)) d_VA_checkVariable_19 ⟨(Nat.zero_le _), (Nat.zero_le _)⟩) hS (fun q _ h => hFc q h) hFc (fun u t H1 locs ht hvm hw hB hz1 hk1 hS => ?_)
      obtain ⟨n48, n49, n50⟩ := u
      try dsimp only at hw
      obtain ⟨bn48, bn49, bn50, xr47⟩ := hw
      try clear hw
      have tn50 := b01 bn50
      obtain ⟨hP1, hK1, hD1⟩ := hB
      replace hP1 := va_P.he ht hP1
      obtain ⟨hP, hD⟩ := va_join (wr := (wz_76 aw law ac cfi clk clt ac_length cop cva cpt cel ac_labelCount cla waf cwaf gwaf wat cwat gwat wap cwap gwap wgt cwgt gwgt wgc cwgc gwgc clk cclk gclk clt cclt gclt)) (w1 := (wz_86 h0 aw ac n50 h0_function ty n49 bo bg bh bd h0_depth ty cty n48 bo cbo gbo bg cbg gbg bh cbh gbh bd cbd gbd)) hP hD [0, 3, 4, 5, 6, 7] [1, 2, 8, 9, 10, 11, 12, 13, 14] rfl rfl (by decide) (by decide) hk1 hFc hP1 hD1
      clear hPc hDc hKc hFc hz1 hk1 hP1 hK1 hD1
      rename Heap => H
      have hP : va_P (dC, dI) cls [(aw, .inr (10, law)), (ac, .inr (3, [.ref cfi, .ref clk, .ref clt, .int ac_length, .ref cop, .ref cva, .ref cpt, .ref cel, .int ac_labelCount, .ref cla])), (waf, .inl (cwaf, 30, .inl gwaf)), (wat, .inl (cwat, 20, .inl gwat)), (wap, .inl (cwap, 160, .inl gwap)), (wgt, .inl (cwgt, 20, .inl gwgt)), (wgc, .inl (cwgc, 20, .inl gwgc)), (clk, .inl (cclk, 30, .inl gclk)), (clt, .inl (cclt, 1800, .inl gclt)), (h0, .inr (9, [.ref aw, .ref ac, .int n50, .int h0_function, .ref ty, .int n49, .ref bo, .ref bg, .ref bh, .ref bd, .int h0_depth])), (ty, .inl (cty, 5000, .inl n48)), (bo, .inl (cbo, 101, .inl gbo)), (bg, .inl (cbg, 101, .inl gbg)), (bh, .inl (cbh, 101, .inl gbh)), (bd, .inl (cbd, 101, .inl gbd))] H := hP
      have hD : va_D A [(aw, .inr (10, law)), (ac, .inr (3, [.ref cfi, .ref clk, .ref clt, .int ac_length, .ref cop, .ref cva, .ref cpt, .ref cel, .int ac_labelCount, .ref cla])), (waf, .inl (cwaf, 30, .inl gwaf)), (wat, .inl (cwat, 20, .inl gwat)), (wap, .inl (cwap, 160, .inl gwap)), (wgt, .inl (cwgt, 20, .inl gwgt)), (wgc, .inl (cwgc, 20, .inl gwgc)), (clk, .inl (cclk, 30, .inl gclk)), (clt, .inl (cclt, 1800, .inl gclt)), (h0, .inr (9, [.ref aw, .ref ac, .int n50, .int h0_function, .ref ty, .int n49, .ref bo, .ref bg, .ref bh, .ref bd, .int h0_depth])), (ty, .inl (cty, 5000, .inl n48)), (bo, .inl (cbo, 101, .inl gbo)), (bg, .inl (cbg, 101, .inl gbg)), (bh, .inl (cbh, 101, .inl gbh)), (bd, .inl (cbd, 101, .inl gbd))] := hD
      have hP9 := hP.sb (wq := [(h0, .inr (9, [.ref aw, .ref ac, .int n50, .int h0_function, .ref ty, .int n49, .ref bo, .ref bg, .ref bh, .ref bd, .int h0_depth])), (aw, .inr (10, law)), (ac, .inr (3, [.ref cfi, .ref clk, .ref clt, .int ac_length, .ref cop, .ref cva, .ref cpt, .ref cel, .int ac_labelCount, .ref cla])), (ty, .inl (cty, 5000, .inl n48)), (bo, .inl (cbo, 101, .inl gbo)), (bg, .inl (cbg, 101, .inl gbg)), (bh, .inl (cbh, 101, .inl gbh)), (bd, .inl (cbd, 101, .inl gbd)), (waf, .inl (cwaf, 30, .inl gwaf)), (wat, .inl (cwat, 20, .inl gwat)), (wap, .inl (cwap, 160, .inl gwap)), (wgt, .inl (cwgt, 20, .inl gwgt)), (wgc, .inl (cwgc, 20, .inl gwgc)), (clk, .inl (cclk, 30, .inl gclk)), (clt, .inl (cclt, 1800, .inl gclt))]) [9, 0, 1, 10, 11, 12, 13, 14, 2, 3, 4, 5, 6, 7, 8] rfl
      have hD9 := hD.sb (wq := [(h0, .inr (9, [.ref aw, .ref ac, .int n50, .int h0_function, .ref ty, .int n49, .ref bo, .ref bg, .ref bh, .ref bd, .int h0_depth])), (aw, .inr (10, law)), (ac, .inr (3, [.ref cfi, .ref clk, .ref clt, .int ac_length, .ref cop, .ref cva, .ref cpt, .ref cel, .int ac_labelCount, .ref cla])), (ty, .inl (cty, 5000, .inl n48)), (bo, .inl (cbo, 101, .inl gbo)), (bg, .inl (cbg, 101, .inl gbg)), (bh, .inl (cbh, 101, .inl gbh)), (bd, .inl (cbd, 101, .inl gbd)), (waf, .inl (cwaf, 30, .inl gwaf)), (wat, .inl (cwat, 20, .inl gwat)), (wap, .inl (cwap, 160, .inl gwap)), (wgt, .inl (cwgt, 20, .inl gwgt)), (wgc, .inl (cwgc, 20, .inl gwgc)), (clk, .inl (cclk, 30, .inl gclk)), (clt, .inl (cclt, 1800, .inl gclt))]) [9, 0, 1, 10, 11, 12, 13, 14, 2, 3, 4, 5, 6, 7, 8] (by decide) rfl
      exact W.vret hx hb hr (fun t ht hW => ⟨⟨(n48, n49, n50), rfl, ⟨bn48, bn49, bn50, ⟨by (try dsimp only) <;> (first | (apply Int.le_antisymm <;> omega) | omega), vr_s (by (first | (apply Int.le_antisymm <;> omega) | omega)) xr47.2⟩⟩, va_P.he ht.symm hP9, va_K.moved hW.alike hK, hD9⟩, hS.F ht⟩) hS.2.2 d_VA_checkVariable_22
  · have q3 := eqI c3
    refine lv_aload_n hx hb d_VA_checkVariable_6 rfl (lv_at hl 0 rfl) ?_
    have hPc := hP.sb (wq := (wz_86 h0 aw ac h0_sound h0_function ty h0_height bo bg bh bd h0_depth ty cty gty bo cbo gbo bg cbg gbg bh cbh gbh bd cbd gbd)) [0, 3, 4, 5, 6, 7] rfl
    have hDc := hD.sb (wq := (wz_86 h0 aw ac h0_sound h0_function ty h0_height bo bg bh bd h0_depth ty cty gty bo cbo gbo bg cbg gbg bh cbh gbh bd cbd gbd)) [0, 3, 4, 5, 6, 7] (by decide) rfl
    have hKc := hK.sb (tyq := [(cty, .int), (cbo, .int), (cbg, .int), (cbh, .int), (cbd, .boolean)]) [0, 1, 2, 3, 4] rfl
    have hFc := va_free (wc := (wz_86 h0 aw ac h0_sound h0_function ty h0_height bo bg bh bd h0_depth ty cty gty bo cbo gbo bg cbg gbg bh cbh gbh bd cbd gbd)) hD hS hA [0, 3, 4, 5, 6, 7] rfl
    refine va_calli (va_runV (As := []) (rest := []) ⟨hx, hb, hml, hown, hts⟩ (c_VA_popAnyy l dC dI H.size h0 aw ac ty bo bg bh bd cty cbo cbg cbh cbd h0_sound h0_function h0_height h0_depth gty gbo gbg gbh gbd S9 B9 (b_h0_sound) (b_h0_height) (b_h0_depth) (b_gty) (b_gbh) (hv)) (cwV 0 hts (gV kM_VA_189 kV_VA_popAny kS_VA_popAny kI_VA kC_VA_popAny) rfl rfl rfl (by decide +kernel) ⟨Nat.le_of_ble_eq_true rfl, Nat.le_of_ble_eq_true rfl⟩) ⟨fun a U g mk z => by obtain ⟨z0, z1, zP, zK, zD⟩ := z; exact ⟨z0, z1, zP, va_K.moved (u := U) (U := U.calling g mk a) (Vm.Alike.refl U.vm) zK, zD⟩, va_recv hKc hPc (ci := 9) (q0 := 0) rfl rfl, fun U hU hW => ⟨rfl, by rw [hU], va_P.he hU.symm hPc, va_K.moved hW.alike hKc, hDc.weaken (fun _ _ _ _ => trivial)⟩⟩ rfl rfl hl.1 rfl (lv_room (Nat.le_of_ble_eq_true rfl)) d_VA_checkVariable_7 ⟨(Nat.zero_le _), (Nat.zero_le _)⟩) hS (fun q _ h => hFc q h) hFc (fun r51 u t H1 locs ht hvm hw hB hz1 hk1 hS => ?_)
    obtain ⟨n52, n53⟩ := u
    try dsimp only at hw
    obtain ⟨bn52, bn53, xr51⟩ := hw
    try clear hw
    have tn53 := b01 bn53
    obtain ⟨hP1, hK1, hD1⟩ := hB
    replace hP1 := va_P.he ht hP1
    obtain ⟨hP, hD⟩ := va_join (wr := (wz_76 aw law ac cfi clk clt ac_length cop cva cpt cel ac_labelCount cla waf cwaf gwaf wat cwat gwat wap cwap gwap wgt cwgt gwgt wgc cwgc gwgc clk cclk gclk clt cclt gclt)) (w1 := (wz_86 h0 aw ac n53 h0_function ty n52 bo bg bh bd h0_depth ty cty gty bo cbo gbo bg cbg gbg bh cbh gbh bd cbd gbd)) hP hD [0, 3, 4, 5, 6, 7] [1, 2, 8, 9, 10, 11, 12, 13, 14] rfl rfl (by decide) (by decide) hk1 hFc hP1 hD1
    clear hPc hDc hKc hFc hz1 hk1 hP1 hK1 hD1
    rename Heap => H
    have hP : va_P (dC, dI) cls [(aw, .inr (10, law)), (ac, .inr (3, [.ref cfi, .ref clk, .ref clt, .int ac_length, .ref cop, .ref cva, .ref cpt, .ref cel, .int ac_labelCount, .ref cla])), (waf, .inl (cwaf, 30, .inl gwaf)), (wat, .inl (cwat, 20, .inl gwat)), (wap, .inl (cwap, 160, .inl gwap)), (wgt, .inl (cwgt, 20, .inl gwgt)), (wgc, .inl (cwgc, 20, .inl gwgc)), (clk, .inl (cclk, 30, .inl gclk)), (clt, .inl (cclt, 1800, .inl gclt)), (h0, .inr (9, [.ref aw, .ref ac, .int n53, .int h0_function, .ref ty, .int n52, .ref bo, .ref bg, .ref bh, .ref bd, .int h0_depth])), (ty, .inl (cty, 5000, .inl gty)), (bo, .inl (cbo, 101, .inl gbo)), (bg, .inl (cbg, 101, .inl gbg)), (bh, .inl (cbh, 101, .inl gbh)), (bd, .inl (cbd, 101, .inl gbd))] H := hP
    have hD : va_D A [(aw, .inr (10, law)), (ac, .inr (3, [.ref cfi, .ref clk, .ref clt, .int ac_length, .ref cop, .ref cva, .ref cpt, .ref cel, .int ac_labelCount, .ref cla])), (waf, .inl (cwaf, 30, .inl gwaf)), (wat, .inl (cwat, 20, .inl gwat)), (wap, .inl (cwap, 160, .inl gwap)), (wgt, .inl (cwgt, 20, .inl gwgt)), (wgc, .inl (cwgc, 20, .inl gwgc)), (clk, .inl (cclk, 30, .inl gclk)), (clt, .inl (cclt, 1800, .inl gclt)), (h0, .inr (9, [.ref aw, .ref ac, .int n53, .int h0_function, .ref ty, .int n52, .ref bo, .ref bg, .ref bh, .ref bd, .int h0_depth])), (ty, .inl (cty, 5000, .inl gty)), (bo, .inl (cbo, 101, .inl gbo)), (bg, .inl (cbg, 101, .inl gbg)), (bh, .inl (cbh, 101, .inl gbh)), (bd, .inl (cbd, 101, .inl gbd))] := hD
    refine lv_pop hx hb d_VA_checkVariable_10 rfl ?_
    have hP9 := hP.sb (wq := [(h0, .inr (9, [.ref aw, .ref ac, .int n53, .int h0_function, .ref ty, .int n52, .ref bo, .ref bg, .ref bh, .ref bd, .int h0_depth])), (aw, .inr (10, law)), (ac, .inr (3, [.ref cfi, .ref clk, .ref clt, .int ac_length, .ref cop, .ref cva, .ref cpt, .ref cel, .int ac_labelCount, .ref cla])), (ty, .inl (cty, 5000, .inl gty)), (bo, .inl (cbo, 101, .inl gbo)), (bg, .inl (cbg, 101, .inl gbg)), (bh, .inl (cbh, 101, .inl gbh)), (bd, .inl (cbd, 101, .inl gbd)), (waf, .inl (cwaf, 30, .inl gwaf)), (wat, .inl (cwat, 20, .inl gwat)), (wap, .inl (cwap, 160, .inl gwap)), (wgt, .inl (cwgt, 20, .inl gwgt)), (wgc, .inl (cwgc, 20, .inl gwgc)), (clk, .inl (cclk, 30, .inl gclk)), (clt, .inl (cclt, 1800, .inl gclt))]) [9, 0, 1, 10, 11, 12, 13, 14, 2, 3, 4, 5, 6, 7, 8] rfl
    have hD9 := hD.sb (wq := [(h0, .inr (9, [.ref aw, .ref ac, .int n53, .int h0_function, .ref ty, .int n52, .ref bo, .ref bg, .ref bh, .ref bd, .int h0_depth])), (aw, .inr (10, law)), (ac, .inr (3, [.ref cfi, .ref clk, .ref clt, .int ac_length, .ref cop, .ref cva, .ref cpt, .ref cel, .int ac_labelCount, .ref cla])), (ty, .inl (cty, 5000, .inl gty)), (bo, .inl (cbo, 101, .inl gbo)), (bg, .inl (cbg, 101, .inl gbg)), (bh, .inl (cbh, 101, .inl gbh)), (bd, .inl (cbd, 101, .inl gbd)), (waf, .inl (cwaf, 30, .inl gwaf)), (wat, .inl (cwat, 20, .inl gwat)), (wap, .inl (cwap, 160, .inl gwap)), (wgt, .inl (cwgt, 20, .inl gwgt)), (wgc, .inl (cwgc, 20, .inl gwgc)), (clk, .inl (cclk, 30, .inl gclk)), (clt, .inl (cclt, 1800, .inl gclt))]) [9, 0, 1, 10, 11, 12, 13, 14, 2, 3, 4, 5, 6, 7, 8] (by decide) rfl
    exact W.vret hx hb hr (fun t ht hW => ⟨⟨(gty, n52, n53), rfl, ⟨b_gty, bn52, bn53, ⟨by (try dsimp only) <;> (first | (apply Int.le_antisymm <;> omega) | omega), vr_d (by (first | (apply Int.le_antisymm <;> omega) | omega)) xr51.2.2⟩⟩, va_P.he ht.symm hP9, va_K.moved hW.alike hK, hD9⟩, hS.F ht⟩) hS.2.2 d_VA_checkVariable_11

/-! Codes: what its functions of an op say -/
abbrev no_at (dC : Nat → ClassId) (dI : Nat → Nat → Nat) (A : Nat → Prop) (u : Unit) (t : State) : Prop := va_P (dC, dI) cls [] t.heap ∧ va_K (dC, dI) cls [] t ∧ va_D A []
abbrev b_CD_accessBytes : ByteArray := prog_5_method_3_code
def y_CD_accessBytes : MethodName := ⟨R_CD, "accessBytes", "(I)I"⟩
abbrev w_CD_accessBytes : List Cond := .code y_CD_accessBytes b_CD_accessBytes 1 (Option.some .int) :: lw_g
theorem kC_CD_accessBytes : Cond.code y_CD_accessBytes b_CD_accessBytes 1 (Option.some .int) ∈ lw_g := in_g 1177 (by decide +kernel) rfl
theorem d_CD_accessBytes_0 : decode b_CD_accessBytes 0 = .ok (.iload_n 0, 1) := by decide +kernel
theorem d_CD_accessBytes_1 : decode b_CD_accessBytes 1 = .ok (.tableswitch 98 40 58 #[93, 95, 98, 98, 91, 91, 98, 98, 98, 98, 98, 98, 98, 98, 93, 95, 98, 98, 91], 91) := by decide +kernel
theorem d_CD_accessBytes_92 : decode b_CD_accessBytes 92 = .ok (.iconst 1, 1) := by decide +kernel
theorem d_CD_accessBytes_93 : decode b_CD_accessBytes 93 = .ok (.ireturn, 1) := by decide +kernel
theorem d_CD_accessBytes_94 : decode b_CD_accessBytes 94 = .ok (.iconst 4, 1) := by decide +kernel
theorem d_CD_accessBytes_95 : decode b_CD_accessBytes 95 = .ok (.ireturn, 1) := by decide +kernel
theorem d_CD_accessBytes_96 : decode b_CD_accessBytes 96 = .ok (.bipush 8, 2) := by decide +kernel
theorem d_CD_accessBytes_98 : decode b_CD_accessBytes 98 = .ok (.ireturn, 1) := by decide +kernel
theorem d_CD_accessBytes_99 : decode b_CD_accessBytes 99 = .ok (.iconst 0, 1) := by decide +kernel
theorem d_CD_accessBytes_100 : decode b_CD_accessBytes 100 = .ok (.ireturn, 1) := by decide +kernel
set_option maxHeartbeats 4000000 in
set_option maxRecDepth 100000 in
theorem c_CD_accessBytes (l : Launch) (dC : Nat → ClassId) (dI : Nat → Nat → Nat) (sz : Nat) (p0 : Int32) : Met l y_CD_accessBytes w_CD_accessBytes ({ frames := 0, cells := 0, slots := 0, locals := 0 }) (va_Pc [.int p0] (fun U => U.heap.size = sz ∧ va_P (dC, dI) cls [] U.heap ∧ va_K (dC, dI) cls [] U ∧ va_D (fun _ => True) [])) (va_Qi (fun (r : Int32) (_ : Unit) => (r.toInt = 0 ∨ r.toInt = 1 ∨ r.toInt = 4 ∨ r.toInt = 8) ∧ (r.toInt = 1 ↔ p0.toInt = 44 ∨ p0.toInt = 45 ∨ p0.toInt = 58) ∧ (r.toInt = 4 ↔ p0.toInt = 40 ∨ p0.toInt = 54) ∧ (r.toInt = 8 ↔ p0.toInt = 41 ∨ p0.toInt = 55)) (no_at dC dI (va_A [] sz)) (va_A [] sz)) 0 0 (va_A [] sz) := by
  refine Met.ofW (cc := b_CD_accessBytes) (maxL := 1) (ret := (Option.some .int)) (by decide) rfl ?_
  intro p e s m args below meth c s₁ B hml hv
  obtain ⟨rfl, hsz, hP, hK, hD0⟩ := hv
  have hx := B.exec
  have hb := B.bytes
  have hr := B.returns
  have hts0 := atoms_spec (ws := w_CD_accessBytes) B.pre
  have hts : ∀ w ∈ lw_g, w.before _ s = true := fun w h => hts0 w (List.mem_cons_of_mem _ h)
  have hown : s.vm.findClass R_CD = some m.cls := findClass_of_methodNamed B.named
  have hlocks := B.notSynchronized
  clear hts0
  subst hsz
  have hD := hD0.self (sz := s.heap.size)
  generalize hAe : va_A [] s.heap.size = A at hD ⊢
  have hA : ∀ q : Nat, s.heap.size ≤ q → A q := fun q h => by rw [← hAe]; exact Or.inr h
  clear hAe
  have hP : va_P (dC, dI) cls [] s.heap := hP
  have hl := lv_entry ([.int p0]) (n := 1) (Nat.le_of_ble_eq_true rfl)
  rw [lg_entry_eq]
  generalize (lg_sl ([.int p0]) ++ List.replicate (1 - (lg_sl ([.int p0])).length) Slot.unset).toArray = ls at hl ⊢
  have hl : lv_has ls 1 [(0, .int p0)] := hl
  have k0 : (0 : Int32).toInt = 0 := by decide
  refine w_gen (A := A) hP (fun H locs hP hS => ?_)
  have lo_p0 := i32_lo p0
  have hi_p0 := i32_hi p0
  refine lv_iload_n hx hb d_CD_accessBytes_0 rfl (lv_at hl 0 rfl) ?_
  by_cases g1_94 : p0.toInt = 40 ∨ p0.toInt = 54
  · have ho1 : tab_off 98 40 58 #[93, 95, 98, 98, 91, 91, 98, 98, 98, 98, 98, 98, 98, 98, 93, 95, 98, 98, 91] p0.toInt = 93 := by rcases g1_94 with z | z <;> (rw [z]; rfl)
    refine lv_tab (tgt := 94) hx hb d_CD_accessBytes_1 (by decide) ho1 (by decide) ?_
    refine lv_iconst (v := 4) hx hb d_CD_accessBytes_94 (by decide) ?_
    have k4 : (4 : Int32).toInt = 4 := by decide
    have hP9 := hP.sub (ws' := []) [] rfl
    have hD9 := hD.sub (ws' := []) [] (by decide) rfl
    exact W.iret (v := 4) hx hb hr (fun t ht hW => ⟨⟨4, (), rfl, (by (try dsimp only); omega), by rw [ht]; exact hP9, va_K.moved hW.alike hK, hD9⟩, hS.F ht⟩) hS.2.2 d_CD_accessBytes_95
  · skip
    by_cases g1_96 : p0.toInt = 41 ∨ p0.toInt = 55
    · have ho1 : tab_off 98 40 58 #[93, 95, 98, 98, 91, 91, 98, 98, 98, 98, 98, 98, 98, 98, 93, 95, 98, 98, 91] p0.toInt = 95 := by rcases g1_96 with z | z <;> (rw [z]; rfl)
      refine lv_tab (tgt := 96) hx hb d_CD_accessBytes_1 (by decide) ho1 (by decide) ?_
      refine lv_bipush (v := 8) hx hb d_CD_accessBytes_96 (by decide) ?_
      have k8 : (8 : Int32).toInt = 8 := by decide
      have hP9 := hP.sub (ws' := []) [] rfl
      have hD9 := hD.sub (ws' := []) [] (by decide) rfl
      exact W.iret (v := 8) hx hb hr (fun t ht hW => ⟨⟨8, (), rfl, (by (try dsimp only); omega), by rw [ht]; exact hP9, va_K.moved hW.alike hK, hD9⟩, hS.F ht⟩) hS.2.2 d_CD_accessBytes_98
    · skip
      by_cases g1_92 : p0.toInt = 44 ∨ p0.toInt = 45 ∨ p0.toInt = 58
      · have ho1 : tab_off 98 40 58 #[93, 95, 98, 98, 91, 91, 98, 98, 98, 98, 98, 98, 98, 98, 93, 95, 98, 98, 91] p0.toInt = 91 := by rcases g1_92 with z | z | z <;> (rw [z]; rfl)
        refine lv_tab (tgt := 92) hx hb d_CD_accessBytes_1 (by decide) ho1 (by decide) ?_
        refine lv_iconst (v := 1) hx hb d_CD_accessBytes_92 (by decide) ?_
        have k1 : (1 : Int32).toInt = 1 := by decide
        have hP9 := hP.sub (ws' := []) [] rfl
        have hD9 := hD.sub (ws' := []) [] (by decide) rfl
        exact W.iret (v := 1) hx hb hr (fun t ht hW => ⟨⟨1, (), rfl, (by (try dsimp only); omega), by rw [ht]; exact hP9, va_K.moved hW.alike hK, hD9⟩, hS.F ht⟩) hS.2.2 d_CD_accessBytes_93
      · skip
        have ho1 : tab_off 98 40 58 #[93, 95, 98, 98, 91, 91, 98, 98, 98, 98, 98, 98, 98, 98, 93, 95, 98, 98, 91] p0.toInt = 98 := by
          unfold tab_off
          split
          · rfl
          · rcases (by omega : p0.toInt = 42 ∨ p0.toInt = 43 ∨ p0.toInt = 46 ∨ p0.toInt = 47 ∨ p0.toInt = 48 ∨ p0.toInt = 49 ∨ p0.toInt = 50 ∨ p0.toInt = 51 ∨ p0.toInt = 52 ∨ p0.toInt = 53 ∨ p0.toInt = 56 ∨ p0.toInt = 57) with z | z | z | z | z | z | z | z | z | z | z | z <;> (rw [z]; rfl)
        refine lv_tab (tgt := 99) hx hb d_CD_accessBytes_1 (by decide) ho1 (by decide) ?_
        refine lv_iconst (v := 0) hx hb d_CD_accessBytes_99 (by decide) ?_
        have k0 : (0 : Int32).toInt = 0 := by decide
        have hP9 := hP.sub (ws' := []) [] rfl
        have hD9 := hD.sub (ws' := []) [] (by decide) rfl
        exact W.iret (v := 0) hx hb hr (fun t ht hW => ⟨⟨0, (), rfl, (by (try dsimp only); omega), by rw [ht]; exact hP9, va_K.moved hW.alike hK, hD9⟩, hS.F ht⟩) hS.2.2 d_CD_accessBytes_100
abbrev b_CD_isAccess : ByteArray := prog_5_method_2_code
def y_CD_isAccess : MethodName := ⟨R_CD, "isAccess", "(I)Z"⟩
abbrev w_CD_isAccess : List Cond := .code y_CD_isAccess b_CD_isAccess 1 (Option.some .boolean) :: lw_g
theorem kC_CD_isAccess : Cond.code y_CD_isAccess b_CD_isAccess 1 (Option.some .boolean) ∈ lw_g := in_g 1174 (by decide +kernel) rfl
theorem d_CD_isAccess_0 : decode b_CD_isAccess 0 = .ok (.iload_n 0, 1) := by decide +kernel
theorem d_CD_isAccess_1 : decode b_CD_isAccess 1 = .ok (.invokestatic 37, 3) := by decide +kernel
theorem d_CD_isAccess_4 : decode b_CD_isAccess 4 = .ok (.ifCond .le 7, 3) := by decide +kernel
theorem d_CD_isAccess_7 : decode b_CD_isAccess 7 = .ok (.iconst 1, 1) := by decide +kernel
theorem d_CD_isAccess_8 : decode b_CD_isAccess 8 = .ok (.goto 4, 3) := by decide +kernel
theorem d_CD_isAccess_11 : decode b_CD_isAccess 11 = .ok (.iconst 0, 1) := by decide +kernel
theorem d_CD_isAccess_12 : decode b_CD_isAccess 12 = .ok (.ireturn, 1) := by decide +kernel
theorem kM_CD_37 : Cond.methodLink R_CD 37 y_CD_accessBytes ∈ lw_g := in_g 1175 (by decide +kernel) rfl
theorem kT_CD_accessBytes : Cond.static y_CD_accessBytes ∈ lw_g := in_g 1176 (by decide +kernel) rfl
set_option maxHeartbeats 4000000 in
set_option maxRecDepth 100000 in
theorem c_CD_isAccess (l : Launch) (dC : Nat → ClassId) (dI : Nat → Nat → Nat) (sz : Nat) (p0 : Int32) : Met l y_CD_isAccess w_CD_isAccess ({ frames := 1, cells := 0, slots := 0, locals := 20 }) (va_Pc [.int p0] (fun U => U.heap.size = sz ∧ va_P (dC, dI) cls [] U.heap ∧ va_K (dC, dI) cls [] U ∧ va_D (fun _ => True) [])) (va_Qi (fun (r : Int32) (_ : Unit) => (r = 0 ∨ r = 1) ∧ (r.toInt ≠ 0 ↔ p0.toInt = 44 ∨ p0.toInt = 45 ∨ p0.toInt = 58 ∨ p0.toInt = 40 ∨ p0.toInt = 54 ∨ p0.toInt = 41 ∨ p0.toInt = 55)) (no_at dC dI (va_A [] sz)) (va_A [] sz)) 0 0 (va_A [] sz) := by
  refine Met.ofW (cc := b_CD_isAccess) (maxL := 1) (ret := (Option.some .boolean)) (by decide) rfl ?_
  intro p e s m args below meth c s₁ B hml hv
  obtain ⟨rfl, hsz, hP, hK, hD0⟩ := hv
  have hx := B.exec
  have hb := B.bytes
  have hr := B.returns
  have hts0 := atoms_spec (ws := w_CD_isAccess) B.pre
  have hts : ∀ w ∈ lw_g, w.before _ s = true := fun w h => hts0 w (List.mem_cons_of_mem _ h)
  have hown : s.vm.findClass R_CD = some m.cls := findClass_of_methodNamed B.named
  have hlocks := B.notSynchronized
  clear hts0
  subst hsz
  have hD := hD0.self (sz := s.heap.size)
  generalize hAe : va_A [] s.heap.size = A at hD ⊢
  have hA : ∀ q : Nat, s.heap.size ≤ q → A q := fun q h => by rw [← hAe]; exact Or.inr h
  clear hAe
  have hP : va_P (dC, dI) cls [] s.heap := hP
  have hl := lv_entry ([.int p0]) (n := 1) (Nat.le_of_ble_eq_true rfl)
  rw [lg_entry_eq]
  generalize (lg_sl ([.int p0]) ++ List.replicate (1 - (lg_sl ([.int p0])).length) Slot.unset).toArray = ls at hl ⊢
  have hl : lv_has ls 1 [(0, .int p0)] := hl
  have k0 : (0 : Int32).toInt = 0 := by decide
  refine w_gen (A := A) hP (fun H locs hP hS => ?_)
  have lo_p0 := i32_lo p0
  have hi_p0 := i32_hi p0
  refine lv_iload_n hx hb d_CD_isAccess_0 rfl (lv_at hl 0 rfl) ?_
  have hPc := hP.sub (ws' := []) [] rfl
  have hDc := hD.sub (ws' := []) [] (by decide) rfl
  have hKc := hK.sub (tys' := []) [] rfl
  have hFc := va_free (wc := []) hD hS hA [] rfl
  refine va_calli (va_runS (As := [.int p0]) (rest := []) ⟨hx, hb, hml, hown, hts⟩ (c_CD_accessBytes l dC dI H.size p0) ⟨callB_of 1 hts (gW kC_CD_accessBytes) rfl rfl rfl (hts _ kI_CD) (hts _ kM_CD_37) (by decide +kernel) ⟨Nat.le_of_ble_eq_true rfl, Nat.le_of_ble_eq_true rfl⟩, hts _ kT_CD_accessBytes⟩ ⟨fun a U g mk z => by obtain ⟨z0, z1, zP, zK, zD⟩ := z; exact ⟨z0, z1, zP, va_K.moved (u := U) (U := U.calling g mk a) (Vm.Alike.refl U.vm) zK, zD⟩, fun U hU hW => ⟨rfl, by rw [hU], by rw [hU]; exact hPc, va_K.moved hW.alike hKc, hDc.weaken (fun _ _ _ _ => trivial)⟩⟩ rfl rfl hl.1 rfl (lv_room (Nat.le_of_ble_eq_true rfl)) d_CD_isAccess_1 ⟨(Nat.zero_le _), (Nat.zero_le _)⟩) hS (fun q _ h => hFc q h) hFc (fun r1 u t H1 locs ht hvm hw hB hz1 hk1 hS => ?_)
  try dsimp only at hw
  have tr1 := hw
  obtain ⟨hP1, hK1, hD1⟩ := hB
  rw [ht] at hP1
  obtain ⟨hP, hD⟩ := va_join (wr := []) (w1 := []) hP hD [] [] rfl rfl (by decide) (by decide) hk1 hFc hP1 hD1
  clear hPc hDc hKc hFc hz1 hk1 hP1 hK1 hD1
  generalize H1 = H at hP hS ⊢
  have hP : va_P (dC, dI) cls [] H := hP
  have hD : va_D A [] := hD
  refine lv_if_le (tgt := 11) hx hb d_CD_isAccess_4 (by decide) (fun c4 => ?_) (fun c4 => ?_)
  · have q4 := leI c4
    refine lv_iconst (v := 0) hx hb d_CD_isAccess_11 (by decide) ?_
    have k0 : (0 : Int32).toInt = 0 := by decide
    have hP9 := hP.sub (ws' := []) [] rfl
    have hD9 := hD.sub (ws' := []) [] (by decide) rfl
    exact W.zret (v := 0) hx hb hr (zn01 (by first | exact Or.inl rfl | exact Or.inr rfl | exact hr0)) (fun t ht hW => ⟨⟨0, (), rfl, ⟨by first | exact Or.inl rfl | exact Or.inr rfl, by (try dsimp only); omega⟩, by rw [ht]; exact hP9, va_K.moved hW.alike hK, hD9⟩, hS.F ht⟩) hS.2.2 d_CD_isAccess_12
  · have q4 := nleI c4
    refine lv_iconst (v := 1) hx hb d_CD_isAccess_7 (by decide) ?_
    have k1 : (1 : Int32).toInt = 1 := by decide
    refine lv_goto (tgt := 12) hx hb d_CD_isAccess_8 (by decide) ?_
    have hP9 := hP.sub (ws' := []) [] rfl
    have hD9 := hD.sub (ws' := []) [] (by decide) rfl
    exact W.zret (v := 1) hx hb hr (zn01 (by first | exact Or.inl rfl | exact Or.inr rfl | exact hr1)) (fun t ht hW => ⟨⟨1, (), rfl, ⟨by first | exact Or.inl rfl | exact Or.inr rfl, by (try dsimp only); omega⟩, by rw [ht]; exact hP9, va_K.moved hW.alike hK, hD9⟩, hS.F ht⟩) hS.2.2 d_CD_isAccess_12
abbrev b_CD_isStore : ByteArray := prog_5_method_5_code
def y_CD_isStore : MethodName := ⟨R_CD, "isStore", "(I)Z"⟩
abbrev w_CD_isStore : List Cond := .code y_CD_isStore b_CD_isStore 1 (Option.some .boolean) :: lw_g
theorem kC_CD_isStore : Cond.code y_CD_isStore b_CD_isStore 1 (Option.some .boolean) ∈ lw_g := in_g 1481 (by decide +kernel) rfl
theorem d_CD_isStore_0 : decode b_CD_isStore 0 = .ok (.iload_n 0, 1) := by decide +kernel
theorem d_CD_isStore_1 : decode b_CD_isStore 1 = .ok (.bipush 58, 2) := by decide +kernel
theorem d_CD_isStore_3 : decode b_CD_isStore 3 = .ok (.if_icmp .eq 15, 3) := by decide +kernel
theorem d_CD_isStore_6 : decode b_CD_isStore 6 = .ok (.iload_n 0, 1) := by decide +kernel
theorem d_CD_isStore_7 : decode b_CD_isStore 7 = .ok (.bipush 54, 2) := by decide +kernel
theorem d_CD_isStore_9 : decode b_CD_isStore 9 = .ok (.if_icmp .eq 9, 3) := by decide +kernel
theorem d_CD_isStore_12 : decode b_CD_isStore 12 = .ok (.iload_n 0, 1) := by decide +kernel
theorem d_CD_isStore_13 : decode b_CD_isStore 13 = .ok (.bipush 55, 2) := by decide +kernel
theorem d_CD_isStore_15 : decode b_CD_isStore 15 = .ok (.if_icmp .ne 7, 3) := by decide +kernel
theorem d_CD_isStore_18 : decode b_CD_isStore 18 = .ok (.iconst 1, 1) := by decide +kernel
theorem d_CD_isStore_19 : decode b_CD_isStore 19 = .ok (.goto 4, 3) := by decide +kernel
theorem d_CD_isStore_22 : decode b_CD_isStore 22 = .ok (.iconst 0, 1) := by decide +kernel
theorem d_CD_isStore_23 : decode b_CD_isStore 23 = .ok (.ireturn, 1) := by decide +kernel
set_option maxHeartbeats 4000000 in
set_option maxRecDepth 100000 in
theorem c_CD_isStore (l : Launch) (dC : Nat → ClassId) (dI : Nat → Nat → Nat) (sz : Nat) (p0 : Int32) : Met l y_CD_isStore w_CD_isStore ({ frames := 0, cells := 0, slots := 0, locals := 0 }) (va_Pc [.int p0] (fun U => U.heap.size = sz ∧ va_P (dC, dI) cls [] U.heap ∧ va_K (dC, dI) cls [] U ∧ va_D (fun _ => True) [])) (va_Qi (fun (r : Int32) (_ : Unit) => (r = 0 ∨ r = 1) ∧ (r.toInt ≠ 0 ↔ p0.toInt = 54 ∨ p0.toInt = 55 ∨ p0.toInt = 58)) (no_at dC dI (va_A [] sz)) (va_A [] sz)) 0 0 (va_A [] sz) := by
  refine Met.ofW (cc := b_CD_isStore) (maxL := 1) (ret := (Option.some .boolean)) (by decide) rfl ?_
  intro p e s m args below meth c s₁ B hml hv
  obtain ⟨rfl, hsz, hP, hK, hD0⟩ := hv
  have hx := B.exec
  have hb := B.bytes
  have hr := B.returns
  have hts0 := atoms_spec (ws := w_CD_isStore) B.pre
  have hts : ∀ w ∈ lw_g, w.before _ s = true := fun w h => hts0 w (List.mem_cons_of_mem _ h)
  have hown : s.vm.findClass R_CD = some m.cls := findClass_of_methodNamed B.named
  have hlocks := B.notSynchronized
  clear hts0
  subst hsz
  have hD := hD0.self (sz := s.heap.size)
  generalize hAe : va_A [] s.heap.size = A at hD ⊢
  have hA : ∀ q : Nat, s.heap.size ≤ q → A q := fun q h => by rw [← hAe]; exact Or.inr h
  clear hAe
  have hP : va_P (dC, dI) cls [] s.heap := hP
  have hl := lv_entry ([.int p0]) (n := 1) (Nat.le_of_ble_eq_true rfl)
  rw [lg_entry_eq]
  generalize (lg_sl ([.int p0]) ++ List.replicate (1 - (lg_sl ([.int p0])).length) Slot.unset).toArray = ls at hl ⊢
  have hl : lv_has ls 1 [(0, .int p0)] := hl
  have k0 : (0 : Int32).toInt = 0 := by decide
  refine w_gen (A := A) hP (fun H locs hP hS => ?_)
  have lo_p0 := i32_lo p0
  have hi_p0 := i32_hi p0
  refine lv_iload_n hx hb d_CD_isStore_0 rfl (lv_at hl 0 rfl) ?_
  refine lv_bipush (v := 58) hx hb d_CD_isStore_1 (by decide) ?_
  have k58 : (58 : Int32).toInt = 58 := by decide
  refine lv_icmp_eq (tgt := 18) hx hb d_CD_isStore_3 (by decide) (fun c3 => ?_) (fun c3 => ?_)
  · have q3 := eqI c3
    refine lv_iconst (v := 1) hx hb d_CD_isStore_18 (by decide) ?_
    have k1 : (1 : Int32).toInt = 1 := by decide
    refine lv_goto (tgt := 23) hx hb d_CD_isStore_19 (by decide) ?_
    have hP9 := hP.sub (ws' := []) [] rfl
    have hD9 := hD.sub (ws' := []) [] (by decide) rfl
    exact W.zret (v := 1) hx hb hr (zn01 (by first | exact Or.inl rfl | exact Or.inr rfl | exact hr1)) (fun t ht hW => ⟨⟨1, (), rfl, ⟨by first | exact Or.inl rfl | exact Or.inr rfl, by (try dsimp only); omega⟩, by rw [ht]; exact hP9, va_K.moved hW.alike hK, hD9⟩, hS.F ht⟩) hS.2.2 d_CD_isStore_23
  · have q3 := neI c3
    refine lv_iload_n hx hb d_CD_isStore_6 rfl (lv_at hl 0 rfl) ?_
    refine lv_bipush (v := 54) hx hb d_CD_isStore_7 (by decide) ?_
    have k54 : (54 : Int32).toInt = 54 := by decide
    refine lv_icmp_eq (tgt := 18) hx hb d_CD_isStore_9 (by decide) (fun c9 => ?_) (fun c9 => ?_)
    · have q9 := eqI c9
      refine lv_iconst (v := 1) hx hb d_CD_isStore_18 (by decide) ?_
      have k1 : (1 : Int32).toInt = 1 := by decide
      refine lv_goto (tgt := 23) hx hb d_CD_isStore_19 (by decide) ?_
      have hP9 := hP.sub (ws' := []) [] rfl
      have hD9 := hD.sub (ws' := []) [] (by decide) rfl
      exact W.zret (v := 1) hx hb hr (zn01 (by first | exact Or.inl rfl | exact Or.inr rfl | exact hr1)) (fun t ht hW => ⟨⟨1, (), rfl, ⟨by first | exact Or.inl rfl | exact Or.inr rfl, by (try dsimp only); omega⟩, by rw [ht]; exact hP9, va_K.moved hW.alike hK, hD9⟩, hS.F ht⟩) hS.2.2 d_CD_isStore_23
    · have q9 := neI c9
      refine lv_iload_n hx hb d_CD_isStore_12 rfl (lv_at hl 0 rfl) ?_
      refine lv_bipush (v := 55) hx hb d_CD_isStore_13 (by decide) ?_
      have k55 : (55 : Int32).toInt = 55 := by decide
      refine lv_icmp_ne (tgt := 22) hx hb d_CD_isStore_15 (by decide) (fun c15 => ?_) (fun c15 => ?_)
      · have q15 := neI c15
        refine lv_iconst (v := 0) hx hb d_CD_isStore_22 (by decide) ?_
        have k0 : (0 : Int32).toInt = 0 := by decide
        have hP9 := hP.sub (ws' := []) [] rfl
        have hD9 := hD.sub (ws' := []) [] (by decide) rfl
        exact W.zret (v := 0) hx hb hr (zn01 (by first | exact Or.inl rfl | exact Or.inr rfl | exact hr0)) (fun t ht hW => ⟨⟨0, (), rfl, ⟨by first | exact Or.inl rfl | exact Or.inr rfl, by (try dsimp only); omega⟩, by rw [ht]; exact hP9, va_K.moved hW.alike hK, hD9⟩, hS.F ht⟩) hS.2.2 d_CD_isStore_23
      · have q15 := eqI c15
        refine lv_iconst (v := 1) hx hb d_CD_isStore_18 (by decide) ?_
        have k1 : (1 : Int32).toInt = 1 := by decide
        refine lv_goto (tgt := 23) hx hb d_CD_isStore_19 (by decide) ?_
        have hP9 := hP.sub (ws' := []) [] rfl
        have hD9 := hD.sub (ws' := []) [] (by decide) rfl
        exact W.zret (v := 1) hx hb hr (zn01 (by first | exact Or.inl rfl | exact Or.inr rfl | exact hr1)) (fun t ht hW => ⟨⟨1, (), rfl, ⟨by first | exact Or.inl rfl | exact Or.inr rfl, by (try dsimp only); omega⟩, by rw [ht]; exact hP9, va_K.moved hW.alike hK, hD9⟩, hS.F ht⟩) hS.2.2 d_CD_isStore_23
abbrev b_CD_isNumeric : ByteArray := prog_5_method_6_code
def y_CD_isNumeric : MethodName := ⟨R_CD, "isNumeric", "(I)Z"⟩
abbrev w_CD_isNumeric : List Cond := .code y_CD_isNumeric b_CD_isNumeric 1 (Option.some .boolean) :: lw_g
theorem kC_CD_isNumeric : Cond.code y_CD_isNumeric b_CD_isNumeric 1 (Option.some .boolean) ∈ lw_g := in_g 1365 (by decide +kernel) rfl
theorem d_CD_isNumeric_0 : decode b_CD_isNumeric 0 = .ok (.iload_n 0, 1) := by decide +kernel
theorem d_CD_isNumeric_1 : decode b_CD_isNumeric 1 = .ok (.bipush 69, 2) := by decide +kernel
theorem d_CD_isNumeric_3 : decode b_CD_isNumeric 3 = .ok (.if_icmp .lt 9, 3) := by decide +kernel
theorem d_CD_isNumeric_6 : decode b_CD_isNumeric 6 = .ok (.iload_n 0, 1) := by decide +kernel
theorem d_CD_isNumeric_7 : decode b_CD_isNumeric 7 = .ok (.bipush 90, 2) := by decide +kernel
theorem d_CD_isNumeric_9 : decode b_CD_isNumeric 9 = .ok (.if_icmp .le 37, 3) := by decide +kernel
theorem d_CD_isNumeric_12 : decode b_CD_isNumeric 12 = .ok (.iload_n 0, 1) := by decide +kernel
theorem d_CD_isNumeric_13 : decode b_CD_isNumeric 13 = .ok (.bipush 103, 2) := by decide +kernel
theorem d_CD_isNumeric_15 : decode b_CD_isNumeric 15 = .ok (.if_icmp .lt 10, 3) := by decide +kernel
theorem d_CD_isNumeric_18 : decode b_CD_isNumeric 18 = .ok (.iload_n 0, 1) := by decide +kernel
theorem d_CD_isNumeric_19 : decode b_CD_isNumeric 19 = .ok (.sipush 138, 3) := by decide +kernel
theorem d_CD_isNumeric_22 : decode b_CD_isNumeric 22 = .ok (.if_icmp .le 24, 3) := by decide +kernel
theorem d_CD_isNumeric_25 : decode b_CD_isNumeric 25 = .ok (.iload_n 0, 1) := by decide +kernel
theorem d_CD_isNumeric_26 : decode b_CD_isNumeric 26 = .ok (.sipush 167, 3) := by decide +kernel
theorem d_CD_isNumeric_29 : decode b_CD_isNumeric 29 = .ok (.if_icmp .eq 17, 3) := by decide +kernel
theorem d_CD_isNumeric_32 : decode b_CD_isNumeric 32 = .ok (.iload_n 0, 1) := by decide +kernel
theorem d_CD_isNumeric_33 : decode b_CD_isNumeric 33 = .ok (.sipush 172, 3) := by decide +kernel
theorem d_CD_isNumeric_36 : decode b_CD_isNumeric 36 = .ok (.if_icmp .eq 10, 3) := by decide +kernel
theorem d_CD_isNumeric_39 : decode b_CD_isNumeric 39 = .ok (.iload_n 0, 1) := by decide +kernel
theorem d_CD_isNumeric_40 : decode b_CD_isNumeric 40 = .ok (.sipush 173, 3) := by decide +kernel
theorem d_CD_isNumeric_43 : decode b_CD_isNumeric 43 = .ok (.if_icmp .ne 7, 3) := by decide +kernel
theorem d_CD_isNumeric_46 : decode b_CD_isNumeric 46 = .ok (.iconst 1, 1) := by decide +kernel
theorem d_CD_isNumeric_47 : decode b_CD_isNumeric 47 = .ok (.goto 4, 3) := by decide +kernel
theorem d_CD_isNumeric_50 : decode b_CD_isNumeric 50 = .ok (.iconst 0, 1) := by decide +kernel
theorem d_CD_isNumeric_51 : decode b_CD_isNumeric 51 = .ok (.ireturn, 1) := by decide +kernel
set_option maxHeartbeats 4000000 in
set_option maxRecDepth 100000 in
theorem c_CD_isNumeric (l : Launch) (dC : Nat → ClassId) (dI : Nat → Nat → Nat) (sz : Nat) (p0 : Int32) : Met l y_CD_isNumeric w_CD_isNumeric ({ frames := 0, cells := 0, slots := 0, locals := 0 }) (va_Pc [.int p0] (fun U => U.heap.size = sz ∧ va_P (dC, dI) cls [] U.heap ∧ va_K (dC, dI) cls [] U ∧ va_D (fun _ => True) [])) (va_Qi (fun (r : Int32) (_ : Unit) => (r = 0 ∨ r = 1) ∧ (r.toInt ≠ 0 ↔ (69 ≤ p0.toInt ∧ p0.toInt ≤ 90) ∨ (103 ≤ p0.toInt ∧ p0.toInt ≤ 138) ∨ p0.toInt = 167 ∨ p0.toInt = 172 ∨ p0.toInt = 173)) (no_at dC dI (va_A [] sz)) (va_A [] sz)) 0 0 (va_A [] sz) := by
  refine Met.ofW (cc := b_CD_isNumeric) (maxL := 1) (ret := (Option.some .boolean)) (by decide) rfl ?_
  intro p e s m args below meth c s₁ B hml hv
  obtain ⟨rfl, hsz, hP, hK, hD0⟩ := hv
  have hx := B.exec
  have hb := B.bytes
  have hr := B.returns
  have hts0 := atoms_spec (ws := w_CD_isNumeric) B.pre
  have hts : ∀ w ∈ lw_g, w.before _ s = true := fun w h => hts0 w (List.mem_cons_of_mem _ h)
  have hown : s.vm.findClass R_CD = some m.cls := findClass_of_methodNamed B.named
  have hlocks := B.notSynchronized
  clear hts0
  subst hsz
  have hD := hD0.self (sz := s.heap.size)
  generalize hAe : va_A [] s.heap.size = A at hD ⊢
  have hA : ∀ q : Nat, s.heap.size ≤ q → A q := fun q h => by rw [← hAe]; exact Or.inr h
  clear hAe
  have hP : va_P (dC, dI) cls [] s.heap := hP
  have hl := lv_entry ([.int p0]) (n := 1) (Nat.le_of_ble_eq_true rfl)
  rw [lg_entry_eq]
  generalize (lg_sl ([.int p0]) ++ List.replicate (1 - (lg_sl ([.int p0])).length) Slot.unset).toArray = ls at hl ⊢
  have hl : lv_has ls 1 [(0, .int p0)] := hl
  have k0 : (0 : Int32).toInt = 0 := by decide
  refine w_gen (A := A) hP (fun H locs hP hS => ?_)
  have lo_p0 := i32_lo p0
  have hi_p0 := i32_hi p0
  refine lv_iload_n hx hb d_CD_isNumeric_0 rfl (lv_at hl 0 rfl) ?_
  refine lv_bipush (v := 69) hx hb d_CD_isNumeric_1 (by decide) ?_
  have k69 : (69 : Int32).toInt = 69 := by decide
  refine lv_icmp_lt (tgt := 12) hx hb d_CD_isNumeric_3 (by decide) (fun c3 => ?_) (fun c3 => ?_)
  · have q3 := ltI c3
    refine lv_iload_n hx hb d_CD_isNumeric_12 rfl (lv_at hl 0 rfl) ?_
    refine lv_bipush (v := 103) hx hb d_CD_isNumeric_13 (by decide) ?_
    have k103 : (103 : Int32).toInt = 103 := by decide
    refine lv_icmp_lt (tgt := 25) hx hb d_CD_isNumeric_15 (by decide) (fun c15 => ?_) (fun c15 => ?_)
    · have q15 := ltI c15
      refine lv_iload_n hx hb d_CD_isNumeric_25 rfl (lv_at hl 0 rfl) ?_
      refine lv_sipush (v := 167) hx hb d_CD_isNumeric_26 (by decide) ?_
      have k167 : (167 : Int32).toInt = 167 := by decide
      refine lv_icmp_eq (tgt := 46) hx hb d_CD_isNumeric_29 (by decide) (fun c29 => ?_) (fun c29 => ?_)
      · have q29 := eqI c29
        refine lv_iconst (v := 1) hx hb d_CD_isNumeric_46 (by decide) ?_
        have k1 : (1 : Int32).toInt = 1 := by decide
        refine lv_goto (tgt := 51) hx hb d_CD_isNumeric_47 (by decide) ?_
        have hP9 := hP.sub (ws' := []) [] rfl
        have hD9 := hD.sub (ws' := []) [] (by decide) rfl
        exact W.zret (v := 1) hx hb hr (zn01 (by first | exact Or.inl rfl | exact Or.inr rfl | exact hr1)) (fun t ht hW => ⟨⟨1, (), rfl, ⟨by first | exact Or.inl rfl | exact Or.inr rfl, by (try dsimp only); omega⟩, by rw [ht]; exact hP9, va_K.moved hW.alike hK, hD9⟩, hS.F ht⟩) hS.2.2 d_CD_isNumeric_51
      · have q29 := neI c29
        refine lv_iload_n hx hb d_CD_isNumeric_32 rfl (lv_at hl 0 rfl) ?_
        refine lv_sipush (v := 172) hx hb d_CD_isNumeric_33 (by decide) ?_
        have k172 : (172 : Int32).toInt = 172 := by decide
        refine lv_icmp_eq (tgt := 46) hx hb d_CD_isNumeric_36 (by decide) (fun c36 => ?_) (fun c36 => ?_)
        · have q36 := eqI c36
          refine lv_iconst (v := 1) hx hb d_CD_isNumeric_46 (by decide) ?_
          have k1 : (1 : Int32).toInt = 1 := by decide
          refine lv_goto (tgt := 51) hx hb d_CD_isNumeric_47 (by decide) ?_
          have hP9 := hP.sub (ws' := []) [] rfl
          have hD9 := hD.sub (ws' := []) [] (by decide) rfl
          exact W.zret (v := 1) hx hb hr (zn01 (by first | exact Or.inl rfl | exact Or.inr rfl | exact hr1)) (fun t ht hW => ⟨⟨1, (), rfl, ⟨by first | exact Or.inl rfl | exact Or.inr rfl, by (try dsimp only); omega⟩, by rw [ht]; exact hP9, va_K.moved hW.alike hK, hD9⟩, hS.F ht⟩) hS.2.2 d_CD_isNumeric_51
        · have q36 := neI c36
          refine lv_iload_n hx hb d_CD_isNumeric_39 rfl (lv_at hl 0 rfl) ?_
          refine lv_sipush (v := 173) hx hb d_CD_isNumeric_40 (by decide) ?_
          have k173 : (173 : Int32).toInt = 173 := by decide
          refine lv_icmp_ne (tgt := 50) hx hb d_CD_isNumeric_43 (by decide) (fun c43 => ?_) (fun c43 => ?_)
          · have q43 := neI c43
            refine lv_iconst (v := 0) hx hb d_CD_isNumeric_50 (by decide) ?_
            have k0 : (0 : Int32).toInt = 0 := by decide
            have hP9 := hP.sub (ws' := []) [] rfl
            have hD9 := hD.sub (ws' := []) [] (by decide) rfl
            exact W.zret (v := 0) hx hb hr (zn01 (by first | exact Or.inl rfl | exact Or.inr rfl | exact hr0)) (fun t ht hW => ⟨⟨0, (), rfl, ⟨by first | exact Or.inl rfl | exact Or.inr rfl, by (try dsimp only); omega⟩, by rw [ht]; exact hP9, va_K.moved hW.alike hK, hD9⟩, hS.F ht⟩) hS.2.2 d_CD_isNumeric_51
          · have q43 := eqI c43
            refine lv_iconst (v := 1) hx hb d_CD_isNumeric_46 (by decide) ?_
            have k1 : (1 : Int32).toInt = 1 := by decide
            refine lv_goto (tgt := 51) hx hb d_CD_isNumeric_47 (by decide) ?_
            have hP9 := hP.sub (ws' := []) [] rfl
            have hD9 := hD.sub (ws' := []) [] (by decide) rfl
            exact W.zret (v := 1) hx hb hr (zn01 (by first | exact Or.inl rfl | exact Or.inr rfl | exact hr1)) (fun t ht hW => ⟨⟨1, (), rfl, ⟨by first | exact Or.inl rfl | exact Or.inr rfl, by (try dsimp only); omega⟩, by rw [ht]; exact hP9, va_K.moved hW.alike hK, hD9⟩, hS.F ht⟩) hS.2.2 d_CD_isNumeric_51
    · have q15 := nltI c15
      refine lv_iload_n hx hb d_CD_isNumeric_18 rfl (lv_at hl 0 rfl) ?_
      refine lv_sipush (v := 138) hx hb d_CD_isNumeric_19 (by decide) ?_
      have k138 : (138 : Int32).toInt = 138 := by decide
      refine lv_icmp_le (tgt := 46) hx hb d_CD_isNumeric_22 (by decide) (fun c22 => ?_) (fun c22 => ?_)
      · have q22 := leI c22
        refine lv_iconst (v := 1) hx hb d_CD_isNumeric_46 (by decide) ?_
        have k1 : (1 : Int32).toInt = 1 := by decide
        refine lv_goto (tgt := 51) hx hb d_CD_isNumeric_47 (by decide) ?_
        have hP9 := hP.sub (ws' := []) [] rfl
        have hD9 := hD.sub (ws' := []) [] (by decide) rfl
        exact W.zret (v := 1) hx hb hr (zn01 (by first | exact Or.inl rfl | exact Or.inr rfl | exact hr1)) (fun t ht hW => ⟨⟨1, (), rfl, ⟨by first | exact Or.inl rfl | exact Or.inr rfl, by (try dsimp only); omega⟩, by rw [ht]; exact hP9, va_K.moved hW.alike hK, hD9⟩, hS.F ht⟩) hS.2.2 d_CD_isNumeric_51
      · have q22 := nleI c22
        refine lv_iload_n hx hb d_CD_isNumeric_25 rfl (lv_at hl 0 rfl) ?_
        refine lv_sipush (v := 167) hx hb d_CD_isNumeric_26 (by decide) ?_
        have k167 : (167 : Int32).toInt = 167 := by decide
        refine lv_icmp_eq (tgt := 46) hx hb d_CD_isNumeric_29 (by decide) (fun c29 => ?_) (fun c29 => ?_)
        · have q29 := eqI c29
          refine lv_iconst (v := 1) hx hb d_CD_isNumeric_46 (by decide) ?_
          have k1 : (1 : Int32).toInt = 1 := by decide
          refine lv_goto (tgt := 51) hx hb d_CD_isNumeric_47 (by decide) ?_
          have hP9 := hP.sub (ws' := []) [] rfl
          have hD9 := hD.sub (ws' := []) [] (by decide) rfl
          exact W.zret (v := 1) hx hb hr (zn01 (by first | exact Or.inl rfl | exact Or.inr rfl | exact hr1)) (fun t ht hW => ⟨⟨1, (), rfl, ⟨by first | exact Or.inl rfl | exact Or.inr rfl, by (try dsimp only); omega⟩, by rw [ht]; exact hP9, va_K.moved hW.alike hK, hD9⟩, hS.F ht⟩) hS.2.2 d_CD_isNumeric_51
        · have q29 := neI c29
          refine lv_iload_n hx hb d_CD_isNumeric_32 rfl (lv_at hl 0 rfl) ?_
          refine lv_sipush (v := 172) hx hb d_CD_isNumeric_33 (by decide) ?_
          have k172 : (172 : Int32).toInt = 172 := by decide
          refine lv_icmp_eq (tgt := 46) hx hb d_CD_isNumeric_36 (by decide) (fun c36 => ?_) (fun c36 => ?_)
          · have q36 := eqI c36
            refine lv_iconst (v := 1) hx hb d_CD_isNumeric_46 (by decide) ?_
            have k1 : (1 : Int32).toInt = 1 := by decide
            refine lv_goto (tgt := 51) hx hb d_CD_isNumeric_47 (by decide) ?_
            have hP9 := hP.sub (ws' := []) [] rfl
            have hD9 := hD.sub (ws' := []) [] (by decide) rfl
            exact W.zret (v := 1) hx hb hr (zn01 (by first | exact Or.inl rfl | exact Or.inr rfl | exact hr1)) (fun t ht hW => ⟨⟨1, (), rfl, ⟨by first | exact Or.inl rfl | exact Or.inr rfl, by (try dsimp only); omega⟩, by rw [ht]; exact hP9, va_K.moved hW.alike hK, hD9⟩, hS.F ht⟩) hS.2.2 d_CD_isNumeric_51
          · have q36 := neI c36
            refine lv_iload_n hx hb d_CD_isNumeric_39 rfl (lv_at hl 0 rfl) ?_
            refine lv_sipush (v := 173) hx hb d_CD_isNumeric_40 (by decide) ?_
            have k173 : (173 : Int32).toInt = 173 := by decide
            refine lv_icmp_ne (tgt := 50) hx hb d_CD_isNumeric_43 (by decide) (fun c43 => ?_) (fun c43 => ?_)
            · have q43 := neI c43
              refine lv_iconst (v := 0) hx hb d_CD_isNumeric_50 (by decide) ?_
              have k0 : (0 : Int32).toInt = 0 := by decide
              have hP9 := hP.sub (ws' := []) [] rfl
              have hD9 := hD.sub (ws' := []) [] (by decide) rfl
              exact W.zret (v := 0) hx hb hr (zn01 (by first | exact Or.inl rfl | exact Or.inr rfl | exact hr0)) (fun t ht hW => ⟨⟨0, (), rfl, ⟨by first | exact Or.inl rfl | exact Or.inr rfl, by (try dsimp only); omega⟩, by rw [ht]; exact hP9, va_K.moved hW.alike hK, hD9⟩, hS.F ht⟩) hS.2.2 d_CD_isNumeric_51
            · have q43 := eqI c43
              refine lv_iconst (v := 1) hx hb d_CD_isNumeric_46 (by decide) ?_
              have k1 : (1 : Int32).toInt = 1 := by decide
              refine lv_goto (tgt := 51) hx hb d_CD_isNumeric_47 (by decide) ?_
              have hP9 := hP.sub (ws' := []) [] rfl
              have hD9 := hD.sub (ws' := []) [] (by decide) rfl
              exact W.zret (v := 1) hx hb hr (zn01 (by first | exact Or.inl rfl | exact Or.inr rfl | exact hr1)) (fun t ht hW => ⟨⟨1, (), rfl, ⟨by first | exact Or.inl rfl | exact Or.inr rfl, by (try dsimp only); omega⟩, by rw [ht]; exact hP9, va_K.moved hW.alike hK, hD9⟩, hS.F ht⟩) hS.2.2 d_CD_isNumeric_51
  · have q3 := nltI c3
    refine lv_iload_n hx hb d_CD_isNumeric_6 rfl (lv_at hl 0 rfl) ?_
    refine lv_bipush (v := 90) hx hb d_CD_isNumeric_7 (by decide) ?_
    have k90 : (90 : Int32).toInt = 90 := by decide
    refine lv_icmp_le (tgt := 46) hx hb d_CD_isNumeric_9 (by decide) (fun c9 => ?_) (fun c9 => ?_)
    · have q9 := leI c9
      refine lv_iconst (v := 1) hx hb d_CD_isNumeric_46 (by decide) ?_
      have k1 : (1 : Int32).toInt = 1 := by decide
      refine lv_goto (tgt := 51) hx hb d_CD_isNumeric_47 (by decide) ?_
      have hP9 := hP.sub (ws' := []) [] rfl
      have hD9 := hD.sub (ws' := []) [] (by decide) rfl
      exact W.zret (v := 1) hx hb hr (zn01 (by first | exact Or.inl rfl | exact Or.inr rfl | exact hr1)) (fun t ht hW => ⟨⟨1, (), rfl, ⟨by first | exact Or.inl rfl | exact Or.inr rfl, by (try dsimp only); omega⟩, by rw [ht]; exact hP9, va_K.moved hW.alike hK, hD9⟩, hS.F ht⟩) hS.2.2 d_CD_isNumeric_51
    · have q9 := nleI c9
      refine lv_iload_n hx hb d_CD_isNumeric_12 rfl (lv_at hl 0 rfl) ?_
      refine lv_bipush (v := 103) hx hb d_CD_isNumeric_13 (by decide) ?_
      have k103 : (103 : Int32).toInt = 103 := by decide
      refine lv_icmp_lt (tgt := 25) hx hb d_CD_isNumeric_15 (by decide) (fun c15 => ?_) (fun c15 => ?_)
      · have q15 := ltI c15
        refine lv_iload_n hx hb d_CD_isNumeric_25 rfl (lv_at hl 0 rfl) ?_
        refine lv_sipush (v := 167) hx hb d_CD_isNumeric_26 (by decide) ?_
        have k167 : (167 : Int32).toInt = 167 := by decide
        refine lv_icmp_eq (tgt := 46) hx hb d_CD_isNumeric_29 (by decide) (fun c29 => ?_) (fun c29 => ?_)
        · have q29 := eqI c29
          refine lv_iconst (v := 1) hx hb d_CD_isNumeric_46 (by decide) ?_
          have k1 : (1 : Int32).toInt = 1 := by decide
          refine lv_goto (tgt := 51) hx hb d_CD_isNumeric_47 (by decide) ?_
          have hP9 := hP.sub (ws' := []) [] rfl
          have hD9 := hD.sub (ws' := []) [] (by decide) rfl
          exact W.zret (v := 1) hx hb hr (zn01 (by first | exact Or.inl rfl | exact Or.inr rfl | exact hr1)) (fun t ht hW => ⟨⟨1, (), rfl, ⟨by first | exact Or.inl rfl | exact Or.inr rfl, by (try dsimp only); omega⟩, by rw [ht]; exact hP9, va_K.moved hW.alike hK, hD9⟩, hS.F ht⟩) hS.2.2 d_CD_isNumeric_51
        · have q29 := neI c29
          refine lv_iload_n hx hb d_CD_isNumeric_32 rfl (lv_at hl 0 rfl) ?_
          refine lv_sipush (v := 172) hx hb d_CD_isNumeric_33 (by decide) ?_
          have k172 : (172 : Int32).toInt = 172 := by decide
          refine lv_icmp_eq (tgt := 46) hx hb d_CD_isNumeric_36 (by decide) (fun c36 => ?_) (fun c36 => ?_)
          · have q36 := eqI c36
            refine lv_iconst (v := 1) hx hb d_CD_isNumeric_46 (by decide) ?_
            have k1 : (1 : Int32).toInt = 1 := by decide
            refine lv_goto (tgt := 51) hx hb d_CD_isNumeric_47 (by decide) ?_
            have hP9 := hP.sub (ws' := []) [] rfl
            have hD9 := hD.sub (ws' := []) [] (by decide) rfl
            exact W.zret (v := 1) hx hb hr (zn01 (by first | exact Or.inl rfl | exact Or.inr rfl | exact hr1)) (fun t ht hW => ⟨⟨1, (), rfl, ⟨by first | exact Or.inl rfl | exact Or.inr rfl, by (try dsimp only); omega⟩, by rw [ht]; exact hP9, va_K.moved hW.alike hK, hD9⟩, hS.F ht⟩) hS.2.2 d_CD_isNumeric_51
          · have q36 := neI c36
            refine lv_iload_n hx hb d_CD_isNumeric_39 rfl (lv_at hl 0 rfl) ?_
            refine lv_sipush (v := 173) hx hb d_CD_isNumeric_40 (by decide) ?_
            have k173 : (173 : Int32).toInt = 173 := by decide
            refine lv_icmp_ne (tgt := 50) hx hb d_CD_isNumeric_43 (by decide) (fun c43 => ?_) (fun c43 => ?_)
            · have q43 := neI c43
              refine lv_iconst (v := 0) hx hb d_CD_isNumeric_50 (by decide) ?_
              have k0 : (0 : Int32).toInt = 0 := by decide
              have hP9 := hP.sub (ws' := []) [] rfl
              have hD9 := hD.sub (ws' := []) [] (by decide) rfl
              exact W.zret (v := 0) hx hb hr (zn01 (by first | exact Or.inl rfl | exact Or.inr rfl | exact hr0)) (fun t ht hW => ⟨⟨0, (), rfl, ⟨by first | exact Or.inl rfl | exact Or.inr rfl, by (try dsimp only); omega⟩, by rw [ht]; exact hP9, va_K.moved hW.alike hK, hD9⟩, hS.F ht⟩) hS.2.2 d_CD_isNumeric_51
            · have q43 := eqI c43
              refine lv_iconst (v := 1) hx hb d_CD_isNumeric_46 (by decide) ?_
              have k1 : (1 : Int32).toInt = 1 := by decide
              refine lv_goto (tgt := 51) hx hb d_CD_isNumeric_47 (by decide) ?_
              have hP9 := hP.sub (ws' := []) [] rfl
              have hD9 := hD.sub (ws' := []) [] (by decide) rfl
              exact W.zret (v := 1) hx hb hr (zn01 (by first | exact Or.inl rfl | exact Or.inr rfl | exact hr1)) (fun t ht hW => ⟨⟨1, (), rfl, ⟨by first | exact Or.inl rfl | exact Or.inr rfl, by (try dsimp only); omega⟩, by rw [ht]; exact hP9, va_K.moved hW.alike hK, hD9⟩, hS.F ht⟩) hS.2.2 d_CD_isNumeric_51
      · have q15 := nltI c15
        refine lv_iload_n hx hb d_CD_isNumeric_18 rfl (lv_at hl 0 rfl) ?_
        refine lv_sipush (v := 138) hx hb d_CD_isNumeric_19 (by decide) ?_
        have k138 : (138 : Int32).toInt = 138 := by decide
        refine lv_icmp_le (tgt := 46) hx hb d_CD_isNumeric_22 (by decide) (fun c22 => ?_) (fun c22 => ?_)
        · have q22 := leI c22
          refine lv_iconst (v := 1) hx hb d_CD_isNumeric_46 (by decide) ?_
          have k1 : (1 : Int32).toInt = 1 := by decide
          refine lv_goto (tgt := 51) hx hb d_CD_isNumeric_47 (by decide) ?_
          have hP9 := hP.sub (ws' := []) [] rfl
          have hD9 := hD.sub (ws' := []) [] (by decide) rfl
          exact W.zret (v := 1) hx hb hr (zn01 (by first | exact Or.inl rfl | exact Or.inr rfl | exact hr1)) (fun t ht hW => ⟨⟨1, (), rfl, ⟨by first | exact Or.inl rfl | exact Or.inr rfl, by (try dsimp only); omega⟩, by rw [ht]; exact hP9, va_K.moved hW.alike hK, hD9⟩, hS.F ht⟩) hS.2.2 d_CD_isNumeric_51
        · have q22 := nleI c22
          refine lv_iload_n hx hb d_CD_isNumeric_25 rfl (lv_at hl 0 rfl) ?_
          refine lv_sipush (v := 167) hx hb d_CD_isNumeric_26 (by decide) ?_
          have k167 : (167 : Int32).toInt = 167 := by decide
          refine lv_icmp_eq (tgt := 46) hx hb d_CD_isNumeric_29 (by decide) (fun c29 => ?_) (fun c29 => ?_)
          · have q29 := eqI c29
            refine lv_iconst (v := 1) hx hb d_CD_isNumeric_46 (by decide) ?_
            have k1 : (1 : Int32).toInt = 1 := by decide
            refine lv_goto (tgt := 51) hx hb d_CD_isNumeric_47 (by decide) ?_
            have hP9 := hP.sub (ws' := []) [] rfl
            have hD9 := hD.sub (ws' := []) [] (by decide) rfl
            exact W.zret (v := 1) hx hb hr (zn01 (by first | exact Or.inl rfl | exact Or.inr rfl | exact hr1)) (fun t ht hW => ⟨⟨1, (), rfl, ⟨by first | exact Or.inl rfl | exact Or.inr rfl, by (try dsimp only); omega⟩, by rw [ht]; exact hP9, va_K.moved hW.alike hK, hD9⟩, hS.F ht⟩) hS.2.2 d_CD_isNumeric_51
          · have q29 := neI c29
            refine lv_iload_n hx hb d_CD_isNumeric_32 rfl (lv_at hl 0 rfl) ?_
            refine lv_sipush (v := 172) hx hb d_CD_isNumeric_33 (by decide) ?_
            have k172 : (172 : Int32).toInt = 172 := by decide
            refine lv_icmp_eq (tgt := 46) hx hb d_CD_isNumeric_36 (by decide) (fun c36 => ?_) (fun c36 => ?_)
            · have q36 := eqI c36
              refine lv_iconst (v := 1) hx hb d_CD_isNumeric_46 (by decide) ?_
              have k1 : (1 : Int32).toInt = 1 := by decide
              refine lv_goto (tgt := 51) hx hb d_CD_isNumeric_47 (by decide) ?_
              have hP9 := hP.sub (ws' := []) [] rfl
              have hD9 := hD.sub (ws' := []) [] (by decide) rfl
              exact W.zret (v := 1) hx hb hr (zn01 (by first | exact Or.inl rfl | exact Or.inr rfl | exact hr1)) (fun t ht hW => ⟨⟨1, (), rfl, ⟨by first | exact Or.inl rfl | exact Or.inr rfl, by (try dsimp only); omega⟩, by rw [ht]; exact hP9, va_K.moved hW.alike hK, hD9⟩, hS.F ht⟩) hS.2.2 d_CD_isNumeric_51
            · have q36 := neI c36
              refine lv_iload_n hx hb d_CD_isNumeric_39 rfl (lv_at hl 0 rfl) ?_
              refine lv_sipush (v := 173) hx hb d_CD_isNumeric_40 (by decide) ?_
              have k173 : (173 : Int32).toInt = 173 := by decide
              refine lv_icmp_ne (tgt := 50) hx hb d_CD_isNumeric_43 (by decide) (fun c43 => ?_) (fun c43 => ?_)
              · have q43 := neI c43
                refine lv_iconst (v := 0) hx hb d_CD_isNumeric_50 (by decide) ?_
                have k0 : (0 : Int32).toInt = 0 := by decide
                have hP9 := hP.sub (ws' := []) [] rfl
                have hD9 := hD.sub (ws' := []) [] (by decide) rfl
                exact W.zret (v := 0) hx hb hr (zn01 (by first | exact Or.inl rfl | exact Or.inr rfl | exact hr0)) (fun t ht hW => ⟨⟨0, (), rfl, ⟨by first | exact Or.inl rfl | exact Or.inr rfl, by (try dsimp only); omega⟩, by rw [ht]; exact hP9, va_K.moved hW.alike hK, hD9⟩, hS.F ht⟩) hS.2.2 d_CD_isNumeric_51
              · have q43 := eqI c43
                refine lv_iconst (v := 1) hx hb d_CD_isNumeric_46 (by decide) ?_
                have k1 : (1 : Int32).toInt = 1 := by decide
                refine lv_goto (tgt := 51) hx hb d_CD_isNumeric_47 (by decide) ?_
                have hP9 := hP.sub (ws' := []) [] rfl
                have hD9 := hD.sub (ws' := []) [] (by decide) rfl
                exact W.zret (v := 1) hx hb hr (zn01 (by first | exact Or.inl rfl | exact Or.inr rfl | exact hr1)) (fun t ht hW => ⟨⟨1, (), rfl, ⟨by first | exact Or.inl rfl | exact Or.inr rfl, by (try dsimp only); omega⟩, by rw [ht]; exact hP9, va_K.moved hW.alike hK, hD9⟩, hS.F ht⟩) hS.2.2 d_CD_isNumeric_51
abbrev b_CD_takesOne : ByteArray := prog_5_method_7_code
def y_CD_takesOne : MethodName := ⟨R_CD, "takesOne", "(I)Z"⟩
abbrev w_CD_takesOne : List Cond := .code y_CD_takesOne b_CD_takesOne 1 (Option.some .boolean) :: lw_g
theorem kC_CD_takesOne : Cond.code y_CD_takesOne b_CD_takesOne 1 (Option.some .boolean) ∈ lw_g := in_g 1491 (by decide +kernel) rfl
theorem d_CD_takesOne_0 : decode b_CD_takesOne 0 = .ok (.iload_n 0, 1) := by decide +kernel
theorem d_CD_takesOne_1 : decode b_CD_takesOne 1 = .ok (.bipush 69, 2) := by decide +kernel
theorem d_CD_takesOne_3 : decode b_CD_takesOne 3 = .ok (.if_icmp .eq 40, 3) := by decide +kernel
theorem d_CD_takesOne_6 : decode b_CD_takesOne 6 = .ok (.iload_n 0, 1) := by decide +kernel
theorem d_CD_takesOne_7 : decode b_CD_takesOne 7 = .ok (.bipush 80, 2) := by decide +kernel
theorem d_CD_takesOne_9 : decode b_CD_takesOne 9 = .ok (.if_icmp .eq 34, 3) := by decide +kernel
theorem d_CD_takesOne_12 : decode b_CD_takesOne 12 = .ok (.iload_n 0, 1) := by decide +kernel
theorem d_CD_takesOne_13 : decode b_CD_takesOne 13 = .ok (.bipush 103, 2) := by decide +kernel
theorem d_CD_takesOne_15 : decode b_CD_takesOne 15 = .ok (.if_icmp .lt 9, 3) := by decide +kernel
theorem d_CD_takesOne_18 : decode b_CD_takesOne 18 = .ok (.iload_n 0, 1) := by decide +kernel
theorem d_CD_takesOne_19 : decode b_CD_takesOne 19 = .ok (.bipush 106, 2) := by decide +kernel
theorem d_CD_takesOne_21 : decode b_CD_takesOne 21 = .ok (.if_icmp .lt 22, 3) := by decide +kernel
theorem d_CD_takesOne_24 : decode b_CD_takesOne 24 = .ok (.iload_n 0, 1) := by decide +kernel
theorem d_CD_takesOne_25 : decode b_CD_takesOne 25 = .ok (.bipush 121, 2) := by decide +kernel
theorem d_CD_takesOne_27 : decode b_CD_takesOne 27 = .ok (.if_icmp .lt 9, 3) := by decide +kernel
theorem d_CD_takesOne_30 : decode b_CD_takesOne 30 = .ok (.iload_n 0, 1) := by decide +kernel
theorem d_CD_takesOne_31 : decode b_CD_takesOne 31 = .ok (.bipush 124, 2) := by decide +kernel
theorem d_CD_takesOne_33 : decode b_CD_takesOne 33 = .ok (.if_icmp .lt 10, 3) := by decide +kernel
theorem d_CD_takesOne_36 : decode b_CD_takesOne 36 = .ok (.iload_n 0, 1) := by decide +kernel
theorem d_CD_takesOne_37 : decode b_CD_takesOne 37 = .ok (.sipush 138, 3) := by decide +kernel
theorem d_CD_takesOne_40 : decode b_CD_takesOne 40 = .ok (.if_icmp .le 7, 3) := by decide +kernel
theorem d_CD_takesOne_43 : decode b_CD_takesOne 43 = .ok (.iconst 1, 1) := by decide +kernel
theorem d_CD_takesOne_44 : decode b_CD_takesOne 44 = .ok (.goto 4, 3) := by decide +kernel
theorem d_CD_takesOne_47 : decode b_CD_takesOne 47 = .ok (.iconst 0, 1) := by decide +kernel
theorem d_CD_takesOne_48 : decode b_CD_takesOne 48 = .ok (.ireturn, 1) := by decide +kernel
set_option maxHeartbeats 4000000 in
set_option maxRecDepth 100000 in
theorem c_CD_takesOne (l : Launch) (dC : Nat → ClassId) (dI : Nat → Nat → Nat) (sz : Nat) (p0 : Int32) : Met l y_CD_takesOne w_CD_takesOne ({ frames := 0, cells := 0, slots := 0, locals := 0 }) (va_Pc [.int p0] (fun U => U.heap.size = sz ∧ va_P (dC, dI) cls [] U.heap ∧ va_K (dC, dI) cls [] U ∧ va_D (fun _ => True) [])) (va_Qi (fun (r : Int32) (_ : Unit) => (r = 0 ∨ r = 1) ∧ (r.toInt ≠ 0 ↔ p0.toInt = 69 ∨ p0.toInt = 80 ∨ (103 ≤ p0.toInt ∧ p0.toInt < 106) ∨ (121 ≤ p0.toInt ∧ p0.toInt < 124) ∨ 138 < p0.toInt)) (no_at dC dI (va_A [] sz)) (va_A [] sz)) 0 0 (va_A [] sz) := by
  refine Met.ofW (cc := b_CD_takesOne) (maxL := 1) (ret := (Option.some .boolean)) (by decide) rfl ?_
  intro p e s m args below meth c s₁ B hml hv
  obtain ⟨rfl, hsz, hP, hK, hD0⟩ := hv
  have hx := B.exec
  have hb := B.bytes
  have hr := B.returns
  have hts0 := atoms_spec (ws := w_CD_takesOne) B.pre
  have hts : ∀ w ∈ lw_g, w.before _ s = true := fun w h => hts0 w (List.mem_cons_of_mem _ h)
  have hown : s.vm.findClass R_CD = some m.cls := findClass_of_methodNamed B.named
  have hlocks := B.notSynchronized
  clear hts0
  subst hsz
  have hD := hD0.self (sz := s.heap.size)
  generalize hAe : va_A [] s.heap.size = A at hD ⊢
  have hA : ∀ q : Nat, s.heap.size ≤ q → A q := fun q h => by rw [← hAe]; exact Or.inr h
  clear hAe
  have hP : va_P (dC, dI) cls [] s.heap := hP
  have hl := lv_entry ([.int p0]) (n := 1) (Nat.le_of_ble_eq_true rfl)
  rw [lg_entry_eq]
  generalize (lg_sl ([.int p0]) ++ List.replicate (1 - (lg_sl ([.int p0])).length) Slot.unset).toArray = ls at hl ⊢
  have hl : lv_has ls 1 [(0, .int p0)] := hl
  have k0 : (0 : Int32).toInt = 0 := by decide
  refine w_gen (A := A) hP (fun H locs hP hS => ?_)
  have lo_p0 := i32_lo p0
  have hi_p0 := i32_hi p0
  refine lv_iload_n hx hb d_CD_takesOne_0 rfl (lv_at hl 0 rfl) ?_
  refine lv_bipush (v := 69) hx hb d_CD_takesOne_1 (by decide) ?_
  have k69 : (69 : Int32).toInt = 69 := by decide
  refine lv_icmp_eq (tgt := 43) hx hb d_CD_takesOne_3 (by decide) (fun c3 => ?_) (fun c3 => ?_)
  · have q3 := eqI c3
    refine lv_iconst (v := 1) hx hb d_CD_takesOne_43 (by decide) ?_
    have k1 : (1 : Int32).toInt = 1 := by decide
    refine lv_goto (tgt := 48) hx hb d_CD_takesOne_44 (by decide) ?_
    have hP9 := hP.sub (ws' := []) [] rfl
    have hD9 := hD.sub (ws' := []) [] (by decide) rfl
    exact W.zret (v := 1) hx hb hr (zn01 (by first | exact Or.inl rfl | exact Or.inr rfl | exact hr1)) (fun t ht hW => ⟨⟨1, (), rfl, ⟨by first | exact Or.inl rfl | exact Or.inr rfl, by (try dsimp only); omega⟩, by rw [ht]; exact hP9, va_K.moved hW.alike hK, hD9⟩, hS.F ht⟩) hS.2.2 d_CD_takesOne_48
  · have q3 := neI c3
    refine lv_iload_n hx hb d_CD_takesOne_6 rfl (lv_at hl 0 rfl) ?_
    refine lv_bipush (v := 80) hx hb d_CD_takesOne_7 (by decide) ?_
    have k80 : (80 : Int32).toInt = 80 := by decide
    refine lv_icmp_eq (tgt := 43) hx hb d_CD_takesOne_9 (by decide) (fun c9 => ?_) (fun c9 => ?_)
    · have q9 := eqI c9
      refine lv_iconst (v := 1) hx hb d_CD_takesOne_43 (by decide) ?_
      have k1 : (1 : Int32).toInt = 1 := by decide
      refine lv_goto (tgt := 48) hx hb d_CD_takesOne_44 (by decide) ?_
      have hP9 := hP.sub (ws' := []) [] rfl
      have hD9 := hD.sub (ws' := []) [] (by decide) rfl
      exact W.zret (v := 1) hx hb hr (zn01 (by first | exact Or.inl rfl | exact Or.inr rfl | exact hr1)) (fun t ht hW => ⟨⟨1, (), rfl, ⟨by first | exact Or.inl rfl | exact Or.inr rfl, by (try dsimp only); omega⟩, by rw [ht]; exact hP9, va_K.moved hW.alike hK, hD9⟩, hS.F ht⟩) hS.2.2 d_CD_takesOne_48
    · have q9 := neI c9
      refine lv_iload_n hx hb d_CD_takesOne_12 rfl (lv_at hl 0 rfl) ?_
      refine lv_bipush (v := 103) hx hb d_CD_takesOne_13 (by decide) ?_
      have k103 : (103 : Int32).toInt = 103 := by decide
      refine lv_icmp_lt (tgt := 24) hx hb d_CD_takesOne_15 (by decide) (fun c15 => ?_) (fun c15 => ?_)
      · have q15 := ltI c15
        refine lv_iload_n hx hb d_CD_takesOne_24 rfl (lv_at hl 0 rfl) ?_
        refine lv_bipush (v := 121) hx hb d_CD_takesOne_25 (by decide) ?_
        have k121 : (121 : Int32).toInt = 121 := by decide
        refine lv_icmp_lt (tgt := 36) hx hb d_CD_takesOne_27 (by decide) (fun c27 => ?_) (fun c27 => ?_)
        · have q27 := ltI c27
          refine lv_iload_n hx hb d_CD_takesOne_36 rfl (lv_at hl 0 rfl) ?_
          refine lv_sipush (v := 138) hx hb d_CD_takesOne_37 (by decide) ?_
          have k138 : (138 : Int32).toInt = 138 := by decide
          refine lv_icmp_le (tgt := 47) hx hb d_CD_takesOne_40 (by decide) (fun c40 => ?_) (fun c40 => ?_)
          · have q40 := leI c40
            refine lv_iconst (v := 0) hx hb d_CD_takesOne_47 (by decide) ?_
            have k0 : (0 : Int32).toInt = 0 := by decide
            have hP9 := hP.sub (ws' := []) [] rfl
            have hD9 := hD.sub (ws' := []) [] (by decide) rfl
            exact W.zret (v := 0) hx hb hr (zn01 (by first | exact Or.inl rfl | exact Or.inr rfl | exact hr0)) (fun t ht hW => ⟨⟨0, (), rfl, ⟨by first | exact Or.inl rfl | exact Or.inr rfl, by (try dsimp only); omega⟩, by rw [ht]; exact hP9, va_K.moved hW.alike hK, hD9⟩, hS.F ht⟩) hS.2.2 d_CD_takesOne_48
          · have q40 := nleI c40
            refine lv_iconst (v := 1) hx hb d_CD_takesOne_43 (by decide) ?_
            have k1 : (1 : Int32).toInt = 1 := by decide
            refine lv_goto (tgt := 48) hx hb d_CD_takesOne_44 (by decide) ?_
            have hP9 := hP.sub (ws' := []) [] rfl
            have hD9 := hD.sub (ws' := []) [] (by decide) rfl
            exact W.zret (v := 1) hx hb hr (zn01 (by first | exact Or.inl rfl | exact Or.inr rfl | exact hr1)) (fun t ht hW => ⟨⟨1, (), rfl, ⟨by first | exact Or.inl rfl | exact Or.inr rfl, by (try dsimp only); omega⟩, by rw [ht]; exact hP9, va_K.moved hW.alike hK, hD9⟩, hS.F ht⟩) hS.2.2 d_CD_takesOne_48
        · have q27 := nltI c27
          refine lv_iload_n hx hb d_CD_takesOne_30 rfl (lv_at hl 0 rfl) ?_
          refine lv_bipush (v := 124) hx hb d_CD_takesOne_31 (by decide) ?_
          have k124 : (124 : Int32).toInt = 124 := by decide
          refine lv_icmp_lt (tgt := 43) hx hb d_CD_takesOne_33 (by decide) (fun c33 => ?_) (fun c33 => ?_)
          · have q33 := ltI c33
            refine lv_iconst (v := 1) hx hb d_CD_takesOne_43 (by decide) ?_
            have k1 : (1 : Int32).toInt = 1 := by decide
            refine lv_goto (tgt := 48) hx hb d_CD_takesOne_44 (by decide) ?_
            have hP9 := hP.sub (ws' := []) [] rfl
            have hD9 := hD.sub (ws' := []) [] (by decide) rfl
            exact W.zret (v := 1) hx hb hr (zn01 (by first | exact Or.inl rfl | exact Or.inr rfl | exact hr1)) (fun t ht hW => ⟨⟨1, (), rfl, ⟨by first | exact Or.inl rfl | exact Or.inr rfl, by (try dsimp only); omega⟩, by rw [ht]; exact hP9, va_K.moved hW.alike hK, hD9⟩, hS.F ht⟩) hS.2.2 d_CD_takesOne_48
          · have q33 := nltI c33
            refine lv_iload_n hx hb d_CD_takesOne_36 rfl (lv_at hl 0 rfl) ?_
            refine lv_sipush (v := 138) hx hb d_CD_takesOne_37 (by decide) ?_
            have k138 : (138 : Int32).toInt = 138 := by decide
            refine lv_icmp_le (tgt := 47) hx hb d_CD_takesOne_40 (by decide) (fun c40 => ?_) (fun c40 => ?_)
            · have q40 := leI c40
              refine lv_iconst (v := 0) hx hb d_CD_takesOne_47 (by decide) ?_
              have k0 : (0 : Int32).toInt = 0 := by decide
              have hP9 := hP.sub (ws' := []) [] rfl
              have hD9 := hD.sub (ws' := []) [] (by decide) rfl
              exact W.zret (v := 0) hx hb hr (zn01 (by first | exact Or.inl rfl | exact Or.inr rfl | exact hr0)) (fun t ht hW => ⟨⟨0, (), rfl, ⟨by first | exact Or.inl rfl | exact Or.inr rfl, by (try dsimp only); omega⟩, by rw [ht]; exact hP9, va_K.moved hW.alike hK, hD9⟩, hS.F ht⟩) hS.2.2 d_CD_takesOne_48
            · have q40 := nleI c40
              refine lv_iconst (v := 1) hx hb d_CD_takesOne_43 (by decide) ?_
              have k1 : (1 : Int32).toInt = 1 := by decide
              refine lv_goto (tgt := 48) hx hb d_CD_takesOne_44 (by decide) ?_
              have hP9 := hP.sub (ws' := []) [] rfl
              have hD9 := hD.sub (ws' := []) [] (by decide) rfl
              exact W.zret (v := 1) hx hb hr (zn01 (by first | exact Or.inl rfl | exact Or.inr rfl | exact hr1)) (fun t ht hW => ⟨⟨1, (), rfl, ⟨by first | exact Or.inl rfl | exact Or.inr rfl, by (try dsimp only); omega⟩, by rw [ht]; exact hP9, va_K.moved hW.alike hK, hD9⟩, hS.F ht⟩) hS.2.2 d_CD_takesOne_48
      · have q15 := nltI c15
        refine lv_iload_n hx hb d_CD_takesOne_18 rfl (lv_at hl 0 rfl) ?_
        refine lv_bipush (v := 106) hx hb d_CD_takesOne_19 (by decide) ?_
        have k106 : (106 : Int32).toInt = 106 := by decide
        refine lv_icmp_lt (tgt := 43) hx hb d_CD_takesOne_21 (by decide) (fun c21 => ?_) (fun c21 => ?_)
        · have q21 := ltI c21
          refine lv_iconst (v := 1) hx hb d_CD_takesOne_43 (by decide) ?_
          have k1 : (1 : Int32).toInt = 1 := by decide
          refine lv_goto (tgt := 48) hx hb d_CD_takesOne_44 (by decide) ?_
          have hP9 := hP.sub (ws' := []) [] rfl
          have hD9 := hD.sub (ws' := []) [] (by decide) rfl
          exact W.zret (v := 1) hx hb hr (zn01 (by first | exact Or.inl rfl | exact Or.inr rfl | exact hr1)) (fun t ht hW => ⟨⟨1, (), rfl, ⟨by first | exact Or.inl rfl | exact Or.inr rfl, by (try dsimp only); omega⟩, by rw [ht]; exact hP9, va_K.moved hW.alike hK, hD9⟩, hS.F ht⟩) hS.2.2 d_CD_takesOne_48
        · have q21 := nltI c21
          refine lv_iload_n hx hb d_CD_takesOne_24 rfl (lv_at hl 0 rfl) ?_
          refine lv_bipush (v := 121) hx hb d_CD_takesOne_25 (by decide) ?_
          have k121 : (121 : Int32).toInt = 121 := by decide
          refine lv_icmp_lt (tgt := 36) hx hb d_CD_takesOne_27 (by decide) (fun c27 => ?_) (fun c27 => ?_)
          · have q27 := ltI c27
            refine lv_iload_n hx hb d_CD_takesOne_36 rfl (lv_at hl 0 rfl) ?_
            refine lv_sipush (v := 138) hx hb d_CD_takesOne_37 (by decide) ?_
            have k138 : (138 : Int32).toInt = 138 := by decide
            refine lv_icmp_le (tgt := 47) hx hb d_CD_takesOne_40 (by decide) (fun c40 => ?_) (fun c40 => ?_)
            · have q40 := leI c40
              refine lv_iconst (v := 0) hx hb d_CD_takesOne_47 (by decide) ?_
              have k0 : (0 : Int32).toInt = 0 := by decide
              have hP9 := hP.sub (ws' := []) [] rfl
              have hD9 := hD.sub (ws' := []) [] (by decide) rfl
              exact W.zret (v := 0) hx hb hr (zn01 (by first | exact Or.inl rfl | exact Or.inr rfl | exact hr0)) (fun t ht hW => ⟨⟨0, (), rfl, ⟨by first | exact Or.inl rfl | exact Or.inr rfl, by (try dsimp only); omega⟩, by rw [ht]; exact hP9, va_K.moved hW.alike hK, hD9⟩, hS.F ht⟩) hS.2.2 d_CD_takesOne_48
            · have q40 := nleI c40
              refine lv_iconst (v := 1) hx hb d_CD_takesOne_43 (by decide) ?_
              have k1 : (1 : Int32).toInt = 1 := by decide
              refine lv_goto (tgt := 48) hx hb d_CD_takesOne_44 (by decide) ?_
              have hP9 := hP.sub (ws' := []) [] rfl
              have hD9 := hD.sub (ws' := []) [] (by decide) rfl
              exact W.zret (v := 1) hx hb hr (zn01 (by first | exact Or.inl rfl | exact Or.inr rfl | exact hr1)) (fun t ht hW => ⟨⟨1, (), rfl, ⟨by first | exact Or.inl rfl | exact Or.inr rfl, by (try dsimp only); omega⟩, by rw [ht]; exact hP9, va_K.moved hW.alike hK, hD9⟩, hS.F ht⟩) hS.2.2 d_CD_takesOne_48
          · have q27 := nltI c27
            refine lv_iload_n hx hb d_CD_takesOne_30 rfl (lv_at hl 0 rfl) ?_
            refine lv_bipush (v := 124) hx hb d_CD_takesOne_31 (by decide) ?_
            have k124 : (124 : Int32).toInt = 124 := by decide
            refine lv_icmp_lt (tgt := 43) hx hb d_CD_takesOne_33 (by decide) (fun c33 => ?_) (fun c33 => ?_)
            · have q33 := ltI c33
              refine lv_iconst (v := 1) hx hb d_CD_takesOne_43 (by decide) ?_
              have k1 : (1 : Int32).toInt = 1 := by decide
              refine lv_goto (tgt := 48) hx hb d_CD_takesOne_44 (by decide) ?_
              have hP9 := hP.sub (ws' := []) [] rfl
              have hD9 := hD.sub (ws' := []) [] (by decide) rfl
              exact W.zret (v := 1) hx hb hr (zn01 (by first | exact Or.inl rfl | exact Or.inr rfl | exact hr1)) (fun t ht hW => ⟨⟨1, (), rfl, ⟨by first | exact Or.inl rfl | exact Or.inr rfl, by (try dsimp only); omega⟩, by rw [ht]; exact hP9, va_K.moved hW.alike hK, hD9⟩, hS.F ht⟩) hS.2.2 d_CD_takesOne_48
            · have q33 := nltI c33
              refine lv_iload_n hx hb d_CD_takesOne_36 rfl (lv_at hl 0 rfl) ?_
              refine lv_sipush (v := 138) hx hb d_CD_takesOne_37 (by decide) ?_
              have k138 : (138 : Int32).toInt = 138 := by decide
              refine lv_icmp_le (tgt := 47) hx hb d_CD_takesOne_40 (by decide) (fun c40 => ?_) (fun c40 => ?_)
              · have q40 := leI c40
                refine lv_iconst (v := 0) hx hb d_CD_takesOne_47 (by decide) ?_
                have k0 : (0 : Int32).toInt = 0 := by decide
                have hP9 := hP.sub (ws' := []) [] rfl
                have hD9 := hD.sub (ws' := []) [] (by decide) rfl
                exact W.zret (v := 0) hx hb hr (zn01 (by first | exact Or.inl rfl | exact Or.inr rfl | exact hr0)) (fun t ht hW => ⟨⟨0, (), rfl, ⟨by first | exact Or.inl rfl | exact Or.inr rfl, by (try dsimp only); omega⟩, by rw [ht]; exact hP9, va_K.moved hW.alike hK, hD9⟩, hS.F ht⟩) hS.2.2 d_CD_takesOne_48
              · have q40 := nleI c40
                refine lv_iconst (v := 1) hx hb d_CD_takesOne_43 (by decide) ?_
                have k1 : (1 : Int32).toInt = 1 := by decide
                refine lv_goto (tgt := 48) hx hb d_CD_takesOne_44 (by decide) ?_
                have hP9 := hP.sub (ws' := []) [] rfl
                have hD9 := hD.sub (ws' := []) [] (by decide) rfl
                exact W.zret (v := 1) hx hb hr (zn01 (by first | exact Or.inl rfl | exact Or.inr rfl | exact hr1)) (fun t ht hW => ⟨⟨1, (), rfl, ⟨by first | exact Or.inl rfl | exact Or.inr rfl, by (try dsimp only); omega⟩, by rw [ht]; exact hP9, va_K.moved hW.alike hK, hD9⟩, hS.F ht⟩) hS.2.2 d_CD_takesOne_48
abbrev b_CD_operandType : ByteArray := prog_5_method_8_code
def y_CD_operandType : MethodName := ⟨R_CD, "operandType", "(I)I"⟩
abbrev w_CD_operandType : List Cond := .code y_CD_operandType b_CD_operandType 1 (Option.some .int) :: lw_g
theorem kC_CD_operandType : Cond.code y_CD_operandType b_CD_operandType 1 (Option.some .int) ∈ lw_g := in_g 1488 (by decide +kernel) rfl
theorem d_CD_operandType_0 : decode b_CD_operandType 0 = .ok (.iload_n 0, 1) := by decide +kernel
theorem d_CD_operandType_1 : decode b_CD_operandType 1 = .ok (.bipush 80, 2) := by decide +kernel
theorem d_CD_operandType_3 : decode b_CD_operandType 3 = .ok (.if_icmp .lt 9, 3) := by decide +kernel
theorem d_CD_operandType_6 : decode b_CD_operandType 6 = .ok (.iload_n 0, 1) := by decide +kernel
theorem d_CD_operandType_7 : decode b_CD_operandType 7 = .ok (.bipush 90, 2) := by decide +kernel
theorem d_CD_operandType_9 : decode b_CD_operandType 9 = .ok (.if_icmp .le 23, 3) := by decide +kernel
theorem d_CD_operandType_12 : decode b_CD_operandType 12 = .ok (.iload_n 0, 1) := by decide +kernel
theorem d_CD_operandType_13 : decode b_CD_operandType 13 = .ok (.bipush 121, 2) := by decide +kernel
theorem d_CD_operandType_15 : decode b_CD_operandType 15 = .ok (.if_icmp .lt 10, 3) := by decide +kernel
theorem d_CD_operandType_18 : decode b_CD_operandType 18 = .ok (.iload_n 0, 1) := by decide +kernel
theorem d_CD_operandType_19 : decode b_CD_operandType 19 = .ok (.sipush 138, 3) := by decide +kernel
theorem d_CD_operandType_22 : decode b_CD_operandType 22 = .ok (.if_icmp .le 10, 3) := by decide +kernel
theorem d_CD_operandType_25 : decode b_CD_operandType 25 = .ok (.iload_n 0, 1) := by decide +kernel
theorem d_CD_operandType_26 : decode b_CD_operandType 26 = .ok (.sipush 167, 3) := by decide +kernel
theorem d_CD_operandType_29 : decode b_CD_operandType 29 = .ok (.if_icmp .ne 8, 3) := by decide +kernel
theorem d_CD_operandType_32 : decode b_CD_operandType 32 = .ok (.bipush 126, 2) := by decide +kernel
theorem d_CD_operandType_34 : decode b_CD_operandType 34 = .ok (.goto 5, 3) := by decide +kernel
theorem d_CD_operandType_37 : decode b_CD_operandType 37 = .ok (.bipush 127, 2) := by decide +kernel
theorem d_CD_operandType_39 : decode b_CD_operandType 39 = .ok (.ireturn, 1) := by decide +kernel
set_option maxHeartbeats 4000000 in
set_option maxRecDepth 100000 in
theorem c_CD_operandType (l : Launch) (dC : Nat → ClassId) (dI : Nat → Nat → Nat) (sz : Nat) (p0 : Int32) : Met l y_CD_operandType w_CD_operandType ({ frames := 0, cells := 0, slots := 0, locals := 0 }) (va_Pc [.int p0] (fun U => U.heap.size = sz ∧ va_P (dC, dI) cls [] U.heap ∧ va_K (dC, dI) cls [] U ∧ va_D (fun _ => True) [])) (va_Qi (fun (r : Int32) (_ : Unit) => r.toInt = 126 ∨ r.toInt = 127) (no_at dC dI (va_A [] sz)) (va_A [] sz)) 0 0 (va_A [] sz) := by
  refine Met.ofW (cc := b_CD_operandType) (maxL := 1) (ret := (Option.some .int)) (by decide) rfl ?_
  intro p e s m args below meth c s₁ B hml hv
  obtain ⟨rfl, hsz, hP, hK, hD0⟩ := hv
  have hx := B.exec
  have hb := B.bytes
  have hr := B.returns
  have hts0 := atoms_spec (ws := w_CD_operandType) B.pre
  have hts : ∀ w ∈ lw_g, w.before _ s = true := fun w h => hts0 w (List.mem_cons_of_mem _ h)
  have hown : s.vm.findClass R_CD = some m.cls := findClass_of_methodNamed B.named
  have hlocks := B.notSynchronized
  clear hts0
  subst hsz
  have hD := hD0.self (sz := s.heap.size)
  generalize hAe : va_A [] s.heap.size = A at hD ⊢
  have hA : ∀ q : Nat, s.heap.size ≤ q → A q := fun q h => by rw [← hAe]; exact Or.inr h
  clear hAe
  have hP : va_P (dC, dI) cls [] s.heap := hP
  have hl := lv_entry ([.int p0]) (n := 1) (Nat.le_of_ble_eq_true rfl)
  rw [lg_entry_eq]
  generalize (lg_sl ([.int p0]) ++ List.replicate (1 - (lg_sl ([.int p0])).length) Slot.unset).toArray = ls at hl ⊢
  have hl : lv_has ls 1 [(0, .int p0)] := hl
  have k0 : (0 : Int32).toInt = 0 := by decide
  refine w_gen (A := A) hP (fun H locs hP hS => ?_)
  have lo_p0 := i32_lo p0
  have hi_p0 := i32_hi p0
  refine lv_iload_n hx hb d_CD_operandType_0 rfl (lv_at hl 0 rfl) ?_
  refine lv_bipush (v := 80) hx hb d_CD_operandType_1 (by decide) ?_
  have k80 : (80 : Int32).toInt = 80 := by decide
  refine lv_icmp_lt (tgt := 12) hx hb d_CD_operandType_3 (by decide) (fun c3 => ?_) (fun c3 => ?_)
  · have q3 := ltI c3
    refine lv_iload_n hx hb d_CD_operandType_12 rfl (lv_at hl 0 rfl) ?_
    refine lv_bipush (v := 121) hx hb d_CD_operandType_13 (by decide) ?_
    have k121 : (121 : Int32).toInt = 121 := by decide
    refine lv_icmp_lt (tgt := 25) hx hb d_CD_operandType_15 (by decide) (fun c15 => ?_) (fun c15 => ?_)
    · have q15 := ltI c15
      refine lv_iload_n hx hb d_CD_operandType_25 rfl (lv_at hl 0 rfl) ?_
      refine lv_sipush (v := 167) hx hb d_CD_operandType_26 (by decide) ?_
      have k167 : (167 : Int32).toInt = 167 := by decide
      refine lv_icmp_ne (tgt := 37) hx hb d_CD_operandType_29 (by decide) (fun c29 => ?_) (fun c29 => ?_)
      · have q29 := neI c29
        refine lv_bipush (v := 127) hx hb d_CD_operandType_37 (by decide) ?_
        have k127 : (127 : Int32).toInt = 127 := by decide
        have hP9 := hP.sub (ws' := []) [] rfl
        have hD9 := hD.sub (ws' := []) [] (by decide) rfl
        exact W.iret (v := 127) hx hb hr (fun t ht hW => ⟨⟨127, (), rfl, (by (try dsimp only); omega), by rw [ht]; exact hP9, va_K.moved hW.alike hK, hD9⟩, hS.F ht⟩) hS.2.2 d_CD_operandType_39
      · have q29 := eqI c29
        refine lv_bipush (v := 126) hx hb d_CD_operandType_32 (by decide) ?_
        have k126 : (126 : Int32).toInt = 126 := by decide
        refine lv_goto (tgt := 39) hx hb d_CD_operandType_34 (by decide) ?_
        have hP9 := hP.sub (ws' := []) [] rfl
        have hD9 := hD.sub (ws' := []) [] (by decide) rfl
        exact W.iret (v := 126) hx hb hr (fun t ht hW => ⟨⟨126, (), rfl, (by (try dsimp only); omega), by rw [ht]; exact hP9, va_K.moved hW.alike hK, hD9⟩, hS.F ht⟩) hS.2.2 d_CD_operandType_39
    · have q15 := nltI c15
      refine lv_iload_n hx hb d_CD_operandType_18 rfl (lv_at hl 0 rfl) ?_
      refine lv_sipush (v := 138) hx hb d_CD_operandType_19 (by decide) ?_
      have k138 : (138 : Int32).toInt = 138 := by decide
      refine lv_icmp_le (tgt := 32) hx hb d_CD_operandType_22 (by decide) (fun c22 => ?_) (fun c22 => ?_)
      · have q22 := leI c22
        refine lv_bipush (v := 126) hx hb d_CD_operandType_32 (by decide) ?_
        have k126 : (126 : Int32).toInt = 126 := by decide
        refine lv_goto (tgt := 39) hx hb d_CD_operandType_34 (by decide) ?_
        have hP9 := hP.sub (ws' := []) [] rfl
        have hD9 := hD.sub (ws' := []) [] (by decide) rfl
        exact W.iret (v := 126) hx hb hr (fun t ht hW => ⟨⟨126, (), rfl, (by (try dsimp only); omega), by rw [ht]; exact hP9, va_K.moved hW.alike hK, hD9⟩, hS.F ht⟩) hS.2.2 d_CD_operandType_39
      · have q22 := nleI c22
        refine lv_iload_n hx hb d_CD_operandType_25 rfl (lv_at hl 0 rfl) ?_
        refine lv_sipush (v := 167) hx hb d_CD_operandType_26 (by decide) ?_
        have k167 : (167 : Int32).toInt = 167 := by decide
        refine lv_icmp_ne (tgt := 37) hx hb d_CD_operandType_29 (by decide) (fun c29 => ?_) (fun c29 => ?_)
        · have q29 := neI c29
          refine lv_bipush (v := 127) hx hb d_CD_operandType_37 (by decide) ?_
          have k127 : (127 : Int32).toInt = 127 := by decide
          have hP9 := hP.sub (ws' := []) [] rfl
          have hD9 := hD.sub (ws' := []) [] (by decide) rfl
          exact W.iret (v := 127) hx hb hr (fun t ht hW => ⟨⟨127, (), rfl, (by (try dsimp only); omega), by rw [ht]; exact hP9, va_K.moved hW.alike hK, hD9⟩, hS.F ht⟩) hS.2.2 d_CD_operandType_39
        · have q29 := eqI c29
          refine lv_bipush (v := 126) hx hb d_CD_operandType_32 (by decide) ?_
          have k126 : (126 : Int32).toInt = 126 := by decide
          refine lv_goto (tgt := 39) hx hb d_CD_operandType_34 (by decide) ?_
          have hP9 := hP.sub (ws' := []) [] rfl
          have hD9 := hD.sub (ws' := []) [] (by decide) rfl
          exact W.iret (v := 126) hx hb hr (fun t ht hW => ⟨⟨126, (), rfl, (by (try dsimp only); omega), by rw [ht]; exact hP9, va_K.moved hW.alike hK, hD9⟩, hS.F ht⟩) hS.2.2 d_CD_operandType_39
  · have q3 := nltI c3
    refine lv_iload_n hx hb d_CD_operandType_6 rfl (lv_at hl 0 rfl) ?_
    refine lv_bipush (v := 90) hx hb d_CD_operandType_7 (by decide) ?_
    have k90 : (90 : Int32).toInt = 90 := by decide
    refine lv_icmp_le (tgt := 32) hx hb d_CD_operandType_9 (by decide) (fun c9 => ?_) (fun c9 => ?_)
    · have q9 := leI c9
      refine lv_bipush (v := 126) hx hb d_CD_operandType_32 (by decide) ?_
      have k126 : (126 : Int32).toInt = 126 := by decide
      refine lv_goto (tgt := 39) hx hb d_CD_operandType_34 (by decide) ?_
      have hP9 := hP.sub (ws' := []) [] rfl
      have hD9 := hD.sub (ws' := []) [] (by decide) rfl
      exact W.iret (v := 126) hx hb hr (fun t ht hW => ⟨⟨126, (), rfl, (by (try dsimp only); omega), by rw [ht]; exact hP9, va_K.moved hW.alike hK, hD9⟩, hS.F ht⟩) hS.2.2 d_CD_operandType_39
    · have q9 := nleI c9
      refine lv_iload_n hx hb d_CD_operandType_12 rfl (lv_at hl 0 rfl) ?_
      refine lv_bipush (v := 121) hx hb d_CD_operandType_13 (by decide) ?_
      have k121 : (121 : Int32).toInt = 121 := by decide
      refine lv_icmp_lt (tgt := 25) hx hb d_CD_operandType_15 (by decide) (fun c15 => ?_) (fun c15 => ?_)
      · have q15 := ltI c15
        refine lv_iload_n hx hb d_CD_operandType_25 rfl (lv_at hl 0 rfl) ?_
        refine lv_sipush (v := 167) hx hb d_CD_operandType_26 (by decide) ?_
        have k167 : (167 : Int32).toInt = 167 := by decide
        refine lv_icmp_ne (tgt := 37) hx hb d_CD_operandType_29 (by decide) (fun c29 => ?_) (fun c29 => ?_)
        · have q29 := neI c29
          refine lv_bipush (v := 127) hx hb d_CD_operandType_37 (by decide) ?_
          have k127 : (127 : Int32).toInt = 127 := by decide
          have hP9 := hP.sub (ws' := []) [] rfl
          have hD9 := hD.sub (ws' := []) [] (by decide) rfl
          exact W.iret (v := 127) hx hb hr (fun t ht hW => ⟨⟨127, (), rfl, (by (try dsimp only); omega), by rw [ht]; exact hP9, va_K.moved hW.alike hK, hD9⟩, hS.F ht⟩) hS.2.2 d_CD_operandType_39
        · have q29 := eqI c29
          refine lv_bipush (v := 126) hx hb d_CD_operandType_32 (by decide) ?_
          have k126 : (126 : Int32).toInt = 126 := by decide
          refine lv_goto (tgt := 39) hx hb d_CD_operandType_34 (by decide) ?_
          have hP9 := hP.sub (ws' := []) [] rfl
          have hD9 := hD.sub (ws' := []) [] (by decide) rfl
          exact W.iret (v := 126) hx hb hr (fun t ht hW => ⟨⟨126, (), rfl, (by (try dsimp only); omega), by rw [ht]; exact hP9, va_K.moved hW.alike hK, hD9⟩, hS.F ht⟩) hS.2.2 d_CD_operandType_39
      · have q15 := nltI c15
        refine lv_iload_n hx hb d_CD_operandType_18 rfl (lv_at hl 0 rfl) ?_
        refine lv_sipush (v := 138) hx hb d_CD_operandType_19 (by decide) ?_
        have k138 : (138 : Int32).toInt = 138 := by decide
        refine lv_icmp_le (tgt := 32) hx hb d_CD_operandType_22 (by decide) (fun c22 => ?_) (fun c22 => ?_)
        · have q22 := leI c22
          refine lv_bipush (v := 126) hx hb d_CD_operandType_32 (by decide) ?_
          have k126 : (126 : Int32).toInt = 126 := by decide
          refine lv_goto (tgt := 39) hx hb d_CD_operandType_34 (by decide) ?_
          have hP9 := hP.sub (ws' := []) [] rfl
          have hD9 := hD.sub (ws' := []) [] (by decide) rfl
          exact W.iret (v := 126) hx hb hr (fun t ht hW => ⟨⟨126, (), rfl, (by (try dsimp only); omega), by rw [ht]; exact hP9, va_K.moved hW.alike hK, hD9⟩, hS.F ht⟩) hS.2.2 d_CD_operandType_39
        · have q22 := nleI c22
          refine lv_iload_n hx hb d_CD_operandType_25 rfl (lv_at hl 0 rfl) ?_
          refine lv_sipush (v := 167) hx hb d_CD_operandType_26 (by decide) ?_
          have k167 : (167 : Int32).toInt = 167 := by decide
          refine lv_icmp_ne (tgt := 37) hx hb d_CD_operandType_29 (by decide) (fun c29 => ?_) (fun c29 => ?_)
          · have q29 := neI c29
            refine lv_bipush (v := 127) hx hb d_CD_operandType_37 (by decide) ?_
            have k127 : (127 : Int32).toInt = 127 := by decide
            have hP9 := hP.sub (ws' := []) [] rfl
            have hD9 := hD.sub (ws' := []) [] (by decide) rfl
            exact W.iret (v := 127) hx hb hr (fun t ht hW => ⟨⟨127, (), rfl, (by (try dsimp only); omega), by rw [ht]; exact hP9, va_K.moved hW.alike hK, hD9⟩, hS.F ht⟩) hS.2.2 d_CD_operandType_39
          · have q29 := eqI c29
            refine lv_bipush (v := 126) hx hb d_CD_operandType_32 (by decide) ?_
            have k126 : (126 : Int32).toInt = 126 := by decide
            refine lv_goto (tgt := 39) hx hb d_CD_operandType_34 (by decide) ?_
            have hP9 := hP.sub (ws' := []) [] rfl
            have hD9 := hD.sub (ws' := []) [] (by decide) rfl
            exact W.iret (v := 126) hx hb hr (fun t ht hW => ⟨⟨126, (), rfl, (by (try dsimp only); omega), by rw [ht]; exact hP9, va_K.moved hW.alike hK, hD9⟩, hS.F ht⟩) hS.2.2 d_CD_operandType_39
abbrev b_CD_resultType : ByteArray := prog_5_method_9_code
def y_CD_resultType : MethodName := ⟨R_CD, "resultType", "(I)I"⟩
abbrev w_CD_resultType : List Cond := .code y_CD_resultType b_CD_resultType 1 (Option.some .int) :: lw_g
theorem kC_CD_resultType : Cond.code y_CD_resultType b_CD_resultType 1 (Option.some .int) ∈ lw_g := in_g 1494 (by decide +kernel) rfl
theorem d_CD_resultType_0 : decode b_CD_resultType 0 = .ok (.iload_n 0, 1) := by decide +kernel
theorem d_CD_resultType_1 : decode b_CD_resultType 1 = .ok (.bipush 120, 2) := by decide +kernel
theorem d_CD_resultType_3 : decode b_CD_resultType 3 = .ok (.if_icmp .le 10, 3) := by decide +kernel
theorem d_CD_resultType_6 : decode b_CD_resultType 6 = .ok (.iload_n 0, 1) := by decide +kernel
theorem d_CD_resultType_7 : decode b_CD_resultType 7 = .ok (.sipush 167, 3) := by decide +kernel
theorem d_CD_resultType_10 : decode b_CD_resultType 10 = .ok (.if_icmp .ne 8, 3) := by decide +kernel
theorem d_CD_resultType_13 : decode b_CD_resultType 13 = .ok (.bipush 127, 2) := by decide +kernel
theorem d_CD_resultType_15 : decode b_CD_resultType 15 = .ok (.goto 5, 3) := by decide +kernel
theorem d_CD_resultType_18 : decode b_CD_resultType 18 = .ok (.bipush 126, 2) := by decide +kernel
theorem d_CD_resultType_20 : decode b_CD_resultType 20 = .ok (.ireturn, 1) := by decide +kernel
set_option maxHeartbeats 4000000 in
set_option maxRecDepth 100000 in
theorem c_CD_resultType (l : Launch) (dC : Nat → ClassId) (dI : Nat → Nat → Nat) (sz : Nat) (p0 : Int32) : Met l y_CD_resultType w_CD_resultType ({ frames := 0, cells := 0, slots := 0, locals := 0 }) (va_Pc [.int p0] (fun U => U.heap.size = sz ∧ va_P (dC, dI) cls [] U.heap ∧ va_K (dC, dI) cls [] U ∧ va_D (fun _ => True) [])) (va_Qi (fun (r : Int32) (_ : Unit) => r.toInt = 126 ∨ r.toInt = 127) (no_at dC dI (va_A [] sz)) (va_A [] sz)) 0 0 (va_A [] sz) := by
  refine Met.ofW (cc := b_CD_resultType) (maxL := 1) (ret := (Option.some .int)) (by decide) rfl ?_
  intro p e s m args below meth c s₁ B hml hv
  obtain ⟨rfl, hsz, hP, hK, hD0⟩ := hv
  have hx := B.exec
  have hb := B.bytes
  have hr := B.returns
  have hts0 := atoms_spec (ws := w_CD_resultType) B.pre
  have hts : ∀ w ∈ lw_g, w.before _ s = true := fun w h => hts0 w (List.mem_cons_of_mem _ h)
  have hown : s.vm.findClass R_CD = some m.cls := findClass_of_methodNamed B.named
  have hlocks := B.notSynchronized
  clear hts0
  subst hsz
  have hD := hD0.self (sz := s.heap.size)
  generalize hAe : va_A [] s.heap.size = A at hD ⊢
  have hA : ∀ q : Nat, s.heap.size ≤ q → A q := fun q h => by rw [← hAe]; exact Or.inr h
  clear hAe
  have hP : va_P (dC, dI) cls [] s.heap := hP
  have hl := lv_entry ([.int p0]) (n := 1) (Nat.le_of_ble_eq_true rfl)
  rw [lg_entry_eq]
  generalize (lg_sl ([.int p0]) ++ List.replicate (1 - (lg_sl ([.int p0])).length) Slot.unset).toArray = ls at hl ⊢
  have hl : lv_has ls 1 [(0, .int p0)] := hl
  have k0 : (0 : Int32).toInt = 0 := by decide
  refine w_gen (A := A) hP (fun H locs hP hS => ?_)
  have lo_p0 := i32_lo p0
  have hi_p0 := i32_hi p0
  refine lv_iload_n hx hb d_CD_resultType_0 rfl (lv_at hl 0 rfl) ?_
  refine lv_bipush (v := 120) hx hb d_CD_resultType_1 (by decide) ?_
  have k120 : (120 : Int32).toInt = 120 := by decide
  refine lv_icmp_le (tgt := 13) hx hb d_CD_resultType_3 (by decide) (fun c3 => ?_) (fun c3 => ?_)
  · have q3 := leI c3
    refine lv_bipush (v := 127) hx hb d_CD_resultType_13 (by decide) ?_
    have k127 : (127 : Int32).toInt = 127 := by decide
    refine lv_goto (tgt := 20) hx hb d_CD_resultType_15 (by decide) ?_
    have hP9 := hP.sub (ws' := []) [] rfl
    have hD9 := hD.sub (ws' := []) [] (by decide) rfl
    exact W.iret (v := 127) hx hb hr (fun t ht hW => ⟨⟨127, (), rfl, (by (try dsimp only); omega), by rw [ht]; exact hP9, va_K.moved hW.alike hK, hD9⟩, hS.F ht⟩) hS.2.2 d_CD_resultType_20
  · have q3 := nleI c3
    refine lv_iload_n hx hb d_CD_resultType_6 rfl (lv_at hl 0 rfl) ?_
    refine lv_sipush (v := 167) hx hb d_CD_resultType_7 (by decide) ?_
    have k167 : (167 : Int32).toInt = 167 := by decide
    refine lv_icmp_ne (tgt := 18) hx hb d_CD_resultType_10 (by decide) (fun c10 => ?_) (fun c10 => ?_)
    · have q10 := neI c10
      refine lv_bipush (v := 126) hx hb d_CD_resultType_18 (by decide) ?_
      have k126 : (126 : Int32).toInt = 126 := by decide
      have hP9 := hP.sub (ws' := []) [] rfl
      have hD9 := hD.sub (ws' := []) [] (by decide) rfl
      exact W.iret (v := 126) hx hb hr (fun t ht hW => ⟨⟨126, (), rfl, (by (try dsimp only); omega), by rw [ht]; exact hP9, va_K.moved hW.alike hK, hD9⟩, hS.F ht⟩) hS.2.2 d_CD_resultType_20
    · have q10 := eqI c10
      refine lv_bipush (v := 127) hx hb d_CD_resultType_13 (by decide) ?_
      have k127 : (127 : Int32).toInt = 127 := by decide
      refine lv_goto (tgt := 20) hx hb d_CD_resultType_15 (by decide) ?_
      have hP9 := hP.sub (ws' := []) [] rfl
      have hD9 := hD.sub (ws' := []) [] (by decide) rfl
      exact W.iret (v := 127) hx hb hr (fun t ht hW => ⟨⟨127, (), rfl, (by (try dsimp only); omega), by rw [ht]; exact hP9, va_K.moved hW.alike hK, hD9⟩, hS.F ht⟩) hS.2.2 d_CD_resultType_20

section q_n44q25
/-! p5: the class: blocks -/
abbrev at_VA_checkBlocksy (dC : Nat → ClassId) (dI : Nat → Nat → Nat) (h0 aw ac ty bo bg bh bd : Nat) (cty cbo cbg cbh cbd : ClassId) (h0_function : Int32) (A : Nat → Prop) (u : (Nat → Int32) × (Nat → Int32) × (Nat → Int32) × (Nat → Int32) × (Nat → Int32) × Int32 × Int32 × Int32) (t : State) : Prop := match u with | (gbd, gbg, gbh, gbo, gty, h0_depth, h0_height, h0_sound) => va_P (dC, dI) cls (wz_86 h0 aw ac h0_sound h0_function ty h0_height bo bg bh bd h0_depth ty cty gty bo cbo gbo bg cbg gbg bh cbh gbh bd cbd gbd) t.heap ∧ va_K (dC, dI) cls [(cty, .int), (cbo, .int), (cbg, .int), (cbh, .int), (cbd, .boolean)] t ∧ va_D A (wz_86 h0 aw ac h0_sound h0_function ty h0_height bo bg bh bd h0_depth ty cty gty bo cbo gbo bg cbg gbg bh cbh gbh bd cbd gbd)
set_option maxHeartbeats 4000000 in
set_option maxRecDepth 100000 in
theorem c_VA_checkBlocksy (l : Launch) (dC : Nat → ClassId) (dI : Nat → Nat → Nat) (sz : Nat) (h0 aw ac ty bo bg bh bd : Nat) (cty cbo cbg cbh cbd : ClassId) (h0_sound : Int32) (h0_function : Int32) (h0_height : Int32) (h0_depth : Int32) (gty : Nat → Int32) (gbo : Nat → Int32) (gbg : Nat → Int32) (gbh : Nat → Int32) (gbd : Nat → Int32) (S9 : List Nat) (B9 : List zBl) (v9 : Nat)  (b_h0_sound : h0_sound = 0 ∨ h0_sound = 1) (b_h0_height : 0 ≤ h0_height.toInt ∧ h0_height.toInt ≤ 5000) (b_h0_depth : 0 ≤ h0_depth.toInt ∧ h0_depth.toInt ≤ 101) (b_gty : ∀ j : Nat, (gty j).toInt ≠ 64) (b_gbh : ∀ j : Nat, 0 ≤ (gbh j).toInt ∧ (gbh j).toInt ≤ 5000) (p0 : Int32) (p1 : Int32)  (hv : h0_sound.toInt = 1 → vA S9 B9 h0_height h0_depth gty gbo gbg gbh gbd) (h5 : h0_sound.toInt = 1 → h0_height.toInt < 5000) (hty : p0.toInt = 2 ∨ p0.toInt = 3 ∨ p0.toInt = 4 → p1.toInt = (v9 : Int)) (hd1 : h0_sound.toInt = 1 → 1 ≤ h0_depth.toInt) (hd2 : h0_sound.toInt = 1 → (p0.toInt = 2 ∨ p0.toInt = 3 ∨ p0.toInt = 4) → h0_depth.toInt ≤ 100) (hop : (0 ≤ p0.toInt ∧ p0.toInt ≤ 5) ∨ p0.toInt = 11) : Met l y_VA_checkBlocks w_VA_checkBlocks ({ frames := 3, cells := 0, slots := 0, locals := 62 }) (va_Pc [.ref h0, .int p0, .int p1] (fun U => U.heap.size = sz ∧ va_P (dC, dI) cls (wz_86 h0 aw ac h0_sound h0_function ty h0_height bo bg bh bd h0_depth ty cty gty bo cbo gbo bg cbg gbg bh cbh gbh bd cbd gbd) U.heap ∧ va_K (dC, dI) cls [(cty, .int), (cbo, .int), (cbg, .int), (cbh, .int), (cbd, .boolean)] U ∧ va_D (fun _ => True) (wz_86 h0 aw ac h0_sound h0_function ty h0_height bo bg bh bd h0_depth ty cty gty bo cbo gbo bg cbg gbg bh cbh gbh bd cbd gbd))) (va_Qv (fun (u : (Nat → Int32) × (Nat → Int32) × (Nat → Int32) × (Nat → Int32) × (Nat → Int32) × Int32 × Int32 × Int32) => match u with | (gbd2, gbg2, gbh2, gbo2, gty2, h0_depth2, h0_height2, h0_sound2) => (∀ j : Nat, 0 ≤ (gbh2 j).toInt ∧ (gbh2 j).toInt ≤ 5000) ∧ (∀ j : Nat, (gty2 j).toInt ≠ 64) ∧ (0 ≤ h0_depth2.toInt ∧ h0_depth2.toInt ≤ 101) ∧ (0 ≤ h0_height2.toInt ∧ h0_height2.toInt ≤ 5000) ∧ (h0_sound2 = 0 ∨ h0_sound2 = 1) ∧ ((h0_sound2.toInt = 1 → h0_height2.toInt ≤ h0_height.toInt + 1) ∧ vsz (vblk p0.toInt.toNat v9 S9 B9) h0_sound h0_sound2 h0_height2 h0_depth2 gty2 gbo2 gbg2 gbh2 gbd2)) (at_VA_checkBlocksy dC dI h0 aw ac ty bo bg bh bd cty cbo cbg cbh cbd h0_function (va_A (wz_86 h0 aw ac h0_sound h0_function ty h0_height bo bg bh bd h0_depth ty cty gty bo cbo gbo bg cbg gbg bh cbh gbh bd cbd gbd) sz)) (va_A (wz_86 h0 aw ac h0_sound h0_function ty h0_height bo bg bh bd h0_depth ty cty gty bo cbo gbo bg cbg gbg bh cbh gbh bd cbd gbd) sz)) 0 0 (va_A (wz_86 h0 aw ac h0_sound h0_function ty h0_height bo bg bh bd h0_depth ty cty gty bo cbo gbo bg cbg gbg bh cbh gbh bd cbd gbd) sz) := by
  refine Met.ofW (cc := b_VA_checkBlocks) (maxL := 3) (ret := none) (by decide) rfl ?_
  intro p e s m args below meth c s₁ B hml hv
  obtain ⟨rfl, hsz, hP, hK, hD0⟩ := hv
  have hx := B.exec
  have hb := B.bytes
  have hr := B.returns
  have hts0 := atoms_spec (ws := w_VA_checkBlocks) B.pre
  have hts : ∀ w ∈ lw_g, w.before _ s = true := fun w h => hts0 w (List.mem_cons_of_mem _ h)
  have hown : s.vm.findClass R_VA = some m.cls := findClass_of_methodNamed B.named
  have hlocks := B.notSynchronized
  clear hts0
  subst hsz
  have hD := hD0.self (sz := s.heap.size)
  generalize hAe : va_A (wz_86 h0 aw ac h0_sound h0_function ty h0_height bo bg bh bd h0_depth ty cty gty bo cbo gbo bg cbg gbg bh cbh gbh bd cbd gbd) s.heap.size = A at hD ⊢
  have hA : ∀ q : Nat, s.heap.size ≤ q → A q := fun q h => by rw [← hAe]; exact Or.inr h
  clear hAe
  have hP : va_P (dC, dI) cls (wz_86 h0 aw ac h0_sound h0_function ty h0_height bo bg bh bd h0_depth ty cty gty bo cbo gbo bg cbg gbg bh cbh gbh bd cbd gbd) s.heap := hP
  have hl := lv_entry ([.ref h0, .int p0, .int p1]) (n := 3) (Nat.le_of_ble_eq_true rfl)
  rw [lg_entry_eq]
  generalize (lg_sl ([.ref h0, .int p0, .int p1]) ++ List.replicate (3 - (lg_sl ([.ref h0, .int p0, .int p1])).length) Slot.unset).toArray = ls at hl ⊢
  have hl : lv_has ls 3 [(0, .ref h0), (1, .int p0), (2, .int p1)] := hl
  have k0 : (0 : Int32).toInt = 0 := by decide
  refine w_gen (A := A) hP (fun H locs hP hS => ?_)
  have k1 : (1 : Int32).toInt = 1 := by decide
  have k4 : (4 : Int32).toInt = 4 := by decide
  have k64 : (64 : Int32).toInt = 64 := by decide
  have k127 : (127 : Int32).toInt = 127 := by decide
  have lo_p0 := i32_lo p0
  have hi_p0 := i32_hi p0
  have lo_p1 := i32_lo p1
  have hi_p1 := i32_hi p1
  have th0_sound := b01 b_h0_sound
  refine lv_iload_n hx hb d_VA_checkBlocks_0 rfl (lv_at hl 1 rfl) ?_
  by_cases g1_64 : p0.toInt = 0
  · have ho1 : tab_off 179 0 11 #[63, 70, 179, 179, 73, 88, 179, 179, 179, 179, 179, 109] p0.toInt = 63 := by rw [g1_64]; rfl
    refine lv_tab (tgt := 64) hx hb d_VA_checkBlocks_1 (by decide) ho1 (by decide) ?_
    clear ho1
    refine lv_aload_n hx hb d_VA_checkBlocks_64 rfl (lv_at hl 0 rfl) ?_
    have hPc := hP.sb (wq := (wz_86 h0 aw ac h0_sound h0_function ty h0_height bo bg bh bd h0_depth ty cty gty bo cbo gbo bg cbg gbg bh cbh gbh bd cbd gbd)) [0, 1, 2, 3, 4, 5] rfl
    have hDc := hD.sb (wq := (wz_86 h0 aw ac h0_sound h0_function ty h0_height bo bg bh bd h0_depth ty cty gty bo cbo gbo bg cbg gbg bh cbh gbh bd cbd gbd)) [0, 1, 2, 3, 4, 5] (by decide) rfl
    have hKc := hK.sb (tyq := [(cty, .int), (cbo, .int), (cbg, .int), (cbh, .int), (cbd, .boolean)]) [0, 1, 2, 3, 4] rfl
    have hFc := va_free (wc := (wz_86 h0 aw ac h0_sound h0_function ty h0_height bo bg bh bd h0_depth ty cty gty bo cbo gbo bg cbg gbg bh cbh gbh bd cbd gbd)) hD hS hA [0, 1, 2, 3, 4, 5] rfl
    refine va_callv (va_runV (As := []) (rest := []) ⟨hx, hb, hml, hown, hts⟩ (c_VA_diey l dC dI H.size h0 aw ac ty bo bg bh bd cty cbo cbg cbh cbd h0_sound h0_function h0_height h0_depth gty gbo gbg gbh gbd S9 B9 (b_h0_sound) (b_h0_height) (b_h0_depth) (b_gty) (b_gbh) (hv)) (cwV 0 hts (gV kM_VA_158 kV_VA_die kS_VA_die kI_VA kC_VA_die) rfl rfl rfl (by decide +kernel) ⟨Nat.le_of_ble_eq_true rfl, Nat.le_of_ble_eq_true rfl⟩) ⟨fun a U g mk z => by obtain ⟨z0, z1, zP, zK, zD⟩ := z; exact ⟨z0, z1, zP, va_K.moved (u := U) (U := U.calling g mk a) (Vm.Alike.refl U.vm) zK, zD⟩, va_recv hKc hPc (ci := 9) (q0 := 0) rfl rfl, fun U hU hW => ⟨rfl, by rw [hU], va_P.he hU.symm hPc, va_K.moved hW.alike hKc, hDc.weaken (fun _ _ _ _ => trivial)⟩⟩ rfl rfl hl.1 rfl (lv_room (Nat.le_of_ble_eq_true rfl)) d_VA_checkBlocks_65 ⟨(Nat.zero_le _), (Nat.zero_le _)⟩) hS (fun q _ h => hFc q h) hFc (fun u t H1 locs ht hvm hw hB hz1 hk1 hS => ?_)
    obtain ⟨n2, n3⟩ := u
    try dsimp only at hw
    obtain ⟨bn3, xr1⟩ := hw
    try clear hw
    have w_65 := xr1
    clear xr1
    obtain ⟨hP1, hK1, hD1⟩ := hB
    replace hP1 := va_P.he ht hP1
    obtain ⟨hP, hD⟩ := va_join (wr := []) (w1 := (wz_86 h0 aw ac h0_sound h0_function ty n3 bo bg bh bd h0_depth ty cty gty bo cbo gbo bg cbg gbg bh cbh gbh bd cbd n2)) hP hD [0, 1, 2, 3, 4, 5] [] rfl rfl (by decide) (by decide) hk1 hFc hP1 hD1
    clear hPc hDc hKc hFc hz1 hk1 hP1 hK1 hD1
    rename Heap => H
    have hP : va_P (dC, dI) cls (wz_86 h0 aw ac h0_sound h0_function ty n3 bo bg bh bd h0_depth ty cty gty bo cbo gbo bg cbg gbg bh cbh gbh bd cbd n2) H := hP
    have hD : va_D A (wz_86 h0 aw ac h0_sound h0_function ty n3 bo bg bh bd h0_depth ty cty gty bo cbo gbo bg cbg gbg bh cbh gbh bd cbd n2) := hD
    refine lv_goto (tgt := 186) hx hb d_VA_checkBlocks_68 (by decide) ?_
    have hP9 := hP.sb (wq := (wz_86 h0 aw ac h0_sound h0_function ty n3 bo bg bh bd h0_depth ty cty gty bo cbo gbo bg cbg gbg bh cbh gbh bd cbd n2)) [0, 1, 2, 3, 4, 5] rfl
    have hD9 := hD.sb (wq := (wz_86 h0 aw ac h0_sound h0_function ty n3 bo bg bh bd h0_depth ty cty gty bo cbo gbo bg cbg gbg bh cbh gbh bd cbd n2)) [0, 1, 2, 3, 4, 5] (by decide) rfl
    exact W.vret hx hb hr (fun t ht hW => ⟨⟨(n2, gbg, gbh, gbo, gty, h0_depth, n3, h0_sound), rfl, ⟨b_gbh, b_gty, b_h0_depth, bn3, b_h0_sound, ⟨fun z => by have := (w_65 z).1; (first | (apply Int.le_antisymm <;> omega) | omega), bk_0 (by (first | (apply Int.le_antisymm <;> omega) | omega)) th0_sound (fun z => (w_65 z).2)⟩⟩, va_P.he ht.symm hP9, va_K.moved hW.alike hK, hD9⟩, hS.F ht⟩) hS.2.2 d_VA_checkBlocks_186
  · skip
    by_cases g1_71 : p0.toInt = 1
    · have ho1 : tab_off 179 0 11 #[63, 70, 179, 179, 73, 88, 179, 179, 179, 179, 179, 109] p0.toInt = 70 := by rw [g1_71]; rfl
      refine lv_tab (tgt := 71) hx hb d_VA_checkBlocks_1 (by decide) ho1 (by decide) ?_
      clear ho1
      refine lv_goto (tgt := 186) hx hb d_VA_checkBlocks_71 (by decide) ?_
      have hP9 := hP.sb (wq := (wz_86 h0 aw ac h0_sound h0_function ty h0_height bo bg bh bd h0_depth ty cty gty bo cbo gbo bg cbg gbg bh cbh gbh bd cbd gbd)) [0, 1, 2, 3, 4, 5] rfl
      have hD9 := hD.sb (wq := (wz_86 h0 aw ac h0_sound h0_function ty h0_height bo bg bh bd h0_depth ty cty gty bo cbo gbo bg cbg gbg bh cbh gbh bd cbd gbd)) [0, 1, 2, 3, 4, 5] (by decide) rfl
      exact W.vret hx hb hr (fun t ht hW => ⟨⟨(gbd, gbg, gbh, gbo, gty, h0_depth, h0_height, h0_sound), rfl, ⟨b_gbh, b_gty, b_h0_depth, b_h0_height, b_h0_sound, ⟨fun _ => by (first | (apply Int.le_antisymm <;> omega) | omega), bk_1 (by (first | (apply Int.le_antisymm <;> omega) | omega)) th0_sound hv⟩⟩, va_P.he ht.symm hP9, va_K.moved hW.alike hK, hD9⟩, hS.F ht⟩) hS.2.2 d_VA_checkBlocks_186
    · skip
      by_cases g1_74 : p0.toInt = 4
      · have ho1 : tab_off 179 0 11 #[63, 70, 179, 179, 73, 88, 179, 179, 179, 179, 179, 109] p0.toInt = 73 := by rw [g1_74]; rfl
        refine lv_tab (tgt := 74) hx hb d_VA_checkBlocks_1 (by decide) ho1 (by decide) ?_
        clear ho1
        refine lv_aload_n hx hb d_VA_checkBlocks_74 rfl (lv_at hl 0 rfl) ?_
        refine lv_bipush (v := 127) hx hb d_VA_checkBlocks_75 (by decide) ?_
        have hPc := hP.sb (wq := (wz_86 h0 aw ac h0_sound h0_function ty h0_height bo bg bh bd h0_depth ty cty gty bo cbo gbo bg cbg gbg bh cbh gbh bd cbd gbd)) [0, 1, 2, 3, 4, 5] rfl
        have hDc := hD.sb (wq := (wz_86 h0 aw ac h0_sound h0_function ty h0_height bo bg bh bd h0_depth ty cty gty bo cbo gbo bg cbg gbg bh cbh gbh bd cbd gbd)) [0, 1, 2, 3, 4, 5] (by decide) rfl
        have hKc := hK.sb (tyq := [(cty, .int), (cbo, .int), (cbg, .int), (cbh, .int), (cbd, .boolean)]) [0, 1, 2, 3, 4] rfl
        have hFc := va_free (wc := (wz_86 h0 aw ac h0_sound h0_function ty h0_height bo bg bh bd h0_depth ty cty gty bo cbo gbo bg cbg gbg bh cbh gbh bd cbd gbd)) hD hS hA [0, 1, 2, 3, 4, 5] rfl
        refine va_callv (va_runV (As := [.int 127]) (rest := []) ⟨hx, hb, hml, hown, hts⟩ (c_VA_popy l dC dI H.size h0 aw ac ty bo bg bh bd cty cbo cbg cbh cbd h0_sound h0_function h0_height h0_depth gty gbo gbg gbh gbd S9 B9 (b_h0_sound) (b_h0_height) (b_h0_depth) (b_gty) (b_gbh) 127 (hv) ((fun _ => by (first | (apply Int.le_antisymm <;> omega) | omega)))) (cwV 1 hts (gV kM_VA_161 kV_VA_pop kS_VA_pop kI_VA kC_VA_pop) rfl rfl rfl (by decide +kernel) ⟨Nat.le_of_ble_eq_true rfl, Nat.le_of_ble_eq_true rfl⟩) ⟨fun a U g mk z => by obtain ⟨z0, z1, zP, zK, zD⟩ := z; exact ⟨z0, z1, zP, va_K.moved (u := U) (U := U.calling g mk a) (Vm.Alike.refl U.vm) zK, zD⟩, va_recv hKc hPc (ci := 9) (q0 := 0) rfl rfl, fun U hU hW => ⟨rfl, by rw [hU], va_P.he hU.symm hPc, va_K.moved hW.alike hKc, hDc.weaken (fun _ _ _ _ => trivial)⟩⟩ rfl rfl hl.1 rfl (lv_room (Nat.le_of_ble_eq_true rfl)) d_VA_checkBlocks_77 ⟨(Nat.zero_le _), (Nat.zero_le _)⟩) hS (fun q _ h => hFc q h) hFc (fun u t H1 locs ht hvm hw hB hz1 hk1 hS => ?_)
        obtain ⟨n5, n6⟩ := u
        try dsimp only at hw
        obtain ⟨bn5, bn6, xr4⟩ := hw
        try clear hw
        have tn6 := b01 bn6
        rw [show (127 : Int32).toInt.toNat = 127 from by decide] at xr4
        have hl77 := xr4.1
        obtain ⟨S_77, q_77, w_77⟩ := vwz_1 xr4.2
        have ql77 : n6.toInt = 1 → h0_sound.toInt = 1 := by rcases q_77 with z2 | z2; (exact fun _ => z2.2.1); (exact fun z => absurd z2.1 (by (first | (apply Int.le_antisymm <;> omega) | omega)))
        clear xr4
        obtain ⟨hP1, hK1, hD1⟩ := hB
        replace hP1 := va_P.he ht hP1
        obtain ⟨hP, hD⟩ := va_join (wr := []) (w1 := (wz_86 h0 aw ac n6 h0_function ty n5 bo bg bh bd h0_depth ty cty gty bo cbo gbo bg cbg gbg bh cbh gbh bd cbd gbd)) hP hD [0, 1, 2, 3, 4, 5] [] rfl rfl (by decide) (by decide) hk1 hFc hP1 hD1
        clear hPc hDc hKc hFc hz1 hk1 hP1 hK1 hD1
        rename Heap => H
        have hP : va_P (dC, dI) cls (wz_86 h0 aw ac n6 h0_function ty n5 bo bg bh bd h0_depth ty cty gty bo cbo gbo bg cbg gbg bh cbh gbh bd cbd gbd) H := hP
        have hD : va_D A (wz_86 h0 aw ac n6 h0_function ty n5 bo bg bh bd h0_depth ty cty gty bo cbo gbo bg cbg gbg bh cbh gbh bd cbd gbd) := hD
        refine lv_aload_n hx hb d_VA_checkBlocks_80 rfl (lv_at hl 0 rfl) ?_
        refine lv_iload_n hx hb d_VA_checkBlocks_81 rfl (lv_at hl 1 rfl) ?_
        refine lv_iload_n hx hb d_VA_checkBlocks_82 rfl (lv_at hl 2 rfl) ?_
        have hPc := hP.sb (wq := (wz_86 h0 aw ac n6 h0_function ty n5 bo bg bh bd h0_depth ty cty gty bo cbo gbo bg cbg gbg bh cbh gbh bd cbd gbd)) [0, 1, 2, 3, 4, 5] rfl
        have hDc := hD.sb (wq := (wz_86 h0 aw ac n6 h0_function ty n5 bo bg bh bd h0_depth ty cty gty bo cbo gbo bg cbg gbg bh cbh gbh bd cbd gbd)) [0, 1, 2, 3, 4, 5] (by decide) rfl
        have hKc := hK.sb (tyq := [(cty, .int), (cbo, .int), (cbg, .int), (cbh, .int), (cbd, .boolean)]) [0, 1, 2, 3, 4] rfl
        have hFc := va_free (wc := (wz_86 h0 aw ac n6 h0_function ty n5 bo bg bh bd h0_depth ty cty gty bo cbo gbo bg cbg gbg bh cbh gbh bd cbd gbd)) hD hS hA [0, 1, 2, 3, 4, 5] rfl
        refine va_callv (va_runV (As := [.int p0, .int p1]) (rest := []) ⟨hx, hb, hml, hown, hts⟩ (c_VA_openy l dC dI H.size h0 aw ac ty bo bg bh bd cty cbo cbg cbh cbd n6 h0_function n5 h0_depth gty gbo gbg gbh gbd S_77 B9 (bn6) (bn5) (b_h0_depth) (b_gty) (b_gbh) p0 p1 (w_77) ((fun z => ⟨by (first | (apply Int.le_antisymm <;> omega) | omega), by have := hty (by (first | (apply Int.le_antisymm <;> omega) | omega)); (first | (apply Int.le_antisymm <;> omega) | omega)⟩)) ((fun z => hd2 (ql77 z) (by (first | (apply Int.le_antisymm <;> omega) | omega))))) (cwV 2 hts (gV kM_VA_124 kV_VA_open kS_VA_open kI_VA kC_VA_open) rfl rfl rfl (by decide +kernel) ⟨Nat.le_of_ble_eq_true rfl, Nat.le_of_ble_eq_true rfl⟩) ⟨fun a U g mk z => by obtain ⟨z0, z1, zP, zK, zD⟩ := z; exact ⟨z0, z1, zP, va_K.moved (u := U) (U := U.calling g mk a) (Vm.Alike.refl U.vm) zK, zD⟩, va_recv hKc hPc (ci := 9) (q0 := 0) rfl rfl, fun U hU hW => ⟨rfl, by rw [hU], va_P.he hU.symm hPc, va_K.moved hW.alike hKc, hDc.weaken (fun _ _ _ _ => trivial)⟩⟩ rfl rfl hl.1 rfl (lv_room (Nat.le_of_ble_eq_true rfl)) d_VA_checkBlocks_83 ⟨(Nat.zero_le _), (Nat.zero_le _)⟩) hS (fun q _ h => hFc q h) hFc (fun u t H1 locs ht hvm hw hB hz1 hk1 hS => ?_)
        obtain ⟨n8, n9, n10, n11, n12⟩ := u
        try dsimp only at hw
        obtain ⟨bn10, bn12, xr7⟩ := hw
        try clear hw
        have w_83 := xr7.2
        obtain ⟨hP1, hK1, hD1⟩ := hB
        replace hP1 := va_P.he ht hP1
        obtain ⟨hP, hD⟩ := va_join (wr := []) (w1 := (wz_86 h0 aw ac n6 h0_function ty n5 bo bg bh bd n12 ty cty gty bo cbo n11 bg cbg n9 bh cbh n10 bd cbd n8)) hP hD [0, 1, 2, 3, 4, 5] [] rfl rfl (by decide) (by decide) hk1 hFc hP1 hD1
        clear hPc hDc hKc hFc hz1 hk1 hP1 hK1 hD1
        rename Heap => H
        have hP : va_P (dC, dI) cls (wz_86 h0 aw ac n6 h0_function ty n5 bo bg bh bd n12 ty cty gty bo cbo n11 bg cbg n9 bh cbh n10 bd cbd n8) H := hP
        have hD : va_D A (wz_86 h0 aw ac n6 h0_function ty n5 bo bg bh bd n12 ty cty gty bo cbo n11 bg cbg n9 bh cbh n10 bd cbd n8) := hD
        refine lv_goto (tgt := 186) hx hb d_VA_checkBlocks_86 (by decide) ?_
        have hP9 := hP.sb (wq := (wz_86 h0 aw ac n6 h0_function ty n5 bo bg bh bd n12 ty cty gty bo cbo n11 bg cbg n9 bh cbh n10 bd cbd n8)) [0, 1, 2, 3, 4, 5] rfl
        have hD9 := hD.sb (wq := (wz_86 h0 aw ac n6 h0_function ty n5 bo bg bh bd n12 ty cty gty bo cbo n11 bg cbg n9 bh cbh n10 bd cbd n8)) [0, 1, 2, 3, 4, 5] (by decide) rfl
        exact W.vret hx hb hr (fun t ht hW => ⟨⟨(n8, n9, n10, n11, gty, n12, n5, n6), rfl, ⟨bn10, b_gty, bn12, bn5, bn6, ⟨fun _ => by (first | (apply Int.le_antisymm <;> omega) | omega), bk_4 (w := p1) (by (first | (apply Int.le_antisymm <;> omega) | omega)) (hty (by (first | (apply Int.le_antisymm <;> omega) | omega))) q_77 w_83⟩⟩, va_P.he ht.symm hP9, va_K.moved hW.alike hK, hD9⟩, hS.F ht⟩) hS.2.2 d_VA_checkBlocks_186
      · skip
        by_cases g1_89 : p0.toInt = 5
        · have ho1 : tab_off 179 0 11 #[63, 70, 179, 179, 73, 88, 179, 179, 179, 179, 179, 109] p0.toInt = 88 := by rw [g1_89]; rfl
          refine lv_tab (tgt := 89) hx hb d_VA_checkBlocks_1 (by decide) ho1 (by decide) ?_
          clear ho1
          refine lv_aload_n hx hb d_VA_checkBlocks_89 rfl (lv_at hl 0 rfl) ?_
          have hPc := hP.sb (wq := (wz_86 h0 aw ac h0_sound h0_function ty h0_height bo bg bh bd h0_depth ty cty gty bo cbo gbo bg cbg gbg bh cbh gbh bd cbd gbd)) [0, 1, 2, 3, 4, 5] rfl
          have hDc := hD.sb (wq := (wz_86 h0 aw ac h0_sound h0_function ty h0_height bo bg bh bd h0_depth ty cty gty bo cbo gbo bg cbg gbg bh cbh gbh bd cbd gbd)) [0, 1, 2, 3, 4, 5] (by decide) rfl
          have hKc := hK.sb (tyq := [(cty, .int), (cbo, .int), (cbg, .int), (cbh, .int), (cbd, .boolean)]) [0, 1, 2, 3, 4] rfl
          have hFc := va_free (wc := (wz_86 h0 aw ac h0_sound h0_function ty h0_height bo bg bh bd h0_depth ty cty gty bo cbo gbo bg cbg gbg bh cbh gbh bd cbd gbd)) hD hS hA [0, 1, 2, 3, 4, 5] rfl
          refine va_callv (va_runV (As := []) (rest := []) ⟨hx, hb, hml, hown, hts⟩ (c_VA_closey l dC dI H.size h0 aw ac ty bo bg bh bd cty cbo cbg cbh cbd h0_sound h0_function h0_height h0_depth gty gbo gbg gbh gbd S9 B9 (b_h0_sound) (b_h0_height) (b_h0_depth) (b_gty) (b_gbh) (hv) (hd1)) (cwV 0 hts (gV kM_VA_164 kV_VA_close kS_VA_close kI_VA kC_VA_close) rfl rfl rfl (by decide +kernel) ⟨Nat.le_of_ble_eq_true rfl, Nat.le_of_ble_eq_true rfl⟩) ⟨fun a U g mk z => by obtain ⟨z0, z1, zP, zK, zD⟩ := z; exact ⟨z0, z1, zP, va_K.moved (u := U) (U := U.calling g mk a) (Vm.Alike.refl U.vm) zK, zD⟩, va_recv hKc hPc (ci := 9) (q0 := 0) rfl rfl, fun U hU hW => ⟨rfl, by rw [hU], va_P.he hU.symm hPc, va_K.moved hW.alike hKc, hDc.weaken (fun _ _ _ _ => trivial)⟩⟩ rfl rfl hl.1 rfl (lv_room (Nat.le_of_ble_eq_true rfl)) d_VA_checkBlocks_90 ⟨(Nat.zero_le _), (Nat.zero_le _)⟩) hS (fun q _ h => hFc q h) hFc (fun u t H1 locs ht hvm hw hB hz1 hk1 hS => ?_)
          obtain ⟨n14, n15, n16⟩ := u
          try dsimp only at hw
          obtain ⟨bn14, bn15, bn16, xr13⟩ := hw
          try clear hw
          have tn16 := b01 bn16
          have hl90 := xr13.1
          have hd90 := xr13.2.1
          obtain ⟨S_90, b_90, rr_90, q_90, w_90⟩ := clz_1 xr13.2.2
          have ql90 : n16.toInt = 1 → h0_sound.toInt = 1 := by rcases q_90 with z2 | z2; (exact fun _ => z2.2.1); (exact fun z => absurd z2.1 (by (first | (apply Int.le_antisymm <;> omega) | omega)))
          have crd90 := cl_rd hv q_90 w_90 (by (first | (apply Int.le_antisymm <;> omega) | omega))
          clear xr13
          obtain ⟨hP1, hK1, hD1⟩ := hB
          replace hP1 := va_P.he ht hP1
          obtain ⟨hP, hD⟩ := va_join (wr := []) (w1 := (wz_86 h0 aw ac n16 h0_function ty n15 bo bg bh bd n14 ty cty gty bo cbo gbo bg cbg gbg bh cbh gbh bd cbd gbd)) hP hD [0, 1, 2, 3, 4, 5] [] rfl rfl (by decide) (by decide) hk1 hFc hP1 hD1
          clear hPc hDc hKc hFc hz1 hk1 hP1 hK1 hD1
          rename Heap => H
          have hP : va_P (dC, dI) cls (wz_86 h0 aw ac n16 h0_function ty n15 bo bg bh bd n14 ty cty gty bo cbo gbo bg cbg gbg bh cbh gbh bd cbd gbd) H := hP
          have hD : va_D A (wz_86 h0 aw ac n16 h0_function ty n15 bo bg bh bd n14 ty cty gty bo cbo gbo bg cbg gbg bh cbh gbh bd cbd gbd) := hD
          refine lv_aload_n hx hb d_VA_checkBlocks_93 rfl (lv_at hl 0 rfl) ?_
          refine lv_iload_n hx hb d_VA_checkBlocks_94 rfl (lv_at hl 1 rfl) ?_
          refine lv_aload_n hx hb d_VA_checkBlocks_95 rfl (lv_at hl 0 rfl) ?_
          refine va_get (D := (dC, dI)) (ci := 9) (v := .ref bg) (C := R_VA) (T := F_VA) (N := 11) hx hb hts i_VA hown hK hP 0 rfl rfl 7 (by decide) (hts _ kF_VA_18) (fun _ h9 => h9) rfl d_VA_checkBlocks_96 ?_
          refine lv_aload_n hx hb d_VA_checkBlocks_99 rfl (lv_at hl 0 rfl) ?_
          refine va_get (D := (dC, dI)) (ci := 9) (v := .int n14) (C := R_VA) (T := F_VA) (N := 11) hx hb hts i_VA hown hK hP 0 rfl rfl 10 (by decide) (hts _ kF_VA_117) (fun _ h9 => h9) rfl d_VA_checkBlocks_100 ?_
          have g103 : vp_in n14 101 := vp_in_iff.mpr ⟨by (first | (apply Int.le_antisymm <;> omega) | omega), by (first | (apply Int.le_antisymm <;> omega) | omega)⟩
          refine va_iald hx hb hK hP 3 2 rfl rfl g103 d_VA_checkBlocks_103 ?_
          refine lv_topi (fun x17 ex17 => ?_)
          have u103 : x17.toInt = (gbg n14.toNatClampNeg).toInt := by rw [ex17]
          have hPc := hP.sb (wq := (wz_86 h0 aw ac n16 h0_function ty n15 bo bg bh bd n14 ty cty gty bo cbo gbo bg cbg gbg bh cbh gbh bd cbd gbd)) [0, 1, 2, 3, 4, 5] rfl
          have hDc := hD.sb (wq := (wz_86 h0 aw ac n16 h0_function ty n15 bo bg bh bd n14 ty cty gty bo cbo gbo bg cbg gbg bh cbh gbh bd cbd gbd)) [0, 1, 2, 3, 4, 5] (by decide) rfl
          have hKc := hK.sb (tyq := [(cty, .int), (cbo, .int), (cbg, .int), (cbh, .int), (cbd, .boolean)]) [0, 1, 2, 3, 4] rfl
          have hFc := va_free (wc := (wz_86 h0 aw ac n16 h0_function ty n15 bo bg bh bd n14 ty cty gty bo cbo gbo bg cbg gbg bh cbh gbh bd cbd gbd)) hD hS hA [0, 1, 2, 3, 4, 5] rfl
          refine va_callv (va_runV (As := [.int p0, .int x17]) (rest := []) ⟨hx, hb, hml, hown, hts⟩ (c_VA_openy l dC dI H.size h0 aw ac ty bo bg bh bd cty cbo cbg cbh cbd n16 h0_function n15 n14 gty gbo gbg gbh gbd S_90 rr_90 (bn16) (bn15) (bn14) (b_gty) (b_gbh) p0 x17 (w_90) ((fun z => ⟨by (first | (apply Int.le_antisymm <;> omega) | omega), by have := crd90 z; (first | (apply Int.le_antisymm <;> omega) | omega)⟩)) ((fun z => by (first | (apply Int.le_antisymm <;> omega) | omega)))) (cwV 2 hts (gV kM_VA_124 kV_VA_open kS_VA_open kI_VA kC_VA_open) rfl rfl rfl (by decide +kernel) ⟨Nat.le_of_ble_eq_true rfl, Nat.le_of_ble_eq_true rfl⟩) ⟨fun a U g mk z => by obtain ⟨z0, z1, zP, zK, zD⟩ := z; exact ⟨z0, z1, zP, va_K.moved (u := U) (U := U.calling g mk a) (Vm.Alike.refl U.vm) zK, zD⟩, va_recv hKc hPc (ci := 9) (q0 := 0) rfl rfl, fun U hU hW => ⟨rfl, by rw [hU], va_P.he hU.symm hPc, va_K.moved hW.alike hKc, hDc.weaken (fun _ _ _ _ => trivial)⟩⟩ rfl rfl hl.1 rfl (lv_room (Nat.le_of_ble_eq_true rfl)) d_VA_checkBlocks_104 ⟨(Nat.zero_le _), (Nat.zero_le _)⟩) hS (fun q _ h => hFc q h) hFc (fun u t H1 locs ht hvm hw hB hz1 hk1 hS => ?_)
          obtain ⟨n19, n20, n21, n22, n23⟩ := u
          try dsimp only at hw
          obtain ⟨bn21, bn23, xr18⟩ := hw
          try clear hw
          have w_104 := xr18.2
          obtain ⟨hP1, hK1, hD1⟩ := hB
          replace hP1 := va_P.he ht hP1
          obtain ⟨hP, hD⟩ := va_join (wr := []) (w1 := (wz_86 h0 aw ac n16 h0_function ty n15 bo bg bh bd n23 ty cty gty bo cbo n22 bg cbg n20 bh cbh n21 bd cbd n19)) hP hD [0, 1, 2, 3, 4, 5] [] rfl rfl (by decide) (by decide) hk1 hFc hP1 hD1
          clear hPc hDc hKc hFc hz1 hk1 hP1 hK1 hD1
          rename Heap => H
          have hP : va_P (dC, dI) cls (wz_86 h0 aw ac n16 h0_function ty n15 bo bg bh bd n23 ty cty gty bo cbo n22 bg cbg n20 bh cbh n21 bd cbd n19) H := hP
          have hD : va_D A (wz_86 h0 aw ac n16 h0_function ty n15 bo bg bh bd n23 ty cty gty bo cbo n22 bg cbg n20 bh cbh n21 bd cbd n19) := hD
          refine lv_goto (tgt := 186) hx hb d_VA_checkBlocks_107 (by decide) ?_
          have hP9 := hP.sb (wq := (wz_86 h0 aw ac n16 h0_function ty n15 bo bg bh bd n23 ty cty gty bo cbo n22 bg cbg n20 bh cbh n21 bd cbd n19)) [0, 1, 2, 3, 4, 5] rfl
          have hD9 := hD.sb (wq := (wz_86 h0 aw ac n16 h0_function ty n15 bo bg bh bd n23 ty cty gty bo cbo n22 bg cbg n20 bh cbh n21 bd cbd n19)) [0, 1, 2, 3, 4, 5] (by decide) rfl
          exact W.vret hx hb hr (fun t ht hW => ⟨⟨(n19, n20, n21, n22, gty, n23, n15, n16), rfl, ⟨bn21, b_gty, bn23, bn15, bn16, ⟨fun _ => by (first | (apply Int.le_antisymm <;> omega) | omega), bk_5 (w := x17) (by (first | (apply Int.le_antisymm <;> omega) | omega)) (fun z => by have := crd90 z; (first | (apply Int.le_antisymm <;> omega) | omega)) q_90 w_104⟩⟩, va_P.he ht.symm hP9, va_K.moved hW.alike hK, hD9⟩, hS.F ht⟩) hS.2.2 d_VA_checkBlocks_186
        · skip
          by_cases g1_110 : p0.toInt = 11
          · have ho1 : tab_off 179 0 11 #[63, 70, 179, 179, 73, 88, 179, 179, 179, 179, 179, 109] p0.toInt = 109 := by rw [g1_110]; rfl
            refine lv_tab (tgt := 110) hx hb d_VA_checkBlocks_1 (by decide) ho1 (by decide) ?_
            clear ho1
            refine lv_aload_n hx hb d_VA_checkBlocks_110 rfl (lv_at hl 0 rfl) ?_
            have hPc := hP.sb (wq := (wz_86 h0 aw ac h0_sound h0_function ty h0_height bo bg bh bd h0_depth ty cty gty bo cbo gbo bg cbg gbg bh cbh gbh bd cbd gbd)) [0, 1, 2, 3, 4, 5] rfl
            have hDc := hD.sb (wq := (wz_86 h0 aw ac h0_sound h0_function ty h0_height bo bg bh bd h0_depth ty cty gty bo cbo gbo bg cbg gbg bh cbh gbh bd cbd gbd)) [0, 1, 2, 3, 4, 5] (by decide) rfl
            have hKc := hK.sb (tyq := [(cty, .int), (cbo, .int), (cbg, .int), (cbh, .int), (cbd, .boolean)]) [0, 1, 2, 3, 4] rfl
            have hFc := va_free (wc := (wz_86 h0 aw ac h0_sound h0_function ty h0_height bo bg bh bd h0_depth ty cty gty bo cbo gbo bg cbg gbg bh cbh gbh bd cbd gbd)) hD hS hA [0, 1, 2, 3, 4, 5] rfl
            refine va_callv (va_runV (As := []) (rest := []) ⟨hx, hb, hml, hown, hts⟩ (c_VA_closey l dC dI H.size h0 aw ac ty bo bg bh bd cty cbo cbg cbh cbd h0_sound h0_function h0_height h0_depth gty gbo gbg gbh gbd S9 B9 (b_h0_sound) (b_h0_height) (b_h0_depth) (b_gty) (b_gbh) (hv) (hd1)) (cwV 0 hts (gV kM_VA_164 kV_VA_close kS_VA_close kI_VA kC_VA_close) rfl rfl rfl (by decide +kernel) ⟨Nat.le_of_ble_eq_true rfl, Nat.le_of_ble_eq_true rfl⟩) ⟨fun a U g mk z => by obtain ⟨z0, z1, zP, zK, zD⟩ := z; exact ⟨z0, z1, zP, va_K.moved (u := U) (U := U.calling g mk a) (Vm.Alike.refl U.vm) zK, zD⟩, va_recv hKc hPc (ci := 9) (q0 := 0) rfl rfl, fun U hU hW => ⟨rfl, by rw [hU], va_P.he hU.symm hPc, va_K.moved hW.alike hKc, hDc.weaken (fun _ _ _ _ => trivial)⟩⟩ rfl rfl hl.1 rfl (lv_room (Nat.le_of_ble_eq_true rfl)) d_VA_checkBlocks_111 ⟨(Nat.zero_le _), (Nat.zero_le _)⟩) hS (fun q _ h => hFc q h) hFc (fun u t H1 locs ht hvm hw hB hz1 hk1 hS => ?_)
            obtain ⟨n25, n26, n27⟩ := u
            try dsimp only at hw
            obtain ⟨bn25, bn26, bn27, xr24⟩ := hw
            try clear hw
            have tn27 := b01 bn27
            have hl111 := xr24.1
            have hd111 := xr24.2.1
            obtain ⟨S_111, b_111, rr_111, q_111, w_111⟩ := clz_1 xr24.2.2
            have ql111 : n27.toInt = 1 → h0_sound.toInt = 1 := by rcases q_111 with z2 | z2; (exact fun _ => z2.2.1); (exact fun z => absurd z2.1 (by (first | (apply Int.le_antisymm <;> omega) | omega)))
            have crd111 := cl_rd hv q_111 w_111 (by (first | (apply Int.le_antisymm <;> omega) | omega))
            clear xr24
            obtain ⟨hP1, hK1, hD1⟩ := hB
            replace hP1 := va_P.he ht hP1
            obtain ⟨hP, hD⟩ := va_join (wr := []) (w1 := (wz_86 h0 aw ac n27 h0_function ty n26 bo bg bh bd n25 ty cty gty bo cbo gbo bg cbg gbg bh cbh gbh bd cbd gbd)) hP hD [0, 1, 2, 3, 4, 5] [] rfl rfl (by decide) (by decide) hk1 hFc hP1 hD1
            clear hPc hDc hKc hFc hz1 hk1 hP1 hK1 hD1
            rename Heap => H
            have hP : va_P (dC, dI) cls (wz_86 h0 aw ac n27 h0_function ty n26 bo bg bh bd n25 ty cty gty bo cbo gbo bg cbg gbg bh cbh gbh bd cbd gbd) H := hP
            have hD : va_D A (wz_86 h0 aw ac n27 h0_function ty n26 bo bg bh bd n25 ty cty gty bo cbo gbo bg cbg gbg bh cbh gbh bd cbd gbd) := hD
            refine lv_aload_n hx hb d_VA_checkBlocks_114 rfl (lv_at hl 0 rfl) ?_
            refine lv_aload_n hx hb d_VA_checkBlocks_115 rfl (lv_at hl 0 rfl) ?_
            refine va_get (D := (dC, dI)) (ci := 9) (v := .int n27) (C := R_VA) (T := F_VA) (N := 11) hx hb hts i_VA hown hK hP 0 rfl rfl 2 (by decide) (hts _ kF_VA_39) (fun _ h9 => h9) rfl d_VA_checkBlocks_116 ?_
            refine w_cut (pc2 := 154) (σ := Int32) (fun u H locs ls => match u with | j154_s0 => (j154_s0 = 0 ∨ j154_s0 = 1) ∧ ((j154_s0.toInt = 1 ∧ n27.toInt = 1 ∧ ((gbo n25.toNatClampNeg).toInt ≠ 4 ∨ (gbg n25.toNatClampNeg).toInt = 64)) ∨ (j154_s0.toInt = 0 ∧ ¬ (n27.toInt = 1 ∧ ((gbo n25.toNatClampNeg).toInt ≠ 4 ∨ (gbg n25.toNatClampNeg).toInt = 64)))) ∧ va_P (dC, dI) cls (wz_86 h0 aw ac n27 h0_function ty n26 bo bg bh bd n25 ty cty gty bo cbo gbo bg cbg gbg bh cbh gbh bd cbd gbd) H ∧ va_D A (wz_86 h0 aw ac n27 h0_function ty n26 bo bg bh bd n25 ty cty gty bo cbo gbo bg cbg gbg bh cbh gbh bd cbd gbd) ∧ va_S A s.heap H locs ∧ lv_has ls 3 [(0, .ref h0)]) (fun u => match u with | j154_s0 => [.int j154_s0, .ref h0]) ?_ (fun jn154 => ?_)
            · intro u H locs ls hI
              obtain ⟨j154_s0, rfl⟩ : ∃ z, z = u := ⟨_, rfl⟩
              obtain ⟨b_j154_s0, y154, hP, hD, hS, hl⟩ := hI
              have tj154_s0 := b01 b_j154_s0
              refine va_put (D := (dC, dI)) (ci := 9) (v := .int j154_s0) (ty := .boolean) (C := R_VA) (T := F_VA) (N := 11) hx hb hts i_VA t_VA t_VA_ok n_VA hown hK hP hD hS 0 rfl rfl 2 (by decide) (hts _ kF_VA_39) (fun _ h9 => h9) rfl (by decide +kernel) (zn01 (b_j154_s0)) (fz01 (b_j154_s0)) (Nat.le_of_ble_eq_true rfl) d_VA_checkBlocks_154 (fun H locs hP hD hS => ?_)
              refine lv_aload_n hx hb d_VA_checkBlocks_157 rfl (lv_at hl 0 rfl) ?_
              refine va_get (D := (dC, dI)) (ci := 9) (v := .int n25) (C := R_VA) (T := F_VA) (N := 11) hx hb hts i_VA hown hK hP 0 rfl rfl 10 (by decide) (hts _ kF_VA_117) (fun _ h9 => h9) rfl d_VA_checkBlocks_158 ?_
              refine lv_if_le (tgt := 186) hx hb d_VA_checkBlocks_161 (by decide) (fun c161 => ?_) (fun c161 => ?_)
              · have q161 := leI c161
                have hP9 := hP.sb (wq := (wz_86 h0 aw ac j154_s0 h0_function ty n26 bo bg bh bd n25 ty cty gty bo cbo gbo bg cbg gbg bh cbh gbh bd cbd gbd)) [0, 1, 2, 3, 4, 5] rfl
                have hD9 := hD.sb (wq := (wz_86 h0 aw ac j154_s0 h0_function ty n26 bo bg bh bd n25 ty cty gty bo cbo gbo bg cbg gbg bh cbh gbh bd cbd gbd)) [0, 1, 2, 3, 4, 5] (by decide) rfl
                exact W.vret hx hb hr (fun t ht hW => ⟨⟨(gbd, gbg, gbh, gbo, gty, n25, n26, j154_s0), rfl, ⟨b_gbh, b_gty, bn25, bn26, b_j154_s0, ⟨fun _ => by (first | (apply Int.le_antisymm <;> omega) | omega), bk_e (by (first | (apply Int.le_antisymm <;> omega) | omega)) q_111 (by rcases y154 with ⟨z1, z2, z3⟩ | ⟨z1, z2⟩; (have := crd111 z2; exact Or.inl ⟨z1, z2, by (first | (apply Int.le_antisymm <;> omega) | omega)⟩); (exact Or.inr ⟨z1, fun z => z2 ⟨z.1, by have := crd111 z.1; (first | (apply Int.le_antisymm <;> omega) | omega)⟩⟩)) (fun z => by have z9 : n27.toInt = 1 := (by (first | (apply Int.le_antisymm <;> omega) | omega)); have q9 := (crd111 z9).2.2; rw [if_pos (List.eq_nil_of_length_eq_zero (by (first | (apply Int.le_antisymm <;> omega) | omega)))]; exact w_111 z9)⟩⟩, va_P.he ht.symm hP9, va_K.moved hW.alike hK, hD9⟩, hS.F ht⟩) hS.2.2 d_VA_checkBlocks_186
              · have q161 := nleI c161
                refine lv_aload_n hx hb d_VA_checkBlocks_164 rfl (lv_at hl 0 rfl) ?_
                refine lv_aload_n hx hb d_VA_checkBlocks_165 rfl (lv_at hl 0 rfl) ?_
                refine va_get (D := (dC, dI)) (ci := 9) (v := .ref bg) (C := R_VA) (T := F_VA) (N := 11) hx hb hts i_VA hown hK hP 0 rfl rfl 7 (by decide) (hts _ kF_VA_18) (fun _ h9 => h9) rfl d_VA_checkBlocks_166 ?_
                refine lv_aload_n hx hb d_VA_checkBlocks_169 rfl (lv_at hl 0 rfl) ?_
                refine va_get (D := (dC, dI)) (ci := 9) (v := .int n25) (C := R_VA) (T := F_VA) (N := 11) hx hb hts i_VA hown hK hP 0 rfl rfl 10 (by decide) (hts _ kF_VA_117) (fun _ h9 => h9) rfl d_VA_checkBlocks_170 ?_
                have g173 : vp_in n25 101 := vp_in_iff.mpr ⟨by (first | (apply Int.le_antisymm <;> omega) | omega), by (first | (apply Int.le_antisymm <;> omega) | omega)⟩
                refine va_iald hx hb hK hP 3 2 rfl rfl g173 d_VA_checkBlocks_173 ?_
                refine lv_topi (fun x28 ex28 => ?_)
                have u173 : x28.toInt = (gbg n25.toNatClampNeg).toInt := by rw [ex28]
                have hPc := hP.sb (wq := (wz_86 h0 aw ac j154_s0 h0_function ty n26 bo bg bh bd n25 ty cty gty bo cbo gbo bg cbg gbg bh cbh gbh bd cbd gbd)) [0, 1, 2, 3, 4, 5] rfl
                have hDc := hD.sb (wq := (wz_86 h0 aw ac j154_s0 h0_function ty n26 bo bg bh bd n25 ty cty gty bo cbo gbo bg cbg gbg bh cbh gbh bd cbd gbd)) [0, 1, 2, 3, 4, 5] (by decide) rfl
                have hKc := hK.sb (tyq := [(cty, .int), (cbo, .int), (cbg, .int), (cbh, .int), (cbd, .boolean)]) [0, 1, 2, 3, 4] rfl
                have hFc := va_free (wc := (wz_86 h0 aw ac j154_s0 h0_function ty n26 bo bg bh bd n25 ty cty gty bo cbo gbo bg cbg gbg bh cbh gbh bd cbd gbd)) hD hS hA [0, 1, 2, 3, 4, 5] rfl
                refine va_callv (va_runV (As := [.int x28]) (rest := []) ⟨hx, hb, hml, hown, hts⟩ (c_VA_pushy l dC dI H.size h0 aw ac ty bo bg bh bd cty cbo cbg cbh cbd j154_s0 h0_function n26 n25 gty gbo gbg gbh gbd S_111 rr_111 (b_j154_s0) (bn26) (bn25) (b_gty) (b_gbh) x28 ((fun z => w_111 (by (first | (apply Int.le_antisymm <;> omega) | omega)))) ((fun z => by have := crd111 (by (first | (apply Int.le_antisymm <;> omega) | omega)); (first | (apply Int.le_antisymm <;> omega) | omega))) ((fun z => by have := h5 (ql111 (by (first | (apply Int.le_antisymm <;> omega) | omega))); (first | (apply Int.le_antisymm <;> omega) | omega)))) (cwV 1 hts (gV kM_VA_167 kV_VA_push kS_VA_push kI_VA kC_VA_push) rfl rfl rfl (by decide +kernel) ⟨Nat.le_of_ble_eq_true rfl, Nat.le_of_ble_eq_true rfl⟩) ⟨fun a U g mk z => by obtain ⟨z0, z1, zP, zK, zD⟩ := z; exact ⟨z0, z1, zP, va_K.moved (u := U) (U := U.calling g mk a) (Vm.Alike.refl U.vm) zK, zD⟩, va_recv hKc hPc (ci := 9) (q0 := 0) rfl rfl, fun U hU hW => ⟨rfl, by rw [hU], va_P.he hU.symm hPc, va_K.moved hW.alike hKc, hDc.weaken (fun _ _ _ _ => trivial)⟩⟩ rfl rfl hl.1 rfl (lv_room (Nat.le_of_ble_eq_true rfl)) d_VA_checkBlocks_174 ⟨(Nat.zero_le _), (Nat.zero_le _)⟩) hS (fun q _ h => hFc q h) hFc (fun u t H1 locs ht hvm hw hB hz1 hk1 hS => ?_)
                obtain ⟨n30, n31⟩ := u
                try dsimp only at hw
                obtain ⟨bn30, bn31, xr29⟩ := hw
                try clear hw
                have hl174 := xr29.1
                have w_174 := xr29.2
                clear xr29
                obtain ⟨hP1, hK1, hD1⟩ := hB
                replace hP1 := va_P.he ht hP1
                obtain ⟨hP, hD⟩ := va_join (wr := []) (w1 := (wz_86 h0 aw ac j154_s0 h0_function ty n31 bo bg bh bd n25 ty cty n30 bo cbo gbo bg cbg gbg bh cbh gbh bd cbd gbd)) hP hD [0, 1, 2, 3, 4, 5] [] rfl rfl (by decide) (by decide) hk1 hFc hP1 hD1
                clear hPc hDc hKc hFc hz1 hk1 hP1 hK1 hD1
                rename Heap => H
                have hP : va_P (dC, dI) cls (wz_86 h0 aw ac j154_s0 h0_function ty n31 bo bg bh bd n25 ty cty n30 bo cbo gbo bg cbg gbg bh cbh gbh bd cbd gbd) H := hP
                have hD : va_D A (wz_86 h0 aw ac j154_s0 h0_function ty n31 bo bg bh bd n25 ty cty n30 bo cbo gbo bg cbg gbg bh cbh gbh bd cbd gbd) := hD
                refine lv_goto (tgt := 186) hx hb d_VA_checkBlocks_177 (by decide) ?_
                have hP9 := hP.sb (wq := (wz_86 h0 aw ac j154_s0 h0_function ty n31 bo bg bh bd n25 ty cty n30 bo cbo gbo bg cbg gbg bh cbh gbh bd cbd gbd)) [0, 1, 2, 3, 4, 5] rfl
                have hD9 := hD.sb (wq := (wz_86 h0 aw ac j154_s0 h0_function ty n31 bo bg bh bd n25 ty cty n30 bo cbo gbo bg cbg gbg bh cbh gbh bd cbd gbd)) [0, 1, 2, 3, 4, 5] (by decide) rfl
                exact W.vret hx hb hr (fun t ht hW => ⟨⟨(gbd, gbg, gbh, gbo, n30, n25, n31, j154_s0), rfl, ⟨b_gbh, bn30, bn25, bn31, b_j154_s0, ⟨fun _ => by (first | (apply Int.le_antisymm <;> omega) | omega), bk_e (by (first | (apply Int.le_antisymm <;> omega) | omega)) q_111 (by rcases y154 with ⟨z1, z2, z3⟩ | ⟨z1, z2⟩; (have := crd111 z2; exact Or.inl ⟨z1, z2, by (first | (apply Int.le_antisymm <;> omega) | omega)⟩); (exact Or.inr ⟨z1, fun z => z2 ⟨z.1, by have := crd111 z.1; (first | (apply Int.le_antisymm <;> omega) | omega)⟩⟩)) (fun z => by have z9 : n27.toInt = 1 := (by (first | (apply Int.le_antisymm <;> omega) | omega)); have q9 := crd111 z9; rw [if_neg (fun y => by rw [y, List.length_nil] at q9; (first | (apply Int.le_antisymm <;> omega) | omega)), show b_111.2.1 = x28.toInt.toNat from by (first | (apply Int.le_antisymm <;> omega) | omega)]; exact w_174 z)⟩⟩, va_P.he ht.symm hP9, va_K.moved hW.alike hK, hD9⟩, hS.F ht⟩) hS.2.2 d_VA_checkBlocks_186
            · skip
              refine lv_if_eq (tgt := 153) hx hb d_VA_checkBlocks_119 (by decide) (fun c119 => ?_) (fun c119 => ?_)
              · have q119 := eqI c119
                refine lv_iconst (v := 0) hx hb d_VA_checkBlocks_153 (by decide) ?_
                exact jn154 0 _ _ _ ⟨Or.inl rfl, by (try dsimp only) <;> (first | (apply Int.le_antisymm <;> omega) | omega), hP, hD, hS, lv_sub hl [0] rfl⟩
              · have q119 := neI c119
                refine lv_aload_n hx hb d_VA_checkBlocks_122 rfl (lv_at hl 0 rfl) ?_
                refine va_get (D := (dC, dI)) (ci := 9) (v := .ref bo) (C := R_VA) (T := F_VA) (N := 11) hx hb hts i_VA hown hK hP 0 rfl rfl 6 (by decide) (hts _ kF_VA_15) (fun _ h9 => h9) rfl d_VA_checkBlocks_123 ?_
                refine lv_aload_n hx hb d_VA_checkBlocks_126 rfl (lv_at hl 0 rfl) ?_
                refine va_get (D := (dC, dI)) (ci := 9) (v := .int n25) (C := R_VA) (T := F_VA) (N := 11) hx hb hts i_VA hown hK hP 0 rfl rfl 10 (by decide) (hts _ kF_VA_117) (fun _ h9 => h9) rfl d_VA_checkBlocks_127 ?_
                have g130 : vp_in n25 101 := vp_in_iff.mpr ⟨by (first | (apply Int.le_antisymm <;> omega) | omega), by (first | (apply Int.le_antisymm <;> omega) | omega)⟩
                refine va_iald hx hb hK hP 2 1 rfl rfl g130 d_VA_checkBlocks_130 ?_
                refine lv_topi (fun x32 ex32 => ?_)
                have u130 : x32.toInt = (gbo n25.toNatClampNeg).toInt := by rw [ex32]
                refine lv_iconst (v := 4) hx hb d_VA_checkBlocks_131 (by decide) ?_
                refine lv_icmp_ne (tgt := 149) hx hb d_VA_checkBlocks_132 (by decide) (fun c132 => ?_) (fun c132 => ?_)
                · have q132 := neI c132
                  refine lv_iconst (v := 1) hx hb d_VA_checkBlocks_149 (by decide) ?_
                  refine lv_goto (tgt := 154) hx hb d_VA_checkBlocks_150 (by decide) ?_
                  exact jn154 1 _ _ _ ⟨Or.inr rfl, by (try dsimp only) <;> (first | (apply Int.le_antisymm <;> omega) | omega), hP, hD, hS, lv_sub hl [0] rfl⟩
                · have q132 := eqI c132
                  refine lv_aload_n hx hb d_VA_checkBlocks_135 rfl (lv_at hl 0 rfl) ?_
                  refine va_get (D := (dC, dI)) (ci := 9) (v := .ref bg) (C := R_VA) (T := F_VA) (N := 11) hx hb hts i_VA hown hK hP 0 rfl rfl 7 (by decide) (hts _ kF_VA_18) (fun _ h9 => h9) rfl d_VA_checkBlocks_136 ?_
                  refine lv_aload_n hx hb d_VA_checkBlocks_139 rfl (lv_at hl 0 rfl) ?_
                  refine va_get (D := (dC, dI)) (ci := 9) (v := .int n25) (C := R_VA) (T := F_VA) (N := 11) hx hb hts i_VA hown hK hP 0 rfl rfl 10 (by decide) (hts _ kF_VA_117) (fun _ h9 => h9) rfl d_VA_checkBlocks_140 ?_
                  have g143 : vp_in n25 101 := vp_in_iff.mpr ⟨by (first | (apply Int.le_antisymm <;> omega) | omega), by (first | (apply Int.le_antisymm <;> omega) | omega)⟩
                  refine va_iald hx hb hK hP 3 2 rfl rfl g143 d_VA_checkBlocks_143 ?_
                  refine lv_topi (fun x33 ex33 => ?_)
                  have u143 : x33.toInt = (gbg n25.toNatClampNeg).toInt := by rw [ex33]
                  refine lv_bipush (v := 64) hx hb d_VA_checkBlocks_144 (by decide) ?_
                  refine lv_icmp_ne (tgt := 153) hx hb d_VA_checkBlocks_146 (by decide) (fun c146 => ?_) (fun c146 => ?_)
                  · have q146 := neI c146
                    refine lv_iconst (v := 0) hx hb d_VA_checkBlocks_153 (by decide) ?_
                    exact jn154 0 _ _ _ ⟨Or.inl rfl, by (try dsimp only) <;> (first | (apply Int.le_antisymm <;> omega) | omega), hP, hD, hS, lv_sub hl [0] rfl⟩
                  · have q146 := eqI c146
                    refine lv_iconst (v := 1) hx hb d_VA_checkBlocks_149 (by decide) ?_
                    refine lv_goto (tgt := 154) hx hb d_VA_checkBlocks_150 (by decide) ?_
                    exact jn154 1 _ _ _ ⟨Or.inr rfl, by (try dsimp only) <;> (first | (apply Int.le_antisymm <;> omega) | omega), hP, hD, hS, lv_sub hl [0] rfl⟩
          · skip
            have ho1 : tab_off 179 0 11 #[63, 70, 179, 179, 73, 88, 179, 179, 179, 179, 179, 109] p0.toInt = 179 := by
              unfold tab_off
              split
              · rfl
              · rcases (by (first | (apply Int.le_antisymm <;> omega) | omega) : p0.toInt = 2 ∨ p0.toInt = 3 ∨ p0.toInt = 6 ∨ p0.toInt = 7 ∨ p0.toInt = 8 ∨ p0.toInt = 9 ∨ p0.toInt = 10) with z | z | z | z | z | z | z <;> (rw [z]; rfl)
            refine lv_tab (tgt := 180) hx hb d_VA_checkBlocks_1 (by decide) ho1 (by decide) ?_
            clear ho1
            refine lv_aload_n hx hb d_VA_checkBlocks_180 rfl (lv_at hl 0 rfl) ?_
            refine lv_iload_n hx hb d_VA_checkBlocks_181 rfl (lv_at hl 1 rfl) ?_
            refine lv_iload_n hx hb d_VA_checkBlocks_182 rfl (lv_at hl 2 rfl) ?_
            have hPc := hP.sb (wq := (wz_86 h0 aw ac h0_sound h0_function ty h0_height bo bg bh bd h0_depth ty cty gty bo cbo gbo bg cbg gbg bh cbh gbh bd cbd gbd)) [0, 1, 2, 3, 4, 5] rfl
            have hDc := hD.sb (wq := (wz_86 h0 aw ac h0_sound h0_function ty h0_height bo bg bh bd h0_depth ty cty gty bo cbo gbo bg cbg gbg bh cbh gbh bd cbd gbd)) [0, 1, 2, 3, 4, 5] (by decide) rfl
            have hKc := hK.sb (tyq := [(cty, .int), (cbo, .int), (cbg, .int), (cbh, .int), (cbd, .boolean)]) [0, 1, 2, 3, 4] rfl
            have hFc := va_free (wc := (wz_86 h0 aw ac h0_sound h0_function ty h0_height bo bg bh bd h0_depth ty cty gty bo cbo gbo bg cbg gbg bh cbh gbh bd cbd gbd)) hD hS hA [0, 1, 2, 3, 4, 5] rfl
            refine va_callv (va_runV (As := [.int p0, .int p1]) (rest := []) ⟨hx, hb, hml, hown, hts⟩ (c_VA_openy l dC dI H.size h0 aw ac ty bo bg bh bd cty cbo cbg cbh cbd h0_sound h0_function h0_height h0_depth gty gbo gbg gbh gbd S9 B9 (b_h0_sound) (b_h0_height) (b_h0_depth) (b_gty) (b_gbh) p0 p1 (hv) ((fun z => ⟨by (first | (apply Int.le_antisymm <;> omega) | omega), by have := hty (by (first | (apply Int.le_antisymm <;> omega) | omega)); (first | (apply Int.le_antisymm <;> omega) | omega)⟩)) ((fun z => hd2 z (by (first | (apply Int.le_antisymm <;> omega) | omega))))) (cwV 2 hts (gV kM_VA_124 kV_VA_open kS_VA_open kI_VA kC_VA_open) rfl rfl rfl (by decide +kernel) ⟨Nat.le_of_ble_eq_true rfl, Nat.le_of_ble_eq_true rfl⟩) ⟨fun a U g mk z => by obtain ⟨z0, z1, zP, zK, zD⟩ := z; exact ⟨z0, z1, zP, va_K.moved (u := U) (U := U.calling g mk a) (Vm.Alike.refl U.vm) zK, zD⟩, va_recv hKc hPc (ci := 9) (q0 := 0) rfl rfl, fun U hU hW => ⟨rfl, by rw [hU], va_P.he hU.symm hPc, va_K.moved hW.alike hKc, hDc.weaken (fun _ _ _ _ => trivial)⟩⟩ rfl rfl hl.1 rfl (lv_room (Nat.le_of_ble_eq_true rfl)) d_VA_checkBlocks_183 ⟨(Nat.zero_le _), (Nat.zero_le _)⟩) hS (fun q _ h => hFc q h) hFc (fun u t H1 locs ht hvm hw hB hz1 hk1 hS => ?_)
            obtain ⟨n35, n36, n37, n38, n39⟩ := u
            try dsimp only at hw
            obtain ⟨bn37, bn39, xr34⟩ := hw
            try clear hw
            have w_183 := xr34.2
            obtain ⟨hP1, hK1, hD1⟩ := hB
            replace hP1 := va_P.he ht hP1
            obtain ⟨hP, hD⟩ := va_join (wr := []) (w1 := (wz_86 h0 aw ac h0_sound h0_function ty h0_height bo bg bh bd n39 ty cty gty bo cbo n38 bg cbg n36 bh cbh n37 bd cbd n35)) hP hD [0, 1, 2, 3, 4, 5] [] rfl rfl (by decide) (by decide) hk1 hFc hP1 hD1
            clear hPc hDc hKc hFc hz1 hk1 hP1 hK1 hD1
            rename Heap => H
            have hP : va_P (dC, dI) cls (wz_86 h0 aw ac h0_sound h0_function ty h0_height bo bg bh bd n39 ty cty gty bo cbo n38 bg cbg n36 bh cbh n37 bd cbd n35) H := hP
            have hD : va_D A (wz_86 h0 aw ac h0_sound h0_function ty h0_height bo bg bh bd n39 ty cty gty bo cbo n38 bg cbg n36 bh cbh n37 bd cbd n35) := hD
            have hP9 := hP.sb (wq := (wz_86 h0 aw ac h0_sound h0_function ty h0_height bo bg bh bd n39 ty cty gty bo cbo n38 bg cbg n36 bh cbh n37 bd cbd n35)) [0, 1, 2, 3, 4, 5] rfl
            have hD9 := hD.sb (wq := (wz_86 h0 aw ac h0_sound h0_function ty h0_height bo bg bh bd n39 ty cty gty bo cbo n38 bg cbg n36 bh cbh n37 bd cbd n35)) [0, 1, 2, 3, 4, 5] (by decide) rfl
            exact W.vret hx hb hr (fun t ht hW => ⟨⟨(n35, n36, n37, n38, gty, n39, h0_height, h0_sound), rfl, ⟨bn37, b_gty, bn39, b_h0_height, b_h0_sound, ⟨fun _ => by (first | (apply Int.le_antisymm <;> omega) | omega), bk_2 (w := p1) (by (first | (apply Int.le_antisymm <;> omega) | omega)) th0_sound (hty (by (first | (apply Int.le_antisymm <;> omega) | omega))) w_183⟩⟩, va_P.he ht.symm hP9, va_K.moved hW.alike hK, hD9⟩, hS.F ht⟩) hS.2.2 d_VA_checkBlocks_186
end q_n44q25
section q_n44q26
/-! p5: a function is run as vrun runs it; blocks are nested as the reader found them -/
/-- d: how many are open besides the outermost -/
def wn : Nat → List zIn → Prop
  | _, [] => True
  | d, i :: r => ((2 ≤ i.1 ∧ i.1 ≤ 4) → d < 100 ∧ wn (d + 1) r) ∧ (i.1 = 11 → r = [] ∨ (0 < d ∧ wn (d - 1) r)) ∧ (¬ (2 ≤ i.1 ∧ i.1 ≤ 4) → i.1 ≠ 11 → wn d r)
/-- an op that the reader takes -/
def yiok (i : zIn) : Prop := (i.1 ≤ 5 ∨ i.1 = 11 ∨ (12 ≤ i.1 ∧ i.1 ≤ 16) ∨ i.1 = 26 ∨ i.1 = 27 ∨ (32 ≤ i.1 ∧ i.1 ≤ 36) ∨ (i.1 = 40 ∨ i.1 = 41 ∨ i.1 = 44 ∨ i.1 = 45 ∨ i.1 = 54 ∨ i.1 = 55 ∨ i.1 = 58 ∨ i.1 = 63 ∨ i.1 = 64) ∨ (65 ≤ i.1 ∧ i.1 ≤ 255)) ∧ i.2.1 ≤ 2147483647
theorem vdie_len {S : List Nat} {B : List zBl} : (vdie S B).2.length = B.length := by
  cases B with
  | nil => rfl
  | cons b B => rfl
theorem vpush_len {o : Option zSt} {S2 : List Nat} {B B2 : List zBl} (h : o = some (S2, B2)) (hB : ∀ x, o = some x → x.2 = B) : B2 = B := hB _ h
theorem vnum_B {op : Nat} {S S2 : List Nat} {B B2 : List zBl} (h : vnum op S B = some (S2, B2)) : B2.length = B.length := by
  unfold vnum at h
  repeat' split at h
  all_goals first | (cases h; done) | (cases h; rfl)
theorem vmem_B {hm op al : Nat} {S S2 : List Nat} {B B2 : List zBl} (h : vmem hm op al S B = some (S2, B2)) : B2.length = B.length := by
  unfold vmem at h
  repeat' split at h
  all_goals first | (cases h; done) | (cases h; rfl)
theorem vsel_B {S S2 : List Nat} {B B2 : List zBl} (h : vsel S B = some (S2, B2)) : B2.length = B.length := by
  unfold vsel at h
  repeat' split at h
  all_goals first | (cases h; done) | (cases h; rfl)
theorem vvar_B {G : List (Nat × Nat × Nat)} {lo : List Nat} {op v : Nat} {S S2 : List Nat} {B B2 : List zBl} (h : vvar G lo op v S B = some (S2, B2)) : B2.length = B.length := by
  unfold vvar at h
  repeat' split at h
  all_goals first | (cases h; done) | (cases h; rfl) | exact vsel_B h
theorem vdl {S S2 : List Nat} {B B2 : List zBl} (h : some (vdie S B) = some (S2, B2)) : B2.length = B.length := by
  have q := congrArg (fun z : zSt => z.2.length) (Option.some.inj h)
  dsimp only at q
  rw [← q]
  exact vdie_len
theorem vcal_B {T : zTab} {f : Nat} {S S2 : List Nat} {B B2 : List zBl} (h : vcal T f S B = some (S2, B2)) : B2.length = B.length := by
  unfold vcal at h
  repeat' split at h
  all_goals first | (cases h; done) | (cases h; rfl)
theorem vtab_B {ls : List Nat} {S S2 : List Nat} {B B2 : List zBl} (h : vtab ls S B = some (S2, B2)) : B2.length = B.length := by
  unfold vtab at h
  repeat' split at h
  all_goals first | exact vdl h | (cases h; done)
theorem vjmp_B {T : zTab} {g op v : Nat} {ls : List Nat} {S S2 : List Nat} {B B2 : List zBl} (h : vjmp T g op v ls S B = some (S2, B2)) : B2.length = B.length := by
  unfold vjmp at h
  repeat' split at h
  all_goals first | exact vdl h | exact vtab_B h | exact vcal_B h | (cases h; done) | (cases h; rfl)
theorem vclose_B {S S2 : List Nat} {B r : List zBl} {b : zBl} (h : vclose S B = some (S2, b, r)) : B.length = r.length + 1 := by
  unfold vclose at h
  repeat' split at h
  all_goals first | (cases h; done) | (cases h; rfl)
theorem vblk_B {op v : Nat} {S S2 : List Nat} {B B2 : List zBl} (h : vblk op v S B = some (S2, B2)) (ho : op ≤ 5 ∨ op = 11) : B2.length = (if 2 ≤ op ∧ op ≤ 4 then B.length + 1 else if op = 11 then B.length - 1 else B.length) := by
  unfold vblk at h
  by_cases q0 : op = 0
  · rw [if_pos q0] at h
    rw [if_neg (by (first | (apply Int.le_antisymm <;> omega) | omega)), if_neg (by (first | (apply Int.le_antisymm <;> omega) | omega))]
    exact vdl h
  rw [if_neg q0] at h
  by_cases q1 : op = 1
  · rw [if_pos q1] at h
    rw [if_neg (by (first | (apply Int.le_antisymm <;> omega) | omega)), if_neg (by (first | (apply Int.le_antisymm <;> omega) | omega))]
    cases h
    rfl
  rw [if_neg q1] at h
  by_cases q2 : op = 2 ∨ op = 3
  · rw [if_pos q2] at h
    rw [if_pos (by (first | (apply Int.le_antisymm <;> omega) | omega))]
    cases h
    rfl
  rw [if_neg q2] at h
  by_cases q4 : op = 4
  · rw [if_pos q4] at h
    rw [if_pos (by (first | (apply Int.le_antisymm <;> omega) | omega))]
    split at h
    · cases h
      rfl
    · cases h
  rw [if_neg q4] at h
  by_cases q5 : op = 5
  · rw [if_pos q5] at h
    rw [if_neg (by (first | (apply Int.le_antisymm <;> omega) | omega)), if_neg (by (first | (apply Int.le_antisymm <;> omega) | omega))]
    split at h
    · rename_i e
      have := vclose_B e
      cases h
      rw [List.length_cons]
      (first | (apply Int.le_antisymm <;> omega) | omega)
    · cases h
  rw [if_neg q5] at h
  rw [if_neg (by (first | (apply Int.le_antisymm <;> omega) | omega)), if_pos (by (first | (apply Int.le_antisymm <;> omega) | omega))]
  split at h
  · rename_i e
    have := vclose_B e
    split at h
    · cases h
      (first | (apply Int.le_antisymm <;> omega) | omega)
    · cases h
  · cases h
theorem vst_B {T : zTab} {lo : List Nat} {g : Nat} {i : zIn} {S S2 : List Nat} {B B2 : List zBl} (h : vstep T lo g i S B = some (S2, B2)) (hi : yiok i) : B2.length = (if 2 ≤ i.1 ∧ i.1 ≤ 4 then B.length + 1 else if i.1 = 11 then B.length - 1 else B.length) := by
  obtain ⟨hi, -⟩ := hi
  by_cases q1 : i.1 ≤ 5 ∨ i.1 = 11
  · rw [vst_blk q1] at h
    exact vblk_B h q1
  rw [if_neg (by (first | (apply Int.le_antisymm <;> omega) | omega)), if_neg (by (first | (apply Int.le_antisymm <;> omega) | omega))]
  by_cases q2 : i.1 ≤ 16
  · rw [vst_jmp (by (first | (apply Int.le_antisymm <;> omega) | omega)) q2] at h
    exact vjmp_B h
  by_cases q3 : i.1 ≤ 36
  · rw [vst_var (by (first | (apply Int.le_antisymm <;> omega) | omega))] at h
    exact vvar_B h
  by_cases q4 : i.1 ≤ 64
  · rw [vst_mem (by (first | (apply Int.le_antisymm <;> omega) | omega)) q4] at h
    exact vmem_B h
  · rw [vst_num (by (first | (apply Int.le_antisymm <;> omega) | omega))] at h
    exact vnum_B h
theorem wn_s {T : zTab} {lo : List Nat} {g d : Nat} {i : zIn} {r : List zIn} {S S2 : List Nat} {B B2 : List zBl} (h : vstep T lo g i S B = some (S2, B2)) (hi : yiok i) (hw : wn d (i :: r)) (hB : B.length = d + 1) (hr : r ≠ []) : ∃ d2, B2.length = d2 + 1 ∧ wn d2 r := by
  have e := vst_B h hi
  obtain ⟨w1, w2, w3⟩ := hw
  by_cases q1 : 2 ≤ i.1 ∧ i.1 ≤ 4
  · rw [if_pos q1] at e
    exact ⟨d + 1, by (first | (apply Int.le_antisymm <;> omega) | omega), (w1 q1).2⟩
  rw [if_neg q1] at e
  by_cases q2 : i.1 = 11
  · rw [if_pos q2] at e
    rcases w2 q2 with z | ⟨z1, z2⟩
    · exact absurd z hr
    · exact ⟨d - 1, by (first | (apply Int.le_antisymm <;> omega) | omega), z2⟩
  rw [if_neg q2] at e
  exact ⟨d, by (first | (apply Int.le_antisymm <;> omega) | omega), w3 q1 q2⟩
/-- a function: k instructions are behind -/
def rnI (T : zTab) (lo : List Nat) (g : Nat) (is : List zIn) (s s2 h D : Int32) (ty bo bg bh bd : Nat → Int32) (k : Nat) : Prop := (s2.toInt = 1 ∧ s.toInt = 1 ∧ ∃ (S : List Nat) (B : List zBl) (d : Nat), vrun T lo g is [] [(2, g, 0, false)] = vrun T lo g (is.drop k) S B ∧ vA S B h D ty bo bg bh bd ∧ S.length ≤ k ∧ (is.drop k ≠ [] → B.length = d + 1 ∧ wn d (is.drop k))) ∨ (s2.toInt = 0 ∧ (s.toInt = 1 → vrun T lo g is [] [(2, g, 0, false)] = false))
theorem rn_0 {T : zTab} {lo : List Nat} {g : Nat} {is : List zIn} {s h D : Int32} {ty bo bg bh bd : Nat → Int32} {p q : Nat} (hs : s.toInt = 0 ∨ s.toInt = 1) (hx : s.toInt = 1 → vA [] [(p, q, 0, false)] h D ty bo bg bh bd) (hp : p = 2) (hq : q = g) (hw : wn 0 is) : rnI T lo g is s s h D ty bo bg bh bd 0 := by
  subst hp hq
  rcases hs with z | z
  · exact Or.inr ⟨z, fun y => absurd y (by (first | (apply Int.le_antisymm <;> omega) | omega))⟩
  · exact Or.inl ⟨z, z, [], [(2, q, 0, false)], 0, rfl, hx z, Nat.le_refl _, fun _ => ⟨rfl, hw⟩⟩
theorem rn_in {T : zTab} {lo : List Nat} {g k : Nat} {is : List zIn} {i : zIn} {s s2 h D : Int32} {ty bo bg bh bd : Nat → Int32} (h9 : rnI T lo g is s s2 h D ty bo bg bh bd k) (hs : s2.toInt = 1) (hi : is[k]? = some i) : s.toInt = 1 ∧ ∃ (S : List Nat) (B : List zBl) (d : Nat), vrun T lo g is [] [(2, g, 0, false)] = (match vstep T lo g i S B with | some (S2, B2) => vrun T lo g (is.drop (k + 1)) S2 B2 | none => false) ∧ vA S B h D ty bo bg bh bd ∧ S.length ≤ k ∧ B.length = d + 1 ∧ wn d (i :: is.drop (k + 1)) := by
  rcases h9 with ⟨a1, a2, S, B, d, a3, a4, a5, a6⟩ | ⟨a1, a2⟩
  · obtain ⟨q, rfl⟩ := List.getElem?_eq_some_iff.mp hi
    rw [List.drop_eq_getElem_cons q] at a3 a6
    obtain ⟨w1, w2⟩ := a6 (fun z => by cases z)
    refine ⟨a2, S, B, d, ?_, a4, a5, w1, w2⟩
    rw [a3]
    rfl
  · (first | (apply Int.le_antisymm <;> omega) | omega)
theorem rn_s {T : zTab} {lo : List Nat} {g k d : Nat} {is : List zIn} {i : zIn} {s s1 s2 h2 D2 : Int32} {ty bo bg bh bd : Nat → Int32} {S : List Nat} {B : List zBl} (h1 : s.toInt = 1) (e : vrun T lo g is [] [(2, g, 0, false)] = (match vstep T lo g i S B with | some (S2, B2) => vrun T lo g (is.drop (k + 1)) S2 B2 | none => false)) (hB : B.length = d + 1) (hw : wn d (i :: is.drop (k + 1))) (hi : yiok i) (x : vsz (vstep T lo g i S B) s1 s2 h2 D2 ty bo bg bh bd) (hs1 : s1.toInt = 1) (hh : s2.toInt = 1 → h2.toInt ≤ (k : Int) + 1) : rnI T lo g is s s2 h2 D2 ty bo bg bh bd (k + 1) := by
  obtain ⟨S2, B2, ⟨x1, x2, x3, x4⟩ | ⟨x1, x2⟩⟩ := x
  · rw [x3] at e
    dsimp only at e
    by_cases q : is.drop (k + 1) = []
    · exact Or.inl ⟨x1, h1, S2, B2, 0, e, x4, by have := hh x1; have := x4.1; (first | (apply Int.le_antisymm <;> omega) | omega), fun z => absurd q z⟩
    · obtain ⟨d2, w1, w2⟩ := wn_s x3 hi hw hB q
      exact Or.inl ⟨x1, h1, S2, B2, d2, e, x4, by have := hh x1; have := x4.1; (first | (apply Int.le_antisymm <;> omega) | omega), fun _ => ⟨w1, w2⟩⟩
  · rw [x2 hs1] at e
    exact Or.inr ⟨x1, fun _ => e⟩
theorem rn_e {T : zTab} {lo : List Nat} {g k : Nat} {is : List zIn} {s s2 h D : Int32} {ty bo bg bh bd : Nat → Int32} (h9 : rnI T lo g is s s2 h D ty bo bg bh bd k) (hk : s2.toInt = 0 ∨ is.length ≤ k) : (s2.toInt = 1 ∧ s.toInt = 1 ∧ vrun T lo g is [] [(2, g, 0, false)] = true) ∨ (s2.toInt = 0 ∧ (s.toInt = 1 → vrun T lo g is [] [(2, g, 0, false)] = false)) := by
  rcases h9 with ⟨a1, a2, S, B, d, a3, a4, a5, a6⟩ | ⟨a1, a2⟩
  · refine Or.inl ⟨a1, a2, ?_⟩
    rw [a3, List.drop_of_length_le (by (first | (apply Int.le_antisymm <;> omega) | omega))]
    rfl
  · exact Or.inr ⟨a1, a2⟩
/-- function k of T: its type, its code -/
theorem vfun_e {T : zTab} {k t : Nat} {tp : List Nat × Nat} {co : List Nat × List zIn} (e1 : T.2.1[k]? = some t) (e2 : T.1[t]? = some tp) (e3 : T.2.2.2.2.2[k]? = some co) : vfun T k = vrun T (tp.1 ++ co.1) tp.2 co.2 [] [(2, tp.2, 0, false)] := by
  unfold vfun
  rw [e1]
  dsimp only
  rw [e2, e3]
theorem loA_of {tk lk p8 p60 : Int} {wap clt : Nat → Int32} {A L : List Nat} (h1 : tk = (A.length : Int)) (h2 : lk = (L.length : Int)) (h3 : ∀ (p y : Nat), A[p]? = some y → (wap (p8 + p).toNat).toInt = (y : Int)) (h4 : ∀ (j z : Nat), L[j]? = some z → (clt (p60.toNat + j)).toInt = (z : Int)) (hp : 0 ≤ p60) (k1 : ∀ p ∈ A, p = 127 ∨ p = 126) (k2 : ∀ p ∈ L, p = 127 ∨ p = 126) : loA tk lk p8 p60 wap clt (A ++ L) := by
  refine ⟨by rw [List.length_append]; (first | (apply Int.le_antisymm <;> omega) | omega), fun n t hn => ?_⟩
  by_cases q : n < A.length
  · rw [List.getElem?_append_left q] at hn
    exact ⟨k1 _ (List.mem_of_getElem? hn), fun _ => h3 n t hn, fun z => absurd z (by (first | (apply Int.le_antisymm <;> omega) | omega))⟩
  · rw [List.getElem?_append_right (by (first | (apply Int.le_antisymm <;> omega) | omega))] at hn
    refine ⟨k2 _ (List.mem_of_getElem? hn), fun z => absurd z (by (first | (apply Int.le_antisymm <;> omega) | omega)), fun _ => ?_⟩
    have := h4 _ _ hn
    rw [show (p60 + n - tk).toNat = p60.toNat + (n - A.length) by (first | (apply Int.le_antisymm <;> omega) | omega)]
    exact this
/-- where the instructions of code k stand -/
theorem flC_get {C : List (List Nat × List zIn)} {k j : Nat} {co : List Nat × List zIn} {i : zIn} (h : C[k]? = some co) (hj : co.2[j]? = some i) : (flC C)[(flC (C.take k)).length + j]? = some i ∧ (flC (C.take (k + 1))).length = (flC (C.take k)).length + co.2.length := by
  obtain ⟨q, rfl⟩ := List.getElem?_eq_some_iff.mp h
  have e1 : C.take (k + 1) = C.take k ++ [C[k]] := List.take_succ_eq_append_getElem q
  have e2 : flC C = flC (C.take k) ++ (C[k].2 ++ flC (C.drop (k + 1))) := by
    have e3 : C = C.take k ++ (C[k] :: C.drop (k + 1)) := by rw [← List.drop_eq_getElem_cons q, List.take_append_drop]
    have e4 := congrArg flC e3
    rw [flC_app] at e4
    exact e4
  refine ⟨?_, ?_⟩
  · rw [e2, List.getElem?_append_right (by (first | (apply Int.le_antisymm <;> omega) | omega)), Nat.add_sub_cancel_left, List.getElem?_append_left (List.getElem?_eq_some_iff.mp hj).1]
    exact hj
  · rw [e1, flC_1, List.length_append]
theorem flC_len {C : List (List Nat × List zIn)} {k : Nat} {co : List Nat × List zIn} (h : C[k]? = some co) : (flC (C.take (k + 1))).length = (flC (C.take k)).length + co.2.length := by
  obtain ⟨q, rfl⟩ := List.getElem?_eq_some_iff.mp h
  rw [List.take_succ_eq_append_getElem q, flC_1, List.length_append]
theorem flC_le {C : List (List Nat × List zIn)} {k : Nat} : (flC (C.take k)).length ≤ (flC C).length := by
  have e := congrArg (fun x => (flC x).length) (List.take_append_drop k C)
  rw [flC_app, List.length_append] at e
  (first | (apply Int.le_antisymm <;> omega) | omega)
theorem vvar_v {G : List (Nat × Nat × Nat)} {lo : List Nat} {op v w : Nat} {S : List Nat} {B : List zBl} (h : op = 26 ∨ op = 27) : vvar G lo op v S B = vvar G lo op w S B := by
  unfold vvar
  by_cases q : op = 26
  · rw [if_pos q, if_pos q]
  · rw [if_neg q, if_neg q, if_pos (by (first | (apply Int.le_antisymm <;> omega) | omega)), if_pos (by (first | (apply Int.le_antisymm <;> omega) | omega))]
theorem vmem_v {hm op v w : Nat} {S : List Nat} {B : List zBl} (h : op = 63 ∨ op = 64) : vmem hm op v S B = vmem hm op w S B := by
  unfold vmem
  by_cases q : hm = 1
  · rw [if_pos q, if_pos q]
    by_cases q3 : op = 63
    · rw [if_pos q3, if_pos q3]
    · rw [if_neg q3, if_neg q3, if_pos (by (first | (apply Int.le_antisymm <;> omega) | omega)), if_pos (by (first | (apply Int.le_antisymm <;> omega) | omega))]
  · rw [if_neg q, if_neg q]
theorem vblk_v {op v w : Nat} {S : List Nat} {B : List zBl} (h : ¬ (2 ≤ op ∧ op ≤ 4)) : vblk op v S B = vblk op w S B := by
  unfold vblk
  by_cases q0 : op = 0
  · rw [if_pos q0, if_pos q0]
  rw [if_neg q0, if_neg q0]
  by_cases q1 : op = 1
  · rw [if_pos q1, if_pos q1]
  rw [if_neg q1, if_neg q1, if_neg (show ¬ (op = 2 ∨ op = 3) by (first | (apply Int.le_antisymm <;> omega) | omega)), if_neg (show ¬ (op = 2 ∨ op = 3) by (first | (apply Int.le_antisymm <;> omega) | omega)), if_neg (show ¬ op = 4 by (first | (apply Int.le_antisymm <;> omega) | omega)), if_neg (show ¬ op = 4 by (first | (apply Int.le_antisymm <;> omega) | omega))]
end q_n44q26

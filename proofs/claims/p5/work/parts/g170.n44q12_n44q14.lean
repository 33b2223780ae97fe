section q_n44q12
/-! p5: the class: types are read as zType reads them -/
abbrev at_RE_readTypesy (dC : Nat → ClassId) (dI : Nat → Nat → Nat) (h0 aw ac ob ab wat wap wag waf wgt wft wfv wgc wek wei wes wez ax : Nat) (cax cwat cwap cwag : ClassId) (h0_limit : Int32) (h0_codeCount : Int32) (h0_openCount : Int32) (aw_functionCount : Int32) (aw_hasMemory : Int32) (aw_pagesLeast : Int64) (aw_pagesMost : Int64) (aw_globalCount : Int32) (aw_exportCount : Int32) (ab_length : Int32) (gax : Nat → Int32) (A : Nat → Prop) (u : (Nat → Int32) × (Nat → Int32) × (Nat → Int32) × Int32 × Int32 × Int32) (t : State) : Prop := match u with | (gwag, gwap, gwat, aw_typeCount, h0_at, h0_sound) => va_P (dC, dI) cls (wz_47 h0 aw ac h0_at h0_limit h0_sound h0_codeCount ob h0_openCount aw ab ac aw_typeCount wat wap wag aw_functionCount waf aw_hasMemory aw_pagesLeast aw_pagesMost aw_globalCount wgt wft wfv wgc aw_exportCount wek wei wes wez ab ax ab_length ax cax gax wat cwat gwat wap cwap gwap wag cwag gwag) t.heap ∧ va_K (dC, dI) cls [(cax, .byte), (cwat, .int), (cwap, .int), (cwag, .int)] t ∧ va_D A (wz_47 h0 aw ac h0_at h0_limit h0_sound h0_codeCount ob h0_openCount aw ab ac aw_typeCount wat wap wag aw_functionCount waf aw_hasMemory aw_pagesLeast aw_pagesMost aw_globalCount wgt wft wfv wgc aw_exportCount wek wei wes wez ab ax ab_length ax cax gax wat cwat gwat wap cwap gwap wag cwag gwag)
set_option maxHeartbeats 4000000 in
set_option maxRecDepth 100000 in
theorem c_RE_readTypesy (l : Launch) (dC : Nat → ClassId) (dI : Nat → Nat → Nat) (sz : Nat) (h0 aw ac ob ab wat wap wag waf wgt wft wfv wgc wek wei wes wez ax : Nat) (cax cwat cwap cwag : ClassId) (h0_at : Int32) (h0_limit : Int32) (h0_sound : Int32) (h0_codeCount : Int32) (h0_openCount : Int32) (aw_typeCount : Int32) (aw_functionCount : Int32) (aw_hasMemory : Int32) (aw_pagesLeast : Int64) (aw_pagesMost : Int64) (aw_globalCount : Int32) (aw_exportCount : Int32) (ab_length : Int32) (gax : Nat → Int32) (gwat : Nat → Int32) (gwap : Nat → Int32) (gwag : Nat → Int32)  (b_h0_sound : h0_sound = 0 ∨ h0_sound = 1) (b_aw_typeCount : 0 ≤ aw_typeCount.toInt ∧ aw_typeCount.toInt ≤ 20)   (ha : 0 ≤ h0_at.toInt ∧ h0_at.toInt ≤ h0_limit.toInt ∧ h0_limit.toInt ≤ ab_length.toInt ∧ ab_length.toInt ≤ 8192) (hs : h0_sound.toInt = 1) : Met l y_RE_readTypes w_RE_readTypes ({ frames := 2, cells := 0, slots := 0, locals := 46 }) (va_Pc [.ref h0] (fun U => U.heap.size = sz ∧ va_P (dC, dI) cls (wz_47 h0 aw ac h0_at h0_limit h0_sound h0_codeCount ob h0_openCount aw ab ac aw_typeCount wat wap wag aw_functionCount waf aw_hasMemory aw_pagesLeast aw_pagesMost aw_globalCount wgt wft wfv wgc aw_exportCount wek wei wes wez ab ax ab_length ax cax gax wat cwat gwat wap cwap gwap wag cwag gwag) U.heap ∧ va_K (dC, dI) cls [(cax, .byte), (cwat, .int), (cwap, .int), (cwag, .int)] U ∧ va_D (fun _ => True) (wz_47 h0 aw ac h0_at h0_limit h0_sound h0_codeCount ob h0_openCount aw ab ac aw_typeCount wat wap wag aw_functionCount waf aw_hasMemory aw_pagesLeast aw_pagesMost aw_globalCount wgt wft wfv wgc aw_exportCount wek wei wes wez ab ax ab_length ax cax gax wat cwat gwat wap cwap gwap wag cwag gwag))) (va_Qv (fun (u : (Nat → Int32) × (Nat → Int32) × (Nat → Int32) × Int32 × Int32 × Int32) => match u with | (gwag2, gwap2, gwat2, aw_typeCount2, h0_at2, h0_sound2) => (0 ≤ aw_typeCount2.toInt ∧ aw_typeCount2.toInt ≤ 20) ∧ (h0_sound2 = 0 ∨ h0_sound2 = 1) ∧ ((h0_at.toInt ≤ h0_at2.toInt ∧ h0_at2.toInt ≤ h0_limit.toInt) ∧ ((h0_sound2.toInt = 1 ∧ ∃ T : List (List Nat × Nat), zV gax h0_limit.toNatClampNeg 20 (zType gax h0_limit.toNatClampNeg) h0_at.toNatClampNeg = some (T, h0_at2.toNatClampNeg) ∧ aw_typeCount2.toInt = (T.length : Int) ∧ tyA gwat2 gwap2 gwag2 T) ∨ (h0_sound2.toInt = 0 ∧ zV gax h0_limit.toNatClampNeg 20 (zType gax h0_limit.toNatClampNeg) h0_at.toNatClampNeg = none)))) (at_RE_readTypesy dC dI h0 aw ac ob ab wat wap wag waf wgt wft wfv wgc wek wei wes wez ax cax cwat cwap cwag h0_limit h0_codeCount h0_openCount aw_functionCount aw_hasMemory aw_pagesLeast aw_pagesMost aw_globalCount aw_exportCount ab_length gax (va_A (wz_47 h0 aw ac h0_at h0_limit h0_sound h0_codeCount ob h0_openCount aw ab ac aw_typeCount wat wap wag aw_functionCount waf aw_hasMemory aw_pagesLeast aw_pagesMost aw_globalCount wgt wft wfv wgc aw_exportCount wek wei wes wez ab ax ab_length ax cax gax wat cwat gwat wap cwap gwap wag cwag gwag) sz)) (va_A (wz_47 h0 aw ac h0_at h0_limit h0_sound h0_codeCount ob h0_openCount aw ab ac aw_typeCount wat wap wag aw_functionCount waf aw_hasMemory aw_pagesLeast aw_pagesMost aw_globalCount wgt wft wfv wgc aw_exportCount wek wei wes wez ab ax ab_length ax cax gax wat cwat gwat wap cwap gwap wag cwag gwag) sz)) 0 0 (va_A (wz_47 h0 aw ac h0_at h0_limit h0_sound h0_codeCount ob h0_openCount aw ab ac aw_typeCount wat wap wag aw_functionCount waf aw_hasMemory aw_pagesLeast aw_pagesMost aw_globalCount wgt wft wfv wgc aw_exportCount wek wei wes wez ab ax ab_length ax cax gax wat cwat gwat wap cwap gwap wag cwag gwag) sz) := by
  refine Met.ofW (cc := b_RE_readTypes) (maxL := 4) (ret := none) (by decide) rfl ?_
  intro p e s m args below meth c s₁ B hml hv
  obtain ⟨rfl, hsz, hP, hK, hD0⟩ := hv
  have hx := B.exec
  have hb := B.bytes
  have hr := B.returns
  have hts0 := atoms_spec (ws := w_RE_readTypes) B.pre
  have hts : ∀ w ∈ lw_g, w.before _ s = true := fun w h => hts0 w (List.mem_cons_of_mem _ h)
  have hown : s.vm.findClass R_RE = some m.cls := findClass_of_methodNamed B.named
  have hlocks := B.notSynchronized
  clear hts0
  subst hsz
  have hD := hD0.self (sz := s.heap.size)
  generalize hAe : va_A (wz_47 h0 aw ac h0_at h0_limit h0_sound h0_codeCount ob h0_openCount aw ab ac aw_typeCount wat wap wag aw_functionCount waf aw_hasMemory aw_pagesLeast aw_pagesMost aw_globalCount wgt wft wfv wgc aw_exportCount wek wei wes wez ab ax ab_length ax cax gax wat cwat gwat wap cwap gwap wag cwag gwag) s.heap.size = A at hD ⊢
  have hA : ∀ q : Nat, s.heap.size ≤ q → A q := fun q h => by rw [← hAe]; exact Or.inr h
  clear hAe
  have hP : va_P (dC, dI) cls (wz_47 h0 aw ac h0_at h0_limit h0_sound h0_codeCount ob h0_openCount aw ab ac aw_typeCount wat wap wag aw_functionCount waf aw_hasMemory aw_pagesLeast aw_pagesMost aw_globalCount wgt wft wfv wgc aw_exportCount wek wei wes wez ab ax ab_length ax cax gax wat cwat gwat wap cwap gwap wag cwag gwag) s.heap := hP
  have hl := lv_entry ([.ref h0]) (n := 4) (Nat.le_of_ble_eq_true rfl)
  rw [lg_entry_eq]
  generalize (lg_sl ([.ref h0]) ++ List.replicate (4 - (lg_sl ([.ref h0])).length) Slot.unset).toArray = ls at hl ⊢
  have hl : lv_has ls 4 [(0, .ref h0)] := hl
  have k0 : (0 : Int32).toInt = 0 := by decide
  refine w_gen (A := A) hP (fun H locs hP hS => ?_)
  have k1 : (1 : Int32).toInt = 1 := by decide
  have k8 : (8 : Int32).toInt = 8 := by decide
  have k64 : (64 : Int32).toInt = 64 := by decide
  have k96 : (96 : Int32).toInt = 96 := by decide
  have th0_sound := b01 b_h0_sound
  have zat := i32_clamp (x := h0_at) (by (first | (apply Int.le_antisymm <;> omega) | omega))
  have zlm := i32_clamp (x := h0_limit) (by (first | (apply Int.le_antisymm <;> omega) | omega))
  refine lv_aload_n hx hb d_RE_readTypes_0 rfl (lv_at hl 0 rfl) ?_
  refine va_get (D := (dC, dI)) (ci := 7) (v := .ref aw) (C := R_RE) (T := F_RE) (N := 8) hx hb hts i_RE hown hK hP 0 rfl rfl 0 (by decide) (hts _ kF_RE_15) (fun _ h9 => h9) rfl d_RE_readTypes_1 ?_
  refine lv_aload_n hx hb d_RE_readTypes_4 rfl (lv_at hl 0 rfl) ?_
  refine lv_ldc2 hx hb hown (hts _ kL_RE_96) d_RE_readTypes_5 ?_
  refine lv_topl (fun x1 ex1 => ?_)
  have tx1 : x1.toInt = 20 := by rw [ex1]; decide
  have hPc := hP.sb (wq := (wz_46 h0 aw ac h0_at h0_limit h0_sound h0_codeCount ob h0_openCount aw ab ac aw_typeCount wat wap wag aw_functionCount waf aw_hasMemory aw_pagesLeast aw_pagesMost aw_globalCount wgt wft wfv wgc aw_exportCount wek wei wes wez ab ax ab_length ax cax gax)) [0, 1, 2, 3] rfl
  have hDc := hD.sb (wq := (wz_46 h0 aw ac h0_at h0_limit h0_sound h0_codeCount ob h0_openCount aw ab ac aw_typeCount wat wap wag aw_functionCount waf aw_hasMemory aw_pagesLeast aw_pagesMost aw_globalCount wgt wft wfv wgc aw_exportCount wek wei wes wez ab ax ab_length ax cax gax)) [0, 1, 2, 3] (by decide) rfl
  have hKc := hK.sb (tyq := [(cax, .byte)]) [0] rfl
  have hFc := va_free (wc := (wz_46 h0 aw ac h0_at h0_limit h0_sound h0_codeCount ob h0_openCount aw ab ac aw_typeCount wat wap wag aw_functionCount waf aw_hasMemory aw_pagesLeast aw_pagesMost aw_globalCount wgt wft wfv wgc aw_exportCount wek wei wes wez ab ax ab_length ax cax gax)) hD hS hA [0, 1, 2, 3] rfl
  refine va_calll (va_runV (As := [.long x1]) (rest := [.ref aw]) ⟨hx, hb, hml, hown, hts⟩ (c_RE_readUnsignedy l dC dI H.size h0 aw ac ob ab wat wap wag waf wgt wft wfv wgc wek wei wes wez ax cax h0_at h0_limit h0_sound h0_codeCount h0_openCount aw_typeCount aw_functionCount aw_hasMemory aw_pagesLeast aw_pagesMost aw_globalCount aw_exportCount ab_length gax (b_h0_sound) x1 (by (try dsimp only) <;> (first | (apply Int.le_antisymm <;> omega) | omega)) (by (first | (apply Int.le_antisymm <;> omega) | omega))) (cwV 1 hts (gV kM_RE_64 kV_RE_readUnsigned kS_RE_readUnsigned kI_RE kC_RE_readUnsigned) rfl rfl rfl (by decide +kernel) ⟨Nat.le_of_ble_eq_true rfl, Nat.le_of_ble_eq_true rfl⟩) ⟨fun a U g mk z => by obtain ⟨z0, z1, zP, zK, zD⟩ := z; exact ⟨z0, z1, zP, va_K.moved (u := U) (U := U.calling g mk a) (Vm.Alike.refl U.vm) zK, zD⟩, va_recv hKc hPc (ci := 7) (q0 := 0) rfl rfl, fun U hU hW => ⟨rfl, by rw [hU], va_P.he hU.symm hPc, va_K.moved hW.alike hKc, hDc.weaken (fun _ _ _ _ => trivial)⟩⟩ rfl rfl hl.1 rfl (lv_room (Nat.le_of_ble_eq_true rfl)) d_RE_readTypes_8 ⟨(Nat.zero_le _), (Nat.zero_le _)⟩) hS (fun q _ h => hFc q h) hFc (fun r2 u t H1 locs ht hvm hw hB hz1 hk1 hS => ?_)
  obtain ⟨n3, n4⟩ := u
  try dsimp only at hw
  obtain ⟨bn4, xr2⟩ := hw
  try clear hw
  have tn4 := b01 bn4
  have u8 : rz (zM gax h0_limit.toNatClampNeg 20 h0_at.toNatClampNeg) h0_sound n4 n3 r2.toInt := by have z9 := xr2.2; rw [show x1.toInt.toNat = 20 from by (first | (apply Int.le_antisymm <;> omega) | omega)] at z9; exact z9
  obtain ⟨hP1, hK1, hD1⟩ := hB
  replace hP1 := va_P.he ht hP1
  obtain ⟨hP, hD⟩ := va_join (wr := (wz_48 wat cwat gwat wap cwap gwap wag cwag gwag)) (w1 := (wz_46 h0 aw ac n3 h0_limit n4 h0_codeCount ob h0_openCount aw ab ac aw_typeCount wat wap wag aw_functionCount waf aw_hasMemory aw_pagesLeast aw_pagesMost aw_globalCount wgt wft wfv wgc aw_exportCount wek wei wes wez ab ax ab_length ax cax gax)) hP hD [0, 1, 2, 3] [4, 5, 6] rfl rfl (by decide) (by decide) hk1 hFc hP1 hD1
  clear hPc hDc hKc hFc hz1 hk1 hP1 hK1 hD1
  rename Heap => H
  have hP : va_P (dC, dI) cls (wz_49 wat cwat gwat wap cwap gwap wag cwag gwag h0 aw ac n3 h0_limit n4 h0_codeCount ob h0_openCount aw ab ac aw_typeCount wat wap wag aw_functionCount waf aw_hasMemory aw_pagesLeast aw_pagesMost aw_globalCount wgt wft wfv wgc aw_exportCount wek wei wes wez ab ax ab_length ax cax gax) H := hP
  have hD : va_D A (wz_49 wat cwat gwat wap cwap gwap wag cwag gwag h0 aw ac n3 h0_limit n4 h0_codeCount ob h0_openCount aw ab ac aw_typeCount wat wap wag aw_functionCount waf aw_hasMemory aw_pagesLeast aw_pagesMost aw_globalCount wgt wft wfv wgc aw_exportCount wek wei wes wez ab ax ab_length ax cax gax) := hD
  refine lv_l2i hx hb d_RE_readTypes_11 rfl ?_
  refine lv_topi (fun x5 ex5 => ?_)
  have tx5 := l2i_t ex5 (by (first | (apply Int.le_antisymm <;> omega) | omega)) (by (first | (apply Int.le_antisymm <;> omega) | omega))
  refine va_put (D := (dC, dI)) (ci := 10) (v := .int x5) (ty := .int) (C := R_WA) (T := F_WA) (N := 21) hx hb hts i_WA t_WA t_WA_ok n_WA hown hK hP hD hS 4 rfl rfl 2 (by decide) (hts _ kF_RE_98) (fun _ h9 => h9) rfl (by decide +kernel) rfl rfl (Nat.le_of_ble_eq_true rfl) d_RE_readTypes_12 (fun H locs hP hD hS => ?_)
  refine lv_iconst (v := 0) hx hb d_RE_readTypes_15 (by decide) ?_
  refine lv_istore_n (lv' := [(1, .int 0), (0, .ref h0)]) hx hb d_RE_readTypes_16 rfl hl (by decide) rfl (fun ls hl => ?_)
  refine w_loop (σ := Int32 × (Nat → Int32) × (Nat → Int32) × (Nat → Int32) × Int32 × Int32) (fun u H locs ls => match u with | (j17_l1, j17_wag, j17_wap, j17_wat, j17_h0_at, j17_h0_sound) => (0 ≤ j17_l1.toInt ∧ j17_l1.toInt ≤ 20) ∧ (j17_h0_sound = 0 ∨ j17_h0_sound = 1) ∧ (tyO gax h0_limit.toNatClampNeg h0_at.toNatClampNeg j17_h0_sound j17_h0_at x5.toInt j17_l1.toInt j17_wat j17_wap j17_wag) ∧ ((h0_at.toInt ≤ j17_h0_at.toInt ∧ j17_h0_at.toInt ≤ h0_limit.toInt)) ∧ (j17_l1.toInt ≤ x5.toInt) ∧ va_P (dC, dI) cls (wz_49 wat cwat j17_wat wap cwap j17_wap wag cwag j17_wag h0 aw ac j17_h0_at h0_limit j17_h0_sound h0_codeCount ob h0_openCount aw ab ac x5 wat wap wag aw_functionCount waf aw_hasMemory aw_pagesLeast aw_pagesMost aw_globalCount wgt wft wfv wgc aw_exportCount wek wei wes wez ab ax ab_length ax cax gax) H ∧ va_D A (wz_49 wat cwat j17_wat wap cwap j17_wap wag cwag j17_wag h0 aw ac j17_h0_at h0_limit j17_h0_sound h0_codeCount ob h0_openCount aw ab ac x5 wat wap wag aw_functionCount waf aw_hasMemory aw_pagesLeast aw_pagesMost aw_globalCount wgt wft wfv wgc aw_exportCount wek wei wes wez ab ax ab_length ax cax gax) ∧ va_S A s.heap H locs ∧ lv_has ls 4 [(0, .ref h0), (1, .int j17_l1)]) (fun u => match u with | (j17_l1, j17_wag, j17_wap, j17_wat, j17_h0_at, j17_h0_sound) => (x5.toInt - j17_l1.toInt).toNat) ?_ (0, gwag, gwap, gwat, n3, n4) ⟨by (try dsimp only) <;> (first | (apply Int.le_antisymm <;> omega) | omega), bn4, (tyO_0 (by have z9 := u8; rw [show r2.toInt = x5.toInt from by (first | (apply Int.le_antisymm <;> omega) | omega)] at z9; exact z9) hs (by decide)), by (try dsimp only) <;> (first | (apply Int.le_antisymm <;> omega) | omega), by (try dsimp only) <;> (first | (apply Int.le_antisymm <;> omega) | omega), hP, hD, hS, lv_sub hl [1, 0] rfl⟩
  intro N17 ih17 u H locs ls hN17 hI
  obtain ⟨j17_l1, j17_wag, j17_wap, j17_wat, j17_h0_at, j17_h0_sound⟩ := u
  obtain ⟨b_j17_l1, b_j17_h0_sound, v1, v2, v3, hP, hD, hS, hl⟩ := hI
  have tj17_h0_sound := b01 b_j17_h0_sound
  have hN17 : (x5.toInt - j17_l1.toInt).toNat < N17 + 1 := hN17
  refine lv_iload_n hx hb d_RE_readTypes_17 rfl (lv_at hl 1 rfl) ?_
  refine lv_aload_n hx hb d_RE_readTypes_18 rfl (lv_at hl 0 rfl) ?_
  refine va_get (D := (dC, dI)) (ci := 7) (v := .ref aw) (C := R_RE) (T := F_RE) (N := 8) hx hb hts i_RE hown hK hP 3 rfl rfl 0 (by decide) (hts _ kF_RE_15) (fun _ h9 => h9) rfl d_RE_readTypes_19 ?_
  refine va_get (D := (dC, dI)) (ci := 10) (v := .int x5) (C := R_WA) (T := F_WA) (N := 21) hx hb hts i_WA hown hK hP 4 rfl rfl 2 (by decide) (hts _ kF_RE_98) (fun _ h9 => h9) rfl d_RE_readTypes_22 ?_
  refine lv_icmp_ge (tgt := 125) hx hb d_RE_readTypes_25 (by decide) (fun c25 => ?_) (fun c25 => ?_)
  · have q25 := leI c25
    have hP9 := hP.sb (wq := (wz_47 h0 aw ac j17_h0_at h0_limit j17_h0_sound h0_codeCount ob h0_openCount aw ab ac x5 wat wap wag aw_functionCount waf aw_hasMemory aw_pagesLeast aw_pagesMost aw_globalCount wgt wft wfv wgc aw_exportCount wek wei wes wez ab ax ab_length ax cax gax wat cwat j17_wat wap cwap j17_wap wag cwag j17_wag)) [3, 4, 5, 6, 0, 1, 2] rfl
    have hD9 := hD.sb (wq := (wz_47 h0 aw ac j17_h0_at h0_limit j17_h0_sound h0_codeCount ob h0_openCount aw ab ac x5 wat wap wag aw_functionCount waf aw_hasMemory aw_pagesLeast aw_pagesMost aw_globalCount wgt wft wfv wgc aw_exportCount wek wei wes wez ab ax ab_length ax cax gax wat cwat j17_wat wap cwap j17_wap wag cwag j17_wag)) [3, 4, 5, 6, 0, 1, 2] (by decide) rfl
    exact W.vret hx hb hr (fun t ht hW => ⟨⟨(j17_wag, j17_wap, j17_wat, x5, j17_h0_at, j17_h0_sound), rfl, ⟨by (try dsimp only) <;> (first | (apply Int.le_antisymm <;> omega) | omega), b_j17_h0_sound, ⟨⟨by (try dsimp only) <;> (first | (apply Int.le_antisymm <;> omega) | omega), by (try dsimp only) <;> (first | (apply Int.le_antisymm <;> omega) | omega)⟩, (by rcases v1 with ⟨z1, T, z2, z3, z4⟩ | ⟨z1, z2⟩; (rw [show (x5.toInt - j17_l1.toInt).toNat = 0 from by (first | (apply Int.le_antisymm <;> omega) | omega), zA] at z3; exact Or.inl ⟨z1, T, z3, by (first | (apply Int.le_antisymm <;> omega) | omega), z4⟩); (exact Or.inr ⟨z1, z2⟩))⟩⟩, va_P.he ht.symm hP9, va_K.moved hW.alike hK, hD9⟩, hS.F ht⟩) hS.2.2 d_RE_readTypes_125
  · have q25 := nleI c25
    refine lv_aload_n hx hb d_RE_readTypes_28 rfl (lv_at hl 0 rfl) ?_
    refine va_get (D := (dC, dI)) (ci := 7) (v := .int j17_h0_sound) (C := R_RE) (T := F_RE) (N := 8) hx hb hts i_RE hown hK hP 3 rfl rfl 4 (by decide) (hts _ kF_RE_45) (fun _ h9 => h9) rfl d_RE_readTypes_29 ?_
    refine lv_if_eq (tgt := 125) hx hb d_RE_readTypes_32 (by decide) (fun c32 => ?_) (fun c32 => ?_)
    · have q32 := eqI c32
      have hP9 := hP.sb (wq := (wz_47 h0 aw ac j17_h0_at h0_limit j17_h0_sound h0_codeCount ob h0_openCount aw ab ac x5 wat wap wag aw_functionCount waf aw_hasMemory aw_pagesLeast aw_pagesMost aw_globalCount wgt wft wfv wgc aw_exportCount wek wei wes wez ab ax ab_length ax cax gax wat cwat j17_wat wap cwap j17_wap wag cwag j17_wag)) [3, 4, 5, 6, 0, 1, 2] rfl
      have hD9 := hD.sb (wq := (wz_47 h0 aw ac j17_h0_at h0_limit j17_h0_sound h0_codeCount ob h0_openCount aw ab ac x5 wat wap wag aw_functionCount waf aw_hasMemory aw_pagesLeast aw_pagesMost aw_globalCount wgt wft wfv wgc aw_exportCount wek wei wes wez ab ax ab_length ax cax gax wat cwat j17_wat wap cwap j17_wap wag cwag j17_wag)) [3, 4, 5, 6, 0, 1, 2] (by decide) rfl
      exact W.vret hx hb hr (fun t ht hW => ⟨⟨(j17_wag, j17_wap, j17_wat, x5, j17_h0_at, j17_h0_sound), rfl, ⟨by (try dsimp only) <;> (first | (apply Int.le_antisymm <;> omega) | omega), b_j17_h0_sound, ⟨⟨by (try dsimp only) <;> (first | (apply Int.le_antisymm <;> omega) | omega), by (try dsimp only) <;> (first | (apply Int.le_antisymm <;> omega) | omega)⟩, (by rcases v1 with ⟨z1, T, z2, z3, z4⟩ | ⟨z1, z2⟩; (rw [show (x5.toInt - j17_l1.toInt).toNat = 0 from by (first | (apply Int.le_antisymm <;> omega) | omega), zA] at z3; exact Or.inl ⟨z1, T, z3, by (first | (apply Int.le_antisymm <;> omega) | omega), z4⟩); (exact Or.inr ⟨z1, z2⟩))⟩⟩, va_P.he ht.symm hP9, va_K.moved hW.alike hK, hD9⟩, hS.F ht⟩) hS.2.2 d_RE_readTypes_125
    · have q32 := neI c32
      refine lv_aload_n hx hb d_RE_readTypes_35 rfl (lv_at hl 0 rfl) ?_
      refine lv_bipush (v := 96) hx hb d_RE_readTypes_36 (by decide) ?_
      have hPc := hP.sb (wq := (wz_46 h0 aw ac j17_h0_at h0_limit j17_h0_sound h0_codeCount ob h0_openCount aw ab ac x5 wat wap wag aw_functionCount waf aw_hasMemory aw_pagesLeast aw_pagesMost aw_globalCount wgt wft wfv wgc aw_exportCount wek wei wes wez ab ax ab_length ax cax gax)) [3, 4, 5, 6] rfl
      have hDc := hD.sb (wq := (wz_46 h0 aw ac j17_h0_at h0_limit j17_h0_sound h0_codeCount ob h0_openCount aw ab ac x5 wat wap wag aw_functionCount waf aw_hasMemory aw_pagesLeast aw_pagesMost aw_globalCount wgt wft wfv wgc aw_exportCount wek wei wes wez ab ax ab_length ax cax gax)) [3, 4, 5, 6] (by decide) rfl
      have hKc := hK.sb (tyq := [(cax, .byte)]) [0] rfl
      have hFc := va_free (wc := (wz_46 h0 aw ac j17_h0_at h0_limit j17_h0_sound h0_codeCount ob h0_openCount aw ab ac x5 wat wap wag aw_functionCount waf aw_hasMemory aw_pagesLeast aw_pagesMost aw_globalCount wgt wft wfv wgc aw_exportCount wek wei wes wez ab ax ab_length ax cax gax)) hD hS hA [3, 4, 5, 6] rfl
      refine va_callv (va_runV (As := [.int 96]) (rest := []) ⟨hx, hb, hml, hown, hts⟩ (c_RE_expecty l dC dI H.size h0 aw ac ob ab wat wap wag waf wgt wft wfv wgc wek wei wes wez ax cax j17_h0_at h0_limit j17_h0_sound h0_codeCount h0_openCount x5 aw_functionCount aw_hasMemory aw_pagesLeast aw_pagesMost aw_globalCount aw_exportCount ab_length gax (b_j17_h0_sound) 96 (by (try dsimp only) <;> (first | (apply Int.le_antisymm <;> omega) | omega)) (by decide)) (cwV 1 hts (gV kM_RE_56 kV_RE_expect kS_RE_expect kI_RE kC_RE_expect) rfl rfl rfl (by decide +kernel) ⟨Nat.le_of_ble_eq_true rfl, Nat.le_of_ble_eq_true rfl⟩) ⟨fun a U g mk z => by obtain ⟨z0, z1, zP, zK, zD⟩ := z; exact ⟨z0, z1, zP, va_K.moved (u := U) (U := U.calling g mk a) (Vm.Alike.refl U.vm) zK, zD⟩, va_recv hKc hPc (ci := 7) (q0 := 0) rfl rfl, fun U hU hW => ⟨rfl, by rw [hU], va_P.he hU.symm hPc, va_K.moved hW.alike hKc, hDc.weaken (fun _ _ _ _ => trivial)⟩⟩ rfl rfl hl.1 rfl (lv_room (Nat.le_of_ble_eq_true rfl)) d_RE_readTypes_38 ⟨(Nat.zero_le _), (Nat.zero_le _)⟩) hS (fun q _ h => hFc q h) hFc (fun u t H1 locs ht hvm hw hB hz1 hk1 hS => ?_)
      obtain ⟨n7, n8⟩ := u
      try dsimp only at hw
      obtain ⟨bn8, xr6⟩ := hw
      try clear hw
      have tn8 := b01 bn8
      have u38 : rp (zE gax h0_limit.toNatClampNeg 96 j17_h0_at.toNatClampNeg) j17_h0_sound n8 n7 := by have z9 := xr6.2; rw [show (96 : Int32).toInt.toNat = 96 from by decide] at z9; exact z9
      obtain ⟨hP1, hK1, hD1⟩ := hB
      replace hP1 := va_P.he ht hP1
      obtain ⟨hP, hD⟩ := va_join (wr := (wz_48 wat cwat j17_wat wap cwap j17_wap wag cwag j17_wag)) (w1 := (wz_46 h0 aw ac n7 h0_limit n8 h0_codeCount ob h0_openCount aw ab ac x5 wat wap wag aw_functionCount waf aw_hasMemory aw_pagesLeast aw_pagesMost aw_globalCount wgt wft wfv wgc aw_exportCount wek wei wes wez ab ax ab_length ax cax gax)) hP hD [3, 4, 5, 6] [0, 1, 2] rfl rfl (by decide) (by decide) hk1 hFc hP1 hD1
      clear hPc hDc hKc hFc hz1 hk1 hP1 hK1 hD1
      rename Heap => H
      have hP : va_P (dC, dI) cls (wz_49 wat cwat j17_wat wap cwap j17_wap wag cwag j17_wag h0 aw ac n7 h0_limit n8 h0_codeCount ob h0_openCount aw ab ac x5 wat wap wag aw_functionCount waf aw_hasMemory aw_pagesLeast aw_pagesMost aw_globalCount wgt wft wfv wgc aw_exportCount wek wei wes wez ab ax ab_length ax cax gax) H := hP
      have hD : va_D A (wz_49 wat cwat j17_wat wap cwap j17_wap wag cwag j17_wag h0 aw ac n7 h0_limit n8 h0_codeCount ob h0_openCount aw ab ac x5 wat wap wag aw_functionCount waf aw_hasMemory aw_pagesLeast aw_pagesMost aw_globalCount wgt wft wfv wgc aw_exportCount wek wei wes wez ab ax ab_length ax cax gax) := hD
      refine lv_aload_n hx hb d_RE_readTypes_41 rfl (lv_at hl 0 rfl) ?_
      refine lv_ldc2 hx hb hown (hts _ kL_RE_101) d_RE_readTypes_42 ?_
      refine lv_topl (fun x9 ex9 => ?_)
      have tx9 : x9.toInt = 8 := by rw [ex9]; decide
      have hPc := hP.sb (wq := (wz_46 h0 aw ac n7 h0_limit n8 h0_codeCount ob h0_openCount aw ab ac x5 wat wap wag aw_functionCount waf aw_hasMemory aw_pagesLeast aw_pagesMost aw_globalCount wgt wft wfv wgc aw_exportCount wek wei wes wez ab ax ab_length ax cax gax)) [3, 4, 5, 6] rfl
      have hDc := hD.sb (wq := (wz_46 h0 aw ac n7 h0_limit n8 h0_codeCount ob h0_openCount aw ab ac x5 wat wap wag aw_functionCount waf aw_hasMemory aw_pagesLeast aw_pagesMost aw_globalCount wgt wft wfv wgc aw_exportCount wek wei wes wez ab ax ab_length ax cax gax)) [3, 4, 5, 6] (by decide) rfl
      have hKc := hK.sb (tyq := [(cax, .byte)]) [0] rfl
      have hFc := va_free (wc := (wz_46 h0 aw ac n7 h0_limit n8 h0_codeCount ob h0_openCount aw ab ac x5 wat wap wag aw_functionCount waf aw_hasMemory aw_pagesLeast aw_pagesMost aw_globalCount wgt wft wfv wgc aw_exportCount wek wei wes wez ab ax ab_length ax cax gax)) hD hS hA [3, 4, 5, 6] rfl
      refine va_calll (va_runV (As := [.long x9]) (rest := []) ⟨hx, hb, hml, hown, hts⟩ (c_RE_readUnsignedy l dC dI H.size h0 aw ac ob ab wat wap wag waf wgt wft wfv wgc wek wei wes wez ax cax n7 h0_limit n8 h0_codeCount h0_openCount x5 aw_functionCount aw_hasMemory aw_pagesLeast aw_pagesMost aw_globalCount aw_exportCount ab_length gax (bn8) x9 (by (try dsimp only) <;> (first | (apply Int.le_antisymm <;> omega) | omega)) (by (first | (apply Int.le_antisymm <;> omega) | omega))) (cwV 1 hts (gV kM_RE_64 kV_RE_readUnsigned kS_RE_readUnsigned kI_RE kC_RE_readUnsigned) rfl rfl rfl (by decide +kernel) ⟨Nat.le_of_ble_eq_true rfl, Nat.le_of_ble_eq_true rfl⟩) ⟨fun a U g mk z => by obtain ⟨z0, z1, zP, zK, zD⟩ := z; exact ⟨z0, z1, zP, va_K.moved (u := U) (U := U.calling g mk a) (Vm.Alike.refl U.vm) zK, zD⟩, va_recv hKc hPc (ci := 7) (q0 := 0) rfl rfl, fun U hU hW => ⟨rfl, by rw [hU], va_P.he hU.symm hPc, va_K.moved hW.alike hKc, hDc.weaken (fun _ _ _ _ => trivial)⟩⟩ rfl rfl hl.1 rfl (lv_room (Nat.le_of_ble_eq_true rfl)) d_RE_readTypes_45 ⟨(Nat.zero_le _), (Nat.zero_le _)⟩) hS (fun q _ h => hFc q h) hFc (fun r10 u t H1 locs ht hvm hw hB hz1 hk1 hS => ?_)
      obtain ⟨n11, n12⟩ := u
      try dsimp only at hw
      obtain ⟨bn12, xr10⟩ := hw
      try clear hw
      have tn12 := b01 bn12
      have u45 : rz (zM gax h0_limit.toNatClampNeg 8 n7.toNatClampNeg) n8 n12 n11 r10.toInt := by have z9 := xr10.2; rw [show x9.toInt.toNat = 8 from by (first | (apply Int.le_antisymm <;> omega) | omega)] at z9; exact z9
      obtain ⟨hP1, hK1, hD1⟩ := hB
      replace hP1 := va_P.he ht hP1
      obtain ⟨hP, hD⟩ := va_join (wr := (wz_48 wat cwat j17_wat wap cwap j17_wap wag cwag j17_wag)) (w1 := (wz_46 h0 aw ac n11 h0_limit n12 h0_codeCount ob h0_openCount aw ab ac x5 wat wap wag aw_functionCount waf aw_hasMemory aw_pagesLeast aw_pagesMost aw_globalCount wgt wft wfv wgc aw_exportCount wek wei wes wez ab ax ab_length ax cax gax)) hP hD [3, 4, 5, 6] [0, 1, 2] rfl rfl (by decide) (by decide) hk1 hFc hP1 hD1
      clear hPc hDc hKc hFc hz1 hk1 hP1 hK1 hD1
      rename Heap => H
      have hP : va_P (dC, dI) cls (wz_49 wat cwat j17_wat wap cwap j17_wap wag cwag j17_wag h0 aw ac n11 h0_limit n12 h0_codeCount ob h0_openCount aw ab ac x5 wat wap wag aw_functionCount waf aw_hasMemory aw_pagesLeast aw_pagesMost aw_globalCount wgt wft wfv wgc aw_exportCount wek wei wes wez ab ax ab_length ax cax gax) H := hP
      have hD : va_D A (wz_49 wat cwat j17_wat wap cwap j17_wap wag cwag j17_wag h0 aw ac n11 h0_limit n12 h0_codeCount ob h0_openCount aw ab ac x5 wat wap wag aw_functionCount waf aw_hasMemory aw_pagesLeast aw_pagesMost aw_globalCount wgt wft wfv wgc aw_exportCount wek wei wes wez ab ax ab_length ax cax gax) := hD
      refine lv_l2i hx hb d_RE_readTypes_48 rfl ?_
      refine lv_topi (fun x13 ex13 => ?_)
      have tx13 := l2i_t ex13 (by (first | (apply Int.le_antisymm <;> omega) | omega)) (by (first | (apply Int.le_antisymm <;> omega) | omega))
      refine lv_istore_n (lv' := [(2, .int x13), (0, .ref h0), (1, .int j17_l1)]) hx hb d_RE_readTypes_49 rfl hl (by decide) rfl (fun ls hl => ?_)
      refine lv_aload_n hx hb d_RE_readTypes_50 rfl (lv_at hl 1 rfl) ?_
      refine va_get (D := (dC, dI)) (ci := 7) (v := .ref aw) (C := R_RE) (T := F_RE) (N := 8) hx hb hts i_RE hown hK hP 3 rfl rfl 0 (by decide) (hts _ kF_RE_15) (fun _ h9 => h9) rfl d_RE_readTypes_51 ?_
      refine va_get (D := (dC, dI)) (ci := 10) (v := .ref wat) (C := R_WA) (T := F_WA) (N := 21) hx hb hts i_WA hown hK hP 4 rfl rfl 3 (by decide) (hts _ kF_RE_103) (fun _ h9 => h9) rfl d_RE_readTypes_54 ?_
      refine lv_iload_n hx hb d_RE_readTypes_57 rfl (lv_at hl 2 rfl) ?_
      refine lv_iload_n hx hb d_RE_readTypes_58 rfl (lv_at hl 0 rfl) ?_
      have g59 : vp_in j17_l1 20 := vp_in_iff.mpr ⟨by (first | (apply Int.le_antisymm <;> omega) | omega), by (first | (apply Int.le_antisymm <;> omega) | omega)⟩
      refine va_iast hx hb hK hP hD hS 0 1 rfl rfl g59 d_RE_readTypes_59 (fun H locs hP hD hS => ?_)
      generalize ef14 : upd j17_wat j17_l1.toNatClampNeg x13 = f14 at hP hD
      refine lv_iconst (v := 0) hx hb d_RE_readTypes_60 (by decide) ?_
      refine lv_istore_n (lv' := [(3, .int 0), (2, .int x13), (0, .ref h0), (1, .int j17_l1)]) hx hb d_RE_readTypes_61 rfl hl (by decide) rfl (fun ls hl => ?_)
      refine w_loop (σ := Int32 × (Nat → Int32) × Int32 × Int32) (fun u H locs ls => match u with | (j62_l3, j62_wap, j62_h0_at, j62_h0_sound) => (0 ≤ j62_l3.toInt ∧ j62_l3.toInt ≤ 8) ∧ (j62_h0_sound = 0 ∨ j62_h0_sound = 1) ∧ (tyN gax h0_limit.toNatClampNeg j17_h0_at.toNatClampNeg j62_h0_sound j62_h0_at (x13.toInt - j62_l3.toInt) j62_l3.toInt j17_l1.toInt j62_wap) ∧ (bx (∀ j : Nat, (j : Int) < 8 * j17_l1.toInt → j62_wap j = j17_wap j)) ∧ (j62_l3.toInt ≤ x13.toInt) ∧ ((h0_at.toInt ≤ j62_h0_at.toInt ∧ j62_h0_at.toInt ≤ h0_limit.toInt)) ∧ va_P (dC, dI) cls (wz_49 wat cwat f14 wap cwap j62_wap wag cwag j17_wag h0 aw ac j62_h0_at h0_limit j62_h0_sound h0_codeCount ob h0_openCount aw ab ac x5 wat wap wag aw_functionCount waf aw_hasMemory aw_pagesLeast aw_pagesMost aw_globalCount wgt wft wfv wgc aw_exportCount wek wei wes wez ab ax ab_length ax cax gax) H ∧ va_D A (wz_49 wat cwat f14 wap cwap j62_wap wag cwag j17_wag h0 aw ac j62_h0_at h0_limit j62_h0_sound h0_codeCount ob h0_openCount aw ab ac x5 wat wap wag aw_functionCount waf aw_hasMemory aw_pagesLeast aw_pagesMost aw_globalCount wgt wft wfv wgc aw_exportCount wek wei wes wez ab ax ab_length ax cax gax) ∧ va_S A s.heap H locs ∧ lv_has ls 4 [(0, .ref h0), (1, .int j17_l1), (2, .int x13), (3, .int j62_l3)]) (fun u => match u with | (j62_l3, j62_wap, j62_h0_at, j62_h0_sound) => (x13.toInt - j62_l3.toInt).toNat) ?_ (0, j17_wap, n11, n12) ⟨by (try dsimp only) <;> (first | (apply Int.le_antisymm <;> omega) | omega), bn12, (by rw [show x13.toInt - (0 : Int32).toInt = x13.toInt from by (first | (apply Int.le_antisymm <;> omega) | omega)]; exact tyN_0 u38 (by have z9 := u45; rw [show r10.toInt = x13.toInt from by (first | (apply Int.le_antisymm <;> omega) | omega)] at z9; exact z9) (by (first | (apply Int.le_antisymm <;> omega) | omega)) (by decide)), (fun _ _ => rfl), by (try dsimp only) <;> (first | (apply Int.le_antisymm <;> omega) | omega), by (try dsimp only) <;> (first | (apply Int.le_antisymm <;> omega) | omega), hP, hD, hS, lv_sub hl [2, 3, 1, 0] rfl⟩
      intro N62 ih62 u H locs ls hN62 hI
      obtain ⟨j62_l3, j62_wap, j62_h0_at, j62_h0_sound⟩ := u
      obtain ⟨b_j62_l3, b_j62_h0_sound, w1, w2, w3, w4, hP, hD, hS, hl⟩ := hI
      have tj62_h0_sound := b01 b_j62_h0_sound
      have hN62 : (x13.toInt - j62_l3.toInt).toNat < N62 + 1 := hN62
      refine lv_iload_n hx hb d_RE_readTypes_62 rfl (lv_at hl 3 rfl) ?_
      refine lv_iload_n hx hb d_RE_readTypes_63 rfl (lv_at hl 2 rfl) ?_
      refine lv_icmp_ge (tgt := 91) hx hb d_RE_readTypes_64 (by decide) (fun c64 => ?_) (fun c64 => ?_)
      · have q64 := leI c64
        refine lv_aload_n hx hb d_RE_readTypes_91 rfl (lv_at hl 0 rfl) ?_
        refine va_get (D := (dC, dI)) (ci := 7) (v := .ref aw) (C := R_RE) (T := F_RE) (N := 8) hx hb hts i_RE hown hK hP 3 rfl rfl 0 (by decide) (hts _ kF_RE_15) (fun _ h9 => h9) rfl d_RE_readTypes_92 ?_
        refine va_get (D := (dC, dI)) (ci := 10) (v := .ref wag) (C := R_WA) (T := F_WA) (N := 21) hx hb hts i_WA hown hK hP 4 rfl rfl 5 (by decide) (hts _ kF_RE_112) (fun _ h9 => h9) rfl d_RE_readTypes_95 ?_
        refine lv_iload_n hx hb d_RE_readTypes_98 rfl (lv_at hl 1 rfl) ?_
        refine lv_aload_n hx hb d_RE_readTypes_99 rfl (lv_at hl 0 rfl) ?_
        refine lv_lconst (v := 1) hx hb d_RE_readTypes_100 (by decide) ?_
        have kl1 : (1 : Int64).toInt = 1 := by decide
        have hPc := hP.sb (wq := (wz_46 h0 aw ac j62_h0_at h0_limit j62_h0_sound h0_codeCount ob h0_openCount aw ab ac x5 wat wap wag aw_functionCount waf aw_hasMemory aw_pagesLeast aw_pagesMost aw_globalCount wgt wft wfv wgc aw_exportCount wek wei wes wez ab ax ab_length ax cax gax)) [3, 4, 5, 6] rfl
        have hDc := hD.sb (wq := (wz_46 h0 aw ac j62_h0_at h0_limit j62_h0_sound h0_codeCount ob h0_openCount aw ab ac x5 wat wap wag aw_functionCount waf aw_hasMemory aw_pagesLeast aw_pagesMost aw_globalCount wgt wft wfv wgc aw_exportCount wek wei wes wez ab ax ab_length ax cax gax)) [3, 4, 5, 6] (by decide) rfl
        have hKc := hK.sb (tyq := [(cax, .byte)]) [0] rfl
        have hFc := va_free (wc := (wz_46 h0 aw ac j62_h0_at h0_limit j62_h0_sound h0_codeCount ob h0_openCount aw ab ac x5 wat wap wag aw_functionCount waf aw_hasMemory aw_pagesLeast aw_pagesMost aw_globalCount wgt wft wfv wgc aw_exportCount wek wei wes wez ab ax ab_length ax cax gax)) hD hS hA [3, 4, 5, 6] rfl
        refine va_calll (va_runV (As := [.long 1]) (rest := [.int j17_l1, .ref wag]) ⟨hx, hb, hml, hown, hts⟩ (c_RE_readUnsignedy l dC dI H.size h0 aw ac ob ab wat wap wag waf wgt wft wfv wgc wek wei wes wez ax cax j62_h0_at h0_limit j62_h0_sound h0_codeCount h0_openCount x5 aw_functionCount aw_hasMemory aw_pagesLeast aw_pagesMost aw_globalCount aw_exportCount ab_length gax (b_j62_h0_sound) 1 (by (try dsimp only) <;> (first | (apply Int.le_antisymm <;> omega) | omega)) (by decide)) (cwV 1 hts (gV kM_RE_64 kV_RE_readUnsigned kS_RE_readUnsigned kI_RE kC_RE_readUnsigned) rfl rfl rfl (by decide +kernel) ⟨Nat.le_of_ble_eq_true rfl, Nat.le_of_ble_eq_true rfl⟩) ⟨fun a U g mk z => by obtain ⟨z0, z1, zP, zK, zD⟩ := z; exact ⟨z0, z1, zP, va_K.moved (u := U) (U := U.calling g mk a) (Vm.Alike.refl U.vm) zK, zD⟩, va_recv hKc hPc (ci := 7) (q0 := 0) rfl rfl, fun U hU hW => ⟨rfl, by rw [hU], va_P.he hU.symm hPc, va_K.moved hW.alike hKc, hDc.weaken (fun _ _ _ _ => trivial)⟩⟩ rfl rfl hl.1 rfl (lv_room (Nat.le_of_ble_eq_true rfl)) d_RE_readTypes_101 ⟨(Nat.zero_le _), (Nat.zero_le _)⟩) hS (fun q _ h => hFc q h) hFc (fun r15 u t H1 locs ht hvm hw hB hz1 hk1 hS => ?_)
        obtain ⟨n16, n17⟩ := u
        try dsimp only at hw
        obtain ⟨bn17, xr15⟩ := hw
        try clear hw
        have tn17 := b01 bn17
        have u101 : rz (zM gax h0_limit.toNatClampNeg 1 j62_h0_at.toNatClampNeg) j62_h0_sound n17 n16 r15.toInt := by have z9 := xr15.2; rw [show (1 : Int64).toInt.toNat = 1 from by decide] at z9; exact z9
        obtain ⟨hP1, hK1, hD1⟩ := hB
        replace hP1 := va_P.he ht hP1
        obtain ⟨hP, hD⟩ := va_join (wr := (wz_48 wat cwat f14 wap cwap j62_wap wag cwag j17_wag)) (w1 := (wz_46 h0 aw ac n16 h0_limit n17 h0_codeCount ob h0_openCount aw ab ac x5 wat wap wag aw_functionCount waf aw_hasMemory aw_pagesLeast aw_pagesMost aw_globalCount wgt wft wfv wgc aw_exportCount wek wei wes wez ab ax ab_length ax cax gax)) hP hD [3, 4, 5, 6] [0, 1, 2] rfl rfl (by decide) (by decide) hk1 hFc hP1 hD1
        clear hPc hDc hKc hFc hz1 hk1 hP1 hK1 hD1
        rename Heap => H
        have hP : va_P (dC, dI) cls (wz_49 wat cwat f14 wap cwap j62_wap wag cwag j17_wag h0 aw ac n16 h0_limit n17 h0_codeCount ob h0_openCount aw ab ac x5 wat wap wag aw_functionCount waf aw_hasMemory aw_pagesLeast aw_pagesMost aw_globalCount wgt wft wfv wgc aw_exportCount wek wei wes wez ab ax ab_length ax cax gax) H := hP
        have hD : va_D A (wz_49 wat cwat f14 wap cwap j62_wap wag cwag j17_wag h0 aw ac n16 h0_limit n17 h0_codeCount ob h0_openCount aw ab ac x5 wat wap wag aw_functionCount waf aw_hasMemory aw_pagesLeast aw_pagesMost aw_globalCount wgt wft wfv wgc aw_exportCount wek wei wes wez ab ax ab_length ax cax gax) := hD
        refine lv_lconst (v := 1) hx hb d_RE_readTypes_104 (by decide) ?_
        have kl1 : (1 : Int64).toInt = 1 := by decide
        refine W.lcmp hx hb d_RE_readTypes_105 ?_
        refine lv_topi (fun x18 ex18 => ?_)
        have tx18 := lgc ex18
        refine w_cut (pc2 := 118) (σ := Int32 × Int32 × Int32) (fun u H locs ls => match u with | (j118_s0, j118_h0_at, j118_h0_sound) => (j118_h0_sound = 0 ∨ j118_h0_sound = 1) ∧ ((h0_at.toInt ≤ j118_h0_at.toInt ∧ j118_h0_at.toInt ≤ h0_limit.toInt)) ∧ (tyE gax h0_limit.toNatClampNeg j17_h0_at.toNatClampNeg j118_h0_sound j118_h0_at x13.toInt j17_l1.toInt j62_wap j118_s0.toInt) ∧ va_P (dC, dI) cls (wz_49 wat cwat f14 wap cwap j62_wap wag cwag j17_wag h0 aw ac j118_h0_at h0_limit j118_h0_sound h0_codeCount ob h0_openCount aw ab ac x5 wat wap wag aw_functionCount waf aw_hasMemory aw_pagesLeast aw_pagesMost aw_globalCount wgt wft wfv wgc aw_exportCount wek wei wes wez ab ax ab_length ax cax gax) H ∧ va_D A (wz_49 wat cwat f14 wap cwap j62_wap wag cwag j17_wag h0 aw ac j118_h0_at h0_limit j118_h0_sound h0_codeCount ob h0_openCount aw ab ac x5 wat wap wag aw_functionCount waf aw_hasMemory aw_pagesLeast aw_pagesMost aw_globalCount wgt wft wfv wgc aw_exportCount wek wei wes wez ab ax ab_length ax cax gax) ∧ va_S A s.heap H locs ∧ lv_has ls 4 [(0, .ref h0), (1, .int j17_l1)]) (fun u => match u with | (j118_s0, j118_h0_at, j118_h0_sound) => [.int j118_s0, .int j17_l1, .ref wag]) ?_ (fun jn118 => ?_)
        · intro u H locs ls hI
          obtain ⟨j118_s0, j118_h0_at, j118_h0_sound⟩ := u
          obtain ⟨b_j118_h0_sound, ya, y118, hP, hD, hS, hl⟩ := hI
          have tj118_h0_sound := b01 b_j118_h0_sound
          have g118 : vp_in j17_l1 20 := vp_in_iff.mpr ⟨by (first | (apply Int.le_antisymm <;> omega) | omega), by (first | (apply Int.le_antisymm <;> omega) | omega)⟩
          refine va_iast hx hb hK hP hD hS 2 3 rfl rfl g118 d_RE_readTypes_118 (fun H locs hP hD hS => ?_)
          generalize ef19 : upd j17_wag j17_l1.toNatClampNeg j118_s0 = f19 at hP hD
          obtain ⟨x20, ex20⟩ : ∃ z : Int32, z = j17_l1 + 1 := ⟨_, rfl⟩
          have tx20 : x20.toInt = j17_l1.toInt + 1 := by have z := i32_add ex20 (by (first | (apply Int.le_antisymm <;> omega) | omega)) (by (first | (apply Int.le_antisymm <;> omega) | omega)); first | exact z | (first | (apply Int.le_antisymm <;> omega) | omega)
          refine lv_iinc (v := x20) (lv' := [(1, .int x20), (0, .ref h0)]) hx hb d_RE_readTypes_119 hl (k := 1) rfl (by rw [ex20]; rfl) (by decide) rfl (fun ls hl => ?_)
          refine lv_goto (tgt := 17) hx hb d_RE_readTypes_122 (by decide) ?_
          exact ih17 (x20, f19, j62_wap, f14, j118_h0_at, j118_h0_sound) _ _ _ (by show (x5.toInt - x20.toInt).toNat < N17; (first | (apply Int.le_antisymm <;> omega) | omega)) ⟨by (try dsimp only) <;> (first | (apply Int.le_antisymm <;> omega) | omega), b_j118_h0_sound, (by rw [← ef14, ← ef19, show x20.toInt = j17_l1.toInt + 1 from by (first | (apply Int.le_antisymm <;> omega) | omega), show j17_l1.toNatClampNeg = j17_l1.toInt.toNat from by have := i32_clamp (x := j17_l1) (by (first | (apply Int.le_antisymm <;> omega) | omega)); (first | (apply Int.le_antisymm <;> omega) | omega)]; exact tyO_s v1 (by (first | (apply Int.le_antisymm <;> omega) | omega)) y118 (by (first | (apply Int.le_antisymm <;> omega) | omega)) (by (first | (apply Int.le_antisymm <;> omega) | omega)) (by (first | (apply Int.le_antisymm <;> omega) | omega)) (by (first | (apply Int.le_antisymm <;> omega) | omega)) w2.out), by (try dsimp only) <;> (first | (apply Int.le_antisymm <;> omega) | omega), by (try dsimp only) <;> (first | (apply Int.le_antisymm <;> omega) | omega), hP, hD, hS, lv_sub hl [1, 0] rfl⟩
        · skip
          refine lv_if_ne (tgt := 116) hx hb d_RE_readTypes_106 (by decide) (fun c106 => ?_) (fun c106 => ?_)
          · have q106 := neI c106
            refine lv_bipush (v := 64) hx hb d_RE_readTypes_116 (by decide) ?_
            exact jn118 (64, n16, n17) _ _ _ ⟨bn17, by (try dsimp only) <;> (first | (apply Int.le_antisymm <;> omega) | omega), (by rw [show (64 : Int32).toInt = 64 from by decide]; exact tyE_0 w1 (by (first | (apply Int.le_antisymm <;> omega) | omega)) (by (first | (apply Int.le_antisymm <;> omega) | omega)) u101 (by (first | (apply Int.le_antisymm <;> omega) | omega))), hP, hD, hS, lv_sub hl [0, 1] rfl⟩
          · have q106 := eqI c106
            refine lv_aload_n hx hb d_RE_readTypes_109 rfl (lv_at hl 0 rfl) ?_
            have hPc := hP.sb (wq := (wz_46 h0 aw ac n16 h0_limit n17 h0_codeCount ob h0_openCount aw ab ac x5 wat wap wag aw_functionCount waf aw_hasMemory aw_pagesLeast aw_pagesMost aw_globalCount wgt wft wfv wgc aw_exportCount wek wei wes wez ab ax ab_length ax cax gax)) [3, 4, 5, 6] rfl
            have hDc := hD.sb (wq := (wz_46 h0 aw ac n16 h0_limit n17 h0_codeCount ob h0_openCount aw ab ac x5 wat wap wag aw_functionCount waf aw_hasMemory aw_pagesLeast aw_pagesMost aw_globalCount wgt wft wfv wgc aw_exportCount wek wei wes wez ab ax ab_length ax cax gax)) [3, 4, 5, 6] (by decide) rfl
            have hKc := hK.sb (tyq := [(cax, .byte)]) [0] rfl
            have hFc := va_free (wc := (wz_46 h0 aw ac n16 h0_limit n17 h0_codeCount ob h0_openCount aw ab ac x5 wat wap wag aw_functionCount waf aw_hasMemory aw_pagesLeast aw_pagesMost aw_globalCount wgt wft wfv wgc aw_exportCount wek wei wes wez ab ax ab_length ax cax gax)) hD hS hA [3, 4, 5, 6] rfl
            refine va_calli (va_runV (As := []) (rest := [.int j17_l1, .ref wag]) ⟨hx, hb, hml, hown, hts⟩ (c_RE_readTypey l dC dI H.size h0 aw ac ob ab wat wap wag waf wgt wft wfv wgc wek wei wes wez ax cax n16 h0_limit n17 h0_codeCount h0_openCount x5 aw_functionCount aw_hasMemory aw_pagesLeast aw_pagesMost aw_globalCount aw_exportCount ab_length gax (bn17) (by (try dsimp only) <;> (first | (apply Int.le_antisymm <;> omega) | omega))) (cwV 0 hts (gV kM_RE_109 kV_RE_readType kS_RE_readType kI_RE kC_RE_readType) rfl rfl rfl (by decide +kernel) ⟨Nat.le_of_ble_eq_true rfl, Nat.le_of_ble_eq_true rfl⟩) ⟨fun a U g mk z => by obtain ⟨z0, z1, zP, zK, zD⟩ := z; exact ⟨z0, z1, zP, va_K.moved (u := U) (U := U.calling g mk a) (Vm.Alike.refl U.vm) zK, zD⟩, va_recv hKc hPc (ci := 7) (q0 := 0) rfl rfl, fun U hU hW => ⟨rfl, by rw [hU], va_P.he hU.symm hPc, va_K.moved hW.alike hKc, hDc.weaken (fun _ _ _ _ => trivial)⟩⟩ rfl rfl hl.1 rfl (lv_room (Nat.le_of_ble_eq_true rfl)) d_RE_readTypes_110 ⟨(Nat.zero_le _), (Nat.zero_le _)⟩) hS (fun q _ h => hFc q h) hFc (fun r21 u t H1 locs ht hvm hw hB hz1 hk1 hS => ?_)
            obtain ⟨n22, n23⟩ := u
            try dsimp only at hw
            obtain ⟨br21, bn23, xr21⟩ := hw
            try clear hw
            have tn23 := b01 bn23
            obtain ⟨hP1, hK1, hD1⟩ := hB
            replace hP1 := va_P.he ht hP1
            obtain ⟨hP, hD⟩ := va_join (wr := (wz_48 wat cwat f14 wap cwap j62_wap wag cwag j17_wag)) (w1 := (wz_46 h0 aw ac n22 h0_limit n23 h0_codeCount ob h0_openCount aw ab ac x5 wat wap wag aw_functionCount waf aw_hasMemory aw_pagesLeast aw_pagesMost aw_globalCount wgt wft wfv wgc aw_exportCount wek wei wes wez ab ax ab_length ax cax gax)) hP hD [3, 4, 5, 6] [0, 1, 2] rfl rfl (by decide) (by decide) hk1 hFc hP1 hD1
            clear hPc hDc hKc hFc hz1 hk1 hP1 hK1 hD1
            rename Heap => H
            have hP : va_P (dC, dI) cls (wz_49 wat cwat f14 wap cwap j62_wap wag cwag j17_wag h0 aw ac n22 h0_limit n23 h0_codeCount ob h0_openCount aw ab ac x5 wat wap wag aw_functionCount waf aw_hasMemory aw_pagesLeast aw_pagesMost aw_globalCount wgt wft wfv wgc aw_exportCount wek wei wes wez ab ax ab_length ax cax gax) H := hP
            have hD : va_D A (wz_49 wat cwat f14 wap cwap j62_wap wag cwag j17_wag h0 aw ac n22 h0_limit n23 h0_codeCount ob h0_openCount aw ab ac x5 wat wap wag aw_functionCount waf aw_hasMemory aw_pagesLeast aw_pagesMost aw_globalCount wgt wft wfv wgc aw_exportCount wek wei wes wez ab ax ab_length ax cax gax) := hD
            refine lv_goto (tgt := 118) hx hb d_RE_readTypes_113 (by decide) ?_
            exact jn118 (r21, n22, n23) _ _ _ ⟨bn23, by (try dsimp only) <;> (first | (apply Int.le_antisymm <;> omega) | omega), (tyE_1 w1 (by (first | (apply Int.le_antisymm <;> omega) | omega)) (by (first | (apply Int.le_antisymm <;> omega) | omega)) u101 (by (first | (apply Int.le_antisymm <;> omega) | omega)) xr21.2), hP, hD, hS, lv_sub hl [0, 1] rfl⟩
      · have q64 := nleI c64
        refine lv_aload_n hx hb d_RE_readTypes_67 rfl (lv_at hl 0 rfl) ?_
        refine va_get (D := (dC, dI)) (ci := 7) (v := .ref aw) (C := R_RE) (T := F_RE) (N := 8) hx hb hts i_RE hown hK hP 3 rfl rfl 0 (by decide) (hts _ kF_RE_15) (fun _ h9 => h9) rfl d_RE_readTypes_68 ?_
        refine va_get (D := (dC, dI)) (ci := 10) (v := .ref wap) (C := R_WA) (T := F_WA) (N := 21) hx hb hts i_WA hown hK hP 4 rfl rfl 4 (by decide) (hts _ kF_RE_106) (fun _ h9 => h9) rfl d_RE_readTypes_71 ?_
        refine lv_iload_n hx hb d_RE_readTypes_74 rfl (lv_at hl 1 rfl) ?_
        refine lv_bipush (v := 8) hx hb d_RE_readTypes_75 (by decide) ?_
        refine lv_imul hx hb d_RE_readTypes_77 ?_
        refine lv_topi (fun x24 ex24 => ?_)
        have tx24 : x24.toInt = j17_l1.toInt * 8 := by have z := i32_mul ex24 (by rw [k8]; (first | (apply Int.le_antisymm <;> omega) | omega)) (by rw [k8]; (first | (apply Int.le_antisymm <;> omega) | omega)); rw [k8] at z; exact z
        refine lv_iload_n hx hb d_RE_readTypes_78 rfl (lv_at hl 3 rfl) ?_
        refine lv_iadd hx hb d_RE_readTypes_79 ?_
        refine lv_topi (fun x25 ex25 => ?_)
        have tx25 : x25.toInt = x24.toInt + j62_l3.toInt := by have z := i32_add ex25 (by (first | (apply Int.le_antisymm <;> omega) | omega)) (by (first | (apply Int.le_antisymm <;> omega) | omega)); first | exact z | (first | (apply Int.le_antisymm <;> omega) | omega)
        refine lv_aload_n hx hb d_RE_readTypes_80 rfl (lv_at hl 0 rfl) ?_
        have hPc := hP.sb (wq := (wz_46 h0 aw ac j62_h0_at h0_limit j62_h0_sound h0_codeCount ob h0_openCount aw ab ac x5 wat wap wag aw_functionCount waf aw_hasMemory aw_pagesLeast aw_pagesMost aw_globalCount wgt wft wfv wgc aw_exportCount wek wei wes wez ab ax ab_length ax cax gax)) [3, 4, 5, 6] rfl
        have hDc := hD.sb (wq := (wz_46 h0 aw ac j62_h0_at h0_limit j62_h0_sound h0_codeCount ob h0_openCount aw ab ac x5 wat wap wag aw_functionCount waf aw_hasMemory aw_pagesLeast aw_pagesMost aw_globalCount wgt wft wfv wgc aw_exportCount wek wei wes wez ab ax ab_length ax cax gax)) [3, 4, 5, 6] (by decide) rfl
        have hKc := hK.sb (tyq := [(cax, .byte)]) [0] rfl
        have hFc := va_free (wc := (wz_46 h0 aw ac j62_h0_at h0_limit j62_h0_sound h0_codeCount ob h0_openCount aw ab ac x5 wat wap wag aw_functionCount waf aw_hasMemory aw_pagesLeast aw_pagesMost aw_globalCount wgt wft wfv wgc aw_exportCount wek wei wes wez ab ax ab_length ax cax gax)) hD hS hA [3, 4, 5, 6] rfl
        refine va_calli (va_runV (As := []) (rest := [.int x25, .ref wap]) ⟨hx, hb, hml, hown, hts⟩ (c_RE_readTypey l dC dI H.size h0 aw ac ob ab wat wap wag waf wgt wft wfv wgc wek wei wes wez ax cax j62_h0_at h0_limit j62_h0_sound h0_codeCount h0_openCount x5 aw_functionCount aw_hasMemory aw_pagesLeast aw_pagesMost aw_globalCount aw_exportCount ab_length gax (b_j62_h0_sound) (by (try dsimp only) <;> (first | (apply Int.le_antisymm <;> omega) | omega))) (cwV 0 hts (gV kM_RE_109 kV_RE_readType kS_RE_readType kI_RE kC_RE_readType) rfl rfl rfl (by decide +kernel) ⟨Nat.le_of_ble_eq_true rfl, Nat.le_of_ble_eq_true rfl⟩) ⟨fun a U g mk z => by obtain ⟨z0, z1, zP, zK, zD⟩ := z; exact ⟨z0, z1, zP, va_K.moved (u := U) (U := U.calling g mk a) (Vm.Alike.refl U.vm) zK, zD⟩, va_recv hKc hPc (ci := 7) (q0 := 0) rfl rfl, fun U hU hW => ⟨rfl, by rw [hU], va_P.he hU.symm hPc, va_K.moved hW.alike hKc, hDc.weaken (fun _ _ _ _ => trivial)⟩⟩ rfl rfl hl.1 rfl (lv_room (Nat.le_of_ble_eq_true rfl)) d_RE_readTypes_81 ⟨(Nat.zero_le _), (Nat.zero_le _)⟩) hS (fun q _ h => hFc q h) hFc (fun r26 u t H1 locs ht hvm hw hB hz1 hk1 hS => ?_)
        obtain ⟨n27, n28⟩ := u
        try dsimp only at hw
        obtain ⟨br26, bn28, xr26⟩ := hw
        try clear hw
        have tn28 := b01 bn28
        obtain ⟨hP1, hK1, hD1⟩ := hB
        replace hP1 := va_P.he ht hP1
        obtain ⟨hP, hD⟩ := va_join (wr := (wz_48 wat cwat f14 wap cwap j62_wap wag cwag j17_wag)) (w1 := (wz_46 h0 aw ac n27 h0_limit n28 h0_codeCount ob h0_openCount aw ab ac x5 wat wap wag aw_functionCount waf aw_hasMemory aw_pagesLeast aw_pagesMost aw_globalCount wgt wft wfv wgc aw_exportCount wek wei wes wez ab ax ab_length ax cax gax)) hP hD [3, 4, 5, 6] [0, 1, 2] rfl rfl (by decide) (by decide) hk1 hFc hP1 hD1
        clear hPc hDc hKc hFc hz1 hk1 hP1 hK1 hD1
        rename Heap => H
        have hP : va_P (dC, dI) cls (wz_49 wat cwat f14 wap cwap j62_wap wag cwag j17_wag h0 aw ac n27 h0_limit n28 h0_codeCount ob h0_openCount aw ab ac x5 wat wap wag aw_functionCount waf aw_hasMemory aw_pagesLeast aw_pagesMost aw_globalCount wgt wft wfv wgc aw_exportCount wek wei wes wez ab ax ab_length ax cax gax) H := hP
        have hD : va_D A (wz_49 wat cwat f14 wap cwap j62_wap wag cwag j17_wag h0 aw ac n27 h0_limit n28 h0_codeCount ob h0_openCount aw ab ac x5 wat wap wag aw_functionCount waf aw_hasMemory aw_pagesLeast aw_pagesMost aw_globalCount wgt wft wfv wgc aw_exportCount wek wei wes wez ab ax ab_length ax cax gax) := hD
        have g84 : vp_in x25 160 := vp_in_iff.mpr ⟨by (first | (apply Int.le_antisymm <;> omega) | omega), by (first | (apply Int.le_antisymm <;> omega) | omega)⟩
        refine va_iast hx hb hK hP hD hS 1 2 rfl rfl g84 d_RE_readTypes_84 (fun H locs hP hD hS => ?_)
        generalize ef29 : upd j62_wap x25.toNatClampNeg r26 = f29 at hP hD
        obtain ⟨x30, ex30⟩ : ∃ z : Int32, z = j62_l3 + 1 := ⟨_, rfl⟩
        have tx30 : x30.toInt = j62_l3.toInt + 1 := by have z := i32_add ex30 (by (first | (apply Int.le_antisymm <;> omega) | omega)) (by (first | (apply Int.le_antisymm <;> omega) | omega)); first | exact z | (first | (apply Int.le_antisymm <;> omega) | omega)
        refine lv_iinc (v := x30) (lv' := [(3, .int x30), (0, .ref h0), (1, .int j17_l1), (2, .int x13)]) hx hb d_RE_readTypes_85 hl (k := 3) rfl (by rw [ex30]; rfl) (by decide) rfl (fun ls hl => ?_)
        refine lv_goto (tgt := 62) hx hb d_RE_readTypes_88 (by decide) ?_
        exact ih62 (x30, f29, n27, n28) _ _ _ (by show (x13.toInt - x30.toInt).toNat < N62; (first | (apply Int.le_antisymm <;> omega) | omega)) ⟨by (try dsimp only) <;> (first | (apply Int.le_antisymm <;> omega) | omega), bn28, (by rw [← ef29, show x13.toInt - x30.toInt = x13.toInt - j62_l3.toInt - 1 from by (first | (apply Int.le_antisymm <;> omega) | omega), show x30.toInt = j62_l3.toInt + 1 from by (first | (apply Int.le_antisymm <;> omega) | omega)]; exact tyN_s w1 xr26.2 (by (first | (apply Int.le_antisymm <;> omega) | omega)) (by have := i32_clamp (x := x25) (by (first | (apply Int.le_antisymm <;> omega) | omega)); (first | (apply Int.le_antisymm <;> omega) | omega)) (by (first | (apply Int.le_antisymm <;> omega) | omega)) (by (first | (apply Int.le_antisymm <;> omega) | omega))), (fun j hj => by rw [← ef29, pk_un (by have := i32_clamp (x := x25) (by (first | (apply Int.le_antisymm <;> omega) | omega)); (first | (apply Int.le_antisymm <;> omega) | omega))]; exact w2.out j hj), by (try dsimp only) <;> (first | (apply Int.le_antisymm <;> omega) | omega), by (try dsimp only) <;> (first | (apply Int.le_antisymm <;> omega) | omega), hP, hD, hS, lv_sub hl [1, 2, 3, 0] rfl⟩
end q_n44q12
section q_n44q13
/-! p5: the class: the memory -/
/-- there is a memory: its least, its most (-1: none is told) -/
def mez (f : Nat → Int32) (L a : Nat) (s a2 : Int32) (x y : Int) : Prop := (s.toInt = 1 ∧ ∃ m : Nat, zMem f L a = some ((1, x.toNat, m), a2.toNatClampNeg) ∧ 0 ≤ x ∧ (y = (m : Int) ∨ (y = -1 ∧ m = 65536))) ∨ (s.toInt = 0 ∧ zMem f L a = none)
theorem me_0 {f : Nat → Int32} {L a : Nat} {s s1 a1 : Int32} {r : Int} (h : rz (zM f L 1 a) s s1 a1 r) (hs : s.toInt = 1) (hr : r ≠ 1) : (s1.toInt = 1 ∧ zMem f L a = some ((0, 0, 65536), a1.toNatClampNeg)) ∨ (s1.toInt = 0 ∧ zMem f L a = none) := by
  unfold zMem
  rcases h with ⟨h1, h2, h3, h4⟩ | ⟨h1, h2⟩
  · refine Or.inl ⟨h1, ?_⟩
    rw [h4]
    dsimp only
    rw [if_neg (by (first | (apply Int.le_antisymm <;> omega) | omega))]
  · refine Or.inr ⟨h1, ?_⟩
    rw [h2 hs]
/-- a memory, its least is read -/
def meI (f : Nat → Int32) (L a : Nat) (s a2 : Int32) (fl x : Int) : Prop := (s.toInt = 1 ∧ 0 ≤ x ∧ zMem f L a = (if fl = 1 then (match zM f L 4294967295 a2.toNatClampNeg with | some (y, e) => some ((1, x.toNat, y), e) | none => none) else some ((1, x.toNat, 65536), a2.toNatClampNeg))) ∨ (s.toInt = 0 ∧ zMem f L a = none)
theorem me_1 {f : Nat → Int32} {L a : Nat} {s s1 a1 s2 a2 s3 a3 : Int32} {r fl x : Int} (h : rz (zM f L 1 a) s s1 a1 r) (hs : s.toInt = 1) (hr : r = 1) (h1 : rz (zFl f L a1.toNatClampNeg) s1 s2 a2 fl) (h2 : rz (zM f L 4294967295 a2.toNatClampNeg) s2 s3 a3 x) : meI f L a s3 a3 fl x := by
  have hz : s1.toInt = 1 → zMem f L a = (match zFl f L a1.toNatClampNeg with
      | some (fl, c) => (match zM f L 4294967295 c with
        | some (x, d) => if fl = 1 then (match zM f L 4294967295 d with | some (y, e) => some ((1, x, y), e) | none => none) else some ((1, x, 65536), d)
        | none => none)
      | none => none) := by
    intro q
    rcases h with ⟨u1, u2, u3, u4⟩ | ⟨u1, u2⟩
    · unfold zMem
      rw [u4]
      dsimp only
      rw [if_pos (by (first | (apply Int.le_antisymm <;> omega) | omega))]
      rfl
    · (first | (apply Int.le_antisymm <;> omega) | omega)
  have hz0 : s1.toInt ≠ 1 → zMem f L a = none := by
    intro q
    rcases h with ⟨u1, u2, u3, u4⟩ | ⟨u1, u2⟩
    · (first | (apply Int.le_antisymm <;> omega) | omega)
    · unfold zMem
      rw [u2 hs]
  rcases h1 with ⟨u1, u2, u3, u4⟩ | ⟨u1, u2⟩
  · have e1 := hz u2
    rw [u4] at e1
    dsimp only at e1
    rcases h2 with ⟨v1, v2, v3, v4⟩ | ⟨v1, v2⟩
    · rw [v4] at e1
      dsimp only at e1
      refine Or.inl ⟨v1, v3, ?_⟩
      rw [e1]
      by_cases q : fl = 1
      · rw [if_pos q, if_pos (by (first | (apply Int.le_antisymm <;> omega) | omega))]
      · rw [if_neg q, if_neg (by (first | (apply Int.le_antisymm <;> omega) | omega))]
    · rw [v2 u1] at e1
      exact Or.inr ⟨v1, e1⟩
  · have e3 : s3.toInt = 0 := by
      rcases h2 with ⟨v1, v2, v3, v4⟩ | ⟨v1, v2⟩
      · (first | (apply Int.le_antisymm <;> omega) | omega)
      · exact v1
    refine Or.inr ⟨e3, ?_⟩
    by_cases q : s1.toInt = 1
    · have e1 := hz q
      rw [u2 q] at e1
      exact e1
    · exact hz0 q
theorem me_2 {f : Nat → Int32} {L a : Nat} {s a2 : Int32} {fl x y : Int} (h : meI f L a s a2 fl x) (hf : fl ≠ 1) (hy : y = -1) : mez f L a s a2 x y := by
  rcases h with ⟨u1, u2, u3⟩ | ⟨u1, u2⟩
  · rw [if_neg hf] at u3
    exact Or.inl ⟨u1, 65536, u3, u2, Or.inr ⟨hy, rfl⟩⟩
  · exact Or.inr ⟨u1, u2⟩
theorem me_3 {f : Nat → Int32} {L a : Nat} {s a2 s3 a3 : Int32} {fl x y : Int} (h : meI f L a s a2 fl x) (hf : fl = 1) (h1 : rz (zM f L 4294967295 a2.toNatClampNeg) s s3 a3 y) : mez f L a s3 a3 x y := by
  rcases h with ⟨u1, u2, u3⟩ | ⟨u1, u2⟩
  · rw [if_pos hf] at u3
    rcases h1 with ⟨v1, v2, v3, v4⟩ | ⟨v1, v2⟩
    · rw [v4] at u3
      exact Or.inl ⟨v1, y.toNat, u3, u2, Or.inl (by (first | (apply Int.le_antisymm <;> omega) | omega))⟩
    · rw [v2 u1] at u3
      exact Or.inr ⟨v1, u3⟩
  · refine Or.inr ⟨?_, u2⟩
    rcases h1 with ⟨v1, v2, v3, v4⟩ | ⟨v1, v2⟩
    · (first | (apply Int.le_antisymm <;> omega) | omega)
    · exact v1
abbrev at_RE_readMemoryy (dC : Nat → ClassId) (dI : Nat → Nat → Nat) (h0 aw ac ob ab wat wap wag waf wgt wft wfv wgc wek wei wes wez ax : Nat) (cax : ClassId) (h0_limit : Int32) (h0_codeCount : Int32) (h0_openCount : Int32) (aw_typeCount : Int32) (aw_functionCount : Int32) (aw_globalCount : Int32) (aw_exportCount : Int32) (ab_length : Int32) (gax : Nat → Int32) (A : Nat → Prop) (u : Int32 × Int64 × Int64 × Int32 × Int32) (t : State) : Prop := match u with | (aw_hasMemory, aw_pagesLeast, aw_pagesMost, h0_at, h0_sound) => va_P (dC, dI) cls (wz_46 h0 aw ac h0_at h0_limit h0_sound h0_codeCount ob h0_openCount aw ab ac aw_typeCount wat wap wag aw_functionCount waf aw_hasMemory aw_pagesLeast aw_pagesMost aw_globalCount wgt wft wfv wgc aw_exportCount wek wei wes wez ab ax ab_length ax cax gax) t.heap ∧ va_K (dC, dI) cls [(cax, .byte)] t ∧ va_D A (wz_46 h0 aw ac h0_at h0_limit h0_sound h0_codeCount ob h0_openCount aw ab ac aw_typeCount wat wap wag aw_functionCount waf aw_hasMemory aw_pagesLeast aw_pagesMost aw_globalCount wgt wft wfv wgc aw_exportCount wek wei wes wez ab ax ab_length ax cax gax)
set_option maxHeartbeats 4000000 in
set_option maxRecDepth 100000 in
theorem c_RE_readMemoryy (l : Launch) (dC : Nat → ClassId) (dI : Nat → Nat → Nat) (sz : Nat) (h0 aw ac ob ab wat wap wag waf wgt wft wfv wgc wek wei wes wez ax : Nat) (cax : ClassId) (h0_at : Int32) (h0_limit : Int32) (h0_sound : Int32) (h0_codeCount : Int32) (h0_openCount : Int32) (aw_typeCount : Int32) (aw_functionCount : Int32) (aw_hasMemory : Int32) (aw_pagesLeast : Int64) (aw_pagesMost : Int64) (aw_globalCount : Int32) (aw_exportCount : Int32) (ab_length : Int32) (gax : Nat → Int32)  (b_h0_sound : h0_sound = 0 ∨ h0_sound = 1) (b_aw_hasMemory : aw_hasMemory = 0 ∨ aw_hasMemory = 1)   (ha : 0 ≤ h0_at.toInt ∧ h0_at.toInt ≤ h0_limit.toInt ∧ h0_limit.toInt ≤ ab_length.toInt ∧ ab_length.toInt ≤ 8192) (hs : h0_sound.toInt = 1) : Met l y_RE_readMemory w_RE_readMemory ({ frames := 2, cells := 0, slots := 0, locals := 46 }) (va_Pc [.ref h0] (fun U => U.heap.size = sz ∧ va_P (dC, dI) cls (wz_46 h0 aw ac h0_at h0_limit h0_sound h0_codeCount ob h0_openCount aw ab ac aw_typeCount wat wap wag aw_functionCount waf aw_hasMemory aw_pagesLeast aw_pagesMost aw_globalCount wgt wft wfv wgc aw_exportCount wek wei wes wez ab ax ab_length ax cax gax) U.heap ∧ va_K (dC, dI) cls [(cax, .byte)] U ∧ va_D (fun _ => True) (wz_46 h0 aw ac h0_at h0_limit h0_sound h0_codeCount ob h0_openCount aw ab ac aw_typeCount wat wap wag aw_functionCount waf aw_hasMemory aw_pagesLeast aw_pagesMost aw_globalCount wgt wft wfv wgc aw_exportCount wek wei wes wez ab ax ab_length ax cax gax))) (va_Qv (fun (u : Int32 × Int64 × Int64 × Int32 × Int32) => match u with | (aw_hasMemory2, aw_pagesLeast2, aw_pagesMost2, h0_at2, h0_sound2) => (aw_hasMemory2 = 0 ∨ aw_hasMemory2 = 1) ∧ (h0_sound2 = 0 ∨ h0_sound2 = 1) ∧ ((h0_at.toInt ≤ h0_at2.toInt ∧ h0_at2.toInt ≤ h0_limit.toInt) ∧ ((aw_hasMemory2.toInt = 1 ∧ mez gax h0_limit.toNatClampNeg h0_at.toNatClampNeg h0_sound2 h0_at2 aw_pagesLeast2.toInt aw_pagesMost2.toInt) ∨ (aw_hasMemory2.toInt = 0 ∧ aw_pagesLeast = aw_pagesLeast2 ∧ aw_pagesMost = aw_pagesMost2 ∧ ((h0_sound2.toInt = 1 ∧ zMem gax h0_limit.toNatClampNeg h0_at.toNatClampNeg = some ((0, 0, 65536), h0_at2.toNatClampNeg)) ∨ (h0_sound2.toInt = 0 ∧ zMem gax h0_limit.toNatClampNeg h0_at.toNatClampNeg = none)))))) (at_RE_readMemoryy dC dI h0 aw ac ob ab wat wap wag waf wgt wft wfv wgc wek wei wes wez ax cax h0_limit h0_codeCount h0_openCount aw_typeCount aw_functionCount aw_globalCount aw_exportCount ab_length gax (va_A (wz_46 h0 aw ac h0_at h0_limit h0_sound h0_codeCount ob h0_openCount aw ab ac aw_typeCount wat wap wag aw_functionCount waf aw_hasMemory aw_pagesLeast aw_pagesMost aw_globalCount wgt wft wfv wgc aw_exportCount wek wei wes wez ab ax ab_length ax cax gax) sz)) (va_A (wz_46 h0 aw ac h0_at h0_limit h0_sound h0_codeCount ob h0_openCount aw ab ac aw_typeCount wat wap wag aw_functionCount waf aw_hasMemory aw_pagesLeast aw_pagesMost aw_globalCount wgt wft wfv wgc aw_exportCount wek wei wes wez ab ax ab_length ax cax gax) sz)) 0 0 (va_A (wz_46 h0 aw ac h0_at h0_limit h0_sound h0_codeCount ob h0_openCount aw ab ac aw_typeCount wat wap wag aw_functionCount waf aw_hasMemory aw_pagesLeast aw_pagesMost aw_globalCount wgt wft wfv wgc aw_exportCount wek wei wes wez ab ax ab_length ax cax gax) sz) := by
  refine Met.ofW (cc := b_RE_readMemory) (maxL := 2) (ret := none) (by decide) rfl ?_
  intro p e s m args below meth c s₁ B hml hv
  obtain ⟨rfl, hsz, hP, hK, hD0⟩ := hv
  have hx := B.exec
  have hb := B.bytes
  have hr := B.returns
  have hts0 := atoms_spec (ws := w_RE_readMemory) B.pre
  have hts : ∀ w ∈ lw_g, w.before _ s = true := fun w h => hts0 w (List.mem_cons_of_mem _ h)
  have hown : s.vm.findClass R_RE = some m.cls := findClass_of_methodNamed B.named
  have hlocks := B.notSynchronized
  clear hts0
  subst hsz
  have hD := hD0.self (sz := s.heap.size)
  generalize hAe : va_A (wz_46 h0 aw ac h0_at h0_limit h0_sound h0_codeCount ob h0_openCount aw ab ac aw_typeCount wat wap wag aw_functionCount waf aw_hasMemory aw_pagesLeast aw_pagesMost aw_globalCount wgt wft wfv wgc aw_exportCount wek wei wes wez ab ax ab_length ax cax gax) s.heap.size = A at hD ⊢
  have hA : ∀ q : Nat, s.heap.size ≤ q → A q := fun q h => by rw [← hAe]; exact Or.inr h
  clear hAe
  have hP : va_P (dC, dI) cls (wz_46 h0 aw ac h0_at h0_limit h0_sound h0_codeCount ob h0_openCount aw ab ac aw_typeCount wat wap wag aw_functionCount waf aw_hasMemory aw_pagesLeast aw_pagesMost aw_globalCount wgt wft wfv wgc aw_exportCount wek wei wes wez ab ax ab_length ax cax gax) s.heap := hP
  have hl := lv_entry ([.ref h0]) (n := 2) (Nat.le_of_ble_eq_true rfl)
  rw [lg_entry_eq]
  generalize (lg_sl ([.ref h0]) ++ List.replicate (2 - (lg_sl ([.ref h0])).length) Slot.unset).toArray = ls at hl ⊢
  have hl : lv_has ls 2 [(0, .ref h0)] := hl
  have k0 : (0 : Int32).toInt = 0 := by decide
  refine w_gen (A := A) hP (fun H locs hP hS => ?_)
  have k1 : (1 : Int32).toInt = 1 := by decide
  have th0_sound := b01 b_h0_sound
  have taw_hasMemory := b01 b_aw_hasMemory
  have zat := i32_clamp (x := h0_at) (by (first | (apply Int.le_antisymm <;> omega) | omega))
  have zlm := i32_clamp (x := h0_limit) (by (first | (apply Int.le_antisymm <;> omega) | omega))
  refine lv_aload_n hx hb d_RE_readMemory_0 rfl (lv_at hl 0 rfl) ?_
  refine va_get (D := (dC, dI)) (ci := 7) (v := .ref aw) (C := R_RE) (T := F_RE) (N := 8) hx hb hts i_RE hown hK hP 0 rfl rfl 0 (by decide) (hts _ kF_RE_15) (fun _ h9 => h9) rfl d_RE_readMemory_1 ?_
  refine lv_aload_n hx hb d_RE_readMemory_4 rfl (lv_at hl 0 rfl) ?_
  refine lv_lconst (v := 1) hx hb d_RE_readMemory_5 (by decide) ?_
  have kl1 : (1 : Int64).toInt = 1 := by decide
  have hPc := hP.sb (wq := (wz_46 h0 aw ac h0_at h0_limit h0_sound h0_codeCount ob h0_openCount aw ab ac aw_typeCount wat wap wag aw_functionCount waf aw_hasMemory aw_pagesLeast aw_pagesMost aw_globalCount wgt wft wfv wgc aw_exportCount wek wei wes wez ab ax ab_length ax cax gax)) [0, 1, 2, 3] rfl
  have hDc := hD.sb (wq := (wz_46 h0 aw ac h0_at h0_limit h0_sound h0_codeCount ob h0_openCount aw ab ac aw_typeCount wat wap wag aw_functionCount waf aw_hasMemory aw_pagesLeast aw_pagesMost aw_globalCount wgt wft wfv wgc aw_exportCount wek wei wes wez ab ax ab_length ax cax gax)) [0, 1, 2, 3] (by decide) rfl
  have hKc := hK.sb (tyq := [(cax, .byte)]) [0] rfl
  have hFc := va_free (wc := (wz_46 h0 aw ac h0_at h0_limit h0_sound h0_codeCount ob h0_openCount aw ab ac aw_typeCount wat wap wag aw_functionCount waf aw_hasMemory aw_pagesLeast aw_pagesMost aw_globalCount wgt wft wfv wgc aw_exportCount wek wei wes wez ab ax ab_length ax cax gax)) hD hS hA [0, 1, 2, 3] rfl
  refine va_calll (va_runV (As := [.long 1]) (rest := [.ref aw]) ⟨hx, hb, hml, hown, hts⟩ (c_RE_readUnsignedy l dC dI H.size h0 aw ac ob ab wat wap wag waf wgt wft wfv wgc wek wei wes wez ax cax h0_at h0_limit h0_sound h0_codeCount h0_openCount aw_typeCount aw_functionCount aw_hasMemory aw_pagesLeast aw_pagesMost aw_globalCount aw_exportCount ab_length gax (b_h0_sound) 1 (by (try dsimp only) <;> (first | (apply Int.le_antisymm <;> omega) | omega)) (by decide)) (cwV 1 hts (gV kM_RE_64 kV_RE_readUnsigned kS_RE_readUnsigned kI_RE kC_RE_readUnsigned) rfl rfl rfl (by decide +kernel) ⟨Nat.le_of_ble_eq_true rfl, Nat.le_of_ble_eq_true rfl⟩) ⟨fun a U g mk z => by obtain ⟨z0, z1, zP, zK, zD⟩ := z; exact ⟨z0, z1, zP, va_K.moved (u := U) (U := U.calling g mk a) (Vm.Alike.refl U.vm) zK, zD⟩, va_recv hKc hPc (ci := 7) (q0 := 0) rfl rfl, fun U hU hW => ⟨rfl, by rw [hU], va_P.he hU.symm hPc, va_K.moved hW.alike hKc, hDc.weaken (fun _ _ _ _ => trivial)⟩⟩ rfl rfl hl.1 rfl (lv_room (Nat.le_of_ble_eq_true rfl)) d_RE_readMemory_6 ⟨(Nat.zero_le _), (Nat.zero_le _)⟩) hS (fun q _ h => hFc q h) hFc (fun r1 u t H1 locs ht hvm hw hB hz1 hk1 hS => ?_)
  obtain ⟨n2, n3⟩ := u
  try dsimp only at hw
  obtain ⟨bn3, xr1⟩ := hw
  try clear hw
  have tn3 := b01 bn3
  have u6 : rz (zM gax h0_limit.toNatClampNeg 1 h0_at.toNatClampNeg) h0_sound n3 n2 r1.toInt := by have z9 := xr1.2; rw [show (1 : Int64).toInt.toNat = 1 from by decide] at z9; exact z9
  obtain ⟨hP1, hK1, hD1⟩ := hB
  replace hP1 := va_P.he ht hP1
  obtain ⟨hP, hD⟩ := va_join (wr := []) (w1 := (wz_46 h0 aw ac n2 h0_limit n3 h0_codeCount ob h0_openCount aw ab ac aw_typeCount wat wap wag aw_functionCount waf aw_hasMemory aw_pagesLeast aw_pagesMost aw_globalCount wgt wft wfv wgc aw_exportCount wek wei wes wez ab ax ab_length ax cax gax)) hP hD [0, 1, 2, 3] [] rfl rfl (by decide) (by decide) hk1 hFc hP1 hD1
  clear hPc hDc hKc hFc hz1 hk1 hP1 hK1 hD1
  rename Heap => H
  have hP : va_P (dC, dI) cls (wz_46 h0 aw ac n2 h0_limit n3 h0_codeCount ob h0_openCount aw ab ac aw_typeCount wat wap wag aw_functionCount waf aw_hasMemory aw_pagesLeast aw_pagesMost aw_globalCount wgt wft wfv wgc aw_exportCount wek wei wes wez ab ax ab_length ax cax gax) H := hP
  have hD : va_D A (wz_46 h0 aw ac n2 h0_limit n3 h0_codeCount ob h0_openCount aw ab ac aw_typeCount wat wap wag aw_functionCount waf aw_hasMemory aw_pagesLeast aw_pagesMost aw_globalCount wgt wft wfv wgc aw_exportCount wek wei wes wez ab ax ab_length ax cax gax) := hD
  refine lv_lconst (v := 1) hx hb d_RE_readMemory_9 (by decide) ?_
  have kl1 : (1 : Int64).toInt = 1 := by decide
  refine W.lcmp hx hb d_RE_readMemory_10 ?_
  refine lv_topi (fun x4 ex4 => ?_)
  have tx4 := lgc ex4
  refine w_cut (pc2 := 19) (σ := Int32) (fun u H locs ls => match u with | j19_s0 => (j19_s0 = 0 ∨ j19_s0 = 1) ∧ ((j19_s0.toInt = 1 ∧ r1.toInt = 1) ∨ (j19_s0.toInt = 0 ∧ r1.toInt ≠ 1)) ∧ va_P (dC, dI) cls (wz_46 h0 aw ac n2 h0_limit n3 h0_codeCount ob h0_openCount aw ab ac aw_typeCount wat wap wag aw_functionCount waf aw_hasMemory aw_pagesLeast aw_pagesMost aw_globalCount wgt wft wfv wgc aw_exportCount wek wei wes wez ab ax ab_length ax cax gax) H ∧ va_D A (wz_46 h0 aw ac n2 h0_limit n3 h0_codeCount ob h0_openCount aw ab ac aw_typeCount wat wap wag aw_functionCount waf aw_hasMemory aw_pagesLeast aw_pagesMost aw_globalCount wgt wft wfv wgc aw_exportCount wek wei wes wez ab ax ab_length ax cax gax) ∧ va_S A s.heap H locs ∧ lv_has ls 2 [(0, .ref h0)]) (fun u => match u with | j19_s0 => [.int j19_s0, .ref aw]) ?_ (fun jn19 => ?_)
  · intro u H locs ls hI
    obtain ⟨j19_s0, rfl⟩ : ∃ z, z = u := ⟨_, rfl⟩
    obtain ⟨b_j19_s0, y19, hP, hD, hS, hl⟩ := hI
    have tj19_s0 := b01 b_j19_s0
    refine va_put (D := (dC, dI)) (ci := 10) (v := .int j19_s0) (ty := .boolean) (C := R_WA) (T := F_WA) (N := 21) hx hb hts i_WA t_WA t_WA_ok n_WA hown hK hP hD hS 1 rfl rfl 8 (by decide) (hts _ kF_RE_115) (fun _ h9 => h9) rfl (by decide +kernel) (zn01 (b_j19_s0)) (fz01 (b_j19_s0)) (Nat.le_of_ble_eq_true rfl) d_RE_readMemory_19 (fun H locs hP hD hS => ?_)
    refine lv_aload_n hx hb d_RE_readMemory_22 rfl (lv_at hl 0 rfl) ?_
    refine va_get (D := (dC, dI)) (ci := 7) (v := .ref aw) (C := R_RE) (T := F_RE) (N := 8) hx hb hts i_RE hown hK hP 0 rfl rfl 0 (by decide) (hts _ kF_RE_15) (fun _ h9 => h9) rfl d_RE_readMemory_23 ?_
    refine va_get (D := (dC, dI)) (ci := 10) (v := .int j19_s0) (C := R_WA) (T := F_WA) (N := 21) hx hb hts i_WA hown hK hP 1 rfl rfl 8 (by decide) (hts _ kF_RE_115) (fun _ h9 => h9) rfl d_RE_readMemory_26 ?_
    refine lv_if_eq (tgt := 76) hx hb d_RE_readMemory_29 (by decide) (fun c29 => ?_) (fun c29 => ?_)
    · have q29 := eqI c29
      have hP9 := hP.sb (wq := (wz_46 h0 aw ac n2 h0_limit n3 h0_codeCount ob h0_openCount aw ab ac aw_typeCount wat wap wag aw_functionCount waf j19_s0 aw_pagesLeast aw_pagesMost aw_globalCount wgt wft wfv wgc aw_exportCount wek wei wes wez ab ax ab_length ax cax gax)) [0, 1, 2, 3] rfl
      have hD9 := hD.sb (wq := (wz_46 h0 aw ac n2 h0_limit n3 h0_codeCount ob h0_openCount aw ab ac aw_typeCount wat wap wag aw_functionCount waf j19_s0 aw_pagesLeast aw_pagesMost aw_globalCount wgt wft wfv wgc aw_exportCount wek wei wes wez ab ax ab_length ax cax gax)) [0, 1, 2, 3] (by decide) rfl
      exact W.vret hx hb hr (fun t ht hW => ⟨⟨(j19_s0, aw_pagesLeast, aw_pagesMost, n2, n3), rfl, ⟨b_j19_s0, bn3, ⟨⟨by (try dsimp only) <;> (first | (apply Int.le_antisymm <;> omega) | omega), by (try dsimp only) <;> (first | (apply Int.le_antisymm <;> omega) | omega)⟩, Or.inr ⟨by (try dsimp only) <;> (first | (apply Int.le_antisymm <;> omega) | omega), rfl, rfl, me_0 u6 hs (by (first | (apply Int.le_antisymm <;> omega) | omega))⟩⟩⟩, va_P.he ht.symm hP9, va_K.moved hW.alike hK, hD9⟩, hS.F ht⟩) hS.2.2 d_RE_readMemory_76
    · have q29 := neI c29
      refine lv_aload_n hx hb d_RE_readMemory_32 rfl (lv_at hl 0 rfl) ?_
      have hPc := hP.sb (wq := (wz_46 h0 aw ac n2 h0_limit n3 h0_codeCount ob h0_openCount aw ab ac aw_typeCount wat wap wag aw_functionCount waf j19_s0 aw_pagesLeast aw_pagesMost aw_globalCount wgt wft wfv wgc aw_exportCount wek wei wes wez ab ax ab_length ax cax gax)) [0, 1, 2, 3] rfl
      have hDc := hD.sb (wq := (wz_46 h0 aw ac n2 h0_limit n3 h0_codeCount ob h0_openCount aw ab ac aw_typeCount wat wap wag aw_functionCount waf j19_s0 aw_pagesLeast aw_pagesMost aw_globalCount wgt wft wfv wgc aw_exportCount wek wei wes wez ab ax ab_length ax cax gax)) [0, 1, 2, 3] (by decide) rfl
      have hKc := hK.sb (tyq := [(cax, .byte)]) [0] rfl
      have hFc := va_free (wc := (wz_46 h0 aw ac n2 h0_limit n3 h0_codeCount ob h0_openCount aw ab ac aw_typeCount wat wap wag aw_functionCount waf j19_s0 aw_pagesLeast aw_pagesMost aw_globalCount wgt wft wfv wgc aw_exportCount wek wei wes wez ab ax ab_length ax cax gax)) hD hS hA [0, 1, 2, 3] rfl
      refine va_calli (va_runV (As := []) (rest := []) ⟨hx, hb, hml, hown, hts⟩ (c_RE_readFlagy l dC dI H.size h0 aw ac ob ab wat wap wag waf wgt wft wfv wgc wek wei wes wez ax cax n2 h0_limit n3 h0_codeCount h0_openCount aw_typeCount aw_functionCount j19_s0 aw_pagesLeast aw_pagesMost aw_globalCount aw_exportCount ab_length gax (bn3) (by (try dsimp only) <;> (first | (apply Int.le_antisymm <;> omega) | omega))) (cwV 0 hts (gV kM_RE_118 kV_RE_readFlag kS_RE_readFlag kI_RE kC_RE_readFlag) rfl rfl rfl (by decide +kernel) ⟨Nat.le_of_ble_eq_true rfl, Nat.le_of_ble_eq_true rfl⟩) ⟨fun a U g mk z => by obtain ⟨z0, z1, zP, zK, zD⟩ := z; exact ⟨z0, z1, zP, va_K.moved (u := U) (U := U.calling g mk a) (Vm.Alike.refl U.vm) zK, zD⟩, va_recv hKc hPc (ci := 7) (q0 := 0) rfl rfl, fun U hU hW => ⟨rfl, by rw [hU], va_P.he hU.symm hPc, va_K.moved hW.alike hKc, hDc.weaken (fun _ _ _ _ => trivial)⟩⟩ rfl rfl hl.1 rfl (lv_room (Nat.le_of_ble_eq_true rfl)) d_RE_readMemory_33 ⟨(Nat.zero_le _), (Nat.zero_le _)⟩) hS (fun q _ h => hFc q h) hFc (fun r5 u t H1 locs ht hvm hw hB hz1 hk1 hS => ?_)
      obtain ⟨n6, n7⟩ := u
      try dsimp only at hw
      obtain ⟨br5, bn7, xr5⟩ := hw
      try clear hw
      have tn7 := b01 bn7
      obtain ⟨hP1, hK1, hD1⟩ := hB
      replace hP1 := va_P.he ht hP1
      obtain ⟨hP, hD⟩ := va_join (wr := []) (w1 := (wz_46 h0 aw ac n6 h0_limit n7 h0_codeCount ob h0_openCount aw ab ac aw_typeCount wat wap wag aw_functionCount waf j19_s0 aw_pagesLeast aw_pagesMost aw_globalCount wgt wft wfv wgc aw_exportCount wek wei wes wez ab ax ab_length ax cax gax)) hP hD [0, 1, 2, 3] [] rfl rfl (by decide) (by decide) hk1 hFc hP1 hD1
      clear hPc hDc hKc hFc hz1 hk1 hP1 hK1 hD1
      rename Heap => H
      have hP : va_P (dC, dI) cls (wz_46 h0 aw ac n6 h0_limit n7 h0_codeCount ob h0_openCount aw ab ac aw_typeCount wat wap wag aw_functionCount waf j19_s0 aw_pagesLeast aw_pagesMost aw_globalCount wgt wft wfv wgc aw_exportCount wek wei wes wez ab ax ab_length ax cax gax) H := hP
      have hD : va_D A (wz_46 h0 aw ac n6 h0_limit n7 h0_codeCount ob h0_openCount aw ab ac aw_typeCount wat wap wag aw_functionCount waf j19_s0 aw_pagesLeast aw_pagesMost aw_globalCount wgt wft wfv wgc aw_exportCount wek wei wes wez ab ax ab_length ax cax gax) := hD
      refine lv_istore_n (lv' := [(1, .int r5), (0, .ref h0)]) hx hb d_RE_readMemory_36 rfl hl (by decide) rfl (fun ls hl => ?_)
      refine lv_aload_n hx hb d_RE_readMemory_37 rfl (lv_at hl 1 rfl) ?_
      refine va_get (D := (dC, dI)) (ci := 7) (v := .ref aw) (C := R_RE) (T := F_RE) (N := 8) hx hb hts i_RE hown hK hP 0 rfl rfl 0 (by decide) (hts _ kF_RE_15) (fun _ h9 => h9) rfl d_RE_readMemory_38 ?_
      refine lv_aload_n hx hb d_RE_readMemory_41 rfl (lv_at hl 1 rfl) ?_
      refine lv_ldc2 hx hb hown (hts _ kL_RE_121) d_RE_readMemory_42 ?_
      refine lv_topl (fun x8 ex8 => ?_)
      have tx8 : x8.toInt = 4294967295 := by rw [ex8]; decide
      have hPc := hP.sb (wq := (wz_46 h0 aw ac n6 h0_limit n7 h0_codeCount ob h0_openCount aw ab ac aw_typeCount wat wap wag aw_functionCount waf j19_s0 aw_pagesLeast aw_pagesMost aw_globalCount wgt wft wfv wgc aw_exportCount wek wei wes wez ab ax ab_length ax cax gax)) [0, 1, 2, 3] rfl
      have hDc := hD.sb (wq := (wz_46 h0 aw ac n6 h0_limit n7 h0_codeCount ob h0_openCount aw ab ac aw_typeCount wat wap wag aw_functionCount waf j19_s0 aw_pagesLeast aw_pagesMost aw_globalCount wgt wft wfv wgc aw_exportCount wek wei wes wez ab ax ab_length ax cax gax)) [0, 1, 2, 3] (by decide) rfl
      have hKc := hK.sb (tyq := [(cax, .byte)]) [0] rfl
      have hFc := va_free (wc := (wz_46 h0 aw ac n6 h0_limit n7 h0_codeCount ob h0_openCount aw ab ac aw_typeCount wat wap wag aw_functionCount waf j19_s0 aw_pagesLeast aw_pagesMost aw_globalCount wgt wft wfv wgc aw_exportCount wek wei wes wez ab ax ab_length ax cax gax)) hD hS hA [0, 1, 2, 3] rfl
      refine va_calll (va_runV (As := [.long x8]) (rest := [.ref aw]) ⟨hx, hb, hml, hown, hts⟩ (c_RE_readUnsignedy l dC dI H.size h0 aw ac ob ab wat wap wag waf wgt wft wfv wgc wek wei wes wez ax cax n6 h0_limit n7 h0_codeCount h0_openCount aw_typeCount aw_functionCount j19_s0 aw_pagesLeast aw_pagesMost aw_globalCount aw_exportCount ab_length gax (bn7) x8 (by (try dsimp only) <;> (first | (apply Int.le_antisymm <;> omega) | omega)) (by (first | (apply Int.le_antisymm <;> omega) | omega))) (cwV 1 hts (gV kM_RE_64 kV_RE_readUnsigned kS_RE_readUnsigned kI_RE kC_RE_readUnsigned) rfl rfl rfl (by decide +kernel) ⟨Nat.le_of_ble_eq_true rfl, Nat.le_of_ble_eq_true rfl⟩) ⟨fun a U g mk z => by obtain ⟨z0, z1, zP, zK, zD⟩ := z; exact ⟨z0, z1, zP, va_K.moved (u := U) (U := U.calling g mk a) (Vm.Alike.refl U.vm) zK, zD⟩, va_recv hKc hPc (ci := 7) (q0 := 0) rfl rfl, fun U hU hW => ⟨rfl, by rw [hU], va_P.he hU.symm hPc, va_K.moved hW.alike hKc, hDc.weaken (fun _ _ _ _ => trivial)⟩⟩ rfl rfl hl.1 rfl (lv_room (Nat.le_of_ble_eq_true rfl)) d_RE_readMemory_45 ⟨(Nat.zero_le _), (Nat.zero_le _)⟩) hS (fun q _ h => hFc q h) hFc (fun r9 u t H1 locs ht hvm hw hB hz1 hk1 hS => ?_)
      obtain ⟨n10, n11⟩ := u
      try dsimp only at hw
      obtain ⟨bn11, xr9⟩ := hw
      try clear hw
      have tn11 := b01 bn11
      have u45 : rz (zM gax h0_limit.toNatClampNeg 4294967295 n6.toNatClampNeg) n7 n11 n10 r9.toInt := by have z9 := xr9.2; rw [show x8.toInt.toNat = 4294967295 from by (first | (apply Int.le_antisymm <;> omega) | omega)] at z9; exact z9
      obtain ⟨hP1, hK1, hD1⟩ := hB
      replace hP1 := va_P.he ht hP1
      obtain ⟨hP, hD⟩ := va_join (wr := []) (w1 := (wz_46 h0 aw ac n10 h0_limit n11 h0_codeCount ob h0_openCount aw ab ac aw_typeCount wat wap wag aw_functionCount waf j19_s0 aw_pagesLeast aw_pagesMost aw_globalCount wgt wft wfv wgc aw_exportCount wek wei wes wez ab ax ab_length ax cax gax)) hP hD [0, 1, 2, 3] [] rfl rfl (by decide) (by decide) hk1 hFc hP1 hD1
      clear hPc hDc hKc hFc hz1 hk1 hP1 hK1 hD1
      rename Heap => H
      have hP : va_P (dC, dI) cls (wz_46 h0 aw ac n10 h0_limit n11 h0_codeCount ob h0_openCount aw ab ac aw_typeCount wat wap wag aw_functionCount waf j19_s0 aw_pagesLeast aw_pagesMost aw_globalCount wgt wft wfv wgc aw_exportCount wek wei wes wez ab ax ab_length ax cax gax) H := hP
      have hD : va_D A (wz_46 h0 aw ac n10 h0_limit n11 h0_codeCount ob h0_openCount aw ab ac aw_typeCount wat wap wag aw_functionCount waf j19_s0 aw_pagesLeast aw_pagesMost aw_globalCount wgt wft wfv wgc aw_exportCount wek wei wes wez ab ax ab_length ax cax gax) := hD
      have m48 := me_1 u6 hs (by (first | (apply Int.le_antisymm <;> omega) | omega)) xr5.2 u45
      refine va_put (D := (dC, dI)) (ci := 10) (v := .long r9) (ty := .long) (C := R_WA) (T := F_WA) (N := 21) hx hb hts i_WA t_WA t_WA_ok n_WA hown hK hP hD hS 1 rfl rfl 9 (by decide) (hts _ kF_RE_123) (fun _ h9 => h9) rfl (by decide +kernel) rfl rfl (Nat.le_of_ble_eq_true rfl) d_RE_readMemory_48 (fun H locs hP hD hS => ?_)
      refine lv_aload_n hx hb d_RE_readMemory_51 rfl (lv_at hl 1 rfl) ?_
      refine va_get (D := (dC, dI)) (ci := 7) (v := .ref aw) (C := R_RE) (T := F_RE) (N := 8) hx hb hts i_RE hown hK hP 0 rfl rfl 0 (by decide) (hts _ kF_RE_15) (fun _ h9 => h9) rfl d_RE_readMemory_52 ?_
      refine lv_iload_n hx hb d_RE_readMemory_55 rfl (lv_at hl 0 rfl) ?_
      refine lv_iconst (v := 1) hx hb d_RE_readMemory_56 (by decide) ?_
      refine w_cut (pc2 := 73) (σ := Int64 × Int32 × Int32) (fun u H locs ls => match u with | (j73_s0, j73_h0_at, j73_h0_sound) => (j73_h0_sound = 0 ∨ j73_h0_sound = 1) ∧ ((h0_at.toInt ≤ j73_h0_at.toInt ∧ j73_h0_at.toInt ≤ h0_limit.toInt)) ∧ (mez gax h0_limit.toNatClampNeg h0_at.toNatClampNeg j73_h0_sound j73_h0_at r9.toInt j73_s0.toInt) ∧ va_P (dC, dI) cls (wz_46 h0 aw ac j73_h0_at h0_limit j73_h0_sound h0_codeCount ob h0_openCount aw ab ac aw_typeCount wat wap wag aw_functionCount waf j19_s0 r9 aw_pagesMost aw_globalCount wgt wft wfv wgc aw_exportCount wek wei wes wez ab ax ab_length ax cax gax) H ∧ va_D A (wz_46 h0 aw ac j73_h0_at h0_limit j73_h0_sound h0_codeCount ob h0_openCount aw ab ac aw_typeCount wat wap wag aw_functionCount waf j19_s0 r9 aw_pagesMost aw_globalCount wgt wft wfv wgc aw_exportCount wek wei wes wez ab ax ab_length ax cax gax) ∧ va_S A s.heap H locs ∧ lv_has ls 2 []) (fun u => match u with | (j73_s0, j73_h0_at, j73_h0_sound) => [.long j73_s0, .ref aw]) ?_ (fun jn73 => ?_)
      · intro u H locs ls hI
        obtain ⟨j73_s0, j73_h0_at, j73_h0_sound⟩ := u
        obtain ⟨b_j73_h0_sound, ya, y73, hP, hD, hS, hl⟩ := hI
        have tj73_h0_sound := b01 b_j73_h0_sound
        refine va_put (D := (dC, dI)) (ci := 10) (v := .long j73_s0) (ty := .long) (C := R_WA) (T := F_WA) (N := 21) hx hb hts i_WA t_WA t_WA_ok n_WA hown hK hP hD hS 1 rfl rfl 10 (by decide) (hts _ kF_RE_129) (fun _ h9 => h9) rfl (by decide +kernel) rfl rfl (Nat.le_of_ble_eq_true rfl) d_RE_readMemory_73 (fun H locs hP hD hS => ?_)
        have hP9 := hP.sb (wq := (wz_46 h0 aw ac j73_h0_at h0_limit j73_h0_sound h0_codeCount ob h0_openCount aw ab ac aw_typeCount wat wap wag aw_functionCount waf j19_s0 r9 j73_s0 aw_globalCount wgt wft wfv wgc aw_exportCount wek wei wes wez ab ax ab_length ax cax gax)) [0, 1, 2, 3] rfl
        have hD9 := hD.sb (wq := (wz_46 h0 aw ac j73_h0_at h0_limit j73_h0_sound h0_codeCount ob h0_openCount aw ab ac aw_typeCount wat wap wag aw_functionCount waf j19_s0 r9 j73_s0 aw_globalCount wgt wft wfv wgc aw_exportCount wek wei wes wez ab ax ab_length ax cax gax)) [0, 1, 2, 3] (by decide) rfl
        exact W.vret hx hb hr (fun t ht hW => ⟨⟨(j19_s0, r9, j73_s0, j73_h0_at, j73_h0_sound), rfl, ⟨b_j19_s0, b_j73_h0_sound, ⟨⟨by (try dsimp only) <;> (first | (apply Int.le_antisymm <;> omega) | omega), by (try dsimp only) <;> (first | (apply Int.le_antisymm <;> omega) | omega)⟩, Or.inl ⟨by (try dsimp only) <;> (first | (apply Int.le_antisymm <;> omega) | omega), y73⟩⟩⟩, va_P.he ht.symm hP9, va_K.moved hW.alike hK, hD9⟩, hS.F ht⟩) hS.2.2 d_RE_readMemory_76
      · skip
        refine lv_icmp_ne (tgt := 70) hx hb d_RE_readMemory_57 (by decide) (fun c57 => ?_) (fun c57 => ?_)
        · have q57 := neI c57
          refine lv_ldc2 hx hb hown (hts _ kL_RE_127) d_RE_readMemory_70 ?_
          refine lv_topl (fun x12 ex12 => ?_)
          have tx12 : x12.toInt = -1 := by rw [ex12]; decide
          exact jn73 (x12, n10, n11) _ _ _ ⟨bn11, by (try dsimp only) <;> (first | (apply Int.le_antisymm <;> omega) | omega), (me_2 m48 (by (first | (apply Int.le_antisymm <;> omega) | omega)) (by (first | (apply Int.le_antisymm <;> omega) | omega))), hP, hD, hS, lv_sub hl [] rfl⟩
        · have q57 := eqI c57
          refine lv_aload_n hx hb d_RE_readMemory_60 rfl (lv_at hl 1 rfl) ?_
          refine lv_ldc2 hx hb hown (hts _ kL_RE_121) d_RE_readMemory_61 ?_
          refine lv_topl (fun x13 ex13 => ?_)
          have tx13 : x13.toInt = 4294967295 := by rw [ex13]; decide
          have hPc := hP.sb (wq := (wz_46 h0 aw ac n10 h0_limit n11 h0_codeCount ob h0_openCount aw ab ac aw_typeCount wat wap wag aw_functionCount waf j19_s0 r9 aw_pagesMost aw_globalCount wgt wft wfv wgc aw_exportCount wek wei wes wez ab ax ab_length ax cax gax)) [0, 1, 2, 3] rfl
          have hDc := hD.sb (wq := (wz_46 h0 aw ac n10 h0_limit n11 h0_codeCount ob h0_openCount aw ab ac aw_typeCount wat wap wag aw_functionCount waf j19_s0 r9 aw_pagesMost aw_globalCount wgt wft wfv wgc aw_exportCount wek wei wes wez ab ax ab_length ax cax gax)) [0, 1, 2, 3] (by decide) rfl
          have hKc := hK.sb (tyq := [(cax, .byte)]) [0] rfl
          have hFc := va_free (wc := (wz_46 h0 aw ac n10 h0_limit n11 h0_codeCount ob h0_openCount aw ab ac aw_typeCount wat wap wag aw_functionCount waf j19_s0 r9 aw_pagesMost aw_globalCount wgt wft wfv wgc aw_exportCount wek wei wes wez ab ax ab_length ax cax gax)) hD hS hA [0, 1, 2, 3] rfl
          refine va_calll (va_runV (As := [.long x13]) (rest := [.ref aw]) ⟨hx, hb, hml, hown, hts⟩ (c_RE_readUnsignedy l dC dI H.size h0 aw ac ob ab wat wap wag waf wgt wft wfv wgc wek wei wes wez ax cax n10 h0_limit n11 h0_codeCount h0_openCount aw_typeCount aw_functionCount j19_s0 r9 aw_pagesMost aw_globalCount aw_exportCount ab_length gax (bn11) x13 (by (try dsimp only) <;> (first | (apply Int.le_antisymm <;> omega) | omega)) (by (first | (apply Int.le_antisymm <;> omega) | omega))) (cwV 1 hts (gV kM_RE_64 kV_RE_readUnsigned kS_RE_readUnsigned kI_RE kC_RE_readUnsigned) rfl rfl rfl (by decide +kernel) ⟨Nat.le_of_ble_eq_true rfl, Nat.le_of_ble_eq_true rfl⟩) ⟨fun a U g mk z => by obtain ⟨z0, z1, zP, zK, zD⟩ := z; exact ⟨z0, z1, zP, va_K.moved (u := U) (U := U.calling g mk a) (Vm.Alike.refl U.vm) zK, zD⟩, va_recv hKc hPc (ci := 7) (q0 := 0) rfl rfl, fun U hU hW => ⟨rfl, by rw [hU], va_P.he hU.symm hPc, va_K.moved hW.alike hKc, hDc.weaken (fun _ _ _ _ => trivial)⟩⟩ rfl rfl hl.1 rfl (lv_room (Nat.le_of_ble_eq_true rfl)) d_RE_readMemory_64 ⟨(Nat.zero_le _), (Nat.zero_le _)⟩) hS (fun q _ h => hFc q h) hFc (fun r14 u t H1 locs ht hvm hw hB hz1 hk1 hS => ?_)
          obtain ⟨n15, n16⟩ := u
          try dsimp only at hw
          obtain ⟨bn16, xr14⟩ := hw
          try clear hw
          have tn16 := b01 bn16
          have u64 : rz (zM gax h0_limit.toNatClampNeg 4294967295 n10.toNatClampNeg) n11 n16 n15 r14.toInt := by have z9 := xr14.2; rw [show x13.toInt.toNat = 4294967295 from by (first | (apply Int.le_antisymm <;> omega) | omega)] at z9; exact z9
          obtain ⟨hP1, hK1, hD1⟩ := hB
          replace hP1 := va_P.he ht hP1
          obtain ⟨hP, hD⟩ := va_join (wr := []) (w1 := (wz_46 h0 aw ac n15 h0_limit n16 h0_codeCount ob h0_openCount aw ab ac aw_typeCount wat wap wag aw_functionCount waf j19_s0 r9 aw_pagesMost aw_globalCount wgt wft wfv wgc aw_exportCount wek wei wes wez ab ax ab_length ax cax gax)) hP hD [0, 1, 2, 3] [] rfl rfl (by decide) (by decide) hk1 hFc hP1 hD1
          clear hPc hDc hKc hFc hz1 hk1 hP1 hK1 hD1
          rename Heap => H
          have hP : va_P (dC, dI) cls (wz_46 h0 aw ac n15 h0_limit n16 h0_codeCount ob h0_openCount aw ab ac aw_typeCount wat wap wag aw_functionCount waf j19_s0 r9 aw_pagesMost aw_globalCount wgt wft wfv wgc aw_exportCount wek wei wes wez ab ax ab_length ax cax gax) H := hP
          have hD : va_D A (wz_46 h0 aw ac n15 h0_limit n16 h0_codeCount ob h0_openCount aw ab ac aw_typeCount wat wap wag aw_functionCount waf j19_s0 r9 aw_pagesMost aw_globalCount wgt wft wfv wgc aw_exportCount wek wei wes wez ab ax ab_length ax cax gax) := hD
          refine lv_goto (tgt := 73) hx hb d_RE_readMemory_67 (by decide) ?_
          exact jn73 (r14, n15, n16) _ _ _ ⟨bn16, by (try dsimp only) <;> (first | (apply Int.le_antisymm <;> omega) | omega), (me_3 m48 (by (first | (apply Int.le_antisymm <;> omega) | omega)) u64), hP, hD, hS, lv_sub hl [] rfl⟩
  · skip
    refine lv_if_ne (tgt := 18) hx hb d_RE_readMemory_11 (by decide) (fun c11 => ?_) (fun c11 => ?_)
    · have q11 := neI c11
      refine lv_iconst (v := 0) hx hb d_RE_readMemory_18 (by decide) ?_
      exact jn19 0 _ _ _ ⟨Or.inl rfl, by (try dsimp only) <;> (first | (apply Int.le_antisymm <;> omega) | omega), hP, hD, hS, lv_sub hl [0] rfl⟩
    · have q11 := eqI c11
      refine lv_iconst (v := 1) hx hb d_RE_readMemory_14 (by decide) ?_
      refine lv_goto (tgt := 19) hx hb d_RE_readMemory_15 (by decide) ?_
      exact jn19 1 _ _ _ ⟨Or.inr rfl, by (try dsimp only) <;> (first | (apply Int.le_antisymm <;> omega) | omega), hP, hD, hS, lv_sub hl [0] rfl⟩
end q_n44q13
section q_n44q14
/-! p5: the class: globals -/
theorem vnb {x : Int32} (h : x = 0 ∨ x = 1) : vp_nar .boolean x = x := by rcases h with rfl | rfl <;> rfl
def glA (gt ft gc : Nat → Int32) (G : List (Nat × Nat × Nat)) : Prop := ∀ (k : Nat) (x : Nat × Nat × Nat), G[k]? = some x → (gt k).toInt = (x.1 : Int) ∧ (gc k).toInt = (x.2.1 : Int) ∧ (ft k).toInt = (x.2.2 : Int)
def glO (f : Nat → Int32) (L a0 : Nat) (s a : Int32) (n k : Int) (gt ft gc : Nat → Int32) : Prop := (s.toInt = 1 ∧ ∃ G : List (Nat × Nat × Nat), (G.length : Int) = k ∧ zV f L 20 (zGlob f L) a0 = zA (zGlob f L) (n - k).toNat G a.toNatClampNeg ∧ glA gt ft gc G) ∨ (s.toInt = 0 ∧ zV f L 20 (zGlob f L) a0 = none)
theorem glO_0 {f gt ft gc : Nat → Int32} {L a0 : Nat} {s0 s a : Int32} {r k : Int} (h : rz (zM f L 20 a0) s0 s a r) (hs : s0.toInt = 1) (hk : k = 0) : glO f L a0 s a r k gt ft gc := by
  rcases h with ⟨h1, h2, h3, h4⟩ | ⟨h1, h2⟩
  · refine Or.inl ⟨h1, [], by rw [hk]; rfl, ?_, fun t x ht => by cases ht⟩
    unfold zV
    rw [h4, hk, Int.sub_zero]
  · refine Or.inr ⟨h1, ?_⟩
    unfold zV
    rw [h2 hs]
/-- one global -/
def glz (f : Nat → Int32) (L a : Nat) (s a2 : Int32) (t m o : Int) : Prop := (s.toInt = 1 ∧ 0 ≤ t ∧ 0 ≤ m ∧ m ≤ 1 ∧ zGlob f L a = some ((t.toNat, m.toNat, if o = 65 then 127 else 126), a2.toNatClampNeg)) ∨ (s.toInt = 0 ∧ zGlob f L a = none)
theorem gl_z {f : Nat → Int32} {a lim s s1 a1 s2 a2 s3 a3 s4 s5 a5 s6 a6 o : Int32} {t m b : Int} (h1 : rz (zTy f lim.toNatClampNeg a.toNatClampNeg) s s1 a1 t) (h2 : rz (zFl f lim.toNatClampNeg a1.toNatClampNeg) s1 s2 a2 m) (h3 : rn f s2 a2 lim s3 a3 o) (h4 : (s4.toInt = 1 ∧ s3.toInt = 1 ∧ (o.toInt = 65 ∨ o.toInt = 66)) ∨ (s4.toInt = 0 ∧ ¬ (s3.toInt = 1 ∧ (o.toInt = 65 ∨ o.toInt = 66)))) (hb : (b = 32 ∧ o.toInt = 65) ∨ (b = 64 ∧ o.toInt ≠ 65)) (h5 : rp (zSg f lim.toNatClampNeg b a3.toNatClampNeg) s4 s5 a5) (h6 : rp (zE f lim.toNatClampNeg 11 a5.toNatClampNeg) s5 s6 a6) (hs : s.toInt = 1) (ha : 0 ≤ a2.toInt) (hl : 0 ≤ lim.toInt) : glz f lim.toNatClampNeg a.toNatClampNeg s6 a6 t m o.toInt := by
  have k2 := i32_clamp ha
  have kl := i32_clamp hl
  have e6 : s5.toInt ≠ 1 → s6.toInt = 0 := by
    intro q
    rcases h6 with ⟨v1, v2, v3⟩ | ⟨v1, v2⟩
    · (first | (apply Int.le_antisymm <;> omega) | omega)
    · exact v1
  have e5 : s4.toInt ≠ 1 → s6.toInt = 0 := by
    intro q
    apply e6
    rcases h5 with ⟨v1, v2, v3⟩ | ⟨v1, v2⟩
    · (first | (apply Int.le_antisymm <;> omega) | omega)
    · (first | (apply Int.le_antisymm <;> omega) | omega)
  have e3 : s2.toInt ≠ 1 → s6.toInt = 0 := by
    intro q
    apply e5
    rcases h3 with ⟨v1, v2, v3, v4, v5⟩ | ⟨v1, v2, v3, v4⟩ <;> (first | (apply Int.le_antisymm <;> omega) | omega)
  rcases h1 with ⟨u1, u2, u3, u4⟩ | ⟨u1, u2⟩
  · rcases h2 with ⟨w1, w2, w3, w4⟩ | ⟨w1, w2⟩
    · have hm : m ≤ 1 := by
        unfold zFl at w4
        split at w4
        · rename_i hc
          obtain ⟨q1, q2⟩ := Prod.mk.inj (Option.some.inj w4)
          (first | (apply Int.le_antisymm <;> omega) | omega)
        · cases w4
      have hz : zGlob f lim.toNatClampNeg a.toNatClampNeg = if a2.toNatClampNeg < lim.toNatClampNeg ∧ (bn (f a2.toNatClampNeg) = 65 ∨ bn (f a2.toNatClampNeg) = 66) then (match zSn f lim.toNatClampNeg (if bn (f a2.toNatClampNeg) = 65 then zq32 else zq64) (if bn (f a2.toNatClampNeg) = 65 then 5 else 10) (a2.toNatClampNeg + 1) with
        | some d => (match zE f lim.toNatClampNeg 11 d with | some e => some ((t.toNat, m.toNat, if bn (f a2.toNatClampNeg) = 65 then 127 else 126), e) | none => none)
        | none => none)
        else none := by
        unfold zGlob
        rw [u4]
        dsimp only
        rw [w4]
        rfl
      rcases h3 with ⟨v1, v2, v3, v4, v5⟩ | ⟨v1, v2, v3, v4⟩
      · have k3 := i32_clamp (x := a3) (by (first | (apply Int.le_antisymm <;> omega) | omega))
        rcases h4 with ⟨x1, x2, x3⟩ | ⟨x1, x2⟩
        · rw [if_pos ⟨by (first | (apply Int.le_antisymm <;> omega) | omega), by (first | (apply Int.le_antisymm <;> omega) | omega)⟩, show a2.toNatClampNeg + 1 = a3.toNatClampNeg by (first | (apply Int.le_antisymm <;> omega) | omega)] at hz
          have hq : zSn f lim.toNatClampNeg (if bn (f a2.toNatClampNeg) = 65 then zq32 else zq64) (if bn (f a2.toNatClampNeg) = 65 then 5 else 10) a3.toNatClampNeg = zSg f lim.toNatClampNeg b a3.toNatClampNeg := by
            unfold zSg
            rcases hb with ⟨b1, b2⟩ | ⟨b1, b2⟩
            · rw [if_pos (by (first | (apply Int.le_antisymm <;> omega) | omega)), if_pos (by (first | (apply Int.le_antisymm <;> omega) | omega)), if_pos b1]
            · rw [if_neg (by (first | (apply Int.le_antisymm <;> omega) | omega)), if_neg (by (first | (apply Int.le_antisymm <;> omega) | omega)), if_neg (by (first | (apply Int.le_antisymm <;> omega) | omega))]
          rw [hq] at hz
          rcases h5 with ⟨y1, y2, y3⟩ | ⟨y1, y2⟩
          · rw [y3] at hz
            dsimp only at hz
            rcases h6 with ⟨z1, z2, z3⟩ | ⟨z1, z2⟩
            · rw [z3] at hz
              dsimp only at hz
              refine Or.inl ⟨z1, u3, w3, hm, ?_⟩
              rw [hz]
              by_cases q : o.toInt = 65
              · rw [if_pos q, if_pos (by (first | (apply Int.le_antisymm <;> omega) | omega))]
              · rw [if_neg q, if_neg (by (first | (apply Int.le_antisymm <;> omega) | omega))]
            · rw [z2 y1] at hz
              exact Or.inr ⟨z1, hz⟩
          · rw [y2 x1] at hz
            exact Or.inr ⟨e6 (by (first | (apply Int.le_antisymm <;> omega) | omega)), hz⟩
        · rw [if_neg (by (first | (apply Int.le_antisymm <;> omega) | omega))] at hz
          exact Or.inr ⟨e5 (by (first | (apply Int.le_antisymm <;> omega) | omega)), hz⟩
      · have := v2 w1
        rw [if_neg (by (first | (apply Int.le_antisymm <;> omega) | omega))] at hz
        exact Or.inr ⟨e5 (by (first | (apply Int.le_antisymm <;> omega) | omega)), hz⟩
    · refine Or.inr ⟨e3 (by (first | (apply Int.le_antisymm <;> omega) | omega)), ?_⟩
      unfold zGlob
      rw [u4]
      dsimp only
      rw [w2 u1]
  · refine Or.inr ⟨e3 (by rcases h2 with ⟨w1, w2, w3, w4⟩ | ⟨w1, w2⟩ <;> (first | (apply Int.le_antisymm <;> omega) | omega)), ?_⟩
    unfold zGlob
    rw [u2 hs]
theorem glO_s {f gt ft gc : Nat → Int32} {L a0 : Nat} {s a s2 a2 v1 v2 v3 : Int32} {n k t m o : Int} (h : glO f L a0 s a n k gt ft gc) (hs : s.toInt = 1) (h1 : glz f L a.toNatClampNeg s2 a2 t m o) (hk : 0 ≤ k) (hn : k < n) (e1 : v1.toInt = t) (e2 : (v2.toInt = 1 ∧ m = 1) ∨ (v2.toInt = 0 ∧ m ≠ 1)) (e3 : (v3.toInt = 127 ∧ o = 65) ∨ (v3.toInt = 126 ∧ o ≠ 65)) : glO f L a0 s2 a2 n (k + 1) (upd gt k.toNat v1) (upd ft k.toNat v3) (upd gc k.toNat v2) := by
  rcases h with ⟨u1, T, u2, u3, u4⟩ | ⟨u1, u2⟩
  · rw [show (n - k).toNat = (n - (k + 1)).toNat + 1 by (first | (apply Int.le_antisymm <;> omega) | omega), zA] at u3
    rcases h1 with ⟨w1, w2, w3, w4, w5⟩ | ⟨w1, w2⟩
    · rw [w5] at u3
      refine Or.inl ⟨w1, T ++ [(t.toNat, m.toNat, if o = 65 then 127 else 126)], by rw [List.length_append, List.length_singleton]; (first | (apply Int.le_antisymm <;> omega) | omega), u3, fun j x ht => ?_⟩
      by_cases e : j < T.length
      · rw [List.getElem?_append_left e] at ht
        rw [pk_un (show j ≠ k.toNat by (first | (apply Int.le_antisymm <;> omega) | omega)), pk_un (show j ≠ k.toNat by (first | (apply Int.le_antisymm <;> omega) | omega)), pk_un (show j ≠ k.toNat by (first | (apply Int.le_antisymm <;> omega) | omega))]
        exact u4 j x ht
      · have ht2 : j = T.length := by
          have := (List.getElem?_eq_some_iff.mp ht).1
          rw [List.length_append, List.length_singleton] at this
          (first | (apply Int.le_antisymm <;> omega) | omega)
        rw [ht2, List.getElem?_append_right (Nat.le_refl _), Nat.sub_self] at ht
        cases ht
        rw [ht2, show T.length = k.toNat by (first | (apply Int.le_antisymm <;> omega) | omega), pk_us, pk_us, pk_us]
        refine ⟨by dsimp only; (first | (apply Int.le_antisymm <;> omega) | omega), by dsimp only; (first | (apply Int.le_antisymm <;> omega) | omega), ?_⟩
        dsimp only
        by_cases q : o = 65
        · rw [if_pos q]
          (first | (apply Int.le_antisymm <;> omega) | omega)
        · rw [if_neg q]
          (first | (apply Int.le_antisymm <;> omega) | omega)
    · rw [w2] at u3
      exact Or.inr ⟨w1, u3⟩
  · (first | (apply Int.le_antisymm <;> omega) | omega)
abbrev at_RE_readGlobalsy (dC : Nat → ClassId) (dI : Nat → Nat → Nat) (h0 aw ac ob ab wat wap wag waf wgt wft wfv wgc wek wei wes wez ax : Nat) (cax cwgt cwft cwfv cwgc : ClassId) (h0_limit : Int32) (h0_codeCount : Int32) (h0_openCount : Int32) (aw_typeCount : Int32) (aw_functionCount : Int32) (aw_hasMemory : Int32) (aw_pagesLeast : Int64) (aw_pagesMost : Int64) (aw_exportCount : Int32) (ab_length : Int32) (gax : Nat → Int32) (A : Nat → Prop) (u : (Nat → Int32) × (Nat → Int64) × (Nat → Int32) × (Nat → Int32) × Int32 × Int32 × Int32) (t : State) : Prop := match u with | (gwft, gwfv, gwgc, gwgt, aw_globalCount, h0_at, h0_sound) => va_P (dC, dI) cls (wz_55 h0 aw ac h0_at h0_limit h0_sound h0_codeCount ob h0_openCount aw ab ac aw_typeCount wat wap wag aw_functionCount waf aw_hasMemory aw_pagesLeast aw_pagesMost aw_globalCount wgt wft wfv wgc aw_exportCount wek wei wes wez ab ax ab_length ax cax gax wgt cwgt gwgt wft cwft gwft wfv cwfv gwfv wgc cwgc gwgc) t.heap ∧ va_K (dC, dI) cls [(cax, .byte), (cwgt, .int), (cwft, .int), (cwfv, .long), (cwgc, .boolean)] t ∧ va_D A (wz_55 h0 aw ac h0_at h0_limit h0_sound h0_codeCount ob h0_openCount aw ab ac aw_typeCount wat wap wag aw_functionCount waf aw_hasMemory aw_pagesLeast aw_pagesMost aw_globalCount wgt wft wfv wgc aw_exportCount wek wei wes wez ab ax ab_length ax cax gax wgt cwgt gwgt wft cwft gwft wfv cwfv gwfv wgc cwgc gwgc)
set_option maxHeartbeats 4000000 in
set_option maxRecDepth 100000 in
theorem c_RE_readGlobalsy (l : Launch) (dC : Nat → ClassId) (dI : Nat → Nat → Nat) (sz : Nat) (h0 aw ac ob ab wat wap wag waf wgt wft wfv wgc wek wei wes wez ax : Nat) (cax cwgt cwft cwfv cwgc : ClassId) (h0_at : Int32) (h0_limit : Int32) (h0_sound : Int32) (h0_codeCount : Int32) (h0_openCount : Int32) (aw_typeCount : Int32) (aw_functionCount : Int32) (aw_hasMemory : Int32) (aw_pagesLeast : Int64) (aw_pagesMost : Int64) (aw_globalCount : Int32) (aw_exportCount : Int32) (ab_length : Int32) (gax : Nat → Int32) (gwgt : Nat → Int32) (gwft : Nat → Int32) (gwfv : Nat → Int64) (gwgc : Nat → Int32)  (b_h0_sound : h0_sound = 0 ∨ h0_sound = 1) (b_aw_globalCount : 0 ≤ aw_globalCount.toInt ∧ aw_globalCount.toInt ≤ 20)   (ha : 0 ≤ h0_at.toInt ∧ h0_at.toInt ≤ h0_limit.toInt ∧ h0_limit.toInt ≤ ab_length.toInt ∧ ab_length.toInt ≤ 8192) (hs : h0_sound.toInt = 1) : Met l y_RE_readGlobals w_RE_readGlobals ({ frames := 2, cells := 0, slots := 0, locals := 47 }) (va_Pc [.ref h0] (fun U => U.heap.size = sz ∧ va_P (dC, dI) cls (wz_55 h0 aw ac h0_at h0_limit h0_sound h0_codeCount ob h0_openCount aw ab ac aw_typeCount wat wap wag aw_functionCount waf aw_hasMemory aw_pagesLeast aw_pagesMost aw_globalCount wgt wft wfv wgc aw_exportCount wek wei wes wez ab ax ab_length ax cax gax wgt cwgt gwgt wft cwft gwft wfv cwfv gwfv wgc cwgc gwgc) U.heap ∧ va_K (dC, dI) cls [(cax, .byte), (cwgt, .int), (cwft, .int), (cwfv, .long), (cwgc, .boolean)] U ∧ va_D (fun _ => True) (wz_55 h0 aw ac h0_at h0_limit h0_sound h0_codeCount ob h0_openCount aw ab ac aw_typeCount wat wap wag aw_functionCount waf aw_hasMemory aw_pagesLeast aw_pagesMost aw_globalCount wgt wft wfv wgc aw_exportCount wek wei wes wez ab ax ab_length ax cax gax wgt cwgt gwgt wft cwft gwft wfv cwfv gwfv wgc cwgc gwgc))) (va_Qv (fun (u : (Nat → Int32) × (Nat → Int64) × (Nat → Int32) × (Nat → Int32) × Int32 × Int32 × Int32) => match u with | (gwft2, gwfv2, gwgc2, gwgt2, aw_globalCount2, h0_at2, h0_sound2) => (0 ≤ aw_globalCount2.toInt ∧ aw_globalCount2.toInt ≤ 20) ∧ (h0_sound2 = 0 ∨ h0_sound2 = 1) ∧ ((h0_at.toInt ≤ h0_at2.toInt ∧ h0_at2.toInt ≤ h0_limit.toInt) ∧ ((h0_sound2.toInt = 1 ∧ ∃ G : List (Nat × Nat × Nat), zV gax h0_limit.toNatClampNeg 20 (zGlob gax h0_limit.toNatClampNeg) h0_at.toNatClampNeg = some (G, h0_at2.toNatClampNeg) ∧ aw_globalCount2.toInt = (G.length : Int) ∧ glA gwgt2 gwft2 gwgc2 G) ∨ (h0_sound2.toInt = 0 ∧ zV gax h0_limit.toNatClampNeg 20 (zGlob gax h0_limit.toNatClampNeg) h0_at.toNatClampNeg = none)))) (at_RE_readGlobalsy dC dI h0 aw ac ob ab wat wap wag waf wgt wft wfv wgc wek wei wes wez ax cax cwgt cwft cwfv cwgc h0_limit h0_codeCount h0_openCount aw_typeCount aw_functionCount aw_hasMemory aw_pagesLeast aw_pagesMost aw_exportCount ab_length gax (va_A (wz_55 h0 aw ac h0_at h0_limit h0_sound h0_codeCount ob h0_openCount aw ab ac aw_typeCount wat wap wag aw_functionCount waf aw_hasMemory aw_pagesLeast aw_pagesMost aw_globalCount wgt wft wfv wgc aw_exportCount wek wei wes wez ab ax ab_length ax cax gax wgt cwgt gwgt wft cwft gwft wfv cwfv gwfv wgc cwgc gwgc) sz)) (va_A (wz_55 h0 aw ac h0_at h0_limit h0_sound h0_codeCount ob h0_openCount aw ab ac aw_typeCount wat wap wag aw_functionCount waf aw_hasMemory aw_pagesLeast aw_pagesMost aw_globalCount wgt wft wfv wgc aw_exportCount wek wei wes wez ab ax ab_length ax cax gax wgt cwgt gwgt wft cwft gwft wfv cwfv gwfv wgc cwgc gwgc) sz)) 0 0 (va_A (wz_55 h0 aw ac h0_at h0_limit h0_sound h0_codeCount ob h0_openCount aw ab ac aw_typeCount wat wap wag aw_functionCount waf aw_hasMemory aw_pagesLeast aw_pagesMost aw_globalCount wgt wft wfv wgc aw_exportCount wek wei wes wez ab ax ab_length ax cax gax wgt cwgt gwgt wft cwft gwft wfv cwfv gwfv wgc cwgc gwgc) sz) := by
  refine Met.ofW (cc := b_RE_readGlobals) (maxL := 3) (ret := none) (by decide) rfl ?_
  intro p e s m args below meth c s₁ B hml hv
  obtain ⟨rfl, hsz, hP, hK, hD0⟩ := hv
  have hx := B.exec
  have hb := B.bytes
  have hr := B.returns
  have hts0 := atoms_spec (ws := w_RE_readGlobals) B.pre
  have hts : ∀ w ∈ lw_g, w.before _ s = true := fun w h => hts0 w (List.mem_cons_of_mem _ h)
  have hown : s.vm.findClass R_RE = some m.cls := findClass_of_methodNamed B.named
  have hlocks := B.notSynchronized
  clear hts0
  subst hsz
  have hD := hD0.self (sz := s.heap.size)
  generalize hAe : va_A (wz_55 h0 aw ac h0_at h0_limit h0_sound h0_codeCount ob h0_openCount aw ab ac aw_typeCount wat wap wag aw_functionCount waf aw_hasMemory aw_pagesLeast aw_pagesMost aw_globalCount wgt wft wfv wgc aw_exportCount wek wei wes wez ab ax ab_length ax cax gax wgt cwgt gwgt wft cwft gwft wfv cwfv gwfv wgc cwgc gwgc) s.heap.size = A at hD ⊢
  have hA : ∀ q : Nat, s.heap.size ≤ q → A q := fun q h => by rw [← hAe]; exact Or.inr h
  clear hAe
  have hP : va_P (dC, dI) cls (wz_55 h0 aw ac h0_at h0_limit h0_sound h0_codeCount ob h0_openCount aw ab ac aw_typeCount wat wap wag aw_functionCount waf aw_hasMemory aw_pagesLeast aw_pagesMost aw_globalCount wgt wft wfv wgc aw_exportCount wek wei wes wez ab ax ab_length ax cax gax wgt cwgt gwgt wft cwft gwft wfv cwfv gwfv wgc cwgc gwgc) s.heap := hP
  have hl := lv_entry ([.ref h0]) (n := 3) (Nat.le_of_ble_eq_true rfl)
  rw [lg_entry_eq]
  generalize (lg_sl ([.ref h0]) ++ List.replicate (3 - (lg_sl ([.ref h0])).length) Slot.unset).toArray = ls at hl ⊢
  have hl : lv_has ls 3 [(0, .ref h0)] := hl
  have k0 : (0 : Int32).toInt = 0 := by decide
  refine w_gen (A := A) hP (fun H locs hP hS => ?_)
  have k1 : (1 : Int32).toInt = 1 := by decide
  have k11 : (11 : Int32).toInt = 11 := by decide
  have k32 : (32 : Int32).toInt = 32 := by decide
  have k64 : (64 : Int32).toInt = 64 := by decide
  have k65 : (65 : Int32).toInt = 65 := by decide
  have k66 : (66 : Int32).toInt = 66 := by decide
  have k126 : (126 : Int32).toInt = 126 := by decide
  have k127 : (127 : Int32).toInt = 127 := by decide
  have th0_sound := b01 b_h0_sound
  have zat := i32_clamp (x := h0_at) (by (first | (apply Int.le_antisymm <;> omega) | omega))
  have zlm := i32_clamp (x := h0_limit) (by (first | (apply Int.le_antisymm <;> omega) | omega))
  refine lv_aload_n hx hb d_RE_readGlobals_0 rfl (lv_at hl 0 rfl) ?_
  refine va_get (D := (dC, dI)) (ci := 7) (v := .ref aw) (C := R_RE) (T := F_RE) (N := 8) hx hb hts i_RE hown hK hP 0 rfl rfl 0 (by decide) (hts _ kF_RE_15) (fun _ h9 => h9) rfl d_RE_readGlobals_1 ?_
  refine lv_aload_n hx hb d_RE_readGlobals_4 rfl (lv_at hl 0 rfl) ?_
  refine lv_ldc2 hx hb hown (hts _ kL_RE_96) d_RE_readGlobals_5 ?_
  refine lv_topl (fun x1 ex1 => ?_)
  have tx1 : x1.toInt = 20 := by rw [ex1]; decide
  have hPc := hP.sb (wq := (wz_46 h0 aw ac h0_at h0_limit h0_sound h0_codeCount ob h0_openCount aw ab ac aw_typeCount wat wap wag aw_functionCount waf aw_hasMemory aw_pagesLeast aw_pagesMost aw_globalCount wgt wft wfv wgc aw_exportCount wek wei wes wez ab ax ab_length ax cax gax)) [0, 1, 2, 3] rfl
  have hDc := hD.sb (wq := (wz_46 h0 aw ac h0_at h0_limit h0_sound h0_codeCount ob h0_openCount aw ab ac aw_typeCount wat wap wag aw_functionCount waf aw_hasMemory aw_pagesLeast aw_pagesMost aw_globalCount wgt wft wfv wgc aw_exportCount wek wei wes wez ab ax ab_length ax cax gax)) [0, 1, 2, 3] (by decide) rfl
  have hKc := hK.sb (tyq := [(cax, .byte)]) [0] rfl
  have hFc := va_free (wc := (wz_46 h0 aw ac h0_at h0_limit h0_sound h0_codeCount ob h0_openCount aw ab ac aw_typeCount wat wap wag aw_functionCount waf aw_hasMemory aw_pagesLeast aw_pagesMost aw_globalCount wgt wft wfv wgc aw_exportCount wek wei wes wez ab ax ab_length ax cax gax)) hD hS hA [0, 1, 2, 3] rfl
  refine va_calll (va_runV (As := [.long x1]) (rest := [.ref aw]) ⟨hx, hb, hml, hown, hts⟩ (c_RE_readUnsignedy l dC dI H.size h0 aw ac ob ab wat wap wag waf wgt wft wfv wgc wek wei wes wez ax cax h0_at h0_limit h0_sound h0_codeCount h0_openCount aw_typeCount aw_functionCount aw_hasMemory aw_pagesLeast aw_pagesMost aw_globalCount aw_exportCount ab_length gax (b_h0_sound) x1 (by (try dsimp only) <;> (first | (apply Int.le_antisymm <;> omega) | omega)) (by (first | (apply Int.le_antisymm <;> omega) | omega))) (cwV 1 hts (gV kM_RE_64 kV_RE_readUnsigned kS_RE_readUnsigned kI_RE kC_RE_readUnsigned) rfl rfl rfl (by decide +kernel) ⟨Nat.le_of_ble_eq_true rfl, Nat.le_of_ble_eq_true rfl⟩) ⟨fun a U g mk z => by obtain ⟨z0, z1, zP, zK, zD⟩ := z; exact ⟨z0, z1, zP, va_K.moved (u := U) (U := U.calling g mk a) (Vm.Alike.refl U.vm) zK, zD⟩, va_recv hKc hPc (ci := 7) (q0 := 0) rfl rfl, fun U hU hW => ⟨rfl, by rw [hU], va_P.he hU.symm hPc, va_K.moved hW.alike hKc, hDc.weaken (fun _ _ _ _ => trivial)⟩⟩ rfl rfl hl.1 rfl (lv_room (Nat.le_of_ble_eq_true rfl)) d_RE_readGlobals_8 ⟨(Nat.zero_le _), (Nat.zero_le _)⟩) hS (fun q _ h => hFc q h) hFc (fun r2 u t H1 locs ht hvm hw hB hz1 hk1 hS => ?_)
  obtain ⟨n3, n4⟩ := u
  try dsimp only at hw
  obtain ⟨bn4, xr2⟩ := hw
  try clear hw
  have tn4 := b01 bn4
  have u8 : rz (zM gax h0_limit.toNatClampNeg 20 h0_at.toNatClampNeg) h0_sound n4 n3 r2.toInt := by have z9 := xr2.2; rw [show x1.toInt.toNat = 20 from by (first | (apply Int.le_antisymm <;> omega) | omega)] at z9; exact z9
  obtain ⟨hP1, hK1, hD1⟩ := hB
  replace hP1 := va_P.he ht hP1
  obtain ⟨hP, hD⟩ := va_join (wr := (wz_56 wgt cwgt gwgt wft cwft gwft wfv cwfv gwfv wgc cwgc gwgc)) (w1 := (wz_46 h0 aw ac n3 h0_limit n4 h0_codeCount ob h0_openCount aw ab ac aw_typeCount wat wap wag aw_functionCount waf aw_hasMemory aw_pagesLeast aw_pagesMost aw_globalCount wgt wft wfv wgc aw_exportCount wek wei wes wez ab ax ab_length ax cax gax)) hP hD [0, 1, 2, 3] [4, 5, 6, 7] rfl rfl (by decide) (by decide) hk1 hFc hP1 hD1
  clear hPc hDc hKc hFc hz1 hk1 hP1 hK1 hD1
  rename Heap => H
  have hP : va_P (dC, dI) cls (wz_57 wgt cwgt gwgt wft cwft gwft wfv cwfv gwfv wgc cwgc gwgc h0 aw ac n3 h0_limit n4 h0_codeCount ob h0_openCount aw ab ac aw_typeCount wat wap wag aw_functionCount waf aw_hasMemory aw_pagesLeast aw_pagesMost aw_globalCount wgt wft wfv wgc aw_exportCount wek wei wes wez ab ax ab_length ax cax gax) H := hP
  have hD : va_D A (wz_57 wgt cwgt gwgt wft cwft gwft wfv cwfv gwfv wgc cwgc gwgc h0 aw ac n3 h0_limit n4 h0_codeCount ob h0_openCount aw ab ac aw_typeCount wat wap wag aw_functionCount waf aw_hasMemory aw_pagesLeast aw_pagesMost aw_globalCount wgt wft wfv wgc aw_exportCount wek wei wes wez ab ax ab_length ax cax gax) := hD
  refine lv_l2i hx hb d_RE_readGlobals_11 rfl ?_
  refine lv_topi (fun x5 ex5 => ?_)
  have tx5 := l2i_t ex5 (by (first | (apply Int.le_antisymm <;> omega) | omega)) (by (first | (apply Int.le_antisymm <;> omega) | omega))
  refine va_put (D := (dC, dI)) (ci := 10) (v := .int x5) (ty := .int) (C := R_WA) (T := F_WA) (N := 21) hx hb hts i_WA t_WA t_WA_ok n_WA hown hK hP hD hS 5 rfl rfl 11 (by decide) (hts _ kF_RE_132) (fun _ h9 => h9) rfl (by decide +kernel) rfl rfl (Nat.le_of_ble_eq_true rfl) d_RE_readGlobals_12 (fun H locs hP hD hS => ?_)
  refine lv_iconst (v := 0) hx hb d_RE_readGlobals_15 (by decide) ?_
  refine lv_istore_n (lv' := [(1, .int 0), (0, .ref h0)]) hx hb d_RE_readGlobals_16 rfl hl (by decide) rfl (fun ls hl => ?_)
  refine w_loop (σ := Int32 × (Nat → Int32) × (Nat → Int64) × (Nat → Int32) × (Nat → Int32) × Int32 × Int32) (fun u H locs ls => match u with | (j17_l1, j17_wft, j17_wfv, j17_wgc, j17_wgt, j17_h0_at, j17_h0_sound) => (0 ≤ j17_l1.toInt ∧ j17_l1.toInt ≤ 20) ∧ (j17_h0_sound = 0 ∨ j17_h0_sound = 1) ∧ (glO gax h0_limit.toNatClampNeg h0_at.toNatClampNeg j17_h0_sound j17_h0_at x5.toInt j17_l1.toInt j17_wgt j17_wft j17_wgc) ∧ ((h0_at.toInt ≤ j17_h0_at.toInt ∧ j17_h0_at.toInt ≤ h0_limit.toInt)) ∧ (j17_l1.toInt ≤ x5.toInt) ∧ va_P (dC, dI) cls (wz_57 wgt cwgt j17_wgt wft cwft j17_wft wfv cwfv j17_wfv wgc cwgc j17_wgc h0 aw ac j17_h0_at h0_limit j17_h0_sound h0_codeCount ob h0_openCount aw ab ac aw_typeCount wat wap wag aw_functionCount waf aw_hasMemory aw_pagesLeast aw_pagesMost x5 wgt wft wfv wgc aw_exportCount wek wei wes wez ab ax ab_length ax cax gax) H ∧ va_D A (wz_57 wgt cwgt j17_wgt wft cwft j17_wft wfv cwfv j17_wfv wgc cwgc j17_wgc h0 aw ac j17_h0_at h0_limit j17_h0_sound h0_codeCount ob h0_openCount aw ab ac aw_typeCount wat wap wag aw_functionCount waf aw_hasMemory aw_pagesLeast aw_pagesMost x5 wgt wft wfv wgc aw_exportCount wek wei wes wez ab ax ab_length ax cax gax) ∧ va_S A s.heap H locs ∧ lv_has ls 3 [(0, .ref h0), (1, .int j17_l1)]) (fun u => match u with | (j17_l1, j17_wft, j17_wfv, j17_wgc, j17_wgt, j17_h0_at, j17_h0_sound) => (x5.toInt - j17_l1.toInt).toNat) ?_ (0, gwft, gwfv, gwgc, gwgt, n3, n4) ⟨by (try dsimp only) <;> (first | (apply Int.le_antisymm <;> omega) | omega), bn4, (glO_0 (by have z9 := u8; rw [show r2.toInt = x5.toInt from by (first | (apply Int.le_antisymm <;> omega) | omega)] at z9; exact z9) hs (by decide)), by (try dsimp only) <;> (first | (apply Int.le_antisymm <;> omega) | omega), by (try dsimp only) <;> (first | (apply Int.le_antisymm <;> omega) | omega), hP, hD, hS, lv_sub hl [1, 0] rfl⟩
  intro N17 ih17 u H locs ls hN17 hI
  obtain ⟨j17_l1, j17_wft, j17_wfv, j17_wgc, j17_wgt, j17_h0_at, j17_h0_sound⟩ := u
  obtain ⟨b_j17_l1, b_j17_h0_sound, v1, v2, v3, hP, hD, hS, hl⟩ := hI
  have tj17_h0_sound := b01 b_j17_h0_sound
  have hN17 : (x5.toInt - j17_l1.toInt).toNat < N17 + 1 := hN17
  refine lv_iload_n hx hb d_RE_readGlobals_17 rfl (lv_at hl 1 rfl) ?_
  refine lv_aload_n hx hb d_RE_readGlobals_18 rfl (lv_at hl 0 rfl) ?_
  refine va_get (D := (dC, dI)) (ci := 7) (v := .ref aw) (C := R_RE) (T := F_RE) (N := 8) hx hb hts i_RE hown hK hP 4 rfl rfl 0 (by decide) (hts _ kF_RE_15) (fun _ h9 => h9) rfl d_RE_readGlobals_19 ?_
  refine va_get (D := (dC, dI)) (ci := 10) (v := .int x5) (C := R_WA) (T := F_WA) (N := 21) hx hb hts i_WA hown hK hP 5 rfl rfl 11 (by decide) (hts _ kF_RE_132) (fun _ h9 => h9) rfl d_RE_readGlobals_22 ?_
  refine lv_icmp_ge (tgt := 163) hx hb d_RE_readGlobals_25 (by decide) (fun c25 => ?_) (fun c25 => ?_)
  · have q25 := leI c25
    have hP9 := hP.sb (wq := (wz_55 h0 aw ac j17_h0_at h0_limit j17_h0_sound h0_codeCount ob h0_openCount aw ab ac aw_typeCount wat wap wag aw_functionCount waf aw_hasMemory aw_pagesLeast aw_pagesMost x5 wgt wft wfv wgc aw_exportCount wek wei wes wez ab ax ab_length ax cax gax wgt cwgt j17_wgt wft cwft j17_wft wfv cwfv j17_wfv wgc cwgc j17_wgc)) [4, 5, 6, 7, 0, 1, 2, 3] rfl
    have hD9 := hD.sb (wq := (wz_55 h0 aw ac j17_h0_at h0_limit j17_h0_sound h0_codeCount ob h0_openCount aw ab ac aw_typeCount wat wap wag aw_functionCount waf aw_hasMemory aw_pagesLeast aw_pagesMost x5 wgt wft wfv wgc aw_exportCount wek wei wes wez ab ax ab_length ax cax gax wgt cwgt j17_wgt wft cwft j17_wft wfv cwfv j17_wfv wgc cwgc j17_wgc)) [4, 5, 6, 7, 0, 1, 2, 3] (by decide) rfl
    exact W.vret hx hb hr (fun t ht hW => ⟨⟨(j17_wft, j17_wfv, j17_wgc, j17_wgt, x5, j17_h0_at, j17_h0_sound), rfl, ⟨by (try dsimp only) <;> (first | (apply Int.le_antisymm <;> omega) | omega), b_j17_h0_sound, ⟨⟨by (try dsimp only) <;> (first | (apply Int.le_antisymm <;> omega) | omega), by (try dsimp only) <;> (first | (apply Int.le_antisymm <;> omega) | omega)⟩, (by rcases v1 with ⟨z1, T, z2, z3, z4⟩ | ⟨z1, z2⟩; (rw [show (x5.toInt - j17_l1.toInt).toNat = 0 from by (first | (apply Int.le_antisymm <;> omega) | omega), zA] at z3; exact Or.inl ⟨z1, T, z3, by (first | (apply Int.le_antisymm <;> omega) | omega), z4⟩); (exact Or.inr ⟨z1, z2⟩))⟩⟩, va_P.he ht.symm hP9, va_K.moved hW.alike hK, hD9⟩, hS.F ht⟩) hS.2.2 d_RE_readGlobals_163
  · have q25 := nleI c25
    refine lv_aload_n hx hb d_RE_readGlobals_28 rfl (lv_at hl 0 rfl) ?_
    refine va_get (D := (dC, dI)) (ci := 7) (v := .int j17_h0_sound) (C := R_RE) (T := F_RE) (N := 8) hx hb hts i_RE hown hK hP 4 rfl rfl 4 (by decide) (hts _ kF_RE_45) (fun _ h9 => h9) rfl d_RE_readGlobals_29 ?_
    refine lv_if_eq (tgt := 163) hx hb d_RE_readGlobals_32 (by decide) (fun c32 => ?_) (fun c32 => ?_)
    · have q32 := eqI c32
      have hP9 := hP.sb (wq := (wz_55 h0 aw ac j17_h0_at h0_limit j17_h0_sound h0_codeCount ob h0_openCount aw ab ac aw_typeCount wat wap wag aw_functionCount waf aw_hasMemory aw_pagesLeast aw_pagesMost x5 wgt wft wfv wgc aw_exportCount wek wei wes wez ab ax ab_length ax cax gax wgt cwgt j17_wgt wft cwft j17_wft wfv cwfv j17_wfv wgc cwgc j17_wgc)) [4, 5, 6, 7, 0, 1, 2, 3] rfl
      have hD9 := hD.sb (wq := (wz_55 h0 aw ac j17_h0_at h0_limit j17_h0_sound h0_codeCount ob h0_openCount aw ab ac aw_typeCount wat wap wag aw_functionCount waf aw_hasMemory aw_pagesLeast aw_pagesMost x5 wgt wft wfv wgc aw_exportCount wek wei wes wez ab ax ab_length ax cax gax wgt cwgt j17_wgt wft cwft j17_wft wfv cwfv j17_wfv wgc cwgc j17_wgc)) [4, 5, 6, 7, 0, 1, 2, 3] (by decide) rfl
      exact W.vret hx hb hr (fun t ht hW => ⟨⟨(j17_wft, j17_wfv, j17_wgc, j17_wgt, x5, j17_h0_at, j17_h0_sound), rfl, ⟨by (try dsimp only) <;> (first | (apply Int.le_antisymm <;> omega) | omega), b_j17_h0_sound, ⟨⟨by (try dsimp only) <;> (first | (apply Int.le_antisymm <;> omega) | omega), by (try dsimp only) <;> (first | (apply Int.le_antisymm <;> omega) | omega)⟩, (by rcases v1 with ⟨z1, T, z2, z3, z4⟩ | ⟨z1, z2⟩; (rw [show (x5.toInt - j17_l1.toInt).toNat = 0 from by (first | (apply Int.le_antisymm <;> omega) | omega), zA] at z3; exact Or.inl ⟨z1, T, z3, by (first | (apply Int.le_antisymm <;> omega) | omega), z4⟩); (exact Or.inr ⟨z1, z2⟩))⟩⟩, va_P.he ht.symm hP9, va_K.moved hW.alike hK, hD9⟩, hS.F ht⟩) hS.2.2 d_RE_readGlobals_163
    · have q32 := neI c32
      refine lv_aload_n hx hb d_RE_readGlobals_35 rfl (lv_at hl 0 rfl) ?_
      refine va_get (D := (dC, dI)) (ci := 7) (v := .ref aw) (C := R_RE) (T := F_RE) (N := 8) hx hb hts i_RE hown hK hP 4 rfl rfl 0 (by decide) (hts _ kF_RE_15) (fun _ h9 => h9) rfl d_RE_readGlobals_36 ?_
      refine va_get (D := (dC, dI)) (ci := 10) (v := .ref wgt) (C := R_WA) (T := F_WA) (N := 21) hx hb hts i_WA hown hK hP 5 rfl rfl 12 (by decide) (hts _ kF_RE_135) (fun _ h9 => h9) rfl d_RE_readGlobals_39 ?_
      refine lv_iload_n hx hb d_RE_readGlobals_42 rfl (lv_at hl 1 rfl) ?_
      refine lv_aload_n hx hb d_RE_readGlobals_43 rfl (lv_at hl 0 rfl) ?_
      have hPc := hP.sb (wq := (wz_46 h0 aw ac j17_h0_at h0_limit j17_h0_sound h0_codeCount ob h0_openCount aw ab ac aw_typeCount wat wap wag aw_functionCount waf aw_hasMemory aw_pagesLeast aw_pagesMost x5 wgt wft wfv wgc aw_exportCount wek wei wes wez ab ax ab_length ax cax gax)) [4, 5, 6, 7] rfl
      have hDc := hD.sb (wq := (wz_46 h0 aw ac j17_h0_at h0_limit j17_h0_sound h0_codeCount ob h0_openCount aw ab ac aw_typeCount wat wap wag aw_functionCount waf aw_hasMemory aw_pagesLeast aw_pagesMost x5 wgt wft wfv wgc aw_exportCount wek wei wes wez ab ax ab_length ax cax gax)) [4, 5, 6, 7] (by decide) rfl
      have hKc := hK.sb (tyq := [(cax, .byte)]) [0] rfl
      have hFc := va_free (wc := (wz_46 h0 aw ac j17_h0_at h0_limit j17_h0_sound h0_codeCount ob h0_openCount aw ab ac aw_typeCount wat wap wag aw_functionCount waf aw_hasMemory aw_pagesLeast aw_pagesMost x5 wgt wft wfv wgc aw_exportCount wek wei wes wez ab ax ab_length ax cax gax)) hD hS hA [4, 5, 6, 7] rfl
      refine va_calli (va_runV (As := []) (rest := [.int j17_l1, .ref wgt]) ⟨hx, hb, hml, hown, hts⟩ (c_RE_readTypey l dC dI H.size h0 aw ac ob ab wat wap wag waf wgt wft wfv wgc wek wei wes wez ax cax j17_h0_at h0_limit j17_h0_sound h0_codeCount h0_openCount aw_typeCount aw_functionCount aw_hasMemory aw_pagesLeast aw_pagesMost x5 aw_exportCount ab_length gax (b_j17_h0_sound) (by (try dsimp only) <;> (first | (apply Int.le_antisymm <;> omega) | omega))) (cwV 0 hts (gV kM_RE_109 kV_RE_readType kS_RE_readType kI_RE kC_RE_readType) rfl rfl rfl (by decide +kernel) ⟨Nat.le_of_ble_eq_true rfl, Nat.le_of_ble_eq_true rfl⟩) ⟨fun a U g mk z => by obtain ⟨z0, z1, zP, zK, zD⟩ := z; exact ⟨z0, z1, zP, va_K.moved (u := U) (U := U.calling g mk a) (Vm.Alike.refl U.vm) zK, zD⟩, va_recv hKc hPc (ci := 7) (q0 := 0) rfl rfl, fun U hU hW => ⟨rfl, by rw [hU], va_P.he hU.symm hPc, va_K.moved hW.alike hKc, hDc.weaken (fun _ _ _ _ => trivial)⟩⟩ rfl rfl hl.1 rfl (lv_room (Nat.le_of_ble_eq_true rfl)) d_RE_readGlobals_44 ⟨(Nat.zero_le _), (Nat.zero_le _)⟩) hS (fun q _ h => hFc q h) hFc (fun r6 u t H1 locs ht hvm hw hB hz1 hk1 hS => ?_)
      obtain ⟨n7, n8⟩ := u
      try dsimp only at hw
      obtain ⟨br6, bn8, xr6⟩ := hw
      try clear hw
      have tn8 := b01 bn8
      obtain ⟨hP1, hK1, hD1⟩ := hB
      replace hP1 := va_P.he ht hP1
      obtain ⟨hP, hD⟩ := va_join (wr := (wz_56 wgt cwgt j17_wgt wft cwft j17_wft wfv cwfv j17_wfv wgc cwgc j17_wgc)) (w1 := (wz_46 h0 aw ac n7 h0_limit n8 h0_codeCount ob h0_openCount aw ab ac aw_typeCount wat wap wag aw_functionCount waf aw_hasMemory aw_pagesLeast aw_pagesMost x5 wgt wft wfv wgc aw_exportCount wek wei wes wez ab ax ab_length ax cax gax)) hP hD [4, 5, 6, 7] [0, 1, 2, 3] rfl rfl (by decide) (by decide) hk1 hFc hP1 hD1
      clear hPc hDc hKc hFc hz1 hk1 hP1 hK1 hD1
      rename Heap => H
      have hP : va_P (dC, dI) cls (wz_57 wgt cwgt j17_wgt wft cwft j17_wft wfv cwfv j17_wfv wgc cwgc j17_wgc h0 aw ac n7 h0_limit n8 h0_codeCount ob h0_openCount aw ab ac aw_typeCount wat wap wag aw_functionCount waf aw_hasMemory aw_pagesLeast aw_pagesMost x5 wgt wft wfv wgc aw_exportCount wek wei wes wez ab ax ab_length ax cax gax) H := hP
      have hD : va_D A (wz_57 wgt cwgt j17_wgt wft cwft j17_wft wfv cwfv j17_wfv wgc cwgc j17_wgc h0 aw ac n7 h0_limit n8 h0_codeCount ob h0_openCount aw ab ac aw_typeCount wat wap wag aw_functionCount waf aw_hasMemory aw_pagesLeast aw_pagesMost x5 wgt wft wfv wgc aw_exportCount wek wei wes wez ab ax ab_length ax cax gax) := hD
      have g47 : vp_in j17_l1 20 := vp_in_iff.mpr ⟨by (first | (apply Int.le_antisymm <;> omega) | omega), by (first | (apply Int.le_antisymm <;> omega) | omega)⟩
      refine va_iast hx hb hK hP hD hS 0 1 rfl rfl g47 d_RE_readGlobals_47 (fun H locs hP hD hS => ?_)
      generalize ef9 : upd j17_wgt j17_l1.toNatClampNeg r6 = f9 at hP hD
      refine lv_aload_n hx hb d_RE_readGlobals_48 rfl (lv_at hl 0 rfl) ?_
      refine va_get (D := (dC, dI)) (ci := 7) (v := .ref aw) (C := R_RE) (T := F_RE) (N := 8) hx hb hts i_RE hown hK hP 4 rfl rfl 0 (by decide) (hts _ kF_RE_15) (fun _ h9 => h9) rfl d_RE_readGlobals_49 ?_
      refine va_get (D := (dC, dI)) (ci := 10) (v := .ref wgc) (C := R_WA) (T := F_WA) (N := 21) hx hb hts i_WA hown hK hP 5 rfl rfl 15 (by decide) (hts _ kF_RE_138) (fun _ h9 => h9) rfl d_RE_readGlobals_52 ?_
      refine lv_iload_n hx hb d_RE_readGlobals_55 rfl (lv_at hl 1 rfl) ?_
      refine lv_aload_n hx hb d_RE_readGlobals_56 rfl (lv_at hl 0 rfl) ?_
      have hPc := hP.sb (wq := (wz_46 h0 aw ac n7 h0_limit n8 h0_codeCount ob h0_openCount aw ab ac aw_typeCount wat wap wag aw_functionCount waf aw_hasMemory aw_pagesLeast aw_pagesMost x5 wgt wft wfv wgc aw_exportCount wek wei wes wez ab ax ab_length ax cax gax)) [4, 5, 6, 7] rfl
      have hDc := hD.sb (wq := (wz_46 h0 aw ac n7 h0_limit n8 h0_codeCount ob h0_openCount aw ab ac aw_typeCount wat wap wag aw_functionCount waf aw_hasMemory aw_pagesLeast aw_pagesMost x5 wgt wft wfv wgc aw_exportCount wek wei wes wez ab ax ab_length ax cax gax)) [4, 5, 6, 7] (by decide) rfl
      have hKc := hK.sb (tyq := [(cax, .byte)]) [0] rfl
      have hFc := va_free (wc := (wz_46 h0 aw ac n7 h0_limit n8 h0_codeCount ob h0_openCount aw ab ac aw_typeCount wat wap wag aw_functionCount waf aw_hasMemory aw_pagesLeast aw_pagesMost x5 wgt wft wfv wgc aw_exportCount wek wei wes wez ab ax ab_length ax cax gax)) hD hS hA [4, 5, 6, 7] rfl
      refine va_calli (va_runV (As := []) (rest := [.int j17_l1, .ref wgc]) ⟨hx, hb, hml, hown, hts⟩ (c_RE_readFlagy l dC dI H.size h0 aw ac ob ab wat wap wag waf wgt wft wfv wgc wek wei wes wez ax cax n7 h0_limit n8 h0_codeCount h0_openCount aw_typeCount aw_functionCount aw_hasMemory aw_pagesLeast aw_pagesMost x5 aw_exportCount ab_length gax (bn8) (by (try dsimp only) <;> (first | (apply Int.le_antisymm <;> omega) | omega))) (cwV 0 hts (gV kM_RE_118 kV_RE_readFlag kS_RE_readFlag kI_RE kC_RE_readFlag) rfl rfl rfl (by decide +kernel) ⟨Nat.le_of_ble_eq_true rfl, Nat.le_of_ble_eq_true rfl⟩) ⟨fun a U g mk z => by obtain ⟨z0, z1, zP, zK, zD⟩ := z; exact ⟨z0, z1, zP, va_K.moved (u := U) (U := U.calling g mk a) (Vm.Alike.refl U.vm) zK, zD⟩, va_recv hKc hPc (ci := 7) (q0 := 0) rfl rfl, fun U hU hW => ⟨rfl, by rw [hU], va_P.he hU.symm hPc, va_K.moved hW.alike hKc, hDc.weaken (fun _ _ _ _ => trivial)⟩⟩ rfl rfl hl.1 rfl (lv_room (Nat.le_of_ble_eq_true rfl)) d_RE_readGlobals_57 ⟨(Nat.zero_le _), (Nat.zero_le _)⟩) hS (fun q _ h => hFc q h) hFc (fun r10 u t H1 locs ht hvm hw hB hz1 hk1 hS => ?_)
      obtain ⟨n11, n12⟩ := u
      try dsimp only at hw
      obtain ⟨br10, bn12, xr10⟩ := hw
      try clear hw
      have tn12 := b01 bn12
      obtain ⟨hP1, hK1, hD1⟩ := hB
      replace hP1 := va_P.he ht hP1
      obtain ⟨hP, hD⟩ := va_join (wr := (wz_56 wgt cwgt f9 wft cwft j17_wft wfv cwfv j17_wfv wgc cwgc j17_wgc)) (w1 := (wz_46 h0 aw ac n11 h0_limit n12 h0_codeCount ob h0_openCount aw ab ac aw_typeCount wat wap wag aw_functionCount waf aw_hasMemory aw_pagesLeast aw_pagesMost x5 wgt wft wfv wgc aw_exportCount wek wei wes wez ab ax ab_length ax cax gax)) hP hD [4, 5, 6, 7] [0, 1, 2, 3] rfl rfl (by decide) (by decide) hk1 hFc hP1 hD1
      clear hPc hDc hKc hFc hz1 hk1 hP1 hK1 hD1
      rename Heap => H
      have hP : va_P (dC, dI) cls (wz_57 wgt cwgt f9 wft cwft j17_wft wfv cwfv j17_wfv wgc cwgc j17_wgc h0 aw ac n11 h0_limit n12 h0_codeCount ob h0_openCount aw ab ac aw_typeCount wat wap wag aw_functionCount waf aw_hasMemory aw_pagesLeast aw_pagesMost x5 wgt wft wfv wgc aw_exportCount wek wei wes wez ab ax ab_length ax cax gax) H := hP
      have hD : va_D A (wz_57 wgt cwgt f9 wft cwft j17_wft wfv cwfv j17_wfv wgc cwgc j17_wgc h0 aw ac n11 h0_limit n12 h0_codeCount ob h0_openCount aw ab ac aw_typeCount wat wap wag aw_functionCount waf aw_hasMemory aw_pagesLeast aw_pagesMost x5 wgt wft wfv wgc aw_exportCount wek wei wes wez ab ax ab_length ax cax gax) := hD
      refine lv_iconst (v := 1) hx hb d_RE_readGlobals_60 (by decide) ?_
      refine w_cut (pc2 := 69) (σ := Int32) (fun u H locs ls => match u with | j69_s0 => (j69_s0 = 0 ∨ j69_s0 = 1) ∧ ((j69_s0.toInt = 1 ∧ r10.toInt = 1) ∨ (j69_s0.toInt = 0 ∧ r10.toInt ≠ 1)) ∧ va_P (dC, dI) cls (wz_57 wgt cwgt f9 wft cwft j17_wft wfv cwfv j17_wfv wgc cwgc j17_wgc h0 aw ac n11 h0_limit n12 h0_codeCount ob h0_openCount aw ab ac aw_typeCount wat wap wag aw_functionCount waf aw_hasMemory aw_pagesLeast aw_pagesMost x5 wgt wft wfv wgc aw_exportCount wek wei wes wez ab ax ab_length ax cax gax) H ∧ va_D A (wz_57 wgt cwgt f9 wft cwft j17_wft wfv cwfv j17_wfv wgc cwgc j17_wgc h0 aw ac n11 h0_limit n12 h0_codeCount ob h0_openCount aw ab ac aw_typeCount wat wap wag aw_functionCount waf aw_hasMemory aw_pagesLeast aw_pagesMost x5 wgt wft wfv wgc aw_exportCount wek wei wes wez ab ax ab_length ax cax gax) ∧ va_S A s.heap H locs ∧ lv_has ls 3 [(0, .ref h0), (1, .int j17_l1)]) (fun u => match u with | j69_s0 => [.int j69_s0, .int j17_l1, .ref wgc]) ?_ (fun jn69 => ?_)
      · intro u H locs ls hI
        obtain ⟨j69_s0, rfl⟩ : ∃ z, z = u := ⟨_, rfl⟩
        obtain ⟨b_j69_s0, y69, hP, hD, hS, hl⟩ := hI
        have tj69_s0 := b01 b_j69_s0
        have g69 : vp_in j17_l1 20 := vp_in_iff.mpr ⟨by (first | (apply Int.le_antisymm <;> omega) | omega), by (first | (apply Int.le_antisymm <;> omega) | omega)⟩
        refine va_zast hx hb hK hP hD hS 3 4 rfl rfl g69 d_RE_readGlobals_69 (fun H locs hP hD hS => ?_)
        generalize ef13 : upd j17_wgc j17_l1.toNatClampNeg (vp_nar .boolean j69_s0) = f13 at hP hD
        refine lv_aload_n hx hb d_RE_readGlobals_70 rfl (lv_at hl 0 rfl) ?_
        have hPc := hP.sb (wq := (wz_46 h0 aw ac n11 h0_limit n12 h0_codeCount ob h0_openCount aw ab ac aw_typeCount wat wap wag aw_functionCount waf aw_hasMemory aw_pagesLeast aw_pagesMost x5 wgt wft wfv wgc aw_exportCount wek wei wes wez ab ax ab_length ax cax gax)) [4, 5, 6, 7] rfl
        have hDc := hD.sb (wq := (wz_46 h0 aw ac n11 h0_limit n12 h0_codeCount ob h0_openCount aw ab ac aw_typeCount wat wap wag aw_functionCount waf aw_hasMemory aw_pagesLeast aw_pagesMost x5 wgt wft wfv wgc aw_exportCount wek wei wes wez ab ax ab_length ax cax gax)) [4, 5, 6, 7] (by decide) rfl
        have hKc := hK.sb (tyq := [(cax, .byte)]) [0] rfl
        have hFc := va_free (wc := (wz_46 h0 aw ac n11 h0_limit n12 h0_codeCount ob h0_openCount aw ab ac aw_typeCount wat wap wag aw_functionCount waf aw_hasMemory aw_pagesLeast aw_pagesMost x5 wgt wft wfv wgc aw_exportCount wek wei wes wez ab ax ab_length ax cax gax)) hD hS hA [4, 5, 6, 7] rfl
        refine va_calli (va_runV (As := []) (rest := []) ⟨hx, hb, hml, hown, hts⟩ (c_RE_nexty l dC dI H.size h0 aw ac ob ab wat wap wag waf wgt wft wfv wgc wek wei wes wez ax cax n11 h0_limit n12 h0_codeCount h0_openCount aw_typeCount aw_functionCount aw_hasMemory aw_pagesLeast aw_pagesMost x5 aw_exportCount ab_length gax (bn12) (by (try dsimp only) <;> (first | (apply Int.le_antisymm <;> omega) | omega))) (cwV 0 hts (gV kM_RE_60 kV_RE_next kS_RE_next kI_RE kC_RE_next) rfl rfl rfl (by decide +kernel) ⟨Nat.le_of_ble_eq_true rfl, Nat.le_of_ble_eq_true rfl⟩) ⟨fun a U g mk z => by obtain ⟨z0, z1, zP, zK, zD⟩ := z; exact ⟨z0, z1, zP, va_K.moved (u := U) (U := U.calling g mk a) (Vm.Alike.refl U.vm) zK, zD⟩, va_recv hKc hPc (ci := 7) (q0 := 0) rfl rfl, fun U hU hW => ⟨rfl, by rw [hU], va_P.he hU.symm hPc, va_K.moved hW.alike hKc, hDc.weaken (fun _ _ _ _ => trivial)⟩⟩ rfl rfl hl.1 rfl (lv_room (Nat.le_of_ble_eq_true rfl)) d_RE_readGlobals_71 ⟨(Nat.zero_le _), (Nat.zero_le _)⟩) hS (fun q _ h => hFc q h) hFc (fun r14 u t H1 locs ht hvm hw hB hz1 hk1 hS => ?_)
        obtain ⟨n15, n16⟩ := u
        try dsimp only at hw
        obtain ⟨br14, bn16, xr14⟩ := hw
        try clear hw
        have tn16 := b01 bn16
        obtain ⟨hP1, hK1, hD1⟩ := hB
        replace hP1 := va_P.he ht hP1
        obtain ⟨hP, hD⟩ := va_join (wr := (wz_56 wgt cwgt f9 wft cwft j17_wft wfv cwfv j17_wfv wgc cwgc f13)) (w1 := (wz_46 h0 aw ac n15 h0_limit n16 h0_codeCount ob h0_openCount aw ab ac aw_typeCount wat wap wag aw_functionCount waf aw_hasMemory aw_pagesLeast aw_pagesMost x5 wgt wft wfv wgc aw_exportCount wek wei wes wez ab ax ab_length ax cax gax)) hP hD [4, 5, 6, 7] [0, 1, 2, 3] rfl rfl (by decide) (by decide) hk1 hFc hP1 hD1
        clear hPc hDc hKc hFc hz1 hk1 hP1 hK1 hD1
        rename Heap => H
        have hP : va_P (dC, dI) cls (wz_57 wgt cwgt f9 wft cwft j17_wft wfv cwfv j17_wfv wgc cwgc f13 h0 aw ac n15 h0_limit n16 h0_codeCount ob h0_openCount aw ab ac aw_typeCount wat wap wag aw_functionCount waf aw_hasMemory aw_pagesLeast aw_pagesMost x5 wgt wft wfv wgc aw_exportCount wek wei wes wez ab ax ab_length ax cax gax) H := hP
        have hD : va_D A (wz_57 wgt cwgt f9 wft cwft j17_wft wfv cwfv j17_wfv wgc cwgc f13 h0 aw ac n15 h0_limit n16 h0_codeCount ob h0_openCount aw ab ac aw_typeCount wat wap wag aw_functionCount waf aw_hasMemory aw_pagesLeast aw_pagesMost x5 wgt wft wfv wgc aw_exportCount wek wei wes wez ab ax ab_length ax cax gax) := hD
        refine lv_istore_n (lv' := [(2, .int r14), (0, .ref h0), (1, .int j17_l1)]) hx hb d_RE_readGlobals_74 rfl hl (by decide) rfl (fun ls hl => ?_)
        refine lv_aload_n hx hb d_RE_readGlobals_75 rfl (lv_at hl 1 rfl) ?_
        refine lv_aload_n hx hb d_RE_readGlobals_76 rfl (lv_at hl 1 rfl) ?_
        refine va_get (D := (dC, dI)) (ci := 7) (v := .int n16) (C := R_RE) (T := F_RE) (N := 8) hx hb hts i_RE hown hK hP 4 rfl rfl 4 (by decide) (hts _ kF_RE_45) (fun _ h9 => h9) rfl d_RE_readGlobals_77 ?_
        refine w_cut (pc2 := 100) (σ := Int32) (fun u H locs ls => match u with | j100_s0 => (j100_s0 = 0 ∨ j100_s0 = 1) ∧ ((j100_s0.toInt = 1 ∧ n16.toInt = 1 ∧ (r14.toInt = 65 ∨ r14.toInt = 66)) ∨ (j100_s0.toInt = 0 ∧ ¬ (n16.toInt = 1 ∧ (r14.toInt = 65 ∨ r14.toInt = 66)))) ∧ va_P (dC, dI) cls (wz_57 wgt cwgt f9 wft cwft j17_wft wfv cwfv j17_wfv wgc cwgc f13 h0 aw ac n15 h0_limit n16 h0_codeCount ob h0_openCount aw ab ac aw_typeCount wat wap wag aw_functionCount waf aw_hasMemory aw_pagesLeast aw_pagesMost x5 wgt wft wfv wgc aw_exportCount wek wei wes wez ab ax ab_length ax cax gax) H ∧ va_D A (wz_57 wgt cwgt f9 wft cwft j17_wft wfv cwfv j17_wfv wgc cwgc f13 h0 aw ac n15 h0_limit n16 h0_codeCount ob h0_openCount aw ab ac aw_typeCount wat wap wag aw_functionCount waf aw_hasMemory aw_pagesLeast aw_pagesMost x5 wgt wft wfv wgc aw_exportCount wek wei wes wez ab ax ab_length ax cax gax) ∧ va_S A s.heap H locs ∧ lv_has ls 3 [(0, .ref h0), (1, .int j17_l1), (2, .int r14)]) (fun u => match u with | j100_s0 => [.int j100_s0, .ref h0]) ?_ (fun jn100 => ?_)
        · intro u H locs ls hI
          obtain ⟨j100_s0, rfl⟩ : ∃ z, z = u := ⟨_, rfl⟩
          obtain ⟨b_j100_s0, y100, hP, hD, hS, hl⟩ := hI
          have tj100_s0 := b01 b_j100_s0
          refine va_put (D := (dC, dI)) (ci := 7) (v := .int j100_s0) (ty := .boolean) (C := R_RE) (T := F_RE) (N := 8) hx hb hts i_RE t_RE t_RE_ok n_RE hown hK hP hD hS 4 rfl rfl 4 (by decide) (hts _ kF_RE_45) (fun _ h9 => h9) rfl (by decide +kernel) (zn01 (b_j100_s0)) (fz01 (b_j100_s0)) (Nat.le_of_ble_eq_true rfl) d_RE_readGlobals_100 (fun H locs hP hD hS => ?_)
          refine lv_aload_n hx hb d_RE_readGlobals_103 rfl (lv_at hl 0 rfl) ?_
          refine va_get (D := (dC, dI)) (ci := 7) (v := .ref aw) (C := R_RE) (T := F_RE) (N := 8) hx hb hts i_RE hown hK hP 4 rfl rfl 0 (by decide) (hts _ kF_RE_15) (fun _ h9 => h9) rfl d_RE_readGlobals_104 ?_
          refine va_get (D := (dC, dI)) (ci := 10) (v := .ref wft) (C := R_WA) (T := F_WA) (N := 21) hx hb hts i_WA hown hK hP 5 rfl rfl 13 (by decide) (hts _ kF_RE_142) (fun _ h9 => h9) rfl d_RE_readGlobals_107 ?_
          refine lv_iload_n hx hb d_RE_readGlobals_110 rfl (lv_at hl 1 rfl) ?_
          refine lv_iload_n hx hb d_RE_readGlobals_111 rfl (lv_at hl 2 rfl) ?_
          refine lv_bipush (v := 65) hx hb d_RE_readGlobals_112 (by decide) ?_
          refine w_cut (pc2 := 124) (σ := Int32) (fun u H locs ls => match u with | j124_s0 => ((j124_s0.toInt = 127 ∧ r14.toInt = 65) ∨ (j124_s0.toInt = 126 ∧ r14.toInt ≠ 65)) ∧ va_P (dC, dI) cls (wz_57 wgt cwgt f9 wft cwft j17_wft wfv cwfv j17_wfv wgc cwgc f13 h0 aw ac n15 h0_limit j100_s0 h0_codeCount ob h0_openCount aw ab ac aw_typeCount wat wap wag aw_functionCount waf aw_hasMemory aw_pagesLeast aw_pagesMost x5 wgt wft wfv wgc aw_exportCount wek wei wes wez ab ax ab_length ax cax gax) H ∧ va_D A (wz_57 wgt cwgt f9 wft cwft j17_wft wfv cwfv j17_wfv wgc cwgc f13 h0 aw ac n15 h0_limit j100_s0 h0_codeCount ob h0_openCount aw ab ac aw_typeCount wat wap wag aw_functionCount waf aw_hasMemory aw_pagesLeast aw_pagesMost x5 wgt wft wfv wgc aw_exportCount wek wei wes wez ab ax ab_length ax cax gax) ∧ va_S A s.heap H locs ∧ lv_has ls 3 [(0, .ref h0), (1, .int j17_l1), (2, .int r14)]) (fun u => match u with | j124_s0 => [.int j124_s0, .int j17_l1, .ref wft]) ?_ (fun jn124 => ?_)
          · intro u H locs ls hI
            obtain ⟨j124_s0, rfl⟩ : ∃ z, z = u := ⟨_, rfl⟩
            obtain ⟨y124, hP, hD, hS, hl⟩ := hI
            have g124 : vp_in j17_l1 20 := vp_in_iff.mpr ⟨by (first | (apply Int.le_antisymm <;> omega) | omega), by (first | (apply Int.le_antisymm <;> omega) | omega)⟩
            refine va_iast hx hb hK hP hD hS 1 2 rfl rfl g124 d_RE_readGlobals_124 (fun H locs hP hD hS => ?_)
            generalize ef17 : upd j17_wft j17_l1.toNatClampNeg j124_s0 = f17 at hP hD
            refine lv_aload_n hx hb d_RE_readGlobals_125 rfl (lv_at hl 0 rfl) ?_
            refine va_get (D := (dC, dI)) (ci := 7) (v := .ref aw) (C := R_RE) (T := F_RE) (N := 8) hx hb hts i_RE hown hK hP 4 rfl rfl 0 (by decide) (hts _ kF_RE_15) (fun _ h9 => h9) rfl d_RE_readGlobals_126 ?_
            refine va_get (D := (dC, dI)) (ci := 10) (v := .ref wfv) (C := R_WA) (T := F_WA) (N := 21) hx hb hts i_WA hown hK hP 5 rfl rfl 14 (by decide) (hts _ kF_RE_145) (fun _ h9 => h9) rfl d_RE_readGlobals_129 ?_
            refine lv_iload_n hx hb d_RE_readGlobals_132 rfl (lv_at hl 1 rfl) ?_
            refine lv_aload_n hx hb d_RE_readGlobals_133 rfl (lv_at hl 0 rfl) ?_
            refine lv_iload_n hx hb d_RE_readGlobals_134 rfl (lv_at hl 2 rfl) ?_
            refine lv_bipush (v := 65) hx hb d_RE_readGlobals_135 (by decide) ?_
            refine w_cut (pc2 := 147) (σ := Int32) (fun u H locs ls => match u with | j147_s0 => ((j147_s0.toInt = 32 ∧ r14.toInt = 65) ∨ (j147_s0.toInt = 64 ∧ r14.toInt ≠ 65)) ∧ va_P (dC, dI) cls (wz_57 wgt cwgt f9 wft cwft f17 wfv cwfv j17_wfv wgc cwgc f13 h0 aw ac n15 h0_limit j100_s0 h0_codeCount ob h0_openCount aw ab ac aw_typeCount wat wap wag aw_functionCount waf aw_hasMemory aw_pagesLeast aw_pagesMost x5 wgt wft wfv wgc aw_exportCount wek wei wes wez ab ax ab_length ax cax gax) H ∧ va_D A (wz_57 wgt cwgt f9 wft cwft f17 wfv cwfv j17_wfv wgc cwgc f13 h0 aw ac n15 h0_limit j100_s0 h0_codeCount ob h0_openCount aw ab ac aw_typeCount wat wap wag aw_functionCount waf aw_hasMemory aw_pagesLeast aw_pagesMost x5 wgt wft wfv wgc aw_exportCount wek wei wes wez ab ax ab_length ax cax gax) ∧ va_S A s.heap H locs ∧ lv_has ls 3 [(0, .ref h0), (1, .int j17_l1)]) (fun u => match u with | j147_s0 => [.int j147_s0, .ref h0, .int j17_l1, .ref wfv]) ?_ (fun jn147 => ?_)
            · intro u H locs ls hI
              obtain ⟨j147_s0, rfl⟩ : ∃ z, z = u := ⟨_, rfl⟩
              obtain ⟨y147, hP, hD, hS, hl⟩ := hI
              have hPc := hP.sb (wq := (wz_46 h0 aw ac n15 h0_limit j100_s0 h0_codeCount ob h0_openCount aw ab ac aw_typeCount wat wap wag aw_functionCount waf aw_hasMemory aw_pagesLeast aw_pagesMost x5 wgt wft wfv wgc aw_exportCount wek wei wes wez ab ax ab_length ax cax gax)) [4, 5, 6, 7] rfl
              have hDc := hD.sb (wq := (wz_46 h0 aw ac n15 h0_limit j100_s0 h0_codeCount ob h0_openCount aw ab ac aw_typeCount wat wap wag aw_functionCount waf aw_hasMemory aw_pagesLeast aw_pagesMost x5 wgt wft wfv wgc aw_exportCount wek wei wes wez ab ax ab_length ax cax gax)) [4, 5, 6, 7] (by decide) rfl
              have hKc := hK.sb (tyq := [(cax, .byte)]) [0] rfl
              have hFc := va_free (wc := (wz_46 h0 aw ac n15 h0_limit j100_s0 h0_codeCount ob h0_openCount aw ab ac aw_typeCount wat wap wag aw_functionCount waf aw_hasMemory aw_pagesLeast aw_pagesMost x5 wgt wft wfv wgc aw_exportCount wek wei wes wez ab ax ab_length ax cax gax)) hD hS hA [4, 5, 6, 7] rfl
              refine va_calll (va_runV (As := [.int j147_s0]) (rest := [.int j17_l1, .ref wfv]) ⟨hx, hb, hml, hown, hts⟩ (c_RE_readSignedy l dC dI H.size h0 aw ac ob ab wat wap wag waf wgt wft wfv wgc wek wei wes wez ax cax n15 h0_limit j100_s0 h0_codeCount h0_openCount aw_typeCount aw_functionCount aw_hasMemory aw_pagesLeast aw_pagesMost x5 aw_exportCount ab_length gax (b_j100_s0) j147_s0 (by (try dsimp only) <;> (first | (apply Int.le_antisymm <;> omega) | omega)) (by (first | (apply Int.le_antisymm <;> omega) | omega))) (cwV 1 hts (gV kM_RE_149 kV_RE_readSigned kS_RE_readSigned kI_RE kC_RE_readSigned) rfl rfl rfl (by decide +kernel) ⟨Nat.le_of_ble_eq_true rfl, Nat.le_of_ble_eq_true rfl⟩) ⟨fun a U g mk z => by obtain ⟨z0, z1, zP, zK, zD⟩ := z; exact ⟨z0, z1, zP, va_K.moved (u := U) (U := U.calling g mk a) (Vm.Alike.refl U.vm) zK, zD⟩, va_recv hKc hPc (ci := 7) (q0 := 0) rfl rfl, fun U hU hW => ⟨rfl, by rw [hU], va_P.he hU.symm hPc, va_K.moved hW.alike hKc, hDc.weaken (fun _ _ _ _ => trivial)⟩⟩ rfl rfl hl.1 rfl (lv_room (Nat.le_of_ble_eq_true rfl)) d_RE_readGlobals_147 ⟨(Nat.zero_le _), (Nat.zero_le _)⟩) hS (fun q _ h => hFc q h) hFc (fun r18 u t H1 locs ht hvm hw hB hz1 hk1 hS => ?_)
              obtain ⟨n19, n20⟩ := u
              try dsimp only at hw
              obtain ⟨bn20, xr18⟩ := hw
              try clear hw
              have tn20 := b01 bn20
              obtain ⟨hP1, hK1, hD1⟩ := hB
              replace hP1 := va_P.he ht hP1
              obtain ⟨hP, hD⟩ := va_join (wr := (wz_56 wgt cwgt f9 wft cwft f17 wfv cwfv j17_wfv wgc cwgc f13)) (w1 := (wz_46 h0 aw ac n19 h0_limit n20 h0_codeCount ob h0_openCount aw ab ac aw_typeCount wat wap wag aw_functionCount waf aw_hasMemory aw_pagesLeast aw_pagesMost x5 wgt wft wfv wgc aw_exportCount wek wei wes wez ab ax ab_length ax cax gax)) hP hD [4, 5, 6, 7] [0, 1, 2, 3] rfl rfl (by decide) (by decide) hk1 hFc hP1 hD1
              clear hPc hDc hKc hFc hz1 hk1 hP1 hK1 hD1
              rename Heap => H
              have hP : va_P (dC, dI) cls (wz_57 wgt cwgt f9 wft cwft f17 wfv cwfv j17_wfv wgc cwgc f13 h0 aw ac n19 h0_limit n20 h0_codeCount ob h0_openCount aw ab ac aw_typeCount wat wap wag aw_functionCount waf aw_hasMemory aw_pagesLeast aw_pagesMost x5 wgt wft wfv wgc aw_exportCount wek wei wes wez ab ax ab_length ax cax gax) H := hP
              have hD : va_D A (wz_57 wgt cwgt f9 wft cwft f17 wfv cwfv j17_wfv wgc cwgc f13 h0 aw ac n19 h0_limit n20 h0_codeCount ob h0_openCount aw ab ac aw_typeCount wat wap wag aw_functionCount waf aw_hasMemory aw_pagesLeast aw_pagesMost x5 wgt wft wfv wgc aw_exportCount wek wei wes wez ab ax ab_length ax cax gax) := hD
              have g150 : vp_in j17_l1 20 := vp_in_iff.mpr ⟨by (first | (apply Int.le_antisymm <;> omega) | omega), by (first | (apply Int.le_antisymm <;> omega) | omega)⟩
              refine va_last hx hb hK hP hD hS 2 3 rfl rfl g150 d_RE_readGlobals_150 (fun H locs hP hD hS => ?_)
              generalize ef21 : vp_updL j17_wfv j17_l1.toNatClampNeg r18 = f21 at hP hD
              refine lv_aload_n hx hb d_RE_readGlobals_151 rfl (lv_at hl 0 rfl) ?_
              refine lv_bipush (v := 11) hx hb d_RE_readGlobals_152 (by decide) ?_
              have hPc := hP.sb (wq := (wz_46 h0 aw ac n19 h0_limit n20 h0_codeCount ob h0_openCount aw ab ac aw_typeCount wat wap wag aw_functionCount waf aw_hasMemory aw_pagesLeast aw_pagesMost x5 wgt wft wfv wgc aw_exportCount wek wei wes wez ab ax ab_length ax cax gax)) [4, 5, 6, 7] rfl
              have hDc := hD.sb (wq := (wz_46 h0 aw ac n19 h0_limit n20 h0_codeCount ob h0_openCount aw ab ac aw_typeCount wat wap wag aw_functionCount waf aw_hasMemory aw_pagesLeast aw_pagesMost x5 wgt wft wfv wgc aw_exportCount wek wei wes wez ab ax ab_length ax cax gax)) [4, 5, 6, 7] (by decide) rfl
              have hKc := hK.sb (tyq := [(cax, .byte)]) [0] rfl
              have hFc := va_free (wc := (wz_46 h0 aw ac n19 h0_limit n20 h0_codeCount ob h0_openCount aw ab ac aw_typeCount wat wap wag aw_functionCount waf aw_hasMemory aw_pagesLeast aw_pagesMost x5 wgt wft wfv wgc aw_exportCount wek wei wes wez ab ax ab_length ax cax gax)) hD hS hA [4, 5, 6, 7] rfl
              refine va_callv (va_runV (As := [.int 11]) (rest := []) ⟨hx, hb, hml, hown, hts⟩ (c_RE_expecty l dC dI H.size h0 aw ac ob ab wat wap wag waf wgt wft wfv wgc wek wei wes wez ax cax n19 h0_limit n20 h0_codeCount h0_openCount aw_typeCount aw_functionCount aw_hasMemory aw_pagesLeast aw_pagesMost x5 aw_exportCount ab_length gax (bn20) 11 (by (try dsimp only) <;> (first | (apply Int.le_antisymm <;> omega) | omega)) (by decide)) (cwV 1 hts (gV kM_RE_56 kV_RE_expect kS_RE_expect kI_RE kC_RE_expect) rfl rfl rfl (by decide +kernel) ⟨Nat.le_of_ble_eq_true rfl, Nat.le_of_ble_eq_true rfl⟩) ⟨fun a U g mk z => by obtain ⟨z0, z1, zP, zK, zD⟩ := z; exact ⟨z0, z1, zP, va_K.moved (u := U) (U := U.calling g mk a) (Vm.Alike.refl U.vm) zK, zD⟩, va_recv hKc hPc (ci := 7) (q0 := 0) rfl rfl, fun U hU hW => ⟨rfl, by rw [hU], va_P.he hU.symm hPc, va_K.moved hW.alike hKc, hDc.weaken (fun _ _ _ _ => trivial)⟩⟩ rfl rfl hl.1 rfl (lv_room (Nat.le_of_ble_eq_true rfl)) d_RE_readGlobals_154 ⟨(Nat.zero_le _), (Nat.zero_le _)⟩) hS (fun q _ h => hFc q h) hFc (fun u t H1 locs ht hvm hw hB hz1 hk1 hS => ?_)
              obtain ⟨n23, n24⟩ := u
              try dsimp only at hw
              obtain ⟨bn24, xr22⟩ := hw
              try clear hw
              have tn24 := b01 bn24
              have u154 : rp (zE gax h0_limit.toNatClampNeg 11 n19.toNatClampNeg) n20 n24 n23 := by have z9 := xr22.2; rw [show (11 : Int32).toInt.toNat = 11 from by decide] at z9; exact z9
              obtain ⟨hP1, hK1, hD1⟩ := hB
              replace hP1 := va_P.he ht hP1
              obtain ⟨hP, hD⟩ := va_join (wr := (wz_56 wgt cwgt f9 wft cwft f17 wfv cwfv f21 wgc cwgc f13)) (w1 := (wz_46 h0 aw ac n23 h0_limit n24 h0_codeCount ob h0_openCount aw ab ac aw_typeCount wat wap wag aw_functionCount waf aw_hasMemory aw_pagesLeast aw_pagesMost x5 wgt wft wfv wgc aw_exportCount wek wei wes wez ab ax ab_length ax cax gax)) hP hD [4, 5, 6, 7] [0, 1, 2, 3] rfl rfl (by decide) (by decide) hk1 hFc hP1 hD1
              clear hPc hDc hKc hFc hz1 hk1 hP1 hK1 hD1
              rename Heap => H
              have hP : va_P (dC, dI) cls (wz_57 wgt cwgt f9 wft cwft f17 wfv cwfv f21 wgc cwgc f13 h0 aw ac n23 h0_limit n24 h0_codeCount ob h0_openCount aw ab ac aw_typeCount wat wap wag aw_functionCount waf aw_hasMemory aw_pagesLeast aw_pagesMost x5 wgt wft wfv wgc aw_exportCount wek wei wes wez ab ax ab_length ax cax gax) H := hP
              have hD : va_D A (wz_57 wgt cwgt f9 wft cwft f17 wfv cwfv f21 wgc cwgc f13 h0 aw ac n23 h0_limit n24 h0_codeCount ob h0_openCount aw ab ac aw_typeCount wat wap wag aw_functionCount waf aw_hasMemory aw_pagesLeast aw_pagesMost x5 wgt wft wfv wgc aw_exportCount wek wei wes wez ab ax ab_length ax cax gax) := hD
              obtain ⟨x25, ex25⟩ : ∃ z : Int32, z = j17_l1 + 1 := ⟨_, rfl⟩
              have tx25 : x25.toInt = j17_l1.toInt + 1 := by have z := i32_add ex25 (by (first | (apply Int.le_antisymm <;> omega) | omega)) (by (first | (apply Int.le_antisymm <;> omega) | omega)); first | exact z | (first | (apply Int.le_antisymm <;> omega) | omega)
              refine lv_iinc (v := x25) (lv' := [(1, .int x25), (0, .ref h0)]) hx hb d_RE_readGlobals_157 hl (k := 1) rfl (by rw [ex25]; rfl) (by decide) rfl (fun ls hl => ?_)
              refine lv_goto (tgt := 17) hx hb d_RE_readGlobals_160 (by decide) ?_
              exact ih17 (x25, f17, f21, f13, f9, n23, n24) _ _ _ (by show (x5.toInt - x25.toInt).toNat < N17; (first | (apply Int.le_antisymm <;> omega) | omega)) ⟨by (try dsimp only) <;> (first | (apply Int.le_antisymm <;> omega) | omega), bn24, (by rw [← ef9, ← ef17, ← ef13, show x25.toInt = j17_l1.toInt + 1 from by (first | (apply Int.le_antisymm <;> omega) | omega), show j17_l1.toNatClampNeg = j17_l1.toInt.toNat from by have := i32_clamp (x := j17_l1) (by (first | (apply Int.le_antisymm <;> omega) | omega)); (first | (apply Int.le_antisymm <;> omega) | omega)]; exact glO_s v1 (by (first | (apply Int.le_antisymm <;> omega) | omega)) (gl_z xr6.2 xr10.2 xr14.2 y100 y147 xr18.2 u154 (by (first | (apply Int.le_antisymm <;> omega) | omega)) (by (first | (apply Int.le_antisymm <;> omega) | omega)) (by (first | (apply Int.le_antisymm <;> omega) | omega))) (by (first | (apply Int.le_antisymm <;> omega) | omega)) (by (first | (apply Int.le_antisymm <;> omega) | omega)) rfl (by rw [vnb b_j69_s0]; exact y69) y124), by (try dsimp only) <;> (first | (apply Int.le_antisymm <;> omega) | omega), by (try dsimp only) <;> (first | (apply Int.le_antisymm <;> omega) | omega), hP, hD, hS, lv_sub hl [1, 0] rfl⟩
            · skip
              refine lv_icmp_ne (tgt := 145) hx hb d_RE_readGlobals_137 (by decide) (fun c137 => ?_) (fun c137 => ?_)
              · have q137 := neI c137
                refine lv_bipush (v := 64) hx hb d_RE_readGlobals_145 (by decide) ?_
                exact jn147 64 _ _ _ ⟨by (try dsimp only) <;> (first | (apply Int.le_antisymm <;> omega) | omega), hP, hD, hS, lv_sub hl [0, 1] rfl⟩
              · have q137 := eqI c137
                refine lv_bipush (v := 32) hx hb d_RE_readGlobals_140 (by decide) ?_
                refine lv_goto (tgt := 147) hx hb d_RE_readGlobals_142 (by decide) ?_
                exact jn147 32 _ _ _ ⟨by (try dsimp only) <;> (first | (apply Int.le_antisymm <;> omega) | omega), hP, hD, hS, lv_sub hl [0, 1] rfl⟩
          · skip
            refine lv_icmp_ne (tgt := 122) hx hb d_RE_readGlobals_114 (by decide) (fun c114 => ?_) (fun c114 => ?_)
            · have q114 := neI c114
              refine lv_bipush (v := 126) hx hb d_RE_readGlobals_122 (by decide) ?_
              exact jn124 126 _ _ _ ⟨by (try dsimp only) <;> (first | (apply Int.le_antisymm <;> omega) | omega), hP, hD, hS, lv_sub hl [0, 1, 2] rfl⟩
            · have q114 := eqI c114
              refine lv_bipush (v := 127) hx hb d_RE_readGlobals_117 (by decide) ?_
              refine lv_goto (tgt := 124) hx hb d_RE_readGlobals_119 (by decide) ?_
              exact jn124 127 _ _ _ ⟨by (try dsimp only) <;> (first | (apply Int.le_antisymm <;> omega) | omega), hP, hD, hS, lv_sub hl [0, 1, 2] rfl⟩
        · skip
          refine w_cut (pc2 := 99) (σ := Unit) (fun u H locs ls => match u with | _ => (¬ (n16.toInt = 1 ∧ (r14.toInt = 65 ∨ r14.toInt = 66))) ∧ va_P (dC, dI) cls (wz_57 wgt cwgt f9 wft cwft j17_wft wfv cwfv j17_wfv wgc cwgc f13 h0 aw ac n15 h0_limit n16 h0_codeCount ob h0_openCount aw ab ac aw_typeCount wat wap wag aw_functionCount waf aw_hasMemory aw_pagesLeast aw_pagesMost x5 wgt wft wfv wgc aw_exportCount wek wei wes wez ab ax ab_length ax cax gax) H ∧ va_D A (wz_57 wgt cwgt f9 wft cwft j17_wft wfv cwfv j17_wfv wgc cwgc f13 h0 aw ac n15 h0_limit n16 h0_codeCount ob h0_openCount aw ab ac aw_typeCount wat wap wag aw_functionCount waf aw_hasMemory aw_pagesLeast aw_pagesMost x5 wgt wft wfv wgc aw_exportCount wek wei wes wez ab ax ab_length ax cax gax) ∧ va_S A s.heap H locs ∧ lv_has ls 3 [(0, .ref h0), (1, .int j17_l1), (2, .int r14)]) (fun u => match u with | _ => [.ref h0]) ?_ (fun jn99 => ?_)
          · intro u H locs ls hI
            obtain ⟨y99, hP, hD, hS, hl⟩ := hI
            refine lv_iconst (v := 0) hx hb d_RE_readGlobals_99 (by decide) ?_
            exact jn100 0 _ _ _ ⟨Or.inl rfl, by (try dsimp only) <;> (first | (apply Int.le_antisymm <;> omega) | omega), hP, hD, hS, lv_sub hl [0, 1, 2] rfl⟩
          · skip
            refine lv_if_eq (tgt := 99) hx hb d_RE_readGlobals_80 (by decide) (fun c80 => ?_) (fun c80 => ?_)
            · have q80 := eqI c80
              exact jn99 () _ _ _ ⟨by (try dsimp only) <;> (first | (apply Int.le_antisymm <;> omega) | omega), hP, hD, hS, lv_sub hl [1, 2, 0] rfl⟩
            · have q80 := neI c80
              refine lv_iload_n hx hb d_RE_readGlobals_83 rfl (lv_at hl 0 rfl) ?_
              refine lv_bipush (v := 65) hx hb d_RE_readGlobals_84 (by decide) ?_
              refine w_cut (pc2 := 95) (σ := Unit) (fun u H locs ls => match u with | _ => (n16.toInt = 1 ∧ (r14.toInt = 65 ∨ r14.toInt = 66)) ∧ va_P (dC, dI) cls (wz_57 wgt cwgt f9 wft cwft j17_wft wfv cwfv j17_wfv wgc cwgc f13 h0 aw ac n15 h0_limit n16 h0_codeCount ob h0_openCount aw ab ac aw_typeCount wat wap wag aw_functionCount waf aw_hasMemory aw_pagesLeast aw_pagesMost x5 wgt wft wfv wgc aw_exportCount wek wei wes wez ab ax ab_length ax cax gax) H ∧ va_D A (wz_57 wgt cwgt f9 wft cwft j17_wft wfv cwfv j17_wfv wgc cwgc f13 h0 aw ac n15 h0_limit n16 h0_codeCount ob h0_openCount aw ab ac aw_typeCount wat wap wag aw_functionCount waf aw_hasMemory aw_pagesLeast aw_pagesMost x5 wgt wft wfv wgc aw_exportCount wek wei wes wez ab ax ab_length ax cax gax) ∧ va_S A s.heap H locs ∧ lv_has ls 3 [(0, .ref h0), (1, .int j17_l1), (2, .int r14)]) (fun u => match u with | _ => [.ref h0]) ?_ (fun jn95 => ?_)
              · intro u H locs ls hI
                obtain ⟨y95, hP, hD, hS, hl⟩ := hI
                refine lv_iconst (v := 1) hx hb d_RE_readGlobals_95 (by decide) ?_
                refine lv_goto (tgt := 100) hx hb d_RE_readGlobals_96 (by decide) ?_
                exact jn100 1 _ _ _ ⟨Or.inr rfl, by (try dsimp only) <;> (first | (apply Int.le_antisymm <;> omega) | omega), hP, hD, hS, lv_sub hl [0, 1, 2] rfl⟩
              · skip
                refine lv_icmp_eq (tgt := 95) hx hb d_RE_readGlobals_86 (by decide) (fun c86 => ?_) (fun c86 => ?_)
                · have q86 := eqI c86
                  exact jn95 () _ _ _ ⟨by (try dsimp only) <;> (first | (apply Int.le_antisymm <;> omega) | omega), hP, hD, hS, lv_sub hl [1, 2, 0] rfl⟩
                · have q86 := neI c86
                  refine lv_iload_n hx hb d_RE_readGlobals_89 rfl (lv_at hl 0 rfl) ?_
                  refine lv_bipush (v := 66) hx hb d_RE_readGlobals_90 (by decide) ?_
                  refine lv_icmp_ne (tgt := 99) hx hb d_RE_readGlobals_92 (by decide) (fun c92 => ?_) (fun c92 => ?_)
                  · have q92 := neI c92
                    exact jn99 () _ _ _ ⟨by (try dsimp only) <;> (first | (apply Int.le_antisymm <;> omega) | omega), hP, hD, hS, lv_sub hl [1, 2, 0] rfl⟩
                  · have q92 := eqI c92
                    exact jn95 () _ _ _ ⟨by (try dsimp only) <;> (first | (apply Int.le_antisymm <;> omega) | omega), hP, hD, hS, lv_sub hl [1, 2, 0] rfl⟩
      · skip
        refine lv_icmp_ne (tgt := 68) hx hb d_RE_readGlobals_61 (by decide) (fun c61 => ?_) (fun c61 => ?_)
        · have q61 := neI c61
          refine lv_iconst (v := 0) hx hb d_RE_readGlobals_68 (by decide) ?_
          exact jn69 0 _ _ _ ⟨Or.inl rfl, by (try dsimp only) <;> (first | (apply Int.le_antisymm <;> omega) | omega), hP, hD, hS, lv_sub hl [0, 1] rfl⟩
        · have q61 := eqI c61
          refine lv_iconst (v := 1) hx hb d_RE_readGlobals_64 (by decide) ?_
          refine lv_goto (tgt := 69) hx hb d_RE_readGlobals_65 (by decide) ?_
          exact jn69 1 _ _ _ ⟨Or.inr rfl, by (try dsimp only) <;> (first | (apply Int.le_antisymm <;> omega) | omega), hP, hD, hS, lv_sub hl [0, 1] rfl⟩
end q_n44q14

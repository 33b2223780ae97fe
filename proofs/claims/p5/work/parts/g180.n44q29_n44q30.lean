section q_n44q29
/-! p5: the class: tables, exports, the whole -/
abbrev at_BR_sameParty (dC : Nat → ClassId) (dI : Nat → Nat → Nat) (h0 ax : Nat) (cax : ClassId) (h0_length : Int32) (gax : Nat → Int32) (A : Nat → Prop) (u : Unit) (t : State) : Prop := match u with | _ => va_P (dC, dI) cls (wz_94 h0 ax h0_length ax cax gax) t.heap ∧ va_K (dC, dI) cls [(cax, .byte)] t ∧ va_D A (wz_94 h0 ax h0_length ax cax gax)
set_option maxHeartbeats 4000000 in
set_option maxRecDepth 100000 in
theorem c_BR_sameParty (l : Launch) (dC : Nat → ClassId) (dI : Nat → Nat → Nat) (sz : Nat) (h0 ax : Nat) (cax : ClassId) (h0_length : Int32) (gax : Nat → Int32)  (b_h0_length : 0 ≤ h0_length.toInt ∧ h0_length.toInt ≤ 8192) (p0 : Int32) (p1 : Int32) (p2 : Int32)  (hp : 0 ≤ p0.toInt ∧ 0 ≤ p1.toInt ∧ 0 ≤ p2.toInt ∧ p0.toInt + p2.toInt ≤ h0_length.toInt ∧ p1.toInt + p2.toInt ≤ h0_length.toInt ∧ h0_length.toInt ≤ 8192) (hbr : bx (∀ j : Nat, (j : Int) < h0_length.toInt → -128 ≤ (gax j).toInt ∧ (gax j).toInt ≤ 127)) : Met l y_BR_samePart w_BR_samePart ({ frames := 0, cells := 0, slots := 0, locals := 0 }) (va_Pc [.ref h0, .int p0, .int p1, .int p2] (fun U => U.heap.size = sz ∧ va_P (dC, dI) cls (wz_94 h0 ax h0_length ax cax gax) U.heap ∧ va_K (dC, dI) cls [(cax, .byte)] U ∧ va_D (fun _ => True) (wz_94 h0 ax h0_length ax cax gax))) (va_Qi (fun (r : Int32) (u : Unit) => match u with | _ => (r = 0 ∨ r = 1) ∧ ((r.toInt = 1 ∧ vsame gax p0.toInt.toNat p1.toInt.toNat p2.toInt.toNat = true) ∨ (r.toInt = 0 ∧ vsame gax p0.toInt.toNat p1.toInt.toNat p2.toInt.toNat = false))) (at_BR_sameParty dC dI h0 ax cax h0_length gax (va_A (wz_94 h0 ax h0_length ax cax gax) sz)) (va_A (wz_94 h0 ax h0_length ax cax gax) sz)) 0 0 (va_A (wz_94 h0 ax h0_length ax cax gax) sz) := by
  refine Met.ofW (cc := b_BR_samePart) (maxL := 5) (ret := (Option.some .boolean)) (by decide) rfl ?_
  intro p e s m args below meth c s₁ B hml hv
  obtain ⟨rfl, hsz, hP, hK, hD0⟩ := hv
  have hx := B.exec
  have hb := B.bytes
  have hr := B.returns
  have hts0 := atoms_spec (ws := w_BR_samePart) B.pre
  have hts : ∀ w ∈ lw_g, w.before _ s = true := fun w h => hts0 w (List.mem_cons_of_mem _ h)
  have hown : s.vm.findClass R_BR = some m.cls := findClass_of_methodNamed B.named
  have hlocks := B.notSynchronized
  clear hts0
  subst hsz
  have hD := hD0.self (sz := s.heap.size)
  generalize hAe : va_A (wz_94 h0 ax h0_length ax cax gax) s.heap.size = A at hD ⊢
  have hA : ∀ q : Nat, s.heap.size ≤ q → A q := fun q h => by rw [← hAe]; exact Or.inr h
  clear hAe
  have hP : va_P (dC, dI) cls (wz_94 h0 ax h0_length ax cax gax) s.heap := hP
  have hl := lv_entry ([.ref h0, .int p0, .int p1, .int p2]) (n := 5) (Nat.le_of_ble_eq_true rfl)
  rw [lg_entry_eq]
  generalize (lg_sl ([.ref h0, .int p0, .int p1, .int p2]) ++ List.replicate (5 - (lg_sl ([.ref h0, .int p0, .int p1, .int p2])).length) Slot.unset).toArray = ls at hl ⊢
  have hl : lv_has ls 5 [(0, .ref h0), (1, .int p0), (2, .int p1), (3, .int p2)] := hl
  have k0 : (0 : Int32).toInt = 0 := by decide
  refine w_gen (A := A) hP (fun H locs hP hS => ?_)
  have k1 : (1 : Int32).toInt = 1 := by decide
  have lo_p0 := i32_lo p0
  have hi_p0 := i32_hi p0
  have lo_p1 := i32_lo p1
  have hi_p1 := i32_hi p1
  have lo_p2 := i32_lo p2
  have hi_p2 := i32_hi p2
  refine lv_iload_n hx hb d_BR_samePart_0 rfl (lv_at hl 1 rfl) ?_
  refine lv_if_lt (tgt := 28) hx hb d_BR_samePart_1 (by decide) (fun c1 => absurd (ltI c1) (by (first | (apply Int.le_antisymm <;> omega) | omega))) (fun c1 => ?_)
  have q1 := nltI c1
  refine lv_iload_n hx hb d_BR_samePart_4 rfl (lv_at hl 2 rfl) ?_
  refine lv_if_lt (tgt := 28) hx hb d_BR_samePart_5 (by decide) (fun c5 => absurd (ltI c5) (by (first | (apply Int.le_antisymm <;> omega) | omega))) (fun c5 => ?_)
  have q5 := nltI c5
  refine lv_iload_n hx hb d_BR_samePart_8 rfl (lv_at hl 1 rfl) ?_
  refine lv_aload_n hx hb d_BR_samePart_9 rfl (lv_at hl 0 rfl) ?_
  refine va_get (D := (dC, dI)) (ci := 1) (v := .int h0_length) (C := R_BR) (T := F_BR) (N := 2) hx hb hts i_BR hown hK hP 0 rfl rfl 1 (by decide) (hts _ kF_BR_13) (fun _ h9 => h9) rfl d_BR_samePart_10 ?_
  refine lv_iload_n hx hb d_BR_samePart_13 rfl (lv_at hl 3 rfl) ?_
  refine lv_isub hx hb d_BR_samePart_14 ?_
  refine lv_topi (fun x1 ex1 => ?_)
  have tx1 : x1.toInt = h0_length.toInt - p2.toInt := by have z := i32_sub ex1 (by (first | (apply Int.le_antisymm <;> omega) | omega)) (by (first | (apply Int.le_antisymm <;> omega) | omega)); first | exact z | (first | (apply Int.le_antisymm <;> omega) | omega)
  refine lv_icmp_gt (tgt := 28) hx hb d_BR_samePart_15 (by decide) (fun c15 => absurd (ltI c15) (by (first | (apply Int.le_antisymm <;> omega) | omega))) (fun c15 => ?_)
  have q15 := nltI c15
  refine lv_iload_n hx hb d_BR_samePart_18 rfl (lv_at hl 2 rfl) ?_
  refine lv_aload_n hx hb d_BR_samePart_19 rfl (lv_at hl 0 rfl) ?_
  refine va_get (D := (dC, dI)) (ci := 1) (v := .int h0_length) (C := R_BR) (T := F_BR) (N := 2) hx hb hts i_BR hown hK hP 0 rfl rfl 1 (by decide) (hts _ kF_BR_13) (fun _ h9 => h9) rfl d_BR_samePart_20 ?_
  refine lv_iload_n hx hb d_BR_samePart_23 rfl (lv_at hl 3 rfl) ?_
  refine lv_isub hx hb d_BR_samePart_24 ?_
  refine lv_topi (fun x2 ex2 => ?_)
  have tx2 : x2.toInt = h0_length.toInt - p2.toInt := by have z := i32_sub ex2 (by (first | (apply Int.le_antisymm <;> omega) | omega)) (by (first | (apply Int.le_antisymm <;> omega) | omega)); first | exact z | (first | (apply Int.le_antisymm <;> omega) | omega)
  refine lv_icmp_le (tgt := 30) hx hb d_BR_samePart_25 (by decide) (fun c25 => ?_) (fun c25 => absurd (nleI c25) (by (first | (apply Int.le_antisymm <;> omega) | omega)))
  have q25 := leI c25
  refine lv_iconst (v := 0) hx hb d_BR_samePart_30 (by decide) ?_
  refine lv_istore (lv' := [(4, .int 0), (0, .ref h0), (1, .int p0), (2, .int p1), (3, .int p2)]) hx hb d_BR_samePart_31 hl (by decide) rfl (fun ls hl => ?_)
  refine w_loop (σ := Int32) (fun u H locs ls => match u with | j33_l4 => (0 ≤ j33_l4.toInt ∧ j33_l4.toInt ≤ 8192) ∧ (vsame gax p0.toInt.toNat p1.toInt.toNat p2.toInt.toNat = vsame gax (p0.toInt.toNat + j33_l4.toInt.toNat) (p1.toInt.toNat + j33_l4.toInt.toNat) (p2.toInt.toNat - j33_l4.toInt.toNat)) ∧ (0 ≤ j33_l4.toInt ∧ j33_l4.toInt ≤ p2.toInt) ∧ va_P (dC, dI) cls (wz_94 h0 ax h0_length ax cax gax) H ∧ va_D A (wz_94 h0 ax h0_length ax cax gax) ∧ va_S A s.heap H locs ∧ lv_has ls 5 [(0, .ref h0), (1, .int p0), (2, .int p1), (3, .int p2), (4, .int j33_l4)]) (fun u => match u with | j33_l4 => (p2.toInt - j33_l4.toInt).toNat) ?_ 0 ⟨by (try dsimp only) <;> (first | (apply Int.le_antisymm <;> omega) | omega), rfl, by (try dsimp only) <;> (first | (apply Int.le_antisymm <;> omega) | omega), hP, hD, hS, lv_sub hl [1, 2, 3, 4, 0] rfl⟩
  intro N33 ih33 u H locs ls hN33 hI
  obtain ⟨j33_l4, rfl⟩ : ∃ z, z = u := ⟨_, rfl⟩
  obtain ⟨b_j33_l4, v1, v2, hP, hD, hS, hl⟩ := hI
  have hN33 : (p2.toInt - j33_l4.toInt).toNat < N33 + 1 := hN33
  refine lv_iload hx hb d_BR_samePart_33 (lv_at hl 4 rfl) ?_
  refine lv_iload_n hx hb d_BR_samePart_35 rfl (lv_at hl 3 rfl) ?_
  refine lv_icmp_ge (tgt := 68) hx hb d_BR_samePart_36 (by decide) (fun c36 => ?_) (fun c36 => ?_)
  · have q36 := leI c36
    refine lv_iconst (v := 1) hx hb d_BR_samePart_68 (by decide) ?_
    have hP9 := hP.sb (wq := (wz_94 h0 ax h0_length ax cax gax)) [0, 1] rfl
    have hD9 := hD.sb (wq := (wz_94 h0 ax h0_length ax cax gax)) [0, 1] (by decide) rfl
    exact W.zret (v := 1) hx hb hr (zn01 (Or.inr rfl)) (fun t ht hW => ⟨⟨1, (), rfl, ⟨Or.inr rfl, (Or.inl ⟨by decide, by rw [v1, show p2.toInt.toNat - j33_l4.toInt.toNat = 0 from by (first | (apply Int.le_antisymm <;> omega) | omega)]; rfl⟩)⟩, va_P.he ht.symm hP9, va_K.moved hW.alike hK, hD9⟩, hS.F ht⟩) hS.2.2 d_BR_samePart_69
  · have q36 := nleI c36
    refine lv_aload_n hx hb d_BR_samePart_39 rfl (lv_at hl 0 rfl) ?_
    refine va_get (D := (dC, dI)) (ci := 1) (v := .ref ax) (C := R_BR) (T := F_BR) (N := 2) hx hb hts i_BR hown hK hP 0 rfl rfl 0 (by decide) (hts _ kF_BR_7) (fun _ h9 => h9) rfl d_BR_samePart_40 ?_
    refine lv_iload_n hx hb d_BR_samePart_43 rfl (lv_at hl 1 rfl) ?_
    refine lv_iload hx hb d_BR_samePart_44 (lv_at hl 4 rfl) ?_
    refine lv_iadd hx hb d_BR_samePart_46 ?_
    refine lv_topi (fun x3 ex3 => ?_)
    have tx3 : x3.toInt = p0.toInt + j33_l4.toInt := by have z := i32_add ex3 (by (first | (apply Int.le_antisymm <;> omega) | omega)) (by (first | (apply Int.le_antisymm <;> omega) | omega)); first | exact z | (first | (apply Int.le_antisymm <;> omega) | omega)
    have g47 : vp_in x3 8192 := vp_in_iff.mpr ⟨by (first | (apply Int.le_antisymm <;> omega) | omega), by (first | (apply Int.le_antisymm <;> omega) | omega)⟩
    refine va_bald hx hb hK hP 1 0 rfl rfl g47 d_BR_samePart_47 ?_
    refine lv_topi (fun x4 ex4 => ?_)
    have ix47 : x3.toNatClampNeg = p0.toInt.toNat + j33_l4.toInt.toNat := by have := i32_clamp (x := x3) (by (first | (apply Int.le_antisymm <;> omega) | omega)); (first | (apply Int.le_antisymm <;> omega) | omega)
    have gx47 : x4 = gax (p0.toInt.toNat + j33_l4.toInt.toNat) := by rw [ex4, ix47]
    refine lv_aload_n hx hb d_BR_samePart_48 rfl (lv_at hl 0 rfl) ?_
    refine va_get (D := (dC, dI)) (ci := 1) (v := .ref ax) (C := R_BR) (T := F_BR) (N := 2) hx hb hts i_BR hown hK hP 0 rfl rfl 0 (by decide) (hts _ kF_BR_7) (fun _ h9 => h9) rfl d_BR_samePart_49 ?_
    refine lv_iload_n hx hb d_BR_samePart_52 rfl (lv_at hl 2 rfl) ?_
    refine lv_iload hx hb d_BR_samePart_53 (lv_at hl 4 rfl) ?_
    refine lv_iadd hx hb d_BR_samePart_55 ?_
    refine lv_topi (fun x5 ex5 => ?_)
    have tx5 : x5.toInt = p1.toInt + j33_l4.toInt := by have z := i32_add ex5 (by (first | (apply Int.le_antisymm <;> omega) | omega)) (by (first | (apply Int.le_antisymm <;> omega) | omega)); first | exact z | (first | (apply Int.le_antisymm <;> omega) | omega)
    have g56 : vp_in x5 8192 := vp_in_iff.mpr ⟨by (first | (apply Int.le_antisymm <;> omega) | omega), by (first | (apply Int.le_antisymm <;> omega) | omega)⟩
    refine va_bald hx hb hK hP 1 0 rfl rfl g56 d_BR_samePart_56 ?_
    refine lv_topi (fun x6 ex6 => ?_)
    have ix56 : x5.toNatClampNeg = p1.toInt.toNat + j33_l4.toInt.toNat := by have := i32_clamp (x := x5) (by (first | (apply Int.le_antisymm <;> omega) | omega)); (first | (apply Int.le_antisymm <;> omega) | omega)
    have gx56 : x6 = gax (p1.toInt.toNat + j33_l4.toInt.toNat) := by rw [ex6, ix56]
    refine lv_icmp_eq (tgt := 62) hx hb d_BR_samePart_57 (by decide) (fun c57 => ?_) (fun c57 => ?_)
    · have q57 := eqI c57
      have ee9 : bn (gax (p0.toInt.toNat + j33_l4.toInt.toNat)) = bn (gax (p1.toInt.toNat + j33_l4.toInt.toNat)) := by rw [bn_ij (hbr.out _ (by (first | (apply Int.le_antisymm <;> omega) | omega))) (hbr.out _ (by (first | (apply Int.le_antisymm <;> omega) | omega))), ← gx47, ← gx56]; (first | (apply Int.le_antisymm <;> omega) | omega)
      obtain ⟨x7, ex7⟩ : ∃ z : Int32, z = j33_l4 + 1 := ⟨_, rfl⟩
      have tx7 : x7.toInt = j33_l4.toInt + 1 := by have z := i32_add ex7 (by (first | (apply Int.le_antisymm <;> omega) | omega)) (by (first | (apply Int.le_antisymm <;> omega) | omega)); first | exact z | (first | (apply Int.le_antisymm <;> omega) | omega)
      refine lv_iinc (v := x7) (lv' := [(4, .int x7), (0, .ref h0), (1, .int p0), (2, .int p1), (3, .int p2)]) hx hb d_BR_samePart_62 hl (k := 4) rfl (by rw [ex7]; rfl) (by decide) rfl (fun ls hl => ?_)
      refine lv_goto (tgt := 33) hx hb d_BR_samePart_65 (by decide) ?_
      exact ih33 x7 _ _ _ (by show (p2.toInt - x7.toInt).toNat < N33; (first | (apply Int.le_antisymm <;> omega) | omega)) ⟨by (try dsimp only) <;> (first | (apply Int.le_antisymm <;> omega) | omega), (by rw [v1, show p2.toInt.toNat - j33_l4.toInt.toNat = (p2.toInt.toNat - (j33_l4.toInt.toNat + 1)) + 1 from by (first | (apply Int.le_antisymm <;> omega) | omega), vs_s, decide_eq_true (show bn (gax (p0.toInt.toNat + j33_l4.toInt.toNat)) = bn (gax (p1.toInt.toNat + j33_l4.toInt.toNat)) from ee9), Bool.true_and, show x7.toInt.toNat = j33_l4.toInt.toNat + 1 from by (first | (apply Int.le_antisymm <;> omega) | omega), Nat.add_assoc, Nat.add_assoc]), by (try dsimp only) <;> (first | (apply Int.le_antisymm <;> omega) | omega), hP, hD, hS, lv_sub hl [1, 2, 3, 4, 0] rfl⟩
    · have q57 := neI c57
      have ne9 : ¬ bn (gax (p0.toInt.toNat + j33_l4.toInt.toNat)) = bn (gax (p1.toInt.toNat + j33_l4.toInt.toNat)) := by rw [bn_ij (hbr.out _ (by (first | (apply Int.le_antisymm <;> omega) | omega))) (hbr.out _ (by (first | (apply Int.le_antisymm <;> omega) | omega))), ← gx47, ← gx56]; (first | (apply Int.le_antisymm <;> omega) | omega)
      refine lv_iconst (v := 0) hx hb d_BR_samePart_60 (by decide) ?_
      have hP9 := hP.sb (wq := (wz_94 h0 ax h0_length ax cax gax)) [0, 1] rfl
      have hD9 := hD.sb (wq := (wz_94 h0 ax h0_length ax cax gax)) [0, 1] (by decide) rfl
      exact W.zret (v := 0) hx hb hr (zn01 (Or.inl rfl)) (fun t ht hW => ⟨⟨0, (), rfl, ⟨Or.inl rfl, (Or.inr ⟨by decide, by rw [v1, show p2.toInt.toNat - j33_l4.toInt.toNat = (p2.toInt.toNat - (j33_l4.toInt.toNat + 1)) + 1 from by (first | (apply Int.le_antisymm <;> omega) | omega), vs_s, decide_eq_false (show ¬ bn (gax (p0.toInt.toNat + j33_l4.toInt.toNat)) = bn (gax (p1.toInt.toNat + j33_l4.toInt.toNat)) from ne9), Bool.false_and]⟩)⟩, va_P.he ht.symm hP9, va_K.moved hW.alike hK, hD9⟩, hS.F ht⟩) hS.2.2 d_BR_samePart_61
abbrev at_VA_checkTablesy (dC : Nat → ClassId) (dI : Nat → Nat → Nat) (h0 aw ac ty bo bg bh bd waf wgt wft wgc : Nat) (cwaf cwgt cwft cwgc : ClassId) (h0_function : Int32) (h0_height : Int32) (h0_depth : Int32) (law : List Value) (aw_typeCount : Int32) (aw_functionCount : Int32) (aw_hasMemory : Int32) (aw_pagesLeast : Int64) (aw_pagesMost : Int64) (aw_globalCount : Int32) (gwaf : Nat → Int32) (gwgt : Nat → Int32) (gwft : Nat → Int32) (gwgc : Nat → Int32) (A : Nat → Prop) (u : Int32) (t : State) : Prop := match u with | h0_sound => va_P (dC, dI) cls [(h0, .inr (9, [.ref aw, .ref ac, .int h0_sound, .int h0_function, .ref ty, .int h0_height, .ref bo, .ref bg, .ref bh, .ref bd, .int h0_depth])), (aw, .inr (10, law)), (waf, .inl (cwaf, 30, .inl gwaf)), (wgt, .inl (cwgt, 20, .inl gwgt)), (wft, .inl (cwft, 20, .inl gwft)), (wgc, .inl (cwgc, 20, .inl gwgc))] t.heap ∧ va_K (dC, dI) cls [(cwaf, .int), (cwgt, .int), (cwft, .int), (cwgc, .boolean)] t ∧ va_D A [(h0, .inr (9, [.ref aw, .ref ac, .int h0_sound, .int h0_function, .ref ty, .int h0_height, .ref bo, .ref bg, .ref bh, .ref bd, .int h0_depth])), (aw, .inr (10, law)), (waf, .inl (cwaf, 30, .inl gwaf)), (wgt, .inl (cwgt, 20, .inl gwgt)), (wft, .inl (cwft, 20, .inl gwft)), (wgc, .inl (cwgc, 20, .inl gwgc))]
set_option maxHeartbeats 4000000 in
set_option maxRecDepth 100000 in
theorem c_VA_checkTablesy (l : Launch) (dC : Nat → ClassId) (dI : Nat → Nat → Nat) (sz : Nat) (h0 aw ac ty bo bg bh bd waf wgt wft wgc : Nat) (cwaf cwgt cwft cwgc : ClassId) (h0_sound : Int32) (h0_function : Int32) (h0_height : Int32) (h0_depth : Int32) (law : List Value) (aw_typeCount : Int32) (aw_functionCount : Int32) (aw_hasMemory : Int32) (aw_pagesLeast : Int64) (aw_pagesMost : Int64) (aw_globalCount : Int32) (gwaf : Nat → Int32) (gwgt : Nat → Int32) (gwft : Nat → Int32) (gwgc : Nat → Int32) (T9 : zTab) (paw_2 : law[2]? = some (.int aw_typeCount)) (paw_6 : law[6]? = some (.int aw_functionCount)) (paw_7 : law[7]? = some (.ref waf)) (paw_8 : law[8]? = some (.int aw_hasMemory)) (paw_9 : law[9]? = some (.long aw_pagesLeast)) (paw_10 : law[10]? = some (.long aw_pagesMost)) (paw_11 : law[11]? = some (.int aw_globalCount)) (paw_12 : law[12]? = some (.ref wgt)) (paw_13 : law[13]? = some (.ref wft)) (plaw : law.length = 21) (b_h0_sound : h0_sound = 0 ∨ h0_sound = 1) (b_aw_typeCount : 0 ≤ aw_typeCount.toInt ∧ aw_typeCount.toInt ≤ 20) (b_aw_functionCount : 0 ≤ aw_functionCount.toInt ∧ aw_functionCount.toInt ≤ 30) (b_aw_hasMemory : aw_hasMemory = 0 ∨ aw_hasMemory = 1) (b_aw_globalCount : 0 ≤ aw_globalCount.toInt ∧ aw_globalCount.toInt ≤ 20)   (htb : aw_functionCount.toInt = (T9.2.1.length : Int) ∧ aw_typeCount.toInt = (T9.1.length : Int) ∧ aw_globalCount.toInt = (T9.2.2.2.1.length : Int)) (hfn : fnA gwaf T9.2.1) (hga : glA gwgt gwft gwgc T9.2.2.2.1) (hme : meA T9.2.2.1 aw_hasMemory aw_pagesLeast.toInt aw_pagesMost.toInt) : Met l y_VA_checkTables w_VA_checkTables ({ frames := 0, cells := 0, slots := 0, locals := 0 }) (va_Pc [.ref h0] (fun U => U.heap.size = sz ∧ va_P (dC, dI) cls [(h0, .inr (9, [.ref aw, .ref ac, .int h0_sound, .int h0_function, .ref ty, .int h0_height, .ref bo, .ref bg, .ref bh, .ref bd, .int h0_depth])), (aw, .inr (10, law)), (waf, .inl (cwaf, 30, .inl gwaf)), (wgt, .inl (cwgt, 20, .inl gwgt)), (wft, .inl (cwft, 20, .inl gwft)), (wgc, .inl (cwgc, 20, .inl gwgc))] U.heap ∧ va_K (dC, dI) cls [(cwaf, .int), (cwgt, .int), (cwft, .int), (cwgc, .boolean)] U ∧ va_D (fun _ => True) [(h0, .inr (9, [.ref aw, .ref ac, .int h0_sound, .int h0_function, .ref ty, .int h0_height, .ref bo, .ref bg, .ref bh, .ref bd, .int h0_depth])), (aw, .inr (10, law)), (waf, .inl (cwaf, 30, .inl gwaf)), (wgt, .inl (cwgt, 20, .inl gwgt)), (wft, .inl (cwft, 20, .inl gwft)), (wgc, .inl (cwgc, 20, .inl gwgc))])) (va_Qv (fun (u : Int32) => match u with | h0_sound2 => (h0_sound2 = 0 ∨ h0_sound2 = 1) ∧ ((h0_sound2.toInt = 1 ∧ h0_sound.toInt = 1 ∧ ctab T9) ∨ (h0_sound2.toInt = 0 ∧ (h0_sound.toInt = 1 → ¬ ctab T9)))) (at_VA_checkTablesy dC dI h0 aw ac ty bo bg bh bd waf wgt wft wgc cwaf cwgt cwft cwgc h0_function h0_height h0_depth law aw_typeCount aw_functionCount aw_hasMemory aw_pagesLeast aw_pagesMost aw_globalCount gwaf gwgt gwft gwgc (va_A [(h0, .inr (9, [.ref aw, .ref ac, .int h0_sound, .int h0_function, .ref ty, .int h0_height, .ref bo, .ref bg, .ref bh, .ref bd, .int h0_depth])), (aw, .inr (10, law)), (waf, .inl (cwaf, 30, .inl gwaf)), (wgt, .inl (cwgt, 20, .inl gwgt)), (wft, .inl (cwft, 20, .inl gwft)), (wgc, .inl (cwgc, 20, .inl gwgc))] sz)) (va_A [(h0, .inr (9, [.ref aw, .ref ac, .int h0_sound, .int h0_function, .ref ty, .int h0_height, .ref bo, .ref bg, .ref bh, .ref bd, .int h0_depth])), (aw, .inr (10, law)), (waf, .inl (cwaf, 30, .inl gwaf)), (wgt, .inl (cwgt, 20, .inl gwgt)), (wft, .inl (cwft, 20, .inl gwft)), (wgc, .inl (cwgc, 20, .inl gwgc))] sz)) 0 0 (va_A [(h0, .inr (9, [.ref aw, .ref ac, .int h0_sound, .int h0_function, .ref ty, .int h0_height, .ref bo, .ref bg, .ref bh, .ref bd, .int h0_depth])), (aw, .inr (10, law)), (waf, .inl (cwaf, 30, .inl gwaf)), (wgt, .inl (cwgt, 20, .inl gwgt)), (wft, .inl (cwft, 20, .inl gwft)), (wgc, .inl (cwgc, 20, .inl gwgc))] sz) := by
  refine Met.ofW (cc := b_VA_checkTables) (maxL := 2) (ret := none) (by decide) rfl ?_
  intro p e s m args below meth c s₁ B hml hv
  obtain ⟨rfl, hsz, hP, hK, hD0⟩ := hv
  have hx := B.exec
  have hb := B.bytes
  have hr := B.returns
  have hts0 := atoms_spec (ws := w_VA_checkTables) B.pre
  have hts : ∀ w ∈ lw_g, w.before _ s = true := fun w h => hts0 w (List.mem_cons_of_mem _ h)
  have hown : s.vm.findClass R_VA = some m.cls := findClass_of_methodNamed B.named
  have hlocks := B.notSynchronized
  clear hts0
  subst hsz
  have hD := hD0.self (sz := s.heap.size)
  generalize hAe : va_A [(h0, .inr (9, [.ref aw, .ref ac, .int h0_sound, .int h0_function, .ref ty, .int h0_height, .ref bo, .ref bg, .ref bh, .ref bd, .int h0_depth])), (aw, .inr (10, law)), (waf, .inl (cwaf, 30, .inl gwaf)), (wgt, .inl (cwgt, 20, .inl gwgt)), (wft, .inl (cwft, 20, .inl gwft)), (wgc, .inl (cwgc, 20, .inl gwgc))] s.heap.size = A at hD ⊢
  have hA : ∀ q : Nat, s.heap.size ≤ q → A q := fun q h => by rw [← hAe]; exact Or.inr h
  clear hAe
  have hP : va_P (dC, dI) cls [(h0, .inr (9, [.ref aw, .ref ac, .int h0_sound, .int h0_function, .ref ty, .int h0_height, .ref bo, .ref bg, .ref bh, .ref bd, .int h0_depth])), (aw, .inr (10, law)), (waf, .inl (cwaf, 30, .inl gwaf)), (wgt, .inl (cwgt, 20, .inl gwgt)), (wft, .inl (cwft, 20, .inl gwft)), (wgc, .inl (cwgc, 20, .inl gwgc))] s.heap := hP
  have hl := lv_entry ([.ref h0]) (n := 2) (Nat.le_of_ble_eq_true rfl)
  rw [lg_entry_eq]
  generalize (lg_sl ([.ref h0]) ++ List.replicate (2 - (lg_sl ([.ref h0])).length) Slot.unset).toArray = ls at hl ⊢
  have hl : lv_has ls 2 [(0, .ref h0)] := hl
  have k0 : (0 : Int32).toInt = 0 := by decide
  refine w_gen (A := A) hP (fun H locs hP hS => ?_)
  have k1 : (1 : Int32).toInt = 1 := by decide
  have th0_sound := b01 b_h0_sound
  have taw_hasMemory := b01 b_aw_hasMemory
  refine lv_iconst (v := 0) hx hb d_VA_checkTables_0 (by decide) ?_
  refine lv_istore_n (lv' := [(1, .int 0), (0, .ref h0)]) hx hb d_VA_checkTables_1 rfl hl (by decide) rfl (fun ls hl => ?_)
  refine w_loop (σ := Int32 × Int32) (fun u H locs ls => match u with | (j2_l1, j2_h0_sound) => (0 ≤ j2_l1.toInt ∧ j2_l1.toInt ≤ 30) ∧ (j2_h0_sound = 0 ∨ j2_h0_sound = 1) ∧ (j2_l1.toInt ≤ aw_functionCount.toInt) ∧ (ctF T9 h0_sound j2_h0_sound j2_l1.toInt) ∧ va_P (dC, dI) cls [(h0, .inr (9, [.ref aw, .ref ac, .int j2_h0_sound, .int h0_function, .ref ty, .int h0_height, .ref bo, .ref bg, .ref bh, .ref bd, .int h0_depth])), (aw, .inr (10, law)), (waf, .inl (cwaf, 30, .inl gwaf)), (wgt, .inl (cwgt, 20, .inl gwgt)), (wft, .inl (cwft, 20, .inl gwft)), (wgc, .inl (cwgc, 20, .inl gwgc))] H ∧ va_D A [(h0, .inr (9, [.ref aw, .ref ac, .int j2_h0_sound, .int h0_function, .ref ty, .int h0_height, .ref bo, .ref bg, .ref bh, .ref bd, .int h0_depth])), (aw, .inr (10, law)), (waf, .inl (cwaf, 30, .inl gwaf)), (wgt, .inl (cwgt, 20, .inl gwgt)), (wft, .inl (cwft, 20, .inl gwft)), (wgc, .inl (cwgc, 20, .inl gwgc))] ∧ va_S A s.heap H locs ∧ lv_has ls 2 [(0, .ref h0), (1, .int j2_l1)]) (fun u => match u with | (j2_l1, j2_h0_sound) => (aw_functionCount.toInt - j2_l1.toInt).toNat) ?_ (0, h0_sound) ⟨by (try dsimp only) <;> (first | (apply Int.le_antisymm <;> omega) | omega), b_h0_sound, by (try dsimp only) <;> (first | (apply Int.le_antisymm <;> omega) | omega), (ctF_0 th0_sound (by decide)), hP, hD, hS, lv_sub hl [1, 0] rfl⟩
  intro N2 ih2 u H locs ls hN2 hI
  obtain ⟨j2_l1, j2_h0_sound⟩ := u
  obtain ⟨b_j2_l1, b_j2_h0_sound, v1, v2, hP, hD, hS, hl⟩ := hI
  have tj2_h0_sound := b01 b_j2_h0_sound
  have hN2 : (aw_functionCount.toInt - j2_l1.toInt).toNat < N2 + 1 := hN2
  refine lv_iload_n hx hb d_VA_checkTables_2 rfl (lv_at hl 1 rfl) ?_
  refine lv_aload_n hx hb d_VA_checkTables_3 rfl (lv_at hl 0 rfl) ?_
  refine va_get (D := (dC, dI)) (ci := 9) (v := .ref aw) (C := R_VA) (T := F_VA) (N := 11) hx hb hts i_VA hown hK hP 0 rfl rfl 0 (by decide) (hts _ kF_VA_28) (fun _ h9 => h9) rfl d_VA_checkTables_4 ?_
  refine va_get (D := (dC, dI)) (ci := 10) (v := .int aw_functionCount) (C := R_WA) (T := F_WA) (N := 21) hx hb hts i_WA hown hK hP 1 rfl rfl 6 (by decide) (hts _ kF_VA_49) (fun _ h9 => h9) paw_6 d_VA_checkTables_7 ?_
  refine lv_icmp_ge (tgt := 54) hx hb d_VA_checkTables_10 (by decide) (fun c10 => ?_) (fun c10 => ?_)
  · have q10 := leI c10
    refine lv_iconst (v := 0) hx hb d_VA_checkTables_54 (by decide) ?_
    refine lv_istore_n (lv' := [(1, .int 0), (0, .ref h0)]) hx hb d_VA_checkTables_55 rfl hl (by decide) rfl (fun ls hl => ?_)
    refine w_loop (σ := Int32 × Int32) (fun u H locs ls => match u with | (j56_l1, j56_h0_sound) => (0 ≤ j56_l1.toInt ∧ j56_l1.toInt ≤ 20) ∧ (j56_h0_sound = 0 ∨ j56_h0_sound = 1) ∧ (j56_l1.toInt ≤ aw_globalCount.toInt) ∧ (ctG T9 h0_sound j56_h0_sound j56_l1.toInt) ∧ va_P (dC, dI) cls [(h0, .inr (9, [.ref aw, .ref ac, .int j56_h0_sound, .int h0_function, .ref ty, .int h0_height, .ref bo, .ref bg, .ref bh, .ref bd, .int h0_depth])), (aw, .inr (10, law)), (waf, .inl (cwaf, 30, .inl gwaf)), (wgt, .inl (cwgt, 20, .inl gwgt)), (wft, .inl (cwft, 20, .inl gwft)), (wgc, .inl (cwgc, 20, .inl gwgc))] H ∧ va_D A [(h0, .inr (9, [.ref aw, .ref ac, .int j56_h0_sound, .int h0_function, .ref ty, .int h0_height, .ref bo, .ref bg, .ref bh, .ref bd, .int h0_depth])), (aw, .inr (10, law)), (waf, .inl (cwaf, 30, .inl gwaf)), (wgt, .inl (cwgt, 20, .inl gwgt)), (wft, .inl (cwft, 20, .inl gwft)), (wgc, .inl (cwgc, 20, .inl gwgc))] ∧ va_S A s.heap H locs ∧ lv_has ls 2 [(0, .ref h0), (1, .int j56_l1)]) (fun u => match u with | (j56_l1, j56_h0_sound) => (aw_globalCount.toInt - j56_l1.toInt).toNat) ?_ (0, j2_h0_sound) ⟨by (try dsimp only) <;> (first | (apply Int.le_antisymm <;> omega) | omega), b_j2_h0_sound, by (try dsimp only) <;> (first | (apply Int.le_antisymm <;> omega) | omega), (ctG_0 v2 (by (first | (apply Int.le_antisymm <;> omega) | omega)) (by decide)), hP, hD, hS, lv_sub hl [1, 0] rfl⟩
    intro N56 ih56 u H locs ls hN56 hI
    obtain ⟨j56_l1, j56_h0_sound⟩ := u
    obtain ⟨b_j56_l1, b_j56_h0_sound, u1, u2, hP, hD, hS, hl⟩ := hI
    have tj56_h0_sound := b01 b_j56_h0_sound
    have hN56 : (aw_globalCount.toInt - j56_l1.toInt).toNat < N56 + 1 := hN56
    refine lv_iload_n hx hb d_VA_checkTables_56 rfl (lv_at hl 1 rfl) ?_
    refine lv_aload_n hx hb d_VA_checkTables_57 rfl (lv_at hl 0 rfl) ?_
    refine va_get (D := (dC, dI)) (ci := 9) (v := .ref aw) (C := R_VA) (T := F_VA) (N := 11) hx hb hts i_VA hown hK hP 0 rfl rfl 0 (by decide) (hts _ kF_VA_28) (fun _ h9 => h9) rfl d_VA_checkTables_58 ?_
    refine va_get (D := (dC, dI)) (ci := 10) (v := .int aw_globalCount) (C := R_WA) (T := F_WA) (N := 21) hx hb hts i_WA hown hK hP 1 rfl rfl 11 (by decide) (hts _ kF_VA_63) (fun _ h9 => h9) paw_11 d_VA_checkTables_61 ?_
    refine lv_icmp_ge (tgt := 110) hx hb d_VA_checkTables_64 (by decide) (fun c64 => ?_) (fun c64 => ?_)
    · have q64 := leI c64
      refine lv_aload_n hx hb d_VA_checkTables_110 rfl (lv_at hl 0 rfl) ?_
      refine lv_aload_n hx hb d_VA_checkTables_111 rfl (lv_at hl 0 rfl) ?_
      refine va_get (D := (dC, dI)) (ci := 9) (v := .int j56_h0_sound) (C := R_VA) (T := F_VA) (N := 11) hx hb hts i_VA hown hK hP 0 rfl rfl 2 (by decide) (hts _ kF_VA_39) (fun _ h9 => h9) rfl d_VA_checkTables_112 ?_
      refine w_cut (pc2 := 181) (σ := Int32) (fun u H locs ls => match u with | j181_s0 => (j181_s0 = 0 ∨ j181_s0 = 1) ∧ ((j181_s0.toInt = 1 ∧ j56_h0_sound.toInt = 1 ∧ aw_pagesLeast.toInt ≤ 2 ∧ aw_pagesMost.toInt ≤ 65536 ∧ (aw_pagesMost.toInt < 0 ∨ aw_pagesLeast.toInt ≤ aw_pagesMost.toInt)) ∨ (j181_s0.toInt = 0 ∧ ¬ (j56_h0_sound.toInt = 1 ∧ aw_pagesLeast.toInt ≤ 2 ∧ aw_pagesMost.toInt ≤ 65536 ∧ (aw_pagesMost.toInt < 0 ∨ aw_pagesLeast.toInt ≤ aw_pagesMost.toInt)))) ∧ va_P (dC, dI) cls [(h0, .inr (9, [.ref aw, .ref ac, .int j56_h0_sound, .int h0_function, .ref ty, .int h0_height, .ref bo, .ref bg, .ref bh, .ref bd, .int h0_depth])), (aw, .inr (10, law)), (waf, .inl (cwaf, 30, .inl gwaf)), (wgt, .inl (cwgt, 20, .inl gwgt)), (wft, .inl (cwft, 20, .inl gwft)), (wgc, .inl (cwgc, 20, .inl gwgc))] H ∧ va_D A [(h0, .inr (9, [.ref aw, .ref ac, .int j56_h0_sound, .int h0_function, .ref ty, .int h0_height, .ref bo, .ref bg, .ref bh, .ref bd, .int h0_depth])), (aw, .inr (10, law)), (waf, .inl (cwaf, 30, .inl gwaf)), (wgt, .inl (cwgt, 20, .inl gwgt)), (wft, .inl (cwft, 20, .inl gwft)), (wgc, .inl (cwgc, 20, .inl gwgc))] ∧ va_S A s.heap H locs ∧ lv_has ls 2 []) (fun u => match u with | j181_s0 => [.int j181_s0, .ref h0]) ?_ (fun jn181 => ?_)
      · intro u H locs ls hI
        obtain ⟨j181_s0, rfl⟩ : ∃ z, z = u := ⟨_, rfl⟩
        obtain ⟨b_j181_s0, y181, hP, hD, hS, hl⟩ := hI
        have tj181_s0 := b01 b_j181_s0
        refine va_put (D := (dC, dI)) (ci := 9) (v := .int j181_s0) (ty := .boolean) (C := R_VA) (T := F_VA) (N := 11) hx hb hts i_VA t_VA t_VA_ok n_VA hown hK hP hD hS 0 rfl rfl 2 (by decide) (hts _ kF_VA_39) (fun _ h9 => h9) rfl (by decide +kernel) (zn01 (b_j181_s0)) (fz01 (b_j181_s0)) (Nat.le_of_ble_eq_true rfl) d_VA_checkTables_181 (fun H locs hP hD hS => ?_)
        have hP9 := hP.sb (wq := [(h0, .inr (9, [.ref aw, .ref ac, .int j181_s0, .int h0_function, .ref ty, .int h0_height, .ref bo, .ref bg, .ref bh, .ref bd, .int h0_depth])), (aw, .inr (10, law)), (waf, .inl (cwaf, 30, .inl gwaf)), (wgt, .inl (cwgt, 20, .inl gwgt)), (wft, .inl (cwft, 20, .inl gwft)), (wgc, .inl (cwgc, 20, .inl gwgc))]) [0, 1, 2, 3, 4, 5] rfl
        have hD9 := hD.sb (wq := [(h0, .inr (9, [.ref aw, .ref ac, .int j181_s0, .int h0_function, .ref ty, .int h0_height, .ref bo, .ref bg, .ref bh, .ref bd, .int h0_depth])), (aw, .inr (10, law)), (waf, .inl (cwaf, 30, .inl gwaf)), (wgt, .inl (cwgt, 20, .inl gwgt)), (wft, .inl (cwft, 20, .inl gwft)), (wgc, .inl (cwgc, 20, .inl gwgc))]) [0, 1, 2, 3, 4, 5] (by decide) rfl
        exact W.vret hx hb hr (fun t ht hW => ⟨⟨j181_s0, rfl, ⟨b_j181_s0, (ct_e u2 (by (first | (apply Int.le_antisymm <;> omega) | omega)) hme y181)⟩, va_P.he ht.symm hP9, va_K.moved hW.alike hK, hD9⟩, hS.F ht⟩) hS.2.2 d_VA_checkTables_184
      · skip
        refine lv_if_eq (tgt := 180) hx hb d_VA_checkTables_115 (by decide) (fun c115 => ?_) (fun c115 => ?_)
        · have q115 := eqI c115
          refine lv_iconst (v := 0) hx hb d_VA_checkTables_180 (by decide) ?_
          exact jn181 0 _ _ _ ⟨Or.inl rfl, by (try dsimp only) <;> (first | (apply Int.le_antisymm <;> omega) | omega), hP, hD, hS, lv_sub hl [] rfl⟩
        · have q115 := neI c115
          refine lv_aload_n hx hb d_VA_checkTables_118 rfl (lv_at hl 0 rfl) ?_
          refine va_get (D := (dC, dI)) (ci := 9) (v := .ref aw) (C := R_VA) (T := F_VA) (N := 11) hx hb hts i_VA hown hK hP 0 rfl rfl 0 (by decide) (hts _ kF_VA_28) (fun _ h9 => h9) rfl d_VA_checkTables_119 ?_
          refine va_get (D := (dC, dI)) (ci := 10) (v := .long aw_pagesLeast) (C := R_WA) (T := F_WA) (N := 21) hx hb hts i_WA hown hK hP 1 rfl rfl 9 (by decide) (hts _ kF_VA_72) (fun _ h9 => h9) paw_9 d_VA_checkTables_122 ?_
          refine lv_ldc2 hx hb hown (hts _ kL_VA_76) d_VA_checkTables_125 ?_
          refine lv_topl (fun x1 ex1 => ?_)
          have tx1 : x1.toInt = 2 := by rw [ex1]; decide
          refine W.lcmp hx hb d_VA_checkTables_128 ?_
          refine lv_topi (fun x2 ex2 => ?_)
          have tx2 := lgc ex2
          refine lv_if_gt (tgt := 180) hx hb d_VA_checkTables_129 (by decide) (fun c129 => ?_) (fun c129 => ?_)
          · have q129 := ltI c129
            refine lv_iconst (v := 0) hx hb d_VA_checkTables_180 (by decide) ?_
            exact jn181 0 _ _ _ ⟨Or.inl rfl, by (try dsimp only) <;> (first | (apply Int.le_antisymm <;> omega) | omega), hP, hD, hS, lv_sub hl [] rfl⟩
          · have q129 := nltI c129
            refine lv_aload_n hx hb d_VA_checkTables_132 rfl (lv_at hl 0 rfl) ?_
            refine va_get (D := (dC, dI)) (ci := 9) (v := .ref aw) (C := R_VA) (T := F_VA) (N := 11) hx hb hts i_VA hown hK hP 0 rfl rfl 0 (by decide) (hts _ kF_VA_28) (fun _ h9 => h9) rfl d_VA_checkTables_133 ?_
            refine va_get (D := (dC, dI)) (ci := 10) (v := .long aw_pagesMost) (C := R_WA) (T := F_WA) (N := 21) hx hb hts i_WA hown hK hP 1 rfl rfl 10 (by decide) (hts _ kF_VA_78) (fun _ h9 => h9) paw_10 d_VA_checkTables_136 ?_
            refine lv_ldc2 hx hb hown (hts _ kL_VA_81) d_VA_checkTables_139 ?_
            refine lv_topl (fun x3 ex3 => ?_)
            have tx3 : x3.toInt = 65536 := by rw [ex3]; decide
            refine W.lcmp hx hb d_VA_checkTables_142 ?_
            refine lv_topi (fun x4 ex4 => ?_)
            have tx4 := lgc ex4
            refine lv_if_gt (tgt := 180) hx hb d_VA_checkTables_143 (by decide) (fun c143 => ?_) (fun c143 => ?_)
            · have q143 := ltI c143
              refine lv_iconst (v := 0) hx hb d_VA_checkTables_180 (by decide) ?_
              exact jn181 0 _ _ _ ⟨Or.inl rfl, by (try dsimp only) <;> (first | (apply Int.le_antisymm <;> omega) | omega), hP, hD, hS, lv_sub hl [] rfl⟩
            · have q143 := nltI c143
              refine lv_aload_n hx hb d_VA_checkTables_146 rfl (lv_at hl 0 rfl) ?_
              refine va_get (D := (dC, dI)) (ci := 9) (v := .ref aw) (C := R_VA) (T := F_VA) (N := 11) hx hb hts i_VA hown hK hP 0 rfl rfl 0 (by decide) (hts _ kF_VA_28) (fun _ h9 => h9) rfl d_VA_checkTables_147 ?_
              refine va_get (D := (dC, dI)) (ci := 10) (v := .long aw_pagesMost) (C := R_WA) (T := F_WA) (N := 21) hx hb hts i_WA hown hK hP 1 rfl rfl 10 (by decide) (hts _ kF_VA_78) (fun _ h9 => h9) paw_10 d_VA_checkTables_150 ?_
              refine lv_lconst (v := 0) hx hb d_VA_checkTables_153 (by decide) ?_
              have kl0 : (0 : Int64).toInt = 0 := by decide
              refine W.lcmp hx hb d_VA_checkTables_154 ?_
              refine lv_topi (fun x5 ex5 => ?_)
              have tx5 := lgc ex5
              refine lv_if_lt (tgt := 176) hx hb d_VA_checkTables_155 (by decide) (fun c155 => ?_) (fun c155 => ?_)
              · have q155 := ltI c155
                refine lv_iconst (v := 1) hx hb d_VA_checkTables_176 (by decide) ?_
                refine lv_goto (tgt := 181) hx hb d_VA_checkTables_177 (by decide) ?_
                exact jn181 1 _ _ _ ⟨Or.inr rfl, by (try dsimp only) <;> (first | (apply Int.le_antisymm <;> omega) | omega), hP, hD, hS, lv_sub hl [] rfl⟩
              · have q155 := nltI c155
                refine lv_aload_n hx hb d_VA_checkTables_158 rfl (lv_at hl 0 rfl) ?_
                refine va_get (D := (dC, dI)) (ci := 9) (v := .ref aw) (C := R_VA) (T := F_VA) (N := 11) hx hb hts i_VA hown hK hP 0 rfl rfl 0 (by decide) (hts _ kF_VA_28) (fun _ h9 => h9) rfl d_VA_checkTables_159 ?_
                refine va_get (D := (dC, dI)) (ci := 10) (v := .long aw_pagesMost) (C := R_WA) (T := F_WA) (N := 21) hx hb hts i_WA hown hK hP 1 rfl rfl 10 (by decide) (hts _ kF_VA_78) (fun _ h9 => h9) paw_10 d_VA_checkTables_162 ?_
                refine lv_aload_n hx hb d_VA_checkTables_165 rfl (lv_at hl 0 rfl) ?_
                refine va_get (D := (dC, dI)) (ci := 9) (v := .ref aw) (C := R_VA) (T := F_VA) (N := 11) hx hb hts i_VA hown hK hP 0 rfl rfl 0 (by decide) (hts _ kF_VA_28) (fun _ h9 => h9) rfl d_VA_checkTables_166 ?_
                refine va_get (D := (dC, dI)) (ci := 10) (v := .long aw_pagesLeast) (C := R_WA) (T := F_WA) (N := 21) hx hb hts i_WA hown hK hP 1 rfl rfl 9 (by decide) (hts _ kF_VA_72) (fun _ h9 => h9) paw_9 d_VA_checkTables_169 ?_
                refine W.lcmp hx hb d_VA_checkTables_172 ?_
                refine lv_topi (fun x6 ex6 => ?_)
                have tx6 := lgc ex6
                refine lv_if_lt (tgt := 180) hx hb d_VA_checkTables_173 (by decide) (fun c173 => ?_) (fun c173 => ?_)
                · have q173 := ltI c173
                  refine lv_iconst (v := 0) hx hb d_VA_checkTables_180 (by decide) ?_
                  exact jn181 0 _ _ _ ⟨Or.inl rfl, by (try dsimp only) <;> (first | (apply Int.le_antisymm <;> omega) | omega), hP, hD, hS, lv_sub hl [] rfl⟩
                · have q173 := nltI c173
                  refine lv_iconst (v := 1) hx hb d_VA_checkTables_176 (by decide) ?_
                  refine lv_goto (tgt := 181) hx hb d_VA_checkTables_177 (by decide) ?_
                  exact jn181 1 _ _ _ ⟨Or.inr rfl, by (try dsimp only) <;> (first | (apply Int.le_antisymm <;> omega) | omega), hP, hD, hS, lv_sub hl [] rfl⟩
    · have q64 := nleI c64
      refine lv_aload_n hx hb d_VA_checkTables_67 rfl (lv_at hl 0 rfl) ?_
      refine lv_aload_n hx hb d_VA_checkTables_68 rfl (lv_at hl 0 rfl) ?_
      refine va_get (D := (dC, dI)) (ci := 9) (v := .int j56_h0_sound) (C := R_VA) (T := F_VA) (N := 11) hx hb hts i_VA hown hK hP 0 rfl rfl 2 (by decide) (hts _ kF_VA_39) (fun _ h9 => h9) rfl d_VA_checkTables_69 ?_
      refine w_cut (pc2 := 101) (σ := Int32) (fun u H locs ls => match u with | j101_s0 => (j101_s0 = 0 ∨ j101_s0 = 1) ∧ ((j101_s0.toInt = 1 ∧ j56_h0_sound.toInt = 1 ∧ (gwgt j56_l1.toInt.toNat).toInt = (gwft j56_l1.toInt.toNat).toInt) ∨ (j101_s0.toInt = 0 ∧ ¬ (j56_h0_sound.toInt = 1 ∧ (gwgt j56_l1.toInt.toNat).toInt = (gwft j56_l1.toInt.toNat).toInt))) ∧ va_P (dC, dI) cls [(h0, .inr (9, [.ref aw, .ref ac, .int j56_h0_sound, .int h0_function, .ref ty, .int h0_height, .ref bo, .ref bg, .ref bh, .ref bd, .int h0_depth])), (aw, .inr (10, law)), (waf, .inl (cwaf, 30, .inl gwaf)), (wgt, .inl (cwgt, 20, .inl gwgt)), (wft, .inl (cwft, 20, .inl gwft)), (wgc, .inl (cwgc, 20, .inl gwgc))] H ∧ va_D A [(h0, .inr (9, [.ref aw, .ref ac, .int j56_h0_sound, .int h0_function, .ref ty, .int h0_height, .ref bo, .ref bg, .ref bh, .ref bd, .int h0_depth])), (aw, .inr (10, law)), (waf, .inl (cwaf, 30, .inl gwaf)), (wgt, .inl (cwgt, 20, .inl gwgt)), (wft, .inl (cwft, 20, .inl gwft)), (wgc, .inl (cwgc, 20, .inl gwgc))] ∧ va_S A s.heap H locs ∧ lv_has ls 2 [(0, .ref h0), (1, .int j56_l1)]) (fun u => match u with | j101_s0 => [.int j101_s0, .ref h0]) ?_ (fun jn101 => ?_)
      · intro u H locs ls hI
        obtain ⟨j101_s0, rfl⟩ : ∃ z, z = u := ⟨_, rfl⟩
        obtain ⟨b_j101_s0, y101, hP, hD, hS, hl⟩ := hI
        have tj101_s0 := b01 b_j101_s0
        refine va_put (D := (dC, dI)) (ci := 9) (v := .int j101_s0) (ty := .boolean) (C := R_VA) (T := F_VA) (N := 11) hx hb hts i_VA t_VA t_VA_ok n_VA hown hK hP hD hS 0 rfl rfl 2 (by decide) (hts _ kF_VA_39) (fun _ h9 => h9) rfl (by decide +kernel) (zn01 (b_j101_s0)) (fz01 (b_j101_s0)) (Nat.le_of_ble_eq_true rfl) d_VA_checkTables_101 (fun H locs hP hD hS => ?_)
        obtain ⟨x7, ex7⟩ : ∃ z : Int32, z = j56_l1 + 1 := ⟨_, rfl⟩
        have tx7 : x7.toInt = j56_l1.toInt + 1 := by have z := i32_add ex7 (by (first | (apply Int.le_antisymm <;> omega) | omega)) (by (first | (apply Int.le_antisymm <;> omega) | omega)); first | exact z | (first | (apply Int.le_antisymm <;> omega) | omega)
        refine lv_iinc (v := x7) (lv' := [(1, .int x7), (0, .ref h0)]) hx hb d_VA_checkTables_104 hl (k := 1) rfl (by rw [ex7]; rfl) (by decide) rfl (fun ls hl => ?_)
        refine lv_goto (tgt := 56) hx hb d_VA_checkTables_107 (by decide) ?_
        exact ih56 (x7, j101_s0) _ _ _ (by show (aw_globalCount.toInt - x7.toInt).toNat < N56; (first | (apply Int.le_antisymm <;> omega) | omega)) ⟨by (try dsimp only) <;> (first | (apply Int.le_antisymm <;> omega) | omega), b_j101_s0, by (try dsimp only) <;> (first | (apply Int.le_antisymm <;> omega) | omega), (by rw [show x7.toInt = j56_l1.toInt + 1 from by (first | (apply Int.le_antisymm <;> omega) | omega)]; exact ctG_s u2 (by (first | (apply Int.le_antisymm <;> omega) | omega)) (by (first | (apply Int.le_antisymm <;> omega) | omega)) hga rfl rfl y101), hP, hD, hS, lv_sub hl [1, 0] rfl⟩
      · skip
        refine lv_if_eq (tgt := 100) hx hb d_VA_checkTables_72 (by decide) (fun c72 => ?_) (fun c72 => ?_)
        · have q72 := eqI c72
          refine lv_iconst (v := 0) hx hb d_VA_checkTables_100 (by decide) ?_
          exact jn101 0 _ _ _ ⟨Or.inl rfl, by (try dsimp only) <;> (first | (apply Int.le_antisymm <;> omega) | omega), hP, hD, hS, lv_sub hl [0, 1] rfl⟩
        · have q72 := neI c72
          refine lv_aload_n hx hb d_VA_checkTables_75 rfl (lv_at hl 0 rfl) ?_
          refine va_get (D := (dC, dI)) (ci := 9) (v := .ref aw) (C := R_VA) (T := F_VA) (N := 11) hx hb hts i_VA hown hK hP 0 rfl rfl 0 (by decide) (hts _ kF_VA_28) (fun _ h9 => h9) rfl d_VA_checkTables_76 ?_
          refine va_get (D := (dC, dI)) (ci := 10) (v := .ref wgt) (C := R_WA) (T := F_WA) (N := 21) hx hb hts i_WA hown hK hP 1 rfl rfl 12 (by decide) (hts _ kF_VA_66) (fun _ h9 => h9) paw_12 d_VA_checkTables_79 ?_
          refine lv_iload_n hx hb d_VA_checkTables_82 rfl (lv_at hl 1 rfl) ?_
          have g83 : vp_in j56_l1 20 := vp_in_iff.mpr ⟨by (first | (apply Int.le_antisymm <;> omega) | omega), by (first | (apply Int.le_antisymm <;> omega) | omega)⟩
          refine va_iald hx hb hK hP 3 1 rfl rfl g83 d_VA_checkTables_83 ?_
          refine lv_topi (fun x8 ex8 => ?_)
          have tx8 : x8.toInt = (gwgt j56_l1.toInt.toNat).toInt := by rw [ex8, show j56_l1.toNatClampNeg = j56_l1.toInt.toNat from by have := i32_clamp (x := j56_l1) (by (first | (apply Int.le_antisymm <;> omega) | omega)); (first | (apply Int.le_antisymm <;> omega) | omega)]
          refine lv_aload_n hx hb d_VA_checkTables_84 rfl (lv_at hl 0 rfl) ?_
          refine va_get (D := (dC, dI)) (ci := 9) (v := .ref aw) (C := R_VA) (T := F_VA) (N := 11) hx hb hts i_VA hown hK hP 0 rfl rfl 0 (by decide) (hts _ kF_VA_28) (fun _ h9 => h9) rfl d_VA_checkTables_85 ?_
          refine va_get (D := (dC, dI)) (ci := 10) (v := .ref wft) (C := R_WA) (T := F_WA) (N := 21) hx hb hts i_WA hown hK hP 1 rfl rfl 13 (by decide) (hts _ kF_VA_69) (fun _ h9 => h9) paw_13 d_VA_checkTables_88 ?_
          refine lv_iload_n hx hb d_VA_checkTables_91 rfl (lv_at hl 1 rfl) ?_
          have g92 : vp_in j56_l1 20 := vp_in_iff.mpr ⟨by (first | (apply Int.le_antisymm <;> omega) | omega), by (first | (apply Int.le_antisymm <;> omega) | omega)⟩
          refine va_iald hx hb hK hP 4 2 rfl rfl g92 d_VA_checkTables_92 ?_
          refine lv_topi (fun x9 ex9 => ?_)
          have tx9 : x9.toInt = (gwft j56_l1.toInt.toNat).toInt := by rw [ex9, show j56_l1.toNatClampNeg = j56_l1.toInt.toNat from by have := i32_clamp (x := j56_l1) (by (first | (apply Int.le_antisymm <;> omega) | omega)); (first | (apply Int.le_antisymm <;> omega) | omega)]
          refine lv_icmp_ne (tgt := 100) hx hb d_VA_checkTables_93 (by decide) (fun c93 => ?_) (fun c93 => ?_)
          · have q93 := neI c93
            refine lv_iconst (v := 0) hx hb d_VA_checkTables_100 (by decide) ?_
            exact jn101 0 _ _ _ ⟨Or.inl rfl, by (try dsimp only) <;> (first | (apply Int.le_antisymm <;> omega) | omega), hP, hD, hS, lv_sub hl [0, 1] rfl⟩
          · have q93 := eqI c93
            refine lv_iconst (v := 1) hx hb d_VA_checkTables_96 (by decide) ?_
            refine lv_goto (tgt := 101) hx hb d_VA_checkTables_97 (by decide) ?_
            exact jn101 1 _ _ _ ⟨Or.inr rfl, by (try dsimp only) <;> (first | (apply Int.le_antisymm <;> omega) | omega), hP, hD, hS, lv_sub hl [0, 1] rfl⟩
  · have q10 := nleI c10
    refine lv_aload_n hx hb d_VA_checkTables_13 rfl (lv_at hl 0 rfl) ?_
    refine lv_aload_n hx hb d_VA_checkTables_14 rfl (lv_at hl 0 rfl) ?_
    refine va_get (D := (dC, dI)) (ci := 9) (v := .int j2_h0_sound) (C := R_VA) (T := F_VA) (N := 11) hx hb hts i_VA hown hK hP 0 rfl rfl 2 (by decide) (hts _ kF_VA_39) (fun _ h9 => h9) rfl d_VA_checkTables_15 ?_
    refine w_cut (pc2 := 45) (σ := Int32) (fun u H locs ls => match u with | j45_s0 => (j45_s0 = 0 ∨ j45_s0 = 1) ∧ ((j45_s0.toInt = 1 ∧ j2_h0_sound.toInt = 1 ∧ (gwaf j2_l1.toInt.toNat).toInt < aw_typeCount.toInt) ∨ (j45_s0.toInt = 0 ∧ ¬ (j2_h0_sound.toInt = 1 ∧ (gwaf j2_l1.toInt.toNat).toInt < aw_typeCount.toInt))) ∧ va_P (dC, dI) cls [(h0, .inr (9, [.ref aw, .ref ac, .int j2_h0_sound, .int h0_function, .ref ty, .int h0_height, .ref bo, .ref bg, .ref bh, .ref bd, .int h0_depth])), (aw, .inr (10, law)), (waf, .inl (cwaf, 30, .inl gwaf)), (wgt, .inl (cwgt, 20, .inl gwgt)), (wft, .inl (cwft, 20, .inl gwft)), (wgc, .inl (cwgc, 20, .inl gwgc))] H ∧ va_D A [(h0, .inr (9, [.ref aw, .ref ac, .int j2_h0_sound, .int h0_function, .ref ty, .int h0_height, .ref bo, .ref bg, .ref bh, .ref bd, .int h0_depth])), (aw, .inr (10, law)), (waf, .inl (cwaf, 30, .inl gwaf)), (wgt, .inl (cwgt, 20, .inl gwgt)), (wft, .inl (cwft, 20, .inl gwft)), (wgc, .inl (cwgc, 20, .inl gwgc))] ∧ va_S A s.heap H locs ∧ lv_has ls 2 [(0, .ref h0), (1, .int j2_l1)]) (fun u => match u with | j45_s0 => [.int j45_s0, .ref h0]) ?_ (fun jn45 => ?_)
    · intro u H locs ls hI
      obtain ⟨j45_s0, rfl⟩ : ∃ z, z = u := ⟨_, rfl⟩
      obtain ⟨b_j45_s0, y45, hP, hD, hS, hl⟩ := hI
      have tj45_s0 := b01 b_j45_s0
      refine va_put (D := (dC, dI)) (ci := 9) (v := .int j45_s0) (ty := .boolean) (C := R_VA) (T := F_VA) (N := 11) hx hb hts i_VA t_VA t_VA_ok n_VA hown hK hP hD hS 0 rfl rfl 2 (by decide) (hts _ kF_VA_39) (fun _ h9 => h9) rfl (by decide +kernel) (zn01 (b_j45_s0)) (fz01 (b_j45_s0)) (Nat.le_of_ble_eq_true rfl) d_VA_checkTables_45 (fun H locs hP hD hS => ?_)
      obtain ⟨x10, ex10⟩ : ∃ z : Int32, z = j2_l1 + 1 := ⟨_, rfl⟩
      have tx10 : x10.toInt = j2_l1.toInt + 1 := by have z := i32_add ex10 (by (first | (apply Int.le_antisymm <;> omega) | omega)) (by (first | (apply Int.le_antisymm <;> omega) | omega)); first | exact z | (first | (apply Int.le_antisymm <;> omega) | omega)
      refine lv_iinc (v := x10) (lv' := [(1, .int x10), (0, .ref h0)]) hx hb d_VA_checkTables_48 hl (k := 1) rfl (by rw [ex10]; rfl) (by decide) rfl (fun ls hl => ?_)
      refine lv_goto (tgt := 2) hx hb d_VA_checkTables_51 (by decide) ?_
      exact ih2 (x10, j45_s0) _ _ _ (by show (aw_functionCount.toInt - x10.toInt).toNat < N2; (first | (apply Int.le_antisymm <;> omega) | omega)) ⟨by (try dsimp only) <;> (first | (apply Int.le_antisymm <;> omega) | omega), b_j45_s0, by (try dsimp only) <;> (first | (apply Int.le_antisymm <;> omega) | omega), (by rw [show x10.toInt = j2_l1.toInt + 1 from by (first | (apply Int.le_antisymm <;> omega) | omega)]; exact ctF_s v2 (by (first | (apply Int.le_antisymm <;> omega) | omega)) (by (first | (apply Int.le_antisymm <;> omega) | omega)) hfn rfl htb.2.1 y45), hP, hD, hS, lv_sub hl [1, 0] rfl⟩
    · skip
      refine lv_if_eq (tgt := 44) hx hb d_VA_checkTables_18 (by decide) (fun c18 => ?_) (fun c18 => ?_)
      · have q18 := eqI c18
        refine lv_iconst (v := 0) hx hb d_VA_checkTables_44 (by decide) ?_
        exact jn45 0 _ _ _ ⟨Or.inl rfl, by (try dsimp only) <;> (first | (apply Int.le_antisymm <;> omega) | omega), hP, hD, hS, lv_sub hl [0, 1] rfl⟩
      · have q18 := neI c18
        refine lv_aload_n hx hb d_VA_checkTables_21 rfl (lv_at hl 0 rfl) ?_
        refine va_get (D := (dC, dI)) (ci := 9) (v := .ref aw) (C := R_VA) (T := F_VA) (N := 11) hx hb hts i_VA hown hK hP 0 rfl rfl 0 (by decide) (hts _ kF_VA_28) (fun _ h9 => h9) rfl d_VA_checkTables_22 ?_
        refine va_get (D := (dC, dI)) (ci := 10) (v := .ref waf) (C := R_WA) (T := F_WA) (N := 21) hx hb hts i_WA hown hK hP 1 rfl rfl 7 (by decide) (hts _ kF_VA_57) (fun _ h9 => h9) paw_7 d_VA_checkTables_25 ?_
        refine lv_iload_n hx hb d_VA_checkTables_28 rfl (lv_at hl 1 rfl) ?_
        have g29 : vp_in j2_l1 30 := vp_in_iff.mpr ⟨by (first | (apply Int.le_antisymm <;> omega) | omega), by (first | (apply Int.le_antisymm <;> omega) | omega)⟩
        refine va_iald hx hb hK hP 2 0 rfl rfl g29 d_VA_checkTables_29 ?_
        refine lv_topi (fun x11 ex11 => ?_)
        have tx11 : x11.toInt = (gwaf j2_l1.toInt.toNat).toInt := by rw [ex11, show j2_l1.toNatClampNeg = j2_l1.toInt.toNat from by have := i32_clamp (x := j2_l1) (by (first | (apply Int.le_antisymm <;> omega) | omega)); (first | (apply Int.le_antisymm <;> omega) | omega)]
        refine lv_aload_n hx hb d_VA_checkTables_30 rfl (lv_at hl 0 rfl) ?_
        refine va_get (D := (dC, dI)) (ci := 9) (v := .ref aw) (C := R_VA) (T := F_VA) (N := 11) hx hb hts i_VA hown hK hP 0 rfl rfl 0 (by decide) (hts _ kF_VA_28) (fun _ h9 => h9) rfl d_VA_checkTables_31 ?_
        refine va_get (D := (dC, dI)) (ci := 10) (v := .int aw_typeCount) (C := R_WA) (T := F_WA) (N := 21) hx hb hts i_WA hown hK hP 1 rfl rfl 2 (by decide) (hts _ kF_VA_60) (fun _ h9 => h9) paw_2 d_VA_checkTables_34 ?_
        refine lv_icmp_ge (tgt := 44) hx hb d_VA_checkTables_37 (by decide) (fun c37 => ?_) (fun c37 => ?_)
        · have q37 := leI c37
          refine lv_iconst (v := 0) hx hb d_VA_checkTables_44 (by decide) ?_
          exact jn45 0 _ _ _ ⟨Or.inl rfl, by (try dsimp only) <;> (first | (apply Int.le_antisymm <;> omega) | omega), hP, hD, hS, lv_sub hl [0, 1] rfl⟩
        · have q37 := nleI c37
          refine lv_iconst (v := 1) hx hb d_VA_checkTables_40 (by decide) ?_
          refine lv_goto (tgt := 45) hx hb d_VA_checkTables_41 (by decide) ?_
          exact jn45 1 _ _ _ ⟨Or.inr rfl, by (try dsimp only) <;> (first | (apply Int.le_antisymm <;> omega) | omega), hP, hD, hS, lv_sub hl [0, 1] rfl⟩
abbrev at_VA_checkExportsy (dC : Nat → ClassId) (dI : Nat → Nat → Nat) (h0 aw ac ty bo bg bh bd ab wek wei wes wez ax : Nat) (cax cwek cwei cwes cwez : ClassId) (h0_function : Int32) (h0_height : Int32) (h0_depth : Int32) (law : List Value) (aw_functionCount : Int32) (aw_hasMemory : Int32) (aw_globalCount : Int32) (aw_exportCount : Int32) (ab_length : Int32) (gax : Nat → Int32) (gwek : Nat → Int32) (gwei : Nat → Int32) (gwes : Nat → Int32) (gwez : Nat → Int32) (A : Nat → Prop) (u : Int32) (t : State) : Prop := match u with | h0_sound => va_P (dC, dI) cls (wz_93 h0 aw ac h0_sound h0_function ty h0_height bo bg bh bd h0_depth aw law ab ax ab_length ax cax gax wek cwek gwek wei cwei gwei wes cwes gwes wez cwez gwez) t.heap ∧ va_K (dC, dI) cls [(cax, .byte), (cwek, .int), (cwei, .int), (cwes, .int), (cwez, .int)] t ∧ va_D A (wz_93 h0 aw ac h0_sound h0_function ty h0_height bo bg bh bd h0_depth aw law ab ax ab_length ax cax gax wek cwek gwek wei cwei gwei wes cwes gwes wez cwez gwez)
set_option maxHeartbeats 4000000 in
set_option maxRecDepth 100000 in
theorem c_VA_checkExportsy (l : Launch) (dC : Nat → ClassId) (dI : Nat → Nat → Nat) (sz : Nat) (h0 aw ac ty bo bg bh bd ab wek wei wes wez ax : Nat) (cax cwek cwei cwes cwez : ClassId) (h0_sound : Int32) (h0_function : Int32) (h0_height : Int32) (h0_depth : Int32) (law : List Value) (aw_functionCount : Int32) (aw_hasMemory : Int32) (aw_globalCount : Int32) (aw_exportCount : Int32) (ab_length : Int32) (gax : Nat → Int32) (gwek : Nat → Int32) (gwei : Nat → Int32) (gwes : Nat → Int32) (gwez : Nat → Int32) (T9 : zTab) (paw_0 : law[0]? = some (.ref ab)) (paw_6 : law[6]? = some (.int aw_functionCount)) (paw_8 : law[8]? = some (.int aw_hasMemory)) (paw_11 : law[11]? = some (.int aw_globalCount)) (paw_16 : law[16]? = some (.int aw_exportCount)) (paw_17 : law[17]? = some (.ref wek)) (paw_18 : law[18]? = some (.ref wei)) (paw_19 : law[19]? = some (.ref wes)) (paw_20 : law[20]? = some (.ref wez)) (plaw : law.length = 21) (b_h0_sound : h0_sound = 0 ∨ h0_sound = 1) (b_ab_length : 0 ≤ ab_length.toInt ∧ ab_length.toInt ≤ 8192) (b_aw_functionCount : 0 ≤ aw_functionCount.toInt ∧ aw_functionCount.toInt ≤ 30) (b_aw_hasMemory : aw_hasMemory = 0 ∨ aw_hasMemory = 1) (b_aw_globalCount : 0 ≤ aw_globalCount.toInt ∧ aw_globalCount.toInt ≤ 20) (b_aw_exportCount : 0 ≤ aw_exportCount.toInt ∧ aw_exportCount.toInt ≤ 40)   (htb : aw_functionCount.toInt = (T9.2.1.length : Int) ∧ aw_globalCount.toInt = (T9.2.2.2.1.length : Int) ∧ aw_exportCount.toInt = (T9.2.2.2.2.1.length : Int) ∧ aw_hasMemory.toInt = (T9.2.2.1.1 : Int) ∧ 0 ≤ ab_length.toInt ∧ ab_length.toInt ≤ 8192) (hex : bx (exA gwes gwez gwek gwei T9.2.2.2.2.1)) (hxk : bx (∀ e ∈ T9.2.2.2.2.1, (e.2.2.1 = 0 ∨ e.2.2.1 = 2 ∨ e.2.2.1 = 3) ∧ (e.1 : Int) + e.2.1 ≤ ab_length.toInt)) (hbr : bx (∀ j : Nat, (j : Int) < ab_length.toInt → -128 ≤ (gax j).toInt ∧ (gax j).toInt ≤ 127)) : Met l y_VA_checkExports w_VA_checkExports ({ frames := 1, cells := 0, slots := 0, locals := 24 }) (va_Pc [.ref h0] (fun U => U.heap.size = sz ∧ va_P (dC, dI) cls (wz_93 h0 aw ac h0_sound h0_function ty h0_height bo bg bh bd h0_depth aw law ab ax ab_length ax cax gax wek cwek gwek wei cwei gwei wes cwes gwes wez cwez gwez) U.heap ∧ va_K (dC, dI) cls [(cax, .byte), (cwek, .int), (cwei, .int), (cwes, .int), (cwez, .int)] U ∧ va_D (fun _ => True) (wz_93 h0 aw ac h0_sound h0_function ty h0_height bo bg bh bd h0_depth aw law ab ax ab_length ax cax gax wek cwek gwek wei cwei gwei wes cwes gwes wez cwez gwez))) (va_Qv (fun (u : Int32) => match u with | h0_sound2 => (h0_sound2 = 0 ∨ h0_sound2 = 1) ∧ ((h0_sound2.toInt = 1 ∧ h0_sound.toInt = 1 ∧ vexps gax T9 T9.2.2.2.2.1 [] = true) ∨ (h0_sound2.toInt = 0 ∧ (h0_sound.toInt = 1 → vexps gax T9 T9.2.2.2.2.1 [] = false)))) (at_VA_checkExportsy dC dI h0 aw ac ty bo bg bh bd ab wek wei wes wez ax cax cwek cwei cwes cwez h0_function h0_height h0_depth law aw_functionCount aw_hasMemory aw_globalCount aw_exportCount ab_length gax gwek gwei gwes gwez (va_A (wz_93 h0 aw ac h0_sound h0_function ty h0_height bo bg bh bd h0_depth aw law ab ax ab_length ax cax gax wek cwek gwek wei cwei gwei wes cwes gwes wez cwez gwez) sz)) (va_A (wz_93 h0 aw ac h0_sound h0_function ty h0_height bo bg bh bd h0_depth aw law ab ax ab_length ax cax gax wek cwek gwek wei cwei gwei wes cwes gwes wez cwez gwez) sz)) 0 0 (va_A (wz_93 h0 aw ac h0_sound h0_function ty h0_height bo bg bh bd h0_depth aw law ab ax ab_length ax cax gax wek cwek gwek wei cwei gwei wes cwes gwes wez cwez gwez) sz) := by
  refine Met.ofW (cc := b_VA_checkExports) (maxL := 4) (ret := none) (by decide) rfl ?_
  intro p e s m args below meth c s₁ B hml hv
  obtain ⟨rfl, hsz, hP, hK, hD0⟩ := hv
  have hx := B.exec
  have hb := B.bytes
  have hr := B.returns
  have hts0 := atoms_spec (ws := w_VA_checkExports) B.pre
  have hts : ∀ w ∈ lw_g, w.before _ s = true := fun w h => hts0 w (List.mem_cons_of_mem _ h)
  have hown : s.vm.findClass R_VA = some m.cls := findClass_of_methodNamed B.named
  have hlocks := B.notSynchronized
  clear hts0
  subst hsz
  have hD := hD0.self (sz := s.heap.size)
  generalize hAe : va_A (wz_93 h0 aw ac h0_sound h0_function ty h0_height bo bg bh bd h0_depth aw law ab ax ab_length ax cax gax wek cwek gwek wei cwei gwei wes cwes gwes wez cwez gwez) s.heap.size = A at hD ⊢
  have hA : ∀ q : Nat, s.heap.size ≤ q → A q := fun q h => by rw [← hAe]; exact Or.inr h
  clear hAe
  have hP : va_P (dC, dI) cls (wz_93 h0 aw ac h0_sound h0_function ty h0_height bo bg bh bd h0_depth aw law ab ax ab_length ax cax gax wek cwek gwek wei cwei gwei wes cwes gwes wez cwez gwez) s.heap := hP
  have hl := lv_entry ([.ref h0]) (n := 4) (Nat.le_of_ble_eq_true rfl)
  rw [lg_entry_eq]
  generalize (lg_sl ([.ref h0]) ++ List.replicate (4 - (lg_sl ([.ref h0])).length) Slot.unset).toArray = ls at hl ⊢
  have hl : lv_has ls 4 [(0, .ref h0)] := hl
  have k0 : (0 : Int32).toInt = 0 := by decide
  refine w_gen (A := A) hP (fun H locs hP hS => ?_)
  have k1 : (1 : Int32).toInt = 1 := by decide
  have k3 : (3 : Int32).toInt = 3 := by decide
  have th0_sound := b01 b_h0_sound
  have taw_hasMemory := b01 b_aw_hasMemory
  refine lv_iconst (v := 0) hx hb d_VA_checkExports_0 (by decide) ?_
  refine lv_istore_n (lv' := [(1, .int 0), (0, .ref h0)]) hx hb d_VA_checkExports_1 rfl hl (by decide) rfl (fun ls hl => ?_)
  refine w_loop (σ := Int32 × Int32) (fun u H locs ls => match u with | (j2_l1, j2_h0_sound) => (0 ≤ j2_l1.toInt ∧ j2_l1.toInt ≤ 40) ∧ (j2_h0_sound = 0 ∨ j2_h0_sound = 1) ∧ (j2_l1.toInt ≤ aw_exportCount.toInt) ∧ (exK gax T9 h0_sound j2_h0_sound j2_l1.toInt) ∧ va_P (dC, dI) cls (wz_93 h0 aw ac j2_h0_sound h0_function ty h0_height bo bg bh bd h0_depth aw law ab ax ab_length ax cax gax wek cwek gwek wei cwei gwei wes cwes gwes wez cwez gwez) H ∧ va_D A (wz_93 h0 aw ac j2_h0_sound h0_function ty h0_height bo bg bh bd h0_depth aw law ab ax ab_length ax cax gax wek cwek gwek wei cwei gwei wes cwes gwes wez cwez gwez) ∧ va_S A s.heap H locs ∧ lv_has ls 4 [(0, .ref h0), (1, .int j2_l1)]) (fun u => match u with | (j2_l1, j2_h0_sound) => (aw_exportCount.toInt - j2_l1.toInt).toNat) ?_ (0, h0_sound) ⟨by (try dsimp only) <;> (first | (apply Int.le_antisymm <;> omega) | omega), b_h0_sound, by (try dsimp only) <;> (first | (apply Int.le_antisymm <;> omega) | omega), (exK_0 th0_sound (by decide)), hP, hD, hS, lv_sub hl [1, 0] rfl⟩
  intro N2 ih2 u H locs ls hN2 hI
  obtain ⟨j2_l1, j2_h0_sound⟩ := u
  obtain ⟨b_j2_l1, b_j2_h0_sound, v1, v2, hP, hD, hS, hl⟩ := hI
  have tj2_h0_sound := b01 b_j2_h0_sound
  have hN2 : (aw_exportCount.toInt - j2_l1.toInt).toNat < N2 + 1 := hN2
  refine lv_iload_n hx hb d_VA_checkExports_2 rfl (lv_at hl 1 rfl) ?_
  refine lv_aload_n hx hb d_VA_checkExports_3 rfl (lv_at hl 0 rfl) ?_
  refine va_get (D := (dC, dI)) (ci := 9) (v := .ref aw) (C := R_VA) (T := F_VA) (N := 11) hx hb hts i_VA hown hK hP 0 rfl rfl 0 (by decide) (hts _ kF_VA_28) (fun _ h9 => h9) rfl d_VA_checkExports_4 ?_
  refine va_get (D := (dC, dI)) (ci := 10) (v := .int aw_exportCount) (C := R_WA) (T := F_WA) (N := 21) hx hb hts i_WA hown hK hP 1 rfl rfl 16 (by decide) (hts _ kF_VA_83) (fun _ h9 => h9) paw_16 d_VA_checkExports_7 ?_
  refine lv_icmp_ge (tgt := 199) hx hb d_VA_checkExports_10 (by decide) (fun c10 => ?_) (fun c10 => ?_)
  · have q10 := leI c10
    have hP9 := hP.sb (wq := (wz_93 h0 aw ac j2_h0_sound h0_function ty h0_height bo bg bh bd h0_depth aw law ab ax ab_length ax cax gax wek cwek gwek wei cwei gwei wes cwes gwes wez cwez gwez)) [0, 1, 2, 3, 4, 5, 6, 7] rfl
    have hD9 := hD.sb (wq := (wz_93 h0 aw ac j2_h0_sound h0_function ty h0_height bo bg bh bd h0_depth aw law ab ax ab_length ax cax gax wek cwek gwek wei cwei gwei wes cwes gwes wez cwez gwez)) [0, 1, 2, 3, 4, 5, 6, 7] (by decide) rfl
    exact W.vret hx hb hr (fun t ht hW => ⟨⟨j2_h0_sound, rfl, ⟨b_j2_h0_sound, (exK_e v2 (by (first | (apply Int.le_antisymm <;> omega) | omega)))⟩, va_P.he ht.symm hP9, va_K.moved hW.alike hK, hD9⟩, hS.F ht⟩) hS.2.2 d_VA_checkExports_199
  · have q10 := nleI c10
    have hk2 : j2_l1.toInt.toNat < T9.2.2.2.2.1.length := by (first | (apply Int.le_antisymm <;> omega) | omega)
    have he2 := List.getElem?_eq_getElem hk2
    obtain ⟨e9, ee9⟩ : ∃ e, e = T9.2.2.2.2.1[j2_l1.toInt.toNat] := ⟨_, rfl⟩
    rw [← ee9] at he2
    obtain ⟨x1, x2, x3, x4⟩ := hex.out _ _ he2
    have x5 := hxk.out e9 (List.mem_of_getElem? he2)
    refine lv_aload_n hx hb d_VA_checkExports_13 rfl (lv_at hl 0 rfl) ?_
    refine va_get (D := (dC, dI)) (ci := 9) (v := .ref aw) (C := R_VA) (T := F_VA) (N := 11) hx hb hts i_VA hown hK hP 0 rfl rfl 0 (by decide) (hts _ kF_VA_28) (fun _ h9 => h9) rfl d_VA_checkExports_14 ?_
    refine va_get (D := (dC, dI)) (ci := 10) (v := .ref wek) (C := R_WA) (T := F_WA) (N := 21) hx hb hts i_WA hown hK hP 1 rfl rfl 17 (by decide) (hts _ kF_VA_86) (fun _ h9 => h9) paw_17 d_VA_checkExports_17 ?_
    refine lv_iload_n hx hb d_VA_checkExports_20 rfl (lv_at hl 1 rfl) ?_
    have g21 : vp_in j2_l1 40 := vp_in_iff.mpr ⟨by (first | (apply Int.le_antisymm <;> omega) | omega), by (first | (apply Int.le_antisymm <;> omega) | omega)⟩
    refine va_iald hx hb hK hP 4 1 rfl rfl g21 d_VA_checkExports_21 ?_
    refine lv_topi (fun x1 ex1 => ?_)
    have tx1 : x1.toInt = (gwek j2_l1.toInt.toNat).toInt := by rw [ex1, show j2_l1.toNatClampNeg = j2_l1.toInt.toNat from by have := i32_clamp (x := j2_l1) (by (first | (apply Int.le_antisymm <;> omega) | omega)); (first | (apply Int.le_antisymm <;> omega) | omega)]
    refine w_cut (pc2 := 73) (σ := Int32) (fun u H locs ls => match u with | j73_s0 => ((j73_s0.toInt = (exth T9 e9 : Int))) ∧ va_P (dC, dI) cls (wz_93 h0 aw ac j2_h0_sound h0_function ty h0_height bo bg bh bd h0_depth aw law ab ax ab_length ax cax gax wek cwek gwek wei cwei gwei wes cwes gwes wez cwez gwez) H ∧ va_D A (wz_93 h0 aw ac j2_h0_sound h0_function ty h0_height bo bg bh bd h0_depth aw law ab ax ab_length ax cax gax wek cwek gwek wei cwei gwei wes cwes gwes wez cwez gwez) ∧ va_S A s.heap H locs ∧ lv_has ls 4 [(0, .ref h0), (1, .int j2_l1)]) (fun u => match u with | j73_s0 => [.int j73_s0]) ?_ (fun jn73 => ?_)
    · intro u H locs ls hI
      obtain ⟨j73_s0, rfl⟩ : ∃ z, z = u := ⟨_, rfl⟩
      obtain ⟨y73, hP, hD, hS, hl⟩ := hI
      refine lv_istore_n (lv' := [(2, .int j73_s0), (0, .ref h0), (1, .int j2_l1)]) hx hb d_VA_checkExports_73 rfl hl (by decide) rfl (fun ls hl => ?_)
      refine lv_aload_n hx hb d_VA_checkExports_74 rfl (lv_at hl 1 rfl) ?_
      refine lv_aload_n hx hb d_VA_checkExports_75 rfl (lv_at hl 1 rfl) ?_
      refine va_get (D := (dC, dI)) (ci := 9) (v := .int j2_h0_sound) (C := R_VA) (T := F_VA) (N := 11) hx hb hts i_VA hown hK hP 0 rfl rfl 2 (by decide) (hts _ kF_VA_39) (fun _ h9 => h9) rfl d_VA_checkExports_76 ?_
      refine w_cut (pc2 := 100) (σ := Int32) (fun u H locs ls => match u with | j100_s0 => (j100_s0 = 0 ∨ j100_s0 = 1) ∧ ((j100_s0.toInt = 1 ∧ j2_h0_sound.toInt = 1 ∧ (gwei j2_l1.toInt.toNat).toInt < j73_s0.toInt) ∨ (j100_s0.toInt = 0 ∧ ¬ (j2_h0_sound.toInt = 1 ∧ (gwei j2_l1.toInt.toNat).toInt < j73_s0.toInt))) ∧ va_P (dC, dI) cls (wz_93 h0 aw ac j2_h0_sound h0_function ty h0_height bo bg bh bd h0_depth aw law ab ax ab_length ax cax gax wek cwek gwek wei cwei gwei wes cwes gwes wez cwez gwez) H ∧ va_D A (wz_93 h0 aw ac j2_h0_sound h0_function ty h0_height bo bg bh bd h0_depth aw law ab ax ab_length ax cax gax wek cwek gwek wei cwei gwei wes cwes gwes wez cwez gwez) ∧ va_S A s.heap H locs ∧ lv_has ls 4 [(0, .ref h0), (1, .int j2_l1)]) (fun u => match u with | j100_s0 => [.int j100_s0, .ref h0]) ?_ (fun jn100 => ?_)
      · intro u H locs ls hI
        obtain ⟨j100_s0, rfl⟩ : ∃ z, z = u := ⟨_, rfl⟩
        obtain ⟨b_j100_s0, y100, hP, hD, hS, hl⟩ := hI
        have tj100_s0 := b01 b_j100_s0
        refine va_put (D := (dC, dI)) (ci := 9) (v := .int j100_s0) (ty := .boolean) (C := R_VA) (T := F_VA) (N := 11) hx hb hts i_VA t_VA t_VA_ok n_VA hown hK hP hD hS 0 rfl rfl 2 (by decide) (hts _ kF_VA_39) (fun _ h9 => h9) rfl (by decide +kernel) (zn01 (b_j100_s0)) (fz01 (b_j100_s0)) (Nat.le_of_ble_eq_true rfl) d_VA_checkExports_100 (fun H locs hP hD hS => ?_)
        refine lv_iconst (v := 0) hx hb d_VA_checkExports_103 (by decide) ?_
        refine lv_istore_n (lv' := [(3, .int 0), (0, .ref h0), (1, .int j2_l1)]) hx hb d_VA_checkExports_104 rfl hl (by decide) rfl (fun ls hl => ?_)
        refine w_loop (σ := Int32 × Int32) (fun u H locs ls => match u with | (j105_l3, j105_h0_sound) => (0 ≤ j105_l3.toInt ∧ j105_l3.toInt ≤ 40) ∧ (j105_h0_sound = 0 ∨ j105_h0_sound = 1) ∧ (j105_l3.toInt ≤ j2_l1.toInt) ∧ (exN gax e9 (T9.2.2.2.2.1.take j2_l1.toInt.toNat) j100_s0 j105_h0_sound j105_l3.toInt) ∧ va_P (dC, dI) cls (wz_93 h0 aw ac j105_h0_sound h0_function ty h0_height bo bg bh bd h0_depth aw law ab ax ab_length ax cax gax wek cwek gwek wei cwei gwei wes cwes gwes wez cwez gwez) H ∧ va_D A (wz_93 h0 aw ac j105_h0_sound h0_function ty h0_height bo bg bh bd h0_depth aw law ab ax ab_length ax cax gax wek cwek gwek wei cwei gwei wes cwes gwes wez cwez gwez) ∧ va_S A s.heap H locs ∧ lv_has ls 4 [(0, .ref h0), (1, .int j2_l1), (3, .int j105_l3)]) (fun u => match u with | (j105_l3, j105_h0_sound) => (j2_l1.toInt - j105_l3.toInt).toNat) ?_ (0, j100_s0) ⟨by (try dsimp only) <;> (first | (apply Int.le_antisymm <;> omega) | omega), b_j100_s0, by (try dsimp only) <;> (first | (apply Int.le_antisymm <;> omega) | omega), (exN_0 (by (first | (apply Int.le_antisymm <;> omega) | omega)) (by decide)), hP, hD, hS, lv_sub hl [1, 2, 0] rfl⟩
        intro N105 ih105 u H locs ls hN105 hI
        obtain ⟨j105_l3, j105_h0_sound⟩ := u
        obtain ⟨b_j105_l3, b_j105_h0_sound, u1, u2, hP, hD, hS, hl⟩ := hI
        have tj105_h0_sound := b01 b_j105_h0_sound
        have hN105 : (j2_l1.toInt - j105_l3.toInt).toNat < N105 + 1 := hN105
        refine lv_iload_n hx hb d_VA_checkExports_105 rfl (lv_at hl 2 rfl) ?_
        refine lv_iload_n hx hb d_VA_checkExports_106 rfl (lv_at hl 1 rfl) ?_
        refine lv_icmp_ge (tgt := 193) hx hb d_VA_checkExports_107 (by decide) (fun c107 => ?_) (fun c107 => ?_)
        · have q107 := leI c107
          obtain ⟨x2, ex2⟩ : ∃ z : Int32, z = j2_l1 + 1 := ⟨_, rfl⟩
          have tx2 : x2.toInt = j2_l1.toInt + 1 := by have z := i32_add ex2 (by (first | (apply Int.le_antisymm <;> omega) | omega)) (by (first | (apply Int.le_antisymm <;> omega) | omega)); first | exact z | (first | (apply Int.le_antisymm <;> omega) | omega)
          refine lv_iinc (v := x2) (lv' := [(1, .int x2), (0, .ref h0), (3, .int j105_l3)]) hx hb d_VA_checkExports_193 hl (k := 1) rfl (by rw [ex2]; rfl) (by decide) rfl (fun ls hl => ?_)
          refine lv_goto (tgt := 2) hx hb d_VA_checkExports_196 (by decide) ?_
          exact ih2 (x2, j105_h0_sound) _ _ _ (by show (aw_exportCount.toInt - x2.toInt).toNat < N2; (first | (apply Int.le_antisymm <;> omega) | omega)) ⟨by (try dsimp only) <;> (first | (apply Int.le_antisymm <;> omega) | omega), b_j105_h0_sound, by (try dsimp only) <;> (first | (apply Int.le_antisymm <;> omega) | omega), (by rw [show x2.toInt = j2_l1.toInt + 1 from by (first | (apply Int.le_antisymm <;> omega) | omega)]; exact exK_s v2 (by (first | (apply Int.le_antisymm <;> omega) | omega)) he2 (by (first | (apply Int.le_antisymm <;> omega) | omega)) u2 (by (first | (apply Int.le_antisymm <;> omega) | omega))), hP, hD, hS, lv_sub hl [1, 0] rfl⟩
        · have q107 := nleI c107
          have hk3 : j105_l3.toInt.toNat < T9.2.2.2.2.1.length := by (first | (apply Int.le_antisymm <;> omega) | omega)
          have he3 := List.getElem?_eq_getElem hk3
          obtain ⟨e8, ee8⟩ : ∃ e, e = T9.2.2.2.2.1[j105_l3.toInt.toNat] := ⟨_, rfl⟩
          rw [← ee8] at he3
          obtain ⟨w1, w2, w3, w4⟩ := hex.out _ _ he3
          have w5 := hxk.out e8 (List.mem_of_getElem? he3)
          have he4 : (T9.2.2.2.2.1.take j2_l1.toInt.toNat)[j105_l3.toInt.toNat]? = some e8 := by rw [List.getElem?_take_of_lt (by (first | (apply Int.le_antisymm <;> omega) | omega))]; exact he3
          refine lv_aload_n hx hb d_VA_checkExports_110 rfl (lv_at hl 0 rfl) ?_
          refine lv_aload_n hx hb d_VA_checkExports_111 rfl (lv_at hl 0 rfl) ?_
          refine va_get (D := (dC, dI)) (ci := 9) (v := .int j105_h0_sound) (C := R_VA) (T := F_VA) (N := 11) hx hb hts i_VA hown hK hP 0 rfl rfl 2 (by decide) (hts _ kF_VA_39) (fun _ h9 => h9) rfl d_VA_checkExports_112 ?_
          refine w_cut (pc2 := 184) (σ := Int32) (fun u H locs ls => match u with | j184_s0 => (j184_s0 = 0 ∨ j184_s0 = 1) ∧ ((j184_s0.toInt = 1 ∧ j105_h0_sound.toInt = 1 ∧ exB gax e9 e8 = true) ∨ (j184_s0.toInt = 0 ∧ ¬ (j105_h0_sound.toInt = 1 ∧ exB gax e9 e8 = true))) ∧ va_P (dC, dI) cls (wz_93 h0 aw ac j105_h0_sound h0_function ty h0_height bo bg bh bd h0_depth aw law ab ax ab_length ax cax gax wek cwek gwek wei cwei gwei wes cwes gwes wez cwez gwez) H ∧ va_D A (wz_93 h0 aw ac j105_h0_sound h0_function ty h0_height bo bg bh bd h0_depth aw law ab ax ab_length ax cax gax wek cwek gwek wei cwei gwei wes cwes gwes wez cwez gwez) ∧ va_S A s.heap H locs ∧ lv_has ls 4 [(0, .ref h0), (1, .int j2_l1), (3, .int j105_l3)]) (fun u => match u with | j184_s0 => [.int j184_s0, .ref h0]) ?_ (fun jn184 => ?_)
          · intro u H locs ls hI
            obtain ⟨j184_s0, rfl⟩ : ∃ z, z = u := ⟨_, rfl⟩
            obtain ⟨b_j184_s0, y184, hP, hD, hS, hl⟩ := hI
            have tj184_s0 := b01 b_j184_s0
            refine va_put (D := (dC, dI)) (ci := 9) (v := .int j184_s0) (ty := .boolean) (C := R_VA) (T := F_VA) (N := 11) hx hb hts i_VA t_VA t_VA_ok n_VA hown hK hP hD hS 0 rfl rfl 2 (by decide) (hts _ kF_VA_39) (fun _ h9 => h9) rfl (by decide +kernel) (zn01 (b_j184_s0)) (fz01 (b_j184_s0)) (Nat.le_of_ble_eq_true rfl) d_VA_checkExports_184 (fun H locs hP hD hS => ?_)
            obtain ⟨x3, ex3⟩ : ∃ z : Int32, z = j105_l3 + 1 := ⟨_, rfl⟩
            have tx3 : x3.toInt = j105_l3.toInt + 1 := by have z := i32_add ex3 (by (first | (apply Int.le_antisymm <;> omega) | omega)) (by (first | (apply Int.le_antisymm <;> omega) | omega)); first | exact z | (first | (apply Int.le_antisymm <;> omega) | omega)
            refine lv_iinc (v := x3) (lv' := [(3, .int x3), (0, .ref h0), (1, .int j2_l1)]) hx hb d_VA_checkExports_187 hl (k := 2) rfl (by rw [ex3]; rfl) (by decide) rfl (fun ls hl => ?_)
            refine lv_goto (tgt := 105) hx hb d_VA_checkExports_190 (by decide) ?_
            exact ih105 (x3, j184_s0) _ _ _ (by show (j2_l1.toInt - x3.toInt).toNat < N105; (first | (apply Int.le_antisymm <;> omega) | omega)) ⟨by (try dsimp only) <;> (first | (apply Int.le_antisymm <;> omega) | omega), b_j184_s0, by (try dsimp only) <;> (first | (apply Int.le_antisymm <;> omega) | omega), (by rw [show x3.toInt = j105_l3.toInt + 1 from by (first | (apply Int.le_antisymm <;> omega) | omega)]; exact exN_s u2 (by (first | (apply Int.le_antisymm <;> omega) | omega)) he4 y184), hP, hD, hS, lv_sub hl [1, 2, 0] rfl⟩
          · skip
            refine lv_if_eq (tgt := 183) hx hb d_VA_checkExports_115 (by decide) (fun c115 => ?_) (fun c115 => ?_)
            · have q115 := eqI c115
              refine lv_iconst (v := 0) hx hb d_VA_checkExports_183 (by decide) ?_
              exact jn184 0 _ _ _ ⟨Or.inl rfl, (Or.inr ⟨by decide, fun z => absurd z.1 (by (first | (apply Int.le_antisymm <;> omega) | omega))⟩), hP, hD, hS, lv_sub hl [0, 1, 2] rfl⟩
            · have q115 := neI c115
              refine lv_aload_n hx hb d_VA_checkExports_118 rfl (lv_at hl 0 rfl) ?_
              refine va_get (D := (dC, dI)) (ci := 9) (v := .ref aw) (C := R_VA) (T := F_VA) (N := 11) hx hb hts i_VA hown hK hP 0 rfl rfl 0 (by decide) (hts _ kF_VA_28) (fun _ h9 => h9) rfl d_VA_checkExports_119 ?_
              refine va_get (D := (dC, dI)) (ci := 10) (v := .ref wez) (C := R_WA) (T := F_WA) (N := 21) hx hb hts i_WA hown hK hP 1 rfl rfl 20 (by decide) (hts _ kF_VA_95) (fun _ h9 => h9) paw_20 d_VA_checkExports_122 ?_
              refine lv_iload_n hx hb d_VA_checkExports_125 rfl (lv_at hl 1 rfl) ?_
              have g126 : vp_in j2_l1 40 := vp_in_iff.mpr ⟨by (first | (apply Int.le_antisymm <;> omega) | omega), by (first | (apply Int.le_antisymm <;> omega) | omega)⟩
              refine va_iald hx hb hK hP 7 4 rfl rfl g126 d_VA_checkExports_126 ?_
              refine lv_topi (fun x4 ex4 => ?_)
              have tx4 : x4.toInt = (gwez j2_l1.toInt.toNat).toInt := by rw [ex4, show j2_l1.toNatClampNeg = j2_l1.toInt.toNat from by have := i32_clamp (x := j2_l1) (by (first | (apply Int.le_antisymm <;> omega) | omega)); (first | (apply Int.le_antisymm <;> omega) | omega)]
              refine lv_aload_n hx hb d_VA_checkExports_127 rfl (lv_at hl 0 rfl) ?_
              refine va_get (D := (dC, dI)) (ci := 9) (v := .ref aw) (C := R_VA) (T := F_VA) (N := 11) hx hb hts i_VA hown hK hP 0 rfl rfl 0 (by decide) (hts _ kF_VA_28) (fun _ h9 => h9) rfl d_VA_checkExports_128 ?_
              refine va_get (D := (dC, dI)) (ci := 10) (v := .ref wez) (C := R_WA) (T := F_WA) (N := 21) hx hb hts i_WA hown hK hP 1 rfl rfl 20 (by decide) (hts _ kF_VA_95) (fun _ h9 => h9) paw_20 d_VA_checkExports_131 ?_
              refine lv_iload_n hx hb d_VA_checkExports_134 rfl (lv_at hl 2 rfl) ?_
              have g135 : vp_in j105_l3 40 := vp_in_iff.mpr ⟨by (first | (apply Int.le_antisymm <;> omega) | omega), by (first | (apply Int.le_antisymm <;> omega) | omega)⟩
              refine va_iald hx hb hK hP 7 4 rfl rfl g135 d_VA_checkExports_135 ?_
              refine lv_topi (fun x5 ex5 => ?_)
              have tx5 : x5.toInt = (gwez j105_l3.toInt.toNat).toInt := by rw [ex5, show j105_l3.toNatClampNeg = j105_l3.toInt.toNat from by have := i32_clamp (x := j105_l3) (by (first | (apply Int.le_antisymm <;> omega) | omega)); (first | (apply Int.le_antisymm <;> omega) | omega)]
              refine lv_icmp_ne (tgt := 179) hx hb d_VA_checkExports_136 (by decide) (fun c136 => ?_) (fun c136 => ?_)
              · have q136 := neI c136
                refine lv_iconst (v := 1) hx hb d_VA_checkExports_179 (by decide) ?_
                refine lv_goto (tgt := 184) hx hb d_VA_checkExports_180 (by decide) ?_
                exact jn184 1 _ _ _ ⟨Or.inr rfl, (Or.inl ⟨by decide, by (first | (apply Int.le_antisymm <;> omega) | omega), exB_t (z1 := x4) (z2 := x5) (by (first | (apply Int.le_antisymm <;> omega) | omega)) (by (first | (apply Int.le_antisymm <;> omega) | omega)) (by (first | (apply Int.le_antisymm <;> omega) | omega))⟩), hP, hD, hS, lv_sub hl [0, 1, 2] rfl⟩
              · have q136 := eqI c136
                refine lv_aload_n hx hb d_VA_checkExports_139 rfl (lv_at hl 0 rfl) ?_
                refine va_get (D := (dC, dI)) (ci := 9) (v := .ref aw) (C := R_VA) (T := F_VA) (N := 11) hx hb hts i_VA hown hK hP 0 rfl rfl 0 (by decide) (hts _ kF_VA_28) (fun _ h9 => h9) rfl d_VA_checkExports_140 ?_
                refine va_get (D := (dC, dI)) (ci := 10) (v := .ref ab) (C := R_WA) (T := F_WA) (N := 21) hx hb hts i_WA hown hK hP 1 rfl rfl 0 (by decide) (hts _ kF_VA_98) (fun _ h9 => h9) paw_0 d_VA_checkExports_143 ?_
                refine lv_aload_n hx hb d_VA_checkExports_146 rfl (lv_at hl 0 rfl) ?_
                refine va_get (D := (dC, dI)) (ci := 9) (v := .ref aw) (C := R_VA) (T := F_VA) (N := 11) hx hb hts i_VA hown hK hP 0 rfl rfl 0 (by decide) (hts _ kF_VA_28) (fun _ h9 => h9) rfl d_VA_checkExports_147 ?_
                refine va_get (D := (dC, dI)) (ci := 10) (v := .ref wes) (C := R_WA) (T := F_WA) (N := 21) hx hb hts i_WA hown hK hP 1 rfl rfl 19 (by decide) (hts _ kF_VA_102) (fun _ h9 => h9) paw_19 d_VA_checkExports_150 ?_
                refine lv_iload_n hx hb d_VA_checkExports_153 rfl (lv_at hl 1 rfl) ?_
                have g154 : vp_in j2_l1 40 := vp_in_iff.mpr ⟨by (first | (apply Int.le_antisymm <;> omega) | omega), by (first | (apply Int.le_antisymm <;> omega) | omega)⟩
                refine va_iald hx hb hK hP 6 3 rfl rfl g154 d_VA_checkExports_154 ?_
                refine lv_topi (fun x6 ex6 => ?_)
                have tx6 : x6.toInt = (gwes j2_l1.toInt.toNat).toInt := by rw [ex6, show j2_l1.toNatClampNeg = j2_l1.toInt.toNat from by have := i32_clamp (x := j2_l1) (by (first | (apply Int.le_antisymm <;> omega) | omega)); (first | (apply Int.le_antisymm <;> omega) | omega)]
                refine lv_aload_n hx hb d_VA_checkExports_155 rfl (lv_at hl 0 rfl) ?_
                refine va_get (D := (dC, dI)) (ci := 9) (v := .ref aw) (C := R_VA) (T := F_VA) (N := 11) hx hb hts i_VA hown hK hP 0 rfl rfl 0 (by decide) (hts _ kF_VA_28) (fun _ h9 => h9) rfl d_VA_checkExports_156 ?_
                refine va_get (D := (dC, dI)) (ci := 10) (v := .ref wes) (C := R_WA) (T := F_WA) (N := 21) hx hb hts i_WA hown hK hP 1 rfl rfl 19 (by decide) (hts _ kF_VA_102) (fun _ h9 => h9) paw_19 d_VA_checkExports_159 ?_
                refine lv_iload_n hx hb d_VA_checkExports_162 rfl (lv_at hl 2 rfl) ?_
                have g163 : vp_in j105_l3 40 := vp_in_iff.mpr ⟨by (first | (apply Int.le_antisymm <;> omega) | omega), by (first | (apply Int.le_antisymm <;> omega) | omega)⟩
                refine va_iald hx hb hK hP 6 3 rfl rfl g163 d_VA_checkExports_163 ?_
                refine lv_topi (fun x7 ex7 => ?_)
                have tx7 : x7.toInt = (gwes j105_l3.toInt.toNat).toInt := by rw [ex7, show j105_l3.toNatClampNeg = j105_l3.toInt.toNat from by have := i32_clamp (x := j105_l3) (by (first | (apply Int.le_antisymm <;> omega) | omega)); (first | (apply Int.le_antisymm <;> omega) | omega)]
                refine lv_aload_n hx hb d_VA_checkExports_164 rfl (lv_at hl 0 rfl) ?_
                refine va_get (D := (dC, dI)) (ci := 9) (v := .ref aw) (C := R_VA) (T := F_VA) (N := 11) hx hb hts i_VA hown hK hP 0 rfl rfl 0 (by decide) (hts _ kF_VA_28) (fun _ h9 => h9) rfl d_VA_checkExports_165 ?_
                refine va_get (D := (dC, dI)) (ci := 10) (v := .ref wez) (C := R_WA) (T := F_WA) (N := 21) hx hb hts i_WA hown hK hP 1 rfl rfl 20 (by decide) (hts _ kF_VA_95) (fun _ h9 => h9) paw_20 d_VA_checkExports_168 ?_
                refine lv_iload_n hx hb d_VA_checkExports_171 rfl (lv_at hl 1 rfl) ?_
                have g172 : vp_in j2_l1 40 := vp_in_iff.mpr ⟨by (first | (apply Int.le_antisymm <;> omega) | omega), by (first | (apply Int.le_antisymm <;> omega) | omega)⟩
                refine va_iald hx hb hK hP 7 4 rfl rfl g172 d_VA_checkExports_172 ?_
                refine lv_topi (fun x8 ex8 => ?_)
                have tx8 : x8.toInt = (gwez j2_l1.toInt.toNat).toInt := by rw [ex8, show j2_l1.toNatClampNeg = j2_l1.toInt.toNat from by have := i32_clamp (x := j2_l1) (by (first | (apply Int.le_antisymm <;> omega) | omega)); (first | (apply Int.le_antisymm <;> omega) | omega)]
                have hPc := hP.sb (wq := (wz_94 ab ax ab_length ax cax gax)) [2, 3] rfl
                have hDc := hD.sb (wq := (wz_94 ab ax ab_length ax cax gax)) [2, 3] (by decide) rfl
                have hKc := hK.sb (tyq := [(cax, .byte)]) [0] rfl
                have hFc := va_free (wc := (wz_94 ab ax ab_length ax cax gax)) hD hS hA [2, 3] rfl
                refine va_calli (va_runV (As := [.int x6, .int x7, .int x8]) (rest := [.ref h0]) ⟨hx, hb, hml, hown, hts⟩ (c_BR_sameParty l dC dI H.size ab ax cax ab_length gax (b_ab_length) x6 x7 x8 (by (first | (apply Int.le_antisymm <;> omega) | omega)) (hbr)) (cwV 3 hts (gV kM_VA_105 kV_BR_samePart kS_BR_samePart kI_BR kC_BR_samePart) rfl rfl rfl (by decide +kernel) ⟨Nat.le_of_ble_eq_true rfl, Nat.le_of_ble_eq_true rfl⟩) ⟨fun a U g mk z => by obtain ⟨z0, z1, zP, zK, zD⟩ := z; exact ⟨z0, z1, zP, va_K.moved (u := U) (U := U.calling g mk a) (Vm.Alike.refl U.vm) zK, zD⟩, va_recv hKc hPc (ci := 1) (q0 := 0) rfl rfl, fun U hU hW => ⟨rfl, by rw [hU], va_P.he hU.symm hPc, va_K.moved hW.alike hKc, hDc.weaken (fun _ _ _ _ => trivial)⟩⟩ rfl rfl hl.1 rfl (lv_room (Nat.le_of_ble_eq_true rfl)) d_VA_checkExports_173 ⟨(Nat.zero_le _), (Nat.zero_le _)⟩) hS (fun q _ h => hFc q h) hFc (fun r9 u t H1 locs ht hvm hw hB hz1 hk1 hS => ?_)
                try dsimp only at hw
                obtain ⟨br9, xr9⟩ := hw
                try clear hw
                have tr9 := b01 br9
                have sp9 : (r9.toInt = 1 ∧ vsame gax e9.1 e8.1 e9.2.1 = true) ∨ (r9.toInt = 0 ∧ vsame gax e9.1 e8.1 e9.2.1 = false) := by have z9 := xr9; rw [show x6.toInt.toNat = e9.1 from by (first | (apply Int.le_antisymm <;> omega) | omega), show x7.toInt.toNat = e8.1 from by (first | (apply Int.le_antisymm <;> omega) | omega), show x8.toInt.toNat = e9.2.1 from by (first | (apply Int.le_antisymm <;> omega) | omega)] at z9; exact z9
                clear xr9
                obtain ⟨hP1, hK1, hD1⟩ := hB
                replace hP1 := va_P.he ht hP1
                obtain ⟨hP, hD⟩ := va_join (wr := [(h0, .inr (9, [.ref aw, .ref ac, .int j105_h0_sound, .int h0_function, .ref ty, .int h0_height, .ref bo, .ref bg, .ref bh, .ref bd, .int h0_depth])), (aw, .inr (10, law)), (wek, .inl (cwek, 40, .inl gwek)), (wei, .inl (cwei, 40, .inl gwei)), (wes, .inl (cwes, 40, .inl gwes)), (wez, .inl (cwez, 40, .inl gwez))]) (w1 := (wz_94 ab ax ab_length ax cax gax)) hP hD [2, 3] [0, 1, 4, 5, 6, 7] rfl rfl (by decide) (by decide) hk1 hFc hP1 hD1
                clear hPc hDc hKc hFc hz1 hk1 hP1 hK1 hD1
                rename Heap => H
                have hP : va_P (dC, dI) cls [(h0, .inr (9, [.ref aw, .ref ac, .int j105_h0_sound, .int h0_function, .ref ty, .int h0_height, .ref bo, .ref bg, .ref bh, .ref bd, .int h0_depth])), (aw, .inr (10, law)), (wek, .inl (cwek, 40, .inl gwek)), (wei, .inl (cwei, 40, .inl gwei)), (wes, .inl (cwes, 40, .inl gwes)), (wez, .inl (cwez, 40, .inl gwez)), (ab, .inr (1, [.ref ax, .int ab_length])), (ax, .inl (cax, 8192, .inl gax))] H := hP
                have hD : va_D A [(h0, .inr (9, [.ref aw, .ref ac, .int j105_h0_sound, .int h0_function, .ref ty, .int h0_height, .ref bo, .ref bg, .ref bh, .ref bd, .int h0_depth])), (aw, .inr (10, law)), (wek, .inl (cwek, 40, .inl gwek)), (wei, .inl (cwei, 40, .inl gwei)), (wes, .inl (cwes, 40, .inl gwes)), (wez, .inl (cwez, 40, .inl gwez)), (ab, .inr (1, [.ref ax, .int ab_length])), (ax, .inl (cax, 8192, .inl gax))] := hD
                refine lv_if_ne (tgt := 183) hx hb d_VA_checkExports_176 (by decide) (fun c176 => ?_) (fun c176 => ?_)
                · have q176 := neI c176
                  refine lv_iconst (v := 0) hx hb d_VA_checkExports_183 (by decide) ?_
                  exact jn184 0 _ _ _ ⟨Or.inl rfl, (Or.inr ⟨by decide, fun z => by have z1 := z.2; rw [exB_s (z1 := x4) (z2 := x5) (by (first | (apply Int.le_antisymm <;> omega) | omega)) (by (first | (apply Int.le_antisymm <;> omega) | omega)) (by (first | (apply Int.le_antisymm <;> omega) | omega))] at z1; rcases sp9 with y | y; (rw [y.2] at z1; cases z1); ((first | (apply Int.le_antisymm <;> omega) | omega))⟩), hP.sub [0, 1, 6, 7, 2, 3, 4, 5] rfl, hD.sub [0, 1, 6, 7, 2, 3, 4, 5] (by decide) rfl, hS, lv_sub hl [0, 1, 2] rfl⟩
                · have q176 := eqI c176
                  refine lv_iconst (v := 1) hx hb d_VA_checkExports_179 (by decide) ?_
                  refine lv_goto (tgt := 184) hx hb d_VA_checkExports_180 (by decide) ?_
                  exact jn184 1 _ _ _ ⟨Or.inr rfl, (Or.inl ⟨by decide, by (first | (apply Int.le_antisymm <;> omega) | omega), by rw [exB_s (z1 := x4) (z2 := x5) (by (first | (apply Int.le_antisymm <;> omega) | omega)) (by (first | (apply Int.le_antisymm <;> omega) | omega)) (by (first | (apply Int.le_antisymm <;> omega) | omega))]; rcases sp9 with z | z; (exact absurd z.1 (by (first | (apply Int.le_antisymm <;> omega) | omega))); (rw [z.2]; rfl)⟩), hP.sub [0, 1, 6, 7, 2, 3, 4, 5] rfl, hD.sub [0, 1, 6, 7, 2, 3, 4, 5] (by decide) rfl, hS, lv_sub hl [0, 1, 2] rfl⟩
      · skip
        refine lv_if_eq (tgt := 99) hx hb d_VA_checkExports_79 (by decide) (fun c79 => ?_) (fun c79 => ?_)
        · have q79 := eqI c79
          refine lv_iconst (v := 0) hx hb d_VA_checkExports_99 (by decide) ?_
          exact jn100 0 _ _ _ ⟨Or.inl rfl, by (try dsimp only) <;> (first | (apply Int.le_antisymm <;> omega) | omega), hP, hD, hS, lv_sub hl [1, 2] rfl⟩
        · have q79 := neI c79
          refine lv_aload_n hx hb d_VA_checkExports_82 rfl (lv_at hl 1 rfl) ?_
          refine va_get (D := (dC, dI)) (ci := 9) (v := .ref aw) (C := R_VA) (T := F_VA) (N := 11) hx hb hts i_VA hown hK hP 0 rfl rfl 0 (by decide) (hts _ kF_VA_28) (fun _ h9 => h9) rfl d_VA_checkExports_83 ?_
          refine va_get (D := (dC, dI)) (ci := 10) (v := .ref wei) (C := R_WA) (T := F_WA) (N := 21) hx hb hts i_WA hown hK hP 1 rfl rfl 18 (by decide) (hts _ kF_VA_92) (fun _ h9 => h9) paw_18 d_VA_checkExports_86 ?_
          refine lv_iload_n hx hb d_VA_checkExports_89 rfl (lv_at hl 2 rfl) ?_
          have g90 : vp_in j2_l1 40 := vp_in_iff.mpr ⟨by (first | (apply Int.le_antisymm <;> omega) | omega), by (first | (apply Int.le_antisymm <;> omega) | omega)⟩
          refine va_iald hx hb hK hP 5 2 rfl rfl g90 d_VA_checkExports_90 ?_
          refine lv_topi (fun x10 ex10 => ?_)
          have tx10 : x10.toInt = (gwei j2_l1.toInt.toNat).toInt := by rw [ex10, show j2_l1.toNatClampNeg = j2_l1.toInt.toNat from by have := i32_clamp (x := j2_l1) (by (first | (apply Int.le_antisymm <;> omega) | omega)); (first | (apply Int.le_antisymm <;> omega) | omega)]
          refine lv_iload_n hx hb d_VA_checkExports_91 rfl (lv_at hl 0 rfl) ?_
          refine lv_icmp_ge (tgt := 99) hx hb d_VA_checkExports_92 (by decide) (fun c92 => ?_) (fun c92 => ?_)
          · have q92 := leI c92
            refine lv_iconst (v := 0) hx hb d_VA_checkExports_99 (by decide) ?_
            exact jn100 0 _ _ _ ⟨Or.inl rfl, by (try dsimp only) <;> (first | (apply Int.le_antisymm <;> omega) | omega), hP, hD, hS, lv_sub hl [1, 2] rfl⟩
          · have q92 := nleI c92
            refine lv_iconst (v := 1) hx hb d_VA_checkExports_95 (by decide) ?_
            refine lv_goto (tgt := 100) hx hb d_VA_checkExports_96 (by decide) ?_
            exact jn100 1 _ _ _ ⟨Or.inr rfl, by (try dsimp only) <;> (first | (apply Int.le_antisymm <;> omega) | omega), hP, hD, hS, lv_sub hl [1, 2] rfl⟩
    · skip
      refine lv_if_ne (tgt := 35) hx hb d_VA_checkExports_22 (by decide) (fun c22 => ?_) (fun c22 => ?_)
      · have q22 := neI c22
        refine lv_aload_n hx hb d_VA_checkExports_35 rfl (lv_at hl 0 rfl) ?_
        refine va_get (D := (dC, dI)) (ci := 9) (v := .ref aw) (C := R_VA) (T := F_VA) (N := 11) hx hb hts i_VA hown hK hP 0 rfl rfl 0 (by decide) (hts _ kF_VA_28) (fun _ h9 => h9) rfl d_VA_checkExports_36 ?_
        refine va_get (D := (dC, dI)) (ci := 10) (v := .ref wek) (C := R_WA) (T := F_WA) (N := 21) hx hb hts i_WA hown hK hP 1 rfl rfl 17 (by decide) (hts _ kF_VA_86) (fun _ h9 => h9) paw_17 d_VA_checkExports_39 ?_
        refine lv_iload_n hx hb d_VA_checkExports_42 rfl (lv_at hl 1 rfl) ?_
        have g43 : vp_in j2_l1 40 := vp_in_iff.mpr ⟨by (first | (apply Int.le_antisymm <;> omega) | omega), by (first | (apply Int.le_antisymm <;> omega) | omega)⟩
        refine va_iald hx hb hK hP 4 1 rfl rfl g43 d_VA_checkExports_43 ?_
        refine lv_topi (fun x11 ex11 => ?_)
        have tx11 : x11.toInt = (gwek j2_l1.toInt.toNat).toInt := by rw [ex11, show j2_l1.toNatClampNeg = j2_l1.toInt.toNat from by have := i32_clamp (x := j2_l1) (by (first | (apply Int.le_antisymm <;> omega) | omega)); (first | (apply Int.le_antisymm <;> omega) | omega)]
        refine lv_iconst (v := 3) hx hb d_VA_checkExports_44 (by decide) ?_
        refine lv_icmp_ne (tgt := 58) hx hb d_VA_checkExports_45 (by decide) (fun c45 => ?_) (fun c45 => ?_)
        · have q45 := neI c45
          refine lv_aload_n hx hb d_VA_checkExports_58 rfl (lv_at hl 0 rfl) ?_
          refine va_get (D := (dC, dI)) (ci := 9) (v := .ref aw) (C := R_VA) (T := F_VA) (N := 11) hx hb hts i_VA hown hK hP 0 rfl rfl 0 (by decide) (hts _ kF_VA_28) (fun _ h9 => h9) rfl d_VA_checkExports_59 ?_
          refine va_get (D := (dC, dI)) (ci := 10) (v := .int aw_hasMemory) (C := R_WA) (T := F_WA) (N := 21) hx hb hts i_WA hown hK hP 1 rfl rfl 8 (by decide) (hts _ kF_VA_89) (fun _ h9 => h9) paw_8 d_VA_checkExports_62 ?_
          refine lv_if_eq (tgt := 72) hx hb d_VA_checkExports_65 (by decide) (fun c65 => ?_) (fun c65 => ?_)
          · have q65 := eqI c65
            refine lv_iconst (v := 0) hx hb d_VA_checkExports_72 (by decide) ?_
            exact jn73 0 _ _ _ ⟨(by unfold exth; rw [if_neg (by (first | (apply Int.le_antisymm <;> omega) | omega)), if_pos (by (first | (apply Int.le_antisymm <;> omega) | omega))]; (first | (apply Int.le_antisymm <;> omega) | omega)), hP, hD, hS, lv_sub hl [0, 1] rfl⟩
          · have q65 := neI c65
            refine lv_iconst (v := 1) hx hb d_VA_checkExports_68 (by decide) ?_
            refine lv_goto (tgt := 73) hx hb d_VA_checkExports_69 (by decide) ?_
            exact jn73 1 _ _ _ ⟨(by unfold exth; rw [if_neg (by (first | (apply Int.le_antisymm <;> omega) | omega)), if_pos (by (first | (apply Int.le_antisymm <;> omega) | omega))]; (first | (apply Int.le_antisymm <;> omega) | omega)), hP, hD, hS, lv_sub hl [0, 1] rfl⟩
        · have q45 := eqI c45
          refine lv_aload_n hx hb d_VA_checkExports_48 rfl (lv_at hl 0 rfl) ?_
          refine va_get (D := (dC, dI)) (ci := 9) (v := .ref aw) (C := R_VA) (T := F_VA) (N := 11) hx hb hts i_VA hown hK hP 0 rfl rfl 0 (by decide) (hts _ kF_VA_28) (fun _ h9 => h9) rfl d_VA_checkExports_49 ?_
          refine va_get (D := (dC, dI)) (ci := 10) (v := .int aw_globalCount) (C := R_WA) (T := F_WA) (N := 21) hx hb hts i_WA hown hK hP 1 rfl rfl 11 (by decide) (hts _ kF_VA_63) (fun _ h9 => h9) paw_11 d_VA_checkExports_52 ?_
          refine lv_goto (tgt := 73) hx hb d_VA_checkExports_55 (by decide) ?_
          exact jn73 aw_globalCount _ _ _ ⟨(by unfold exth; rw [if_neg (by (first | (apply Int.le_antisymm <;> omega) | omega)), if_neg (by (first | (apply Int.le_antisymm <;> omega) | omega))]; (first | (apply Int.le_antisymm <;> omega) | omega)), hP, hD, hS, lv_sub hl [0, 1] rfl⟩
      · have q22 := eqI c22
        refine lv_aload_n hx hb d_VA_checkExports_25 rfl (lv_at hl 0 rfl) ?_
        refine va_get (D := (dC, dI)) (ci := 9) (v := .ref aw) (C := R_VA) (T := F_VA) (N := 11) hx hb hts i_VA hown hK hP 0 rfl rfl 0 (by decide) (hts _ kF_VA_28) (fun _ h9 => h9) rfl d_VA_checkExports_26 ?_
        refine va_get (D := (dC, dI)) (ci := 10) (v := .int aw_functionCount) (C := R_WA) (T := F_WA) (N := 21) hx hb hts i_WA hown hK hP 1 rfl rfl 6 (by decide) (hts _ kF_VA_49) (fun _ h9 => h9) paw_6 d_VA_checkExports_29 ?_
        refine lv_goto (tgt := 73) hx hb d_VA_checkExports_32 (by decide) ?_
        exact jn73 aw_functionCount _ _ _ ⟨(by unfold exth; rw [if_pos (by (first | (apply Int.le_antisymm <;> omega) | omega))]; (first | (apply Int.le_antisymm <;> omega) | omega)), hP, hD, hS, lv_sub hl [0, 1] rfl⟩
end q_n44q29
section q_n44q30
/-! p5: what is known of a module that was read (pure) -/
def tyk (t : Nat) : Prop := t = 127 ∨ t = 126
def TOK (T : zTab) (N : Nat) : Prop := (T.1.length ≤ 20 ∧ ∀ x ∈ T.1, (∀ p ∈ x.1, p = 127 ∨ p = 126) ∧ (x.2 = 127 ∨ x.2 = 126 ∨ x.2 = 64)) ∧ T.2.1.length ≤ 30 ∧ (T.2.2.2.1.length ≤ 20 ∧ ∀ x ∈ T.2.2.2.1, (x.1 = 127 ∨ x.1 = 126) ∧ x.2.1 ≤ 1) ∧ (T.2.2.2.2.1.length ≤ 40 ∧ ∀ e ∈ T.2.2.2.2.1, (e.2.2.1 = 0 ∨ e.2.2.1 = 2 ∨ e.2.2.1 = 3) ∧ e.1 + e.2.1 ≤ N) ∧ (T.2.2.2.2.2.length ≤ 30 ∧ ∀ c ∈ T.2.2.2.2.2, c.1.length ≤ 60 ∧ (∀ l ∈ c.1, l = 127 ∨ l = 126) ∧ wn 0 c.2 ∧ ∀ i ∈ c.2, yiok i)
theorem zA_all {α : Type} {r : Nat → Option (α × Nat)} {Q : α → Prop} (hr : ∀ a x b, r a = some (x, b) → Q x) : ∀ (k : Nat) (l : List α) (a : Nat) {l2 : List α} {b : Nat}, zA r k l a = some (l2, b) → (∀ x ∈ l, Q x) → (∀ x ∈ l2, Q x) ∧ l2.length = l.length + k := by
  intro k
  induction k with
  | zero =>
    intro l a l2 b h hl
    rw [zA] at h
    cases h
    exact ⟨hl, rfl⟩
  | succ k ih =>
    intro l a l2 b h hl
    rw [zA] at h
    split at h
    · rename_i x c e
      have h2 := ih _ _ h (fun y hy => by
        rcases List.mem_append.mp hy with z | z
        · exact hl y z
        · rw [List.mem_singleton.mp z]
          exact hr _ _ _ e)
      rw [List.length_append, List.length_singleton] at h2
      exact ⟨h2.1, by (first | (apply Int.le_antisymm <;> omega) | omega)⟩
    · cases h
theorem zV_all {α : Type} {f : Nat → Int32} {L M a b : Nat} {r : Nat → Option (α × Nat)} {Q : α → Prop} {l : List α} (hr : ∀ a x b, r a = some (x, b) → Q x) (h : zV f L M r a = some (l, b)) : (∀ x ∈ l, Q x) ∧ l.length ≤ M := by
  unfold zV at h
  split at h
  · rename_i n c e
    have h1 := (zM_le e).1
    have h2 := zA_all hr _ _ _ h (fun x hx => by cases hx)
    rw [List.length_nil] at h2
    exact ⟨h2.1, by (first | (apply Int.le_antisymm <;> omega) | omega)⟩
  · cases h
theorem zTy_k {f : Nat → Int32} {L a t b : Nat} (h : zTy f L a = some (t, b)) : t = 127 ∨ t = 126 := by
  unfold zTy at h
  split at h
  · rename_i q
    cases h
    exact q.2
  · cases h
theorem zTyE_k {f : Nat → Int32} {L d b : Nat} {l : List Nat} {x : List Nat × Nat} (h : zTyE f L l d = some (x, b)) : x.1 = l ∧ (x.2 = 127 ∨ x.2 = 126 ∨ x.2 = 64) := by
  unfold zTyE at h
  split at h
  · split at h
    · split at h
      · rename_i e
        have := zTy_k e
        cases h
        exact ⟨rfl, by (first | (apply Int.le_antisymm <;> omega) | omega)⟩
      · cases h
    · cases h
      exact ⟨rfl, Or.inr (Or.inr rfl)⟩
  · cases h
theorem zType_k {f : Nat → Int32} {L a b : Nat} {x : List Nat × Nat} (h : zType f L a = some (x, b)) : (∀ p ∈ x.1, p = 127 ∨ p = 126) ∧ (x.2 = 127 ∨ x.2 = 126 ∨ x.2 = 64) := by
  unfold zType at h
  split at h
  · split at h
    · unfold zTyC at h
      split at h
      · rename_i e
        have h1 := zA_all (Q := fun p => p = 127 ∨ p = 126) (fun a x b q => zTy_k q) _ _ _ e (fun x hx => by cases hx)
        have h2 := zTyE_k h
        rw [h2.1]
        exact ⟨h1.1, h2.2⟩
      · cases h
    · cases h
  · cases h
theorem zFl_k {f : Nat → Int32} {L a m b : Nat} (h : zFl f L a = some (m, b)) : m ≤ 1 := by
  unfold zFl at h
  split at h
  · rename_i q
    cases h
    exact q.2
  · cases h
theorem zGlob_k {f : Nat → Int32} {L a b : Nat} {x : Nat × Nat × Nat} (h : zGlob f L a = some (x, b)) : (x.1 = 127 ∨ x.1 = 126) ∧ x.2.1 ≤ 1 := by
  unfold zGlob at h
  split at h
  · rename_i e
    have := zTy_k e
    split at h
    · rename_i e2
      have f9 := zFl_k e2
      split at h
      · split at h
        · split at h
          · cases h
            exact ⟨this, f9⟩
          · cases h
        · cases h
      · cases h
    · cases h
  · cases h
theorem zExp_k {f : Nat → Int32} {L N a b : Nat} {x : Nat × Nat × Nat × Nat} (hL : L ≤ N) (h : zExp f L a = some (x, b)) : (x.2.2.1 = 0 ∨ x.2.2.1 = 2 ∨ x.2.2.1 = 3) ∧ x.1 + x.2.1 ≤ N := by
  unfold zExp at h
  split at h
  · split at h
    · rename_i q
      split at h
      · cases h
        exact ⟨q.2, by have := q.1; dsimp only; (first | (apply Int.le_antisymm <;> omega) | omega)⟩
      · cases h
    · cases h
  · cases h
theorem zR_k {f : Nat → Int32} {L : Nat} : ∀ (k : Nat) (l : List Nat) (a : Nat) {l2 : List Nat} {b : Nat}, zR f L k l a = some (l2, b) → (∀ x ∈ l, x = 127 ∨ x = 126) → l.length ≤ 60 → (∀ x ∈ l2, x = 127 ∨ x = 126) ∧ l2.length ≤ 60 := by
  intro k
  induction k with
  | zero =>
    intro l a l2 b h hl h6
    rw [zR] at h
    cases h
    exact ⟨hl, h6⟩
  | succ k ih =>
    intro l a l2 b h hl h6
    rw [zR] at h
    split at h
    · rename_i n c e
      have h1 := (zM_le e).1
      split at h
      · rename_i t d e2
        have h2 := zTy_k e2
        refine ih _ _ h (fun y hy => ?_) (by rw [List.length_append, List.length_replicate]; (first | (apply Int.le_antisymm <;> omega) | omega))
        rcases List.mem_append.mp hy with z | z
        · exact hl y z
        · rw [(List.mem_replicate.mp z).2]
          exact h2
      · cases h
    · cases h
theorem zplain_k {b : Nat} (h : zplain b = true) (hb : b < 256) : b ≤ 5 ∨ b = 11 ∨ (12 ≤ b ∧ b ≤ 16) ∨ b = 26 ∨ b = 27 ∨ (32 ≤ b ∧ b ≤ 36) ∨ (b = 40 ∨ b = 41 ∨ b = 44 ∨ b = 45 ∨ b = 54 ∨ b = 55 ∨ b = 58 ∨ b = 63 ∨ b = 64) ∨ (65 ≤ b ∧ b ≤ 255) := by
  unfold zplain at h
  simp only [Bool.or_eq_true, Bool.and_eq_true, decide_eq_true_eq] at h
  (first | (apply Int.le_antisymm <;> omega) | omega)
theorem zidx_k {b : Nat} (h : zidx b = true) : b ≤ 5 ∨ b = 11 ∨ (12 ≤ b ∧ b ≤ 16) ∨ b = 26 ∨ b = 27 ∨ (32 ≤ b ∧ b ≤ 36) ∨ (b = 40 ∨ b = 41 ∨ b = 44 ∨ b = 45 ∨ b = 54 ∨ b = 55 ∨ b = 58 ∨ b = 63 ∨ b = 64) ∨ (65 ≤ b ∧ b ≤ 255) := by
  unfold zidx at h
  simp only [Bool.or_eq_true, Bool.and_eq_true, decide_eq_true_eq] at h
  (first | (apply Int.le_antisymm <;> omega) | omega)
theorem zacc_k {b : Nat} (h : zacc b = true) : b ≤ 5 ∨ b = 11 ∨ (12 ≤ b ∧ b ≤ 16) ∨ b = 26 ∨ b = 27 ∨ (32 ≤ b ∧ b ≤ 36) ∨ (b = 40 ∨ b = 41 ∨ b = 44 ∨ b = 45 ∨ b = 54 ∨ b = 55 ∨ b = 58 ∨ b = 63 ∨ b = 64) ∨ (65 ≤ b ∧ b ≤ 255) := by
  unfold zacc at h
  simp only [Bool.or_eq_true, decide_eq_true_eq] at h
  (first | (apply Int.le_antisymm <;> omega) | omega)
theorem zQ_k {f : Nat → Int32} {L b a c : Nat} {x : Nat × List Nat} (h : zQ f L b a = some (x, c)) (hb : b < 256) (ls : List Nat) : yiok (b, x.1, ls) := by
  unfold zQ at h
  unfold yiok
  dsimp only
  split at h
  · rename_i q
    split at h
    · rename_i e
      have := (zM_le e).1
      cases h
      exact ⟨zidx_k q, this⟩
    · cases h
  · split at h
    · rename_i q
      refine ⟨by (first | (apply Int.le_antisymm <;> omega) | omega), ?_⟩
      unfold zTb at h
      split at h
      · rename_i e
        have := (zM_le e).1
        split at h
        · cases h
          dsimp only
          (first | (apply Int.le_antisymm <;> omega) | omega)
        · cases h
      · cases h
    · split at h
      · rename_i q
        split at h
        · rename_i e
          cases h
          refine ⟨zacc_k q, ?_⟩
          unfold zAc at e
          split at e
          · rename_i e2
            have := (zM_le e2).1
            split at e
            · cases e
              exact this
            · cases e
          · cases e
        · cases h
      · split at h
        · rename_i q
          split at h
          · cases h
            exact ⟨by (first | (apply Int.le_antisymm <;> omega) | omega), by dsimp only; (first | (apply Int.le_antisymm <;> omega) | omega)⟩
          · cases h
        · split at h
          · rename_i q
            split at h
            · cases h
              exact ⟨by (first | (apply Int.le_antisymm <;> omega) | omega), by dsimp only; (first | (apply Int.le_antisymm <;> omega) | omega)⟩
            · cases h
          · split at h
            · rename_i q
              split at h
              · cases h
                exact ⟨by (first | (apply Int.le_antisymm <;> omega) | omega), by dsimp only; (first | (apply Int.le_antisymm <;> omega) | omega)⟩
              · cases h
            · split at h
              · rename_i q
                cases h
                exact ⟨zplain_k q hb, by dsimp only; (first | (apply Int.le_antisymm <;> omega) | omega)⟩
              · cases h
theorem zQ_n {f : Nat → Int32} {L b a c : Nat} {x : Nat × List Nat} (h : zQ f L b a = some (x, c)) : b ≠ 11 ∨ b = 11 := by (first | (apply Int.le_antisymm <;> omega) | omega)
theorem zK1_k {f : Nat → Int32} {L a b : Nat} {st : List Nat} {i : zIn} {so : Option (List Nat)} (h : zK1 f L st a = some (i, so, b)) : yiok i ∧ ((2 ≤ i.1 ∧ i.1 ≤ 4) → st.length < 100 ∧ ∃ s2, so = some s2 ∧ s2.length = st.length + 1) ∧ (i.1 = 11 → (st = [] ∧ so = none) ∨ (0 < st.length ∧ ∃ s2, so = some s2 ∧ s2.length = st.length - 1)) ∧ (¬ (2 ≤ i.1 ∧ i.1 ≤ 4) → i.1 ≠ 11 → ∃ s2, so = some s2 ∧ s2.length = st.length) := by
  have hb := bn_lt (f a)
  unfold zK1 at h
  split at h
  · split at h
    · rename_i q
      split at h
      · rename_i w
        cases h
        refine ⟨⟨by dsimp only; (first | (apply Int.le_antisymm <;> omega) | omega), by dsimp only; (first | (apply Int.le_antisymm <;> omega) | omega)⟩, fun _ => ⟨w.2.2, _, rfl, by rw [List.length_cons]⟩, fun z => absurd z (by dsimp only; (first | (apply Int.le_antisymm <;> omega) | omega)), fun z => absurd q z⟩
      · cases h
    · rename_i q
      split at h
      · rename_i q5
        split at h
        · rename_i w
          cases h
          refine ⟨⟨by dsimp only; (first | (apply Int.le_antisymm <;> omega) | omega), by dsimp only; (first | (apply Int.le_antisymm <;> omega) | omega)⟩, fun z => absurd z (by dsimp only; (first | (apply Int.le_antisymm <;> omega) | omega)), fun z => absurd z (by dsimp only; (first | (apply Int.le_antisymm <;> omega) | omega)), fun _ _ => ⟨_, rfl, ?_⟩⟩
          cases st with
          | nil => exact absurd w (by decide)
          | cons y st => rfl
        · cases h
      · split at h
        · cases h
          refine ⟨⟨by dsimp only; (first | (apply Int.le_antisymm <;> omega) | omega), by dsimp only; (first | (apply Int.le_antisymm <;> omega) | omega)⟩, fun z => absurd z (by dsimp only; (first | (apply Int.le_antisymm <;> omega) | omega)), fun _ => ?_, fun _ z => absurd rfl z⟩
          cases st with
          | nil => exact Or.inl ⟨rfl, rfl⟩
          | cons y st => exact Or.inr ⟨by rw [List.length_cons]; (first | (apply Int.le_antisymm <;> omega) | omega), _, rfl, rfl⟩
        · rename_i q11
          split at h
          · rename_i x c e
            cases h
            refine ⟨zQ_k e hb _, fun z => absurd z q, fun z => absurd z q11, fun _ _ => ⟨_, rfl, rfl⟩⟩
          · cases h
  · cases h
theorem zK_k {f : Nat → Int32} {L : Nat} : ∀ (n : Nat) (st : List Nat) (l : List zIn) (a : Nat) {l2 : List zIn} {b : Nat}, zK f L n st l a = some (l2, b) → ∃ m, l2 = l ++ m ∧ wn st.length m ∧ ∀ i ∈ m, yiok i := by
  intro n
  induction n with
  | zero => intro st l a l2 b h; rw [zK] at h; cases h
  | succ n ih =>
    intro st l a l2 b h
    rw [zK] at h
    split at h
    · rename_i i st2 c e
      obtain ⟨k1, k2, k3, k4⟩ := zK1_k e
      obtain ⟨m, m1, m2, m3⟩ := ih _ _ _ h
      refine ⟨i :: m, by rw [m1, List.append_assoc]; rfl, ⟨fun q => ?_, fun q => ?_, fun q q2 => ?_⟩, fun j hj => ?_⟩
      · obtain ⟨z1, s2, z2, z3⟩ := k2 q
        cases z2
        rw [z3] at m2
        exact ⟨z1, m2⟩
      · rcases k3 q with ⟨z1, z2⟩ | ⟨z1, s2, z2, z3⟩
        · cases z2
        · cases z2
          rw [z3] at m2
          exact Or.inr ⟨z1, m2⟩
      · obtain ⟨s2, z2, z3⟩ := k4 q q2
        cases z2
        rw [z3] at m2
        exact m2
      · rcases List.mem_cons.mp hj with z | z
        · rw [z]
          exact k1
        · exact m3 j z
    · rename_i i c e
      obtain ⟨k1, k2, k3, k4⟩ := zK1_k e
      cases h
      refine ⟨[i], rfl, ⟨fun q => ?_, fun _ => Or.inl rfl, fun _ _ => trivial⟩, fun j hj => ?_⟩
      · obtain ⟨z1, s2, z2, z3⟩ := k2 q
        cases z2
      · rw [List.mem_singleton.mp hj]
        exact k1
    · cases h
theorem zCode_k {f : Nat → Int32} {L a b : Nat} {c : List Nat × List zIn} (h : zCode f L a = some (c, b)) : c.1.length ≤ 60 ∧ (∀ l ∈ c.1, l = 127 ∨ l = 126) ∧ wn 0 c.2 ∧ ∀ i ∈ c.2, yiok i := by
  unfold zCode at h
  split at h
  · split at h
    · split at h
      · rename_i ls is e9 e
        split at h
        · cases h
          unfold zBody at e
          split at e
          · rename_i e2
            split at e
            · rename_i e3
              cases e
              unfold zLo at e2
              split at e2
              · have h1 := zR_k _ _ _ e2 (fun x hx => by cases hx) (by rw [List.length_nil]; (first | (apply Int.le_antisymm <;> omega) | omega))
                obtain ⟨m, m1, m2, m3⟩ := zK_k _ _ _ _ e3
                rw [List.nil_append] at m1
                subst m1
                exact ⟨h1.2, h1.1, m2, m3⟩
              · cases e2
            · cases e
          · cases e
        · cases h
      · cases h
    · cases h
  · cases h
theorem zSec_k {f : Nat → Int32} {L N id a b : Nat} {T T2 : zTab} (hL : L ≤ N) (h : zSec f L id T a = some (T2, b)) (hT : TOK T N) : TOK T2 N := by
  obtain ⟨t1, t2, t3, t4, t5⟩ := hT
  unfold zSec at h
  split at h
  · split at h
    · rename_i e
      have q := zV_all (Q := fun x : List Nat × Nat => (∀ p ∈ x.1, p = 127 ∨ p = 126) ∧ (x.2 = 127 ∨ x.2 = 126 ∨ x.2 = 64)) (fun a x b z => zType_k z) e
      cases h
      exact ⟨⟨q.2, q.1⟩, t2, t3, t4, t5⟩
    · cases h
  · split at h
    · split at h
      · rename_i e
        have q := zV_all (Q := fun _ : Nat => True) (fun a x b z => trivial) e
        cases h
        exact ⟨t1, q.2, t3, t4, t5⟩
      · cases h
    · split at h
      · split at h
        · cases h
          exact ⟨t1, t2, t3, t4, t5⟩
        · cases h
      · split at h
        · split at h
          · rename_i e
            have q := zV_all (Q := fun x : Nat × Nat × Nat => (x.1 = 127 ∨ x.1 = 126) ∧ x.2.1 ≤ 1) (fun a x b z => zGlob_k z) e
            cases h
            exact ⟨t1, t2, ⟨q.2, q.1⟩, t4, t5⟩
          · cases h
        · split at h
          · split at h
            · rename_i e
              have q := zV_all (Q := fun x : Nat × Nat × Nat × Nat => (x.2.2.1 = 0 ∨ x.2.2.1 = 2 ∨ x.2.2.1 = 3) ∧ x.1 + x.2.1 ≤ N) (fun a x b z => zExp_k hL z) e
              cases h
              exact ⟨t1, t2, t3, ⟨q.2, q.1⟩, t5⟩
            · cases h
          · split at h
            · split at h
              · rename_i e
                have q := zV_all (Q := fun c : List Nat × List zIn => c.1.length ≤ 60 ∧ (∀ l ∈ c.1, l = 127 ∨ l = 126) ∧ wn 0 c.2 ∧ ∀ i ∈ c.2, yiok i) (fun a x b z => zCode_k z) e
                cases h
                exact ⟨t1, t2, t3, t4, ⟨q.2, q.1⟩⟩
              · cases h
            · cases h
theorem zMod_k {f : Nat → Int32} {N : Nat} : ∀ (n z : Nat) (T : zTab) (a : Nat) {T2 : zTab}, zMod f N n z T a = some T2 → TOK T N → TOK T2 N ∧ T2.2.1.length = T2.2.2.2.2.2.length := by
  intro n
  induction n with
  | zero => intro z T a T2 h; rw [zMod] at h; cases h
  | succ n ih =>
    intro z T a T2 h hT
    rw [zMod] at h
    split at h
    · split at h
      · rename_i k b e
        have hb := (zM_le e).2.2
        split at h
        · rename_i hk
          split at h
          · split at h
            · split at h
              · exact ih _ _ _ h hT
              · cases h
            · cases h
          · split at h
            · split at h
              · rename_i e2
                split at h
                · exact ih _ _ _ h (zSec_k (by (first | (apply Int.le_antisymm <;> omega) | omega)) e2 hT)
                · cases h
              · cases h
            · cases h
        · cases h
      · cases h
    · split at h
      · rename_i q
        cases h
        exact ⟨hT, q⟩
      · cases h
theorem TOK_0 {N : Nat} : TOK zT0 N := ⟨⟨by decide, fun x h => by have h : x ∈ ([] : List (List Nat × Nat)) := h; cases h⟩, by decide, ⟨by decide, fun x h => by have h : x ∈ ([] : List (Nat × Nat × Nat)) := h; cases h⟩, ⟨by decide, fun x h => by have h : x ∈ ([] : List (Nat × Nat × Nat × Nat)) := h; cases h⟩, ⟨by decide, fun x h => by have h : x ∈ ([] : List (List Nat × List zIn)) := h; cases h⟩⟩
theorem zRead_k {f : Nat → Int32} {N : Nat} {T : zTab} (h : zRead f N = some T) : TOK T N ∧ T.2.1.length = T.2.2.2.2.2.length := by
  unfold zRead at h
  split at h
  · exact zMod_k _ _ _ _ h TOK_0
  · cases h
end q_n44q30

section q_21
/-! Validator: its small methods -/
theorem upd_p {g : Nat → Int32} {v : Int32} {k : Nat} {Q : Int32 → Prop} (h : ∀ j : Nat, Q (g j)) (hv : Q v) : ∀ j : Nat, Q (upd g k v j) := by
  intro j
  by_cases e : j = k
  · rw [e, pk_us]
    exact hv
  · rw [pk_un e]
    exact h j
abbrev at_WA_localTypex (dC : Nat → ClassId) (dI : Nat → Nat → Nat) (h0 ac wat wap waf ac_firsts_r clk clt ac_ops_r ac_values_r ac_partners_r ac_elses_r ac_labels_r : Nat) (cwaf cwat cwap cclk cclt : ClassId) (lh0 : List Value) (ac_length : Int32) (ac_labelCount : Int32) (gwaf : Nat → Int32) (gwat : Nat → Int32) (gwap : Nat → Int32) (gclk : Nat → Int32) (gclt : Nat → Int32) (A : Nat → Prop) (u : Unit) (t : State) : Prop := match u with | _ => va_P (dC, dI) cls (wz_32 h0 lh0 ac ac_firsts_r clk clt ac_length ac_ops_r ac_values_r ac_partners_r ac_elses_r ac_labelCount ac_labels_r waf cwaf gwaf wat cwat gwat wap cwap gwap clk cclk gclk clt cclt gclt) t.heap ∧ va_K (dC, dI) cls [(cwaf, .int), (cwat, .int), (cwap, .int), (cclk, .int), (cclt, .int)] t ∧ va_D A (wz_32 h0 lh0 ac ac_firsts_r clk clt ac_length ac_ops_r ac_values_r ac_partners_r ac_elses_r ac_labelCount ac_labels_r waf cwaf gwaf wat cwat gwat wap cwap gwap clk cclk gclk clt cclt gclt)
set_option maxHeartbeats 4000000 in
set_option maxRecDepth 100000 in
theorem c_WA_localTypex (l : Launch) (dC : Nat → ClassId) (dI : Nat → Nat → Nat) (sz : Nat) (h0 ac wat wap waf ac_firsts_r clk clt ac_ops_r ac_values_r ac_partners_r ac_elses_r ac_labels_r : Nat) (cwaf cwat cwap cclk cclt : ClassId) (lh0 : List Value) (ac_length : Int32) (ac_labelCount : Int32) (gwaf : Nat → Int32) (gwat : Nat → Int32) (gwap : Nat → Int32) (gclk : Nat → Int32) (gclt : Nat → Int32) (ph0_1 : lh0[1]? = some (.ref ac)) (ph0_3 : lh0[3]? = some (.ref wat)) (ph0_4 : lh0[4]? = some (.ref wap)) (ph0_7 : lh0[7]? = some (.ref waf)) (plh0 : lh0.length = 21)  (p0 : Int32) (p1 : Int32) (ba0 : 0 ≤ p0.toInt ∧ p0.toInt ≤ 29) (hf : 0 ≤ (gwaf p0.toNatClampNeg).toInt ∧ (gwaf p0.toNatClampNeg).toInt < 20) (ht : 0 ≤ (gwat (gwaf p0.toNatClampNeg).toNatClampNeg).toInt ∧ (gwat (gwaf p0.toNatClampNeg).toNatClampNeg).toInt ≤ 8 ∧ 0 ≤ (gclk p0.toNatClampNeg).toInt ∧ (gclk p0.toNatClampNeg).toInt ≤ 60) : Met l y_WA_localType w_WA_localType ({ frames := 1, cells := 0, slots := 0, locals := 21 }) (va_Pc [.ref h0, .int p0, .int p1] (fun U => U.heap.size = sz ∧ va_P (dC, dI) cls (wz_32 h0 lh0 ac ac_firsts_r clk clt ac_length ac_ops_r ac_values_r ac_partners_r ac_elses_r ac_labelCount ac_labels_r waf cwaf gwaf wat cwat gwat wap cwap gwap clk cclk gclk clt cclt gclt) U.heap ∧ va_K (dC, dI) cls [(cwaf, .int), (cwat, .int), (cwap, .int), (cclk, .int), (cclt, .int)] U ∧ va_D (fun _ => True) (wz_32 h0 lh0 ac ac_firsts_r clk clt ac_length ac_ops_r ac_values_r ac_partners_r ac_elses_r ac_labelCount ac_labels_r waf cwaf gwaf wat cwat gwat wap cwap gwap clk cclk gclk clt cclt gclt))) (va_Qi (fun (r : Int32) (u : Unit) => match u with | _ => ((r.toInt = 0 ∧ (p1.toInt < 0 ∨ (gwat (gwaf p0.toNatClampNeg).toNatClampNeg).toInt + (gclk p0.toNatClampNeg).toInt ≤ p1.toInt)) ∨ (0 ≤ p1.toInt ∧ p1.toInt < (gwat (gwaf p0.toNatClampNeg).toNatClampNeg).toInt ∧ r = gwap (8 * (gwaf p0.toNatClampNeg).toInt + p1.toInt).toNat) ∨ ((gwat (gwaf p0.toNatClampNeg).toNatClampNeg).toInt ≤ p1.toInt ∧ p1.toInt < (gwat (gwaf p0.toNatClampNeg).toNatClampNeg).toInt + (gclk p0.toNatClampNeg).toInt ∧ r = gclt (60 * p0.toInt + p1.toInt - (gwat (gwaf p0.toNatClampNeg).toNatClampNeg).toInt).toNat))) (at_WA_localTypex dC dI h0 ac wat wap waf ac_firsts_r clk clt ac_ops_r ac_values_r ac_partners_r ac_elses_r ac_labels_r cwaf cwat cwap cclk cclt lh0 ac_length ac_labelCount gwaf gwat gwap gclk gclt (va_A (wz_32 h0 lh0 ac ac_firsts_r clk clt ac_length ac_ops_r ac_values_r ac_partners_r ac_elses_r ac_labelCount ac_labels_r waf cwaf gwaf wat cwat gwat wap cwap gwap clk cclk gclk clt cclt gclt) sz)) (va_A (wz_32 h0 lh0 ac ac_firsts_r clk clt ac_length ac_ops_r ac_values_r ac_partners_r ac_elses_r ac_labelCount ac_labels_r waf cwaf gwaf wat cwat gwat wap cwap gwap clk cclk gclk clt cclt gclt) sz)) 0 0 (va_A (wz_32 h0 lh0 ac ac_firsts_r clk clt ac_length ac_ops_r ac_values_r ac_partners_r ac_elses_r ac_labelCount ac_labels_r waf cwaf gwaf wat cwat gwat wap cwap gwap clk cclk gclk clt cclt gclt) sz) := by
  refine Met.ofW (cc := b_WA_localType) (maxL := 4) (ret := (Option.some .int)) (by decide) rfl ?_
  intro p e s m args below meth c s₁ B hml hv
  obtain ⟨rfl, hsz, hP, hK, hD0⟩ := hv
  have hx := B.exec
  have hb := B.bytes
  have hr := B.returns
  have hts0 := atoms_spec (ws := w_WA_localType) B.pre
  have hts : ∀ w ∈ lw_g, w.before _ s = true := fun w h => hts0 w (List.mem_cons_of_mem _ h)
  have hown : s.vm.findClass R_WA = some m.cls := findClass_of_methodNamed B.named
  have hlocks := B.notSynchronized
  clear hts0
  subst hsz
  have hD := hD0.self (sz := s.heap.size)
  generalize hAe : va_A (wz_32 h0 lh0 ac ac_firsts_r clk clt ac_length ac_ops_r ac_values_r ac_partners_r ac_elses_r ac_labelCount ac_labels_r waf cwaf gwaf wat cwat gwat wap cwap gwap clk cclk gclk clt cclt gclt) s.heap.size = A at hD ⊢
  have hA : ∀ q : Nat, s.heap.size ≤ q → A q := fun q h => by rw [← hAe]; exact Or.inr h
  clear hAe
  have hP : va_P (dC, dI) cls (wz_32 h0 lh0 ac ac_firsts_r clk clt ac_length ac_ops_r ac_values_r ac_partners_r ac_elses_r ac_labelCount ac_labels_r waf cwaf gwaf wat cwat gwat wap cwap gwap clk cclk gclk clt cclt gclt) s.heap := hP
  have hl := lv_entry ([.ref h0, .int p0, .int p1]) (n := 4) (Nat.le_of_ble_eq_true rfl)
  rw [lg_entry_eq]
  generalize (lg_sl ([.ref h0, .int p0, .int p1]) ++ List.replicate (4 - (lg_sl ([.ref h0, .int p0, .int p1])).length) Slot.unset).toArray = ls at hl ⊢
  have hl : lv_has ls 4 [(0, .ref h0), (1, .int p0), (2, .int p1)] := hl
  have k0 : (0 : Int32).toInt = 0 := by decide
  refine w_gen (A := A) hP (fun H locs hP hS => ?_)
  have k8 : (8 : Int32).toInt = 8 := by decide
  have k60 : (60 : Int32).toInt = 60 := by decide
  have lo_p0 := i32_lo p0
  have hi_p0 := i32_hi p0
  have lo_p1 := i32_lo p1
  have hi_p1 := i32_hi p1
  have c9 := i32_clamp (x := p0) (by (first | (apply Int.le_antisymm <;> omega) | omega))
  have c8 := i32_clamp (x := gwaf p0.toNatClampNeg) (by (first | (apply Int.le_antisymm <;> omega) | omega))
  refine lv_aload_n hx hb d_WA_localType_0 rfl (lv_at hl 0 rfl) ?_
  refine lv_iload_n hx hb d_WA_localType_1 rfl (lv_at hl 1 rfl) ?_
  have hPc := hP.sb (wq := (wz_16 h0 lh0 waf cwaf gwaf wat cwat gwat)) [0, 2, 3] rfl
  have hDc := hD.sb (wq := (wz_16 h0 lh0 waf cwaf gwaf wat cwat gwat)) [0, 2, 3] (by decide) rfl
  have hKc := hK.sb (tyq := [(cwaf, .int), (cwat, .int)]) [0, 1] rfl
  have hFc := va_free (wc := (wz_16 h0 lh0 waf cwaf gwaf wat cwat gwat)) hD hS hA [0, 2, 3] rfl
  refine va_calli (va_runV (As := [.int p0]) (rest := []) ⟨hx, hb, hml, hown, hts⟩ (c_WA_takes l dC dI h0 waf wat H.size cwaf cwat gwaf gwat lh0 ph0_7 ph0_3 plh0 p0 (by (first | (apply Int.le_antisymm <;> omega) | omega)) (hf)) (cwV 1 hts (gV kM_WA_103 kV_WA_takes kS_WA_takes kI_WA kC_WA_takes) rfl rfl rfl (by decide +kernel) ⟨Nat.le_of_ble_eq_true rfl, Nat.le_of_ble_eq_true rfl⟩) ⟨fun a U g mk z => by obtain ⟨z0, z1, zP, zK, zD⟩ := z; exact ⟨z0, z1, zP, va_K.moved (u := U) (U := U.calling g mk a) (Vm.Alike.refl U.vm) zK, zD⟩, va_recv hKc hPc (ci := 10) (q0 := 0) rfl rfl, fun U hU hW => ⟨rfl, by rw [hU], va_P.he hU.symm hPc, va_K.moved hW.alike hKc, hDc.weaken (fun _ _ _ _ => trivial)⟩⟩ rfl rfl hl.1 rfl (lv_room (Nat.le_of_ble_eq_true rfl)) d_WA_localType_2 ⟨(Nat.zero_le _), (Nat.zero_le _)⟩) hS (fun q _ h => hFc q h) hFc (fun r1 u t H1 locs ht hvm hw hB hz1 hk1 hS => ?_)
  try dsimp only at hw
  have er1 := hw
  try clear hw
  have tr1 : r1.toInt = (gwat (gwaf p0.toNatClampNeg).toNatClampNeg).toInt := by rw [er1]
  obtain ⟨hP1, hK1, hD1⟩ := hB
  replace hP1 := va_P.he ht hP1
  obtain ⟨hP, hD⟩ := va_join (wr := [(ac, .inr (3, [.ref ac_firsts_r, .ref clk, .ref clt, .int ac_length, .ref ac_ops_r, .ref ac_values_r, .ref ac_partners_r, .ref ac_elses_r, .int ac_labelCount, .ref ac_labels_r])), (wap, .inl (cwap, 160, .inl gwap)), (clk, .inl (cclk, 30, .inl gclk)), (clt, .inl (cclt, 1800, .inl gclt))]) (w1 := (wz_16 h0 lh0 waf cwaf gwaf wat cwat gwat)) hP hD [0, 2, 3] [1, 4, 5, 6] rfl rfl (by decide) (by decide) hk1 hFc hP1 hD1
  clear hPc hDc hKc hFc hz1 hk1 hP1 hK1 hD1
  rename Heap => H
  have hP : va_P (dC, dI) cls (wz_33 ac ac_firsts_r clk clt ac_length ac_ops_r ac_values_r ac_partners_r ac_elses_r ac_labelCount ac_labels_r wap cwap gwap clk cclk gclk clt cclt gclt h0 lh0 waf cwaf gwaf wat cwat gwat) H := hP
  have hD : va_D A (wz_33 ac ac_firsts_r clk clt ac_length ac_ops_r ac_values_r ac_partners_r ac_elses_r ac_labelCount ac_labels_r wap cwap gwap clk cclk gclk clt cclt gclt h0 lh0 waf cwaf gwaf wat cwat gwat) := hD
  refine lv_istore_n (lv' := [(3, .int r1), (0, .ref h0), (1, .int p0), (2, .int p1)]) hx hb d_WA_localType_5 rfl hl (by decide) rfl (fun ls hl => ?_)
  refine lv_iload_n hx hb d_WA_localType_6 rfl (lv_at hl 3 rfl) ?_
  refine lv_if_lt (tgt := 25) hx hb d_WA_localType_7 (by decide) (fun c7 => ?_) (fun c7 => ?_)
  · have q7 := ltI c7
    refine lv_iconst (v := 0) hx hb d_WA_localType_25 (by decide) ?_
    have hP9 := hP.sb (wq := (wz_32 h0 lh0 ac ac_firsts_r clk clt ac_length ac_ops_r ac_values_r ac_partners_r ac_elses_r ac_labelCount ac_labels_r waf cwaf gwaf wat cwat gwat wap cwap gwap clk cclk gclk clt cclt gclt)) [4, 0, 5, 6, 1, 2, 3] rfl
    have hD9 := hD.sb (wq := (wz_32 h0 lh0 ac ac_firsts_r clk clt ac_length ac_ops_r ac_values_r ac_partners_r ac_elses_r ac_labelCount ac_labels_r waf cwaf gwaf wat cwat gwat wap cwap gwap clk cclk gclk clt cclt gclt)) [4, 0, 5, 6, 1, 2, 3] (by decide) rfl
    exact W.iret (v := 0) hx hb hr (fun t ht hW => ⟨⟨0, (), rfl, (Or.inl ⟨by (first | (apply Int.le_antisymm <;> omega) | omega), by (first | (apply Int.le_antisymm <;> omega) | omega)⟩), va_P.he ht.symm hP9, va_K.moved hW.alike hK, hD9⟩, hS.F ht⟩) hS.2.2 d_WA_localType_26
  · have q7 := nltI c7
    refine lv_iload_n hx hb d_WA_localType_10 rfl (lv_at hl 3 rfl) ?_
    refine lv_iload_n hx hb d_WA_localType_11 rfl (lv_at hl 0 rfl) ?_
    refine lv_aload_n hx hb d_WA_localType_12 rfl (lv_at hl 1 rfl) ?_
    refine va_get (D := (dC, dI)) (ci := 10) (v := .ref ac) (C := R_WA) (T := F_WA) (N := 21) hx hb hts i_WA hown hK hP 4 rfl rfl 1 (by decide) (hts _ kF_WA_23) (fun _ h9 => h9) ph0_1 d_WA_localType_13 ?_
    refine va_get (D := (dC, dI)) (ci := 3) (v := .ref clk) (C := R_CD) (T := F_CD) (N := 10) hx hb hts i_CD hown hK hP 0 rfl rfl 1 (by decide) (hts _ kF_WA_106) (fun _ h9 => h9) rfl d_WA_localType_16 ?_
    refine lv_iload_n hx hb d_WA_localType_19 rfl (lv_at hl 2 rfl) ?_
    have g20 : vp_in p0 30 := vp_in_iff.mpr ⟨by (first | (apply Int.le_antisymm <;> omega) | omega), by (first | (apply Int.le_antisymm <;> omega) | omega)⟩
    refine va_iald hx hb hK hP 2 3 rfl rfl g20 d_WA_localType_20 ?_
    refine lv_topi (fun x2 ex2 => ?_)
    have tx2 : x2.toInt = (gclk p0.toNatClampNeg).toInt := by rw [ex2]
    refine lv_iadd hx hb d_WA_localType_21 ?_
    refine lv_topi (fun x3 ex3 => ?_)
    have tx3 : x3.toInt = r1.toInt + x2.toInt := by have z := i32_add ex3 (by (first | (apply Int.le_antisymm <;> omega) | omega)) (by (first | (apply Int.le_antisymm <;> omega) | omega)); first | exact z | (first | (apply Int.le_antisymm <;> omega) | omega)
    refine lv_icmp_lt (tgt := 27) hx hb d_WA_localType_22 (by decide) (fun c22 => ?_) (fun c22 => ?_)
    · have q22 := ltI c22
      refine lv_iload_n hx hb d_WA_localType_27 rfl (lv_at hl 3 rfl) ?_
      refine lv_iload_n hx hb d_WA_localType_28 rfl (lv_at hl 0 rfl) ?_
      refine lv_icmp_ge (tgt := 51) hx hb d_WA_localType_29 (by decide) (fun c29 => ?_) (fun c29 => ?_)
      · have q29 := leI c29
        refine lv_aload_n hx hb d_WA_localType_51 rfl (lv_at hl 1 rfl) ?_
        refine va_get (D := (dC, dI)) (ci := 10) (v := .ref ac) (C := R_WA) (T := F_WA) (N := 21) hx hb hts i_WA hown hK hP 4 rfl rfl 1 (by decide) (hts _ kF_WA_23) (fun _ h9 => h9) ph0_1 d_WA_localType_52 ?_
        refine va_get (D := (dC, dI)) (ci := 3) (v := .ref clt) (C := R_CD) (T := F_CD) (N := 10) hx hb hts i_CD hown hK hP 0 rfl rfl 2 (by decide) (hts _ kF_WA_109) (fun _ h9 => h9) rfl d_WA_localType_55 ?_
        refine lv_iload_n hx hb d_WA_localType_58 rfl (lv_at hl 2 rfl) ?_
        refine lv_bipush (v := 60) hx hb d_WA_localType_59 (by decide) ?_
        refine lv_imul hx hb d_WA_localType_61 ?_
        refine lv_topi (fun x4 ex4 => ?_)
        have tx4 : x4.toInt = p0.toInt * 60 := by have z := i32_mul ex4 (by rw [k60]; (first | (apply Int.le_antisymm <;> omega) | omega)) (by rw [k60]; (first | (apply Int.le_antisymm <;> omega) | omega)); rw [k60] at z; exact z
        refine lv_iload_n hx hb d_WA_localType_62 rfl (lv_at hl 3 rfl) ?_
        refine lv_iadd hx hb d_WA_localType_63 ?_
        refine lv_topi (fun x5 ex5 => ?_)
        have tx5 : x5.toInt = x4.toInt + p1.toInt := by have z := i32_add ex5 (by (first | (apply Int.le_antisymm <;> omega) | omega)) (by (first | (apply Int.le_antisymm <;> omega) | omega)); first | exact z | (first | (apply Int.le_antisymm <;> omega) | omega)
        refine lv_iload_n hx hb d_WA_localType_64 rfl (lv_at hl 0 rfl) ?_
        refine lv_isub hx hb d_WA_localType_65 ?_
        refine lv_topi (fun x6 ex6 => ?_)
        have tx6 : x6.toInt = x5.toInt - r1.toInt := by have z := i32_sub ex6 (by (first | (apply Int.le_antisymm <;> omega) | omega)) (by (first | (apply Int.le_antisymm <;> omega) | omega)); first | exact z | (first | (apply Int.le_antisymm <;> omega) | omega)
        have g66 : vp_in x6 1800 := vp_in_iff.mpr ⟨by (first | (apply Int.le_antisymm <;> omega) | omega), by (first | (apply Int.le_antisymm <;> omega) | omega)⟩
        refine va_iald hx hb hK hP 3 4 rfl rfl g66 d_WA_localType_66 ?_
        refine lv_topi (fun x7 ex7 => ?_)
        rw [i32_natI (x := x6) (n := 60 * p0.toInt + p1.toInt - (gwat (gwaf p0.toNatClampNeg).toNatClampNeg).toInt) (by (first | (apply Int.le_antisymm <;> omega) | omega))] at ex7
        have hP9 := hP.sb (wq := (wz_32 h0 lh0 ac ac_firsts_r clk clt ac_length ac_ops_r ac_values_r ac_partners_r ac_elses_r ac_labelCount ac_labels_r waf cwaf gwaf wat cwat gwat wap cwap gwap clk cclk gclk clt cclt gclt)) [4, 0, 5, 6, 1, 2, 3] rfl
        have hD9 := hD.sb (wq := (wz_32 h0 lh0 ac ac_firsts_r clk clt ac_length ac_ops_r ac_values_r ac_partners_r ac_elses_r ac_labelCount ac_labels_r waf cwaf gwaf wat cwat gwat wap cwap gwap clk cclk gclk clt cclt gclt)) [4, 0, 5, 6, 1, 2, 3] (by decide) rfl
        exact W.iret (v := x7) hx hb hr (fun t ht hW => ⟨⟨x7, (), rfl, ((by first | exact Or.inr (Or.inl ⟨by (first | (apply Int.le_antisymm <;> omega) | omega), by (first | (apply Int.le_antisymm <;> omega) | omega), ex7⟩) | exact Or.inr (Or.inr ⟨by (first | (apply Int.le_antisymm <;> omega) | omega), by (first | (apply Int.le_antisymm <;> omega) | omega), ex7⟩))), va_P.he ht.symm hP9, va_K.moved hW.alike hK, hD9⟩, hS.F ht⟩) hS.2.2 d_WA_localType_67
      · have q29 := nleI c29
        refine lv_aload_n hx hb d_WA_localType_32 rfl (lv_at hl 1 rfl) ?_
        refine va_get (D := (dC, dI)) (ci := 10) (v := .ref wap) (C := R_WA) (T := F_WA) (N := 21) hx hb hts i_WA hown hK hP 4 rfl rfl 4 (by decide) (hts _ kF_WA_31) (fun _ h9 => h9) ph0_4 d_WA_localType_33 ?_
        refine lv_aload_n hx hb d_WA_localType_36 rfl (lv_at hl 1 rfl) ?_
        refine va_get (D := (dC, dI)) (ci := 10) (v := .ref waf) (C := R_WA) (T := F_WA) (N := 21) hx hb hts i_WA hown hK hP 4 rfl rfl 7 (by decide) (hts _ kF_WA_37) (fun _ h9 => h9) ph0_7 d_WA_localType_37 ?_
        refine lv_iload_n hx hb d_WA_localType_40 rfl (lv_at hl 2 rfl) ?_
        have g41 : vp_in p0 30 := vp_in_iff.mpr ⟨by (first | (apply Int.le_antisymm <;> omega) | omega), by (first | (apply Int.le_antisymm <;> omega) | omega)⟩
        refine va_iald hx hb hK hP 5 0 rfl rfl g41 d_WA_localType_41 ?_
        refine lv_topi (fun x8 ex8 => ?_)
        have tx8 : x8.toInt = (gwaf p0.toNatClampNeg).toInt := by rw [ex8]
        refine lv_bipush (v := 8) hx hb d_WA_localType_42 (by decide) ?_
        refine lv_imul hx hb d_WA_localType_44 ?_
        refine lv_topi (fun x9 ex9 => ?_)
        have tx9 : x9.toInt = x8.toInt * 8 := by have z := i32_mul ex9 (by rw [k8]; (first | (apply Int.le_antisymm <;> omega) | omega)) (by rw [k8]; (first | (apply Int.le_antisymm <;> omega) | omega)); rw [k8] at z; exact z
        refine lv_iload_n hx hb d_WA_localType_45 rfl (lv_at hl 3 rfl) ?_
        refine lv_iadd hx hb d_WA_localType_46 ?_
        refine lv_topi (fun x10 ex10 => ?_)
        have tx10 : x10.toInt = x9.toInt + p1.toInt := by have z := i32_add ex10 (by (first | (apply Int.le_antisymm <;> omega) | omega)) (by (first | (apply Int.le_antisymm <;> omega) | omega)); first | exact z | (first | (apply Int.le_antisymm <;> omega) | omega)
        have g47 : vp_in x10 160 := vp_in_iff.mpr ⟨by (first | (apply Int.le_antisymm <;> omega) | omega), by (first | (apply Int.le_antisymm <;> omega) | omega)⟩
        refine va_iald hx hb hK hP 1 2 rfl rfl g47 d_WA_localType_47 ?_
        refine lv_topi (fun x11 ex11 => ?_)
        rw [i32_natI (x := x10) (n := 8 * (gwaf p0.toNatClampNeg).toInt + p1.toInt) (by (first | (apply Int.le_antisymm <;> omega) | omega))] at ex11
        refine lv_goto (tgt := 67) hx hb d_WA_localType_48 (by decide) ?_
        have hP9 := hP.sb (wq := (wz_32 h0 lh0 ac ac_firsts_r clk clt ac_length ac_ops_r ac_values_r ac_partners_r ac_elses_r ac_labelCount ac_labels_r waf cwaf gwaf wat cwat gwat wap cwap gwap clk cclk gclk clt cclt gclt)) [4, 0, 5, 6, 1, 2, 3] rfl
        have hD9 := hD.sb (wq := (wz_32 h0 lh0 ac ac_firsts_r clk clt ac_length ac_ops_r ac_values_r ac_partners_r ac_elses_r ac_labelCount ac_labels_r waf cwaf gwaf wat cwat gwat wap cwap gwap clk cclk gclk clt cclt gclt)) [4, 0, 5, 6, 1, 2, 3] (by decide) rfl
        exact W.iret (v := x11) hx hb hr (fun t ht hW => ⟨⟨x11, (), rfl, ((by first | exact Or.inr (Or.inl ⟨by (first | (apply Int.le_antisymm <;> omega) | omega), by (first | (apply Int.le_antisymm <;> omega) | omega), ex11⟩) | exact Or.inr (Or.inr ⟨by (first | (apply Int.le_antisymm <;> omega) | omega), by (first | (apply Int.le_antisymm <;> omega) | omega), ex11⟩))), va_P.he ht.symm hP9, va_K.moved hW.alike hK, hD9⟩, hS.F ht⟩) hS.2.2 d_WA_localType_67
    · have q22 := nltI c22
      refine lv_iconst (v := 0) hx hb d_WA_localType_25 (by decide) ?_
      have hP9 := hP.sb (wq := (wz_32 h0 lh0 ac ac_firsts_r clk clt ac_length ac_ops_r ac_values_r ac_partners_r ac_elses_r ac_labelCount ac_labels_r waf cwaf gwaf wat cwat gwat wap cwap gwap clk cclk gclk clt cclt gclt)) [4, 0, 5, 6, 1, 2, 3] rfl
      have hD9 := hD.sb (wq := (wz_32 h0 lh0 ac ac_firsts_r clk clt ac_length ac_ops_r ac_values_r ac_partners_r ac_elses_r ac_labelCount ac_labels_r waf cwaf gwaf wat cwat gwat wap cwap gwap clk cclk gclk clt cclt gclt)) [4, 0, 5, 6, 1, 2, 3] (by decide) rfl
      exact W.iret (v := 0) hx hb hr (fun t ht hW => ⟨⟨0, (), rfl, (Or.inl ⟨by (first | (apply Int.le_antisymm <;> omega) | omega), by (first | (apply Int.le_antisymm <;> omega) | omega)⟩), va_P.he ht.symm hP9, va_K.moved hW.alike hK, hD9⟩, hS.F ht⟩) hS.2.2 d_WA_localType_26
abbrev b_VA_popAny : ByteArray := prog_12_method_20_code
def y_VA_popAny : MethodName := ⟨R_VA, "popAny", "()I"⟩
abbrev w_VA_popAny : List Cond := .code y_VA_popAny b_VA_popAny 1 (Option.some .int) :: lw_g
theorem kC_VA_popAny : Cond.code y_VA_popAny b_VA_popAny 1 (Option.some .int) ∈ lw_g := in_c6 231 rfl rfl
theorem d_VA_popAny_0 : decode b_VA_popAny 0 = .ok (.aload_n 0, 1) := bz_c42 (by decide +kernel)
theorem d_VA_popAny_1 : decode b_VA_popAny 1 = .ok (.getfield 117, 3) := bz_c180 (by decide +kernel)
theorem d_VA_popAny_4 : decode b_VA_popAny 4 = .ok (.ifCond .le 41, 3) := bz_c158 (by decide +kernel)
theorem d_VA_popAny_7 : decode b_VA_popAny 7 = .ok (.aload_n 0, 1) := bz_c42 (by decide +kernel)
theorem d_VA_popAny_8 : decode b_VA_popAny 8 = .ok (.getfield 114, 3) := bz_c180 (by decide +kernel)
theorem d_VA_popAny_11 : decode b_VA_popAny 11 = .ok (.aload_n 0, 1) := bz_c42 (by decide +kernel)
theorem d_VA_popAny_12 : decode b_VA_popAny 12 = .ok (.getfield 21, 3) := bz_c180 (by decide +kernel)
theorem d_VA_popAny_15 : decode b_VA_popAny 15 = .ok (.aload_n 0, 1) := bz_c42 (by decide +kernel)
theorem d_VA_popAny_16 : decode b_VA_popAny 16 = .ok (.getfield 117, 3) := bz_c180 (by decide +kernel)
theorem d_VA_popAny_19 : decode b_VA_popAny 19 = .ok (.iconst 1, 1) := bz_c4 (by decide +kernel)
theorem d_VA_popAny_20 : decode b_VA_popAny 20 = .ok (.isub, 1) := bz_c100 (by decide +kernel)
theorem d_VA_popAny_21 : decode b_VA_popAny 21 = .ok (.iaload, 1) := bz_c46 (by decide +kernel)
theorem d_VA_popAny_22 : decode b_VA_popAny 22 = .ok (.if_icmp .le 23, 3) := bz_c164 (by decide +kernel)
theorem d_VA_popAny_25 : decode b_VA_popAny 25 = .ok (.aload_n 0, 1) := bz_c42 (by decide +kernel)
theorem d_VA_popAny_26 : decode b_VA_popAny 26 = .ok (.dup, 1) := bz_c89 (by decide +kernel)
theorem d_VA_popAny_27 : decode b_VA_popAny 27 = .ok (.getfield 114, 3) := bz_c180 (by decide +kernel)
theorem d_VA_popAny_30 : decode b_VA_popAny 30 = .ok (.iconst 1, 1) := bz_c4 (by decide +kernel)
theorem d_VA_popAny_31 : decode b_VA_popAny 31 = .ok (.isub, 1) := bz_c100 (by decide +kernel)
theorem d_VA_popAny_32 : decode b_VA_popAny 32 = .ok (.putfield 114, 3) := bz_c181 (by decide +kernel)
theorem d_VA_popAny_35 : decode b_VA_popAny 35 = .ok (.aload_n 0, 1) := bz_c42 (by decide +kernel)
theorem d_VA_popAny_36 : decode b_VA_popAny 36 = .ok (.getfield 9, 3) := bz_c180 (by decide +kernel)
theorem d_VA_popAny_39 : decode b_VA_popAny 39 = .ok (.aload_n 0, 1) := bz_c42 (by decide +kernel)
theorem d_VA_popAny_40 : decode b_VA_popAny 40 = .ok (.getfield 114, 3) := bz_c180 (by decide +kernel)
theorem d_VA_popAny_43 : decode b_VA_popAny 43 = .ok (.iaload, 1) := bz_c46 (by decide +kernel)
theorem d_VA_popAny_44 : decode b_VA_popAny 44 = .ok (.ireturn, 1) := bz_c172 (by decide +kernel)
theorem d_VA_popAny_45 : decode b_VA_popAny 45 = .ok (.aload_n 0, 1) := bz_c42 (by decide +kernel)
theorem d_VA_popAny_46 : decode b_VA_popAny 46 = .ok (.aload_n 0, 1) := bz_c42 (by decide +kernel)
theorem d_VA_popAny_47 : decode b_VA_popAny 47 = .ok (.getfield 39, 3) := bz_c180 (by decide +kernel)
theorem d_VA_popAny_50 : decode b_VA_popAny 50 = .ok (.ifCond .eq 28, 3) := bz_c153 (by decide +kernel)
theorem d_VA_popAny_53 : decode b_VA_popAny 53 = .ok (.aload_n 0, 1) := bz_c42 (by decide +kernel)
theorem d_VA_popAny_54 : decode b_VA_popAny 54 = .ok (.getfield 117, 3) := bz_c180 (by decide +kernel)
theorem d_VA_popAny_57 : decode b_VA_popAny 57 = .ok (.ifCond .le 21, 3) := bz_c158 (by decide +kernel)
theorem d_VA_popAny_60 : decode b_VA_popAny 60 = .ok (.aload_n 0, 1) := bz_c42 (by decide +kernel)
theorem d_VA_popAny_61 : decode b_VA_popAny 61 = .ok (.getfield 24, 3) := bz_c180 (by decide +kernel)
theorem d_VA_popAny_64 : decode b_VA_popAny 64 = .ok (.aload_n 0, 1) := bz_c42 (by decide +kernel)
theorem d_VA_popAny_65 : decode b_VA_popAny 65 = .ok (.getfield 117, 3) := bz_c180 (by decide +kernel)
theorem d_VA_popAny_68 : decode b_VA_popAny 68 = .ok (.iconst 1, 1) := bz_c4 (by decide +kernel)
theorem d_VA_popAny_69 : decode b_VA_popAny 69 = .ok (.isub, 1) := bz_c100 (by decide +kernel)
theorem d_VA_popAny_70 : decode b_VA_popAny 70 = .ok (.baload, 1) := bz_c51 (by decide +kernel)
theorem d_VA_popAny_71 : decode b_VA_popAny 71 = .ok (.ifCond .eq 7, 3) := bz_c153 (by decide +kernel)
theorem d_VA_popAny_74 : decode b_VA_popAny 74 = .ok (.iconst 1, 1) := bz_c4 (by decide +kernel)
theorem d_VA_popAny_75 : decode b_VA_popAny 75 = .ok (.goto 4, 3) := bz_c167 (by decide +kernel)
theorem d_VA_popAny_78 : decode b_VA_popAny 78 = .ok (.iconst 0, 1) := bz_c3 (by decide +kernel)
theorem d_VA_popAny_79 : decode b_VA_popAny 79 = .ok (.putfield 39, 3) := bz_c181 (by decide +kernel)
theorem d_VA_popAny_82 : decode b_VA_popAny 82 = .ok (.iconst 0, 1) := bz_c3 (by decide +kernel)
theorem d_VA_popAny_83 : decode b_VA_popAny 83 = .ok (.ireturn, 1) := bz_c172 (by decide +kernel)
theorem kF_VA_117 : Cond.fieldLink R_VA 117 "WaferForge$Validator" "depth" "I" ∈ lw_g := in_c3 27 rfl rfl
theorem kF_VA_39 : Cond.fieldLink R_VA 39 "WaferForge$Validator" "sound" "Z" ∈ lw_g := in_c3 19 rfl rfl
theorem kF_VA_24 : Cond.fieldLink R_VA 24 "WaferForge$Validator" "blockDead" "[Z" ∈ lw_g := in_c3 26 rfl rfl
theorem kF_VA_114 : Cond.fieldLink R_VA 114 "WaferForge$Validator" "height" "I" ∈ lw_g := in_c3 22 rfl rfl
theorem kF_VA_21 : Cond.fieldLink R_VA 21 "WaferForge$Validator" "blockHeights" "[I" ∈ lw_g := in_c3 25 rfl rfl
theorem kF_VA_9 : Cond.fieldLink R_VA 9 "WaferForge$Validator" "types" "[I" ∈ lw_g := in_c3 21 rfl rfl
abbrev at_VA_popAny (dC : Nat → ClassId) (dI : Nat → Nat → Nat) (h0 aw ac ty bo bg bh bd : Nat) (cty cbh cbd : ClassId) (h0_function : Int32) (h0_depth : Int32) (gty : Nat → Int32) (gbh : Nat → Int32) (gbd : Nat → Int32) (A : Nat → Prop) (u : Int32 × Int32) (t : State) : Prop := match u with | (h0_height, h0_sound) => va_P (dC, dI) cls (wz_65 h0 aw ac h0_sound h0_function ty h0_height bo bg bh bd h0_depth ty cty gty bh cbh gbh bd cbd gbd) t.heap ∧ va_K (dC, dI) cls [(cty, .int), (cbh, .int), (cbd, .boolean)] t ∧ va_D A (wz_65 h0 aw ac h0_sound h0_function ty h0_height bo bg bh bd h0_depth ty cty gty bh cbh gbh bd cbd gbd)
set_option maxHeartbeats 4000000 in
set_option maxRecDepth 100000 in
theorem c_VA_popAny (l : Launch) (dC : Nat → ClassId) (dI : Nat → Nat → Nat) (sz : Nat) (h0 aw ac ty bo bg bh bd : Nat) (cty cbh cbd : ClassId) (h0_sound : Int32) (h0_function : Int32) (h0_height : Int32) (h0_depth : Int32) (gty : Nat → Int32) (gbh : Nat → Int32) (gbd : Nat → Int32)  (b_h0_sound : h0_sound = 0 ∨ h0_sound = 1) (b_h0_height : 0 ≤ h0_height.toInt ∧ h0_height.toInt ≤ 5000) (b_h0_depth : 0 ≤ h0_depth.toInt ∧ h0_depth.toInt ≤ 101) (b_gty : ∀ j : Nat, (gty j).toInt ≠ 64) (b_gbh : ∀ j : Nat, 0 ≤ (gbh j).toInt ∧ (gbh j).toInt ≤ 5000)   (hd1 : 1 ≤ h0_depth.toInt) (hbh : (gbh (h0_depth.toInt - 1).toNat).toInt ≤ h0_height.toInt) : Met l y_VA_popAny w_VA_popAny ({ frames := 0, cells := 0, slots := 0, locals := 0 }) (va_Pc [.ref h0] (fun U => U.heap.size = sz ∧ va_P (dC, dI) cls (wz_65 h0 aw ac h0_sound h0_function ty h0_height bo bg bh bd h0_depth ty cty gty bh cbh gbh bd cbd gbd) U.heap ∧ va_K (dC, dI) cls [(cty, .int), (cbh, .int), (cbd, .boolean)] U ∧ va_D (fun _ => True) (wz_65 h0 aw ac h0_sound h0_function ty h0_height bo bg bh bd h0_depth ty cty gty bh cbh gbh bd cbd gbd))) (va_Qi (fun (r : Int32) (u : Int32 × Int32) => match u with | (h0_height2, h0_sound2) => (0 ≤ h0_height2.toInt ∧ h0_height2.toInt ≤ 5000) ∧ (h0_sound2 = 0 ∨ h0_sound2 = 1) ∧ ((r.toInt ≠ 64) ∧ ((gbh (h0_depth.toInt - 1).toNat).toInt ≤ h0_height2.toInt ∧ h0_height2.toInt ≤ h0_height.toInt) ∧ (h0_sound2.toInt = 1 → h0_sound.toInt = 1 ∧ ((gbd (h0_depth.toInt - 1).toNat).toInt = 0 → (gbh (h0_depth.toInt - 1).toNat).toInt < h0_height.toInt ∧ h0_height2.toInt = h0_height.toInt - 1)))) (at_VA_popAny dC dI h0 aw ac ty bo bg bh bd cty cbh cbd h0_function h0_depth gty gbh gbd (va_A (wz_65 h0 aw ac h0_sound h0_function ty h0_height bo bg bh bd h0_depth ty cty gty bh cbh gbh bd cbd gbd) sz)) (va_A (wz_65 h0 aw ac h0_sound h0_function ty h0_height bo bg bh bd h0_depth ty cty gty bh cbh gbh bd cbd gbd) sz)) 0 0 (va_A (wz_65 h0 aw ac h0_sound h0_function ty h0_height bo bg bh bd h0_depth ty cty gty bh cbh gbh bd cbd gbd) sz) := by
  refine Met.ofW (cc := b_VA_popAny) (maxL := 1) (ret := (Option.some .int)) (by decide) rfl ?_
  intro p e s m args below meth c s₁ B hml hv
  obtain ⟨rfl, hsz, hP, hK, hD0⟩ := hv
  have hx := B.exec
  have hb := B.bytes
  have hr := B.returns
  have hts0 := atoms_spec (ws := w_VA_popAny) B.pre
  have hts : ∀ w ∈ lw_g, w.before _ s = true := fun w h => hts0 w (List.mem_cons_of_mem _ h)
  have hown : s.vm.findClass R_VA = some m.cls := findClass_of_methodNamed B.named
  have hlocks := B.notSynchronized
  clear hts0
  subst hsz
  have hD := hD0.self (sz := s.heap.size)
  generalize hAe : va_A (wz_65 h0 aw ac h0_sound h0_function ty h0_height bo bg bh bd h0_depth ty cty gty bh cbh gbh bd cbd gbd) s.heap.size = A at hD ⊢
  have hA : ∀ q : Nat, s.heap.size ≤ q → A q := fun q h => by rw [← hAe]; exact Or.inr h
  clear hAe
  have hP : va_P (dC, dI) cls (wz_65 h0 aw ac h0_sound h0_function ty h0_height bo bg bh bd h0_depth ty cty gty bh cbh gbh bd cbd gbd) s.heap := hP
  have hl := lv_entry ([.ref h0]) (n := 1) (Nat.le_of_ble_eq_true rfl)
  rw [lg_entry_eq]
  generalize (lg_sl ([.ref h0]) ++ List.replicate (1 - (lg_sl ([.ref h0])).length) Slot.unset).toArray = ls at hl ⊢
  have hl : lv_has ls 1 [(0, .ref h0)] := hl
  have k0 : (0 : Int32).toInt = 0 := by decide
  refine w_gen (A := A) hP (fun H locs hP hS => ?_)
  have k1 : (1 : Int32).toInt = 1 := by decide
  have th0_sound := b01 b_h0_sound
  refine lv_aload_n hx hb d_VA_popAny_0 rfl (lv_at hl 0 rfl) ?_
  refine va_get (D := (dC, dI)) (ci := 9) (v := .int h0_depth) (C := R_VA) (T := F_VA) (N := 11) hx hb hts i_VA hown hK hP 0 rfl rfl 10 (by decide) (hts _ kF_VA_117) (fun _ h9 => h9) rfl d_VA_popAny_1 ?_
  refine w_cut (pc2 := 45) (σ := Unit) (fun u H locs ls => match u with | _ => va_P (dC, dI) cls (wz_65 h0 aw ac h0_sound h0_function ty h0_height bo bg bh bd h0_depth ty cty gty bh cbh gbh bd cbd gbd) H ∧ va_D A (wz_65 h0 aw ac h0_sound h0_function ty h0_height bo bg bh bd h0_depth ty cty gty bh cbh gbh bd cbd gbd) ∧ va_S A s.heap H locs ∧ lv_has ls 1 [(0, .ref h0)]) (fun u => match u with | _ => []) ?_ (fun jn45 => ?_)
  · intro u H locs ls hI
    obtain ⟨hP, hD, hS, hl⟩ := hI
    refine lv_aload_n hx hb d_VA_popAny_45 rfl (lv_at hl 0 rfl) ?_
    refine lv_aload_n hx hb d_VA_popAny_46 rfl (lv_at hl 0 rfl) ?_
    refine va_get (D := (dC, dI)) (ci := 9) (v := .int h0_sound) (C := R_VA) (T := F_VA) (N := 11) hx hb hts i_VA hown hK hP 0 rfl rfl 2 (by decide) (hts _ kF_VA_39) (fun _ h9 => h9) rfl d_VA_popAny_47 ?_
    refine w_cut (pc2 := 79) (σ := Int32) (fun u H locs ls => match u with | j79_s0 => (j79_s0 = 0 ∨ j79_s0 = 1) ∧ (j79_s0.toInt = 1 → h0_sound.toInt = 1 ∧ ¬ (gbd (h0_depth.toInt - 1).toNat).toInt = 0) ∧ va_P (dC, dI) cls (wz_65 h0 aw ac h0_sound h0_function ty h0_height bo bg bh bd h0_depth ty cty gty bh cbh gbh bd cbd gbd) H ∧ va_D A (wz_65 h0 aw ac h0_sound h0_function ty h0_height bo bg bh bd h0_depth ty cty gty bh cbh gbh bd cbd gbd) ∧ va_S A s.heap H locs ∧ lv_has ls 1 []) (fun u => match u with | j79_s0 => [.int j79_s0, .ref h0]) ?_ (fun jn79 => ?_)
    · intro u H locs ls hI
      obtain ⟨j79_s0, rfl⟩ : ∃ z, z = u := ⟨_, rfl⟩
      obtain ⟨b_j79_s0, x0, hP, hD, hS, hl⟩ := hI
      have tj79_s0 := b01 b_j79_s0
      refine va_put (D := (dC, dI)) (ci := 9) (v := .int j79_s0) (ty := .boolean) (C := R_VA) (T := F_VA) (N := 11) hx hb hts i_VA t_VA t_VA_ok n_VA hown hK hP hD hS 0 rfl rfl 2 (by decide) (hts _ kF_VA_39) (fun _ h9 => h9) rfl (by decide +kernel) (zn01 (b_j79_s0)) (fz01 (b_j79_s0)) (Nat.le_of_ble_eq_true rfl) d_VA_popAny_79 (fun H locs hP hD hS => ?_)
      refine lv_iconst (v := 0) hx hb d_VA_popAny_82 (by decide) ?_
      have hP9 := hP.sb (wq := (wz_65 h0 aw ac j79_s0 h0_function ty h0_height bo bg bh bd h0_depth ty cty gty bh cbh gbh bd cbd gbd)) [0, 1, 2, 3] rfl
      have hD9 := hD.sb (wq := (wz_65 h0 aw ac j79_s0 h0_function ty h0_height bo bg bh bd h0_depth ty cty gty bh cbh gbh bd cbd gbd)) [0, 1, 2, 3] (by decide) rfl
      exact W.iret (v := 0) hx hb hr (fun t ht hW => ⟨⟨0, (h0_height, j79_s0), rfl, ⟨b_h0_height, b_j79_s0, by (try dsimp only) <;> (first | (apply Int.le_antisymm <;> omega) | omega)⟩, va_P.he ht.symm hP9, va_K.moved hW.alike hK, hD9⟩, hS.F ht⟩) hS.2.2 d_VA_popAny_83
    · skip
      refine w_cut (pc2 := 78) (σ := Unit) (fun u H locs ls => match u with | _ => va_P (dC, dI) cls (wz_65 h0 aw ac h0_sound h0_function ty h0_height bo bg bh bd h0_depth ty cty gty bh cbh gbh bd cbd gbd) H ∧ va_D A (wz_65 h0 aw ac h0_sound h0_function ty h0_height bo bg bh bd h0_depth ty cty gty bh cbh gbh bd cbd gbd) ∧ va_S A s.heap H locs ∧ lv_has ls 1 []) (fun u => match u with | _ => [.ref h0]) ?_ (fun jn78 => ?_)
      · intro u H locs ls hI
        obtain ⟨hP, hD, hS, hl⟩ := hI
        refine lv_iconst (v := 0) hx hb d_VA_popAny_78 (by decide) ?_
        exact jn79 0 _ _ _ ⟨Or.inl rfl, by (try dsimp only) <;> (first | (apply Int.le_antisymm <;> omega) | omega), hP, hD, hS, lv_sub hl [] rfl⟩
      · skip
        refine lv_if_eq (tgt := 78) hx hb d_VA_popAny_50 (by decide) (fun c50 => ?_) (fun c50 => ?_)
        · have q50 := eqI c50
          exact jn78 () _ _ _ ⟨hP, hD, hS, lv_sub hl [] rfl⟩
        · have q50 := neI c50
          refine lv_aload_n hx hb d_VA_popAny_53 rfl (lv_at hl 0 rfl) ?_
          refine va_get (D := (dC, dI)) (ci := 9) (v := .int h0_depth) (C := R_VA) (T := F_VA) (N := 11) hx hb hts i_VA hown hK hP 0 rfl rfl 10 (by decide) (hts _ kF_VA_117) (fun _ h9 => h9) rfl d_VA_popAny_54 ?_
          refine lv_if_le (tgt := 78) hx hb d_VA_popAny_57 (by decide) (fun c57 => absurd (leI c57) (by (first | (apply Int.le_antisymm <;> omega) | omega))) (fun c57 => ?_)
          have q57 := nleI c57
          refine lv_aload_n hx hb d_VA_popAny_60 rfl (lv_at hl 0 rfl) ?_
          refine va_get (D := (dC, dI)) (ci := 9) (v := .ref bd) (C := R_VA) (T := F_VA) (N := 11) hx hb hts i_VA hown hK hP 0 rfl rfl 9 (by decide) (hts _ kF_VA_24) (fun _ h9 => h9) rfl d_VA_popAny_61 ?_
          refine lv_aload_n hx hb d_VA_popAny_64 rfl (lv_at hl 0 rfl) ?_
          refine va_get (D := (dC, dI)) (ci := 9) (v := .int h0_depth) (C := R_VA) (T := F_VA) (N := 11) hx hb hts i_VA hown hK hP 0 rfl rfl 10 (by decide) (hts _ kF_VA_117) (fun _ h9 => h9) rfl d_VA_popAny_65 ?_
          refine lv_iconst (v := 1) hx hb d_VA_popAny_68 (by decide) ?_
          refine lv_isub hx hb d_VA_popAny_69 ?_
          refine lv_topi (fun x1 ex1 => ?_)
          have tx1 : x1.toInt = h0_depth.toInt - 1 := by have z := i32_sub ex1 (by (first | (apply Int.le_antisymm <;> omega) | omega)) (by (first | (apply Int.le_antisymm <;> omega) | omega)); first | exact z | (first | (apply Int.le_antisymm <;> omega) | omega)
          have g70 : vp_in x1 101 := vp_in_iff.mpr ⟨by (first | (apply Int.le_antisymm <;> omega) | omega), by (first | (apply Int.le_antisymm <;> omega) | omega)⟩
          refine va_zald hx hb hK hP 3 2 rfl rfl g70 d_VA_popAny_70 ?_
          refine lv_topi (fun x2 ex2 => ?_)
          rw [i32_natI (x := x1) (n := h0_depth.toInt - 1) (by (first | (apply Int.le_antisymm <;> omega) | omega))] at ex2
          have ux2 : x2.toInt = (gbd (h0_depth.toInt - 1).toNat).toInt := by rw [ex2]
          refine lv_if_eq (tgt := 78) hx hb d_VA_popAny_71 (by decide) (fun c71 => ?_) (fun c71 => ?_)
          · have q71 := eqI c71
            exact jn78 () _ _ _ ⟨hP, hD, hS, lv_sub hl [] rfl⟩
          · have q71 := neI c71
            refine lv_iconst (v := 1) hx hb d_VA_popAny_74 (by decide) ?_
            refine lv_goto (tgt := 79) hx hb d_VA_popAny_75 (by decide) ?_
            exact jn79 1 _ _ _ ⟨Or.inr rfl, by (try dsimp only) <;> (first | (apply Int.le_antisymm <;> omega) | omega), hP, hD, hS, lv_sub hl [] rfl⟩
  · skip
    refine lv_if_le (tgt := 45) hx hb d_VA_popAny_4 (by decide) (fun c4 => absurd (leI c4) (by (first | (apply Int.le_antisymm <;> omega) | omega))) (fun c4 => ?_)
    have q4 := nleI c4
    refine lv_aload_n hx hb d_VA_popAny_7 rfl (lv_at hl 0 rfl) ?_
    refine va_get (D := (dC, dI)) (ci := 9) (v := .int h0_height) (C := R_VA) (T := F_VA) (N := 11) hx hb hts i_VA hown hK hP 0 rfl rfl 5 (by decide) (hts _ kF_VA_114) (fun _ h9 => h9) rfl d_VA_popAny_8 ?_
    refine lv_aload_n hx hb d_VA_popAny_11 rfl (lv_at hl 0 rfl) ?_
    refine va_get (D := (dC, dI)) (ci := 9) (v := .ref bh) (C := R_VA) (T := F_VA) (N := 11) hx hb hts i_VA hown hK hP 0 rfl rfl 8 (by decide) (hts _ kF_VA_21) (fun _ h9 => h9) rfl d_VA_popAny_12 ?_
    refine lv_aload_n hx hb d_VA_popAny_15 rfl (lv_at hl 0 rfl) ?_
    refine va_get (D := (dC, dI)) (ci := 9) (v := .int h0_depth) (C := R_VA) (T := F_VA) (N := 11) hx hb hts i_VA hown hK hP 0 rfl rfl 10 (by decide) (hts _ kF_VA_117) (fun _ h9 => h9) rfl d_VA_popAny_16 ?_
    refine lv_iconst (v := 1) hx hb d_VA_popAny_19 (by decide) ?_
    refine lv_isub hx hb d_VA_popAny_20 ?_
    refine lv_topi (fun x3 ex3 => ?_)
    have tx3 : x3.toInt = h0_depth.toInt - 1 := by have z := i32_sub ex3 (by (first | (apply Int.le_antisymm <;> omega) | omega)) (by (first | (apply Int.le_antisymm <;> omega) | omega)); first | exact z | (first | (apply Int.le_antisymm <;> omega) | omega)
    have g21 : vp_in x3 101 := vp_in_iff.mpr ⟨by (first | (apply Int.le_antisymm <;> omega) | omega), by (first | (apply Int.le_antisymm <;> omega) | omega)⟩
    refine va_iald hx hb hK hP 2 1 rfl rfl g21 d_VA_popAny_21 ?_
    refine lv_topi (fun x4 ex4 => ?_)
    have tx4 := b_gbh x3.toNatClampNeg
    rw [← ex4] at tx4
    rw [i32_natI (x := x3) (n := h0_depth.toInt - 1) (by (first | (apply Int.le_antisymm <;> omega) | omega))] at ex4
    have ux4 : x4.toInt = (gbh (h0_depth.toInt - 1).toNat).toInt := by rw [ex4]
    refine lv_icmp_le (tgt := 45) hx hb d_VA_popAny_22 (by decide) (fun c22 => ?_) (fun c22 => ?_)
    · have q22 := leI c22
      exact jn45 () _ _ _ ⟨hP, hD, hS, lv_sub hl [0] rfl⟩
    · have q22 := nleI c22
      refine lv_aload_n hx hb d_VA_popAny_25 rfl (lv_at hl 0 rfl) ?_
      refine lv_dup hx hb d_VA_popAny_26 rfl ?_
      refine va_get (D := (dC, dI)) (ci := 9) (v := .int h0_height) (C := R_VA) (T := F_VA) (N := 11) hx hb hts i_VA hown hK hP 0 rfl rfl 5 (by decide) (hts _ kF_VA_114) (fun _ h9 => h9) rfl d_VA_popAny_27 ?_
      refine lv_iconst (v := 1) hx hb d_VA_popAny_30 (by decide) ?_
      refine lv_isub hx hb d_VA_popAny_31 ?_
      refine lv_topi (fun x5 ex5 => ?_)
      have tx5 : x5.toInt = h0_height.toInt - 1 := by have z := i32_sub ex5 (by (first | (apply Int.le_antisymm <;> omega) | omega)) (by (first | (apply Int.le_antisymm <;> omega) | omega)); first | exact z | (first | (apply Int.le_antisymm <;> omega) | omega)
      refine va_put (D := (dC, dI)) (ci := 9) (v := .int x5) (ty := .int) (C := R_VA) (T := F_VA) (N := 11) hx hb hts i_VA t_VA t_VA_ok n_VA hown hK hP hD hS 0 rfl rfl 5 (by decide) (hts _ kF_VA_114) (fun _ h9 => h9) rfl (by decide +kernel) rfl rfl (Nat.le_of_ble_eq_true rfl) d_VA_popAny_32 (fun H locs hP hD hS => ?_)
      refine lv_aload_n hx hb d_VA_popAny_35 rfl (lv_at hl 0 rfl) ?_
      refine va_get (D := (dC, dI)) (ci := 9) (v := .ref ty) (C := R_VA) (T := F_VA) (N := 11) hx hb hts i_VA hown hK hP 0 rfl rfl 4 (by decide) (hts _ kF_VA_9) (fun _ h9 => h9) rfl d_VA_popAny_36 ?_
      refine lv_aload_n hx hb d_VA_popAny_39 rfl (lv_at hl 0 rfl) ?_
      refine va_get (D := (dC, dI)) (ci := 9) (v := .int x5) (C := R_VA) (T := F_VA) (N := 11) hx hb hts i_VA hown hK hP 0 rfl rfl 5 (by decide) (hts _ kF_VA_114) (fun _ h9 => h9) rfl d_VA_popAny_40 ?_
      have g43 : vp_in x5 5000 := vp_in_iff.mpr ⟨by (first | (apply Int.le_antisymm <;> omega) | omega), by (first | (apply Int.le_antisymm <;> omega) | omega)⟩
      refine va_iald hx hb hK hP 1 0 rfl rfl g43 d_VA_popAny_43 ?_
      refine lv_topi (fun x6 ex6 => ?_)
      have tx6 := b_gty x5.toNatClampNeg
      rw [← ex6] at tx6
      have hP9 := hP.sb (wq := (wz_65 h0 aw ac h0_sound h0_function ty x5 bo bg bh bd h0_depth ty cty gty bh cbh gbh bd cbd gbd)) [0, 1, 2, 3] rfl
      have hD9 := hD.sb (wq := (wz_65 h0 aw ac h0_sound h0_function ty x5 bo bg bh bd h0_depth ty cty gty bh cbh gbh bd cbd gbd)) [0, 1, 2, 3] (by decide) rfl
      exact W.iret (v := x6) hx hb hr (fun t ht hW => ⟨⟨x6, (x5, h0_sound), rfl, ⟨by (try dsimp only) <;> (first | (apply Int.le_antisymm <;> omega) | omega), b_h0_sound, by (try dsimp only) <;> (first | (apply Int.le_antisymm <;> omega) | omega)⟩, va_P.he ht.symm hP9, va_K.moved hW.alike hK, hD9⟩, hS.F ht⟩) hS.2.2 d_VA_popAny_44
abbrev b_VA_pop : ByteArray := prog_12_method_19_code
def y_VA_pop : MethodName := ⟨R_VA, "pop", "(I)V"⟩
abbrev w_VA_pop : List Cond := .code y_VA_pop b_VA_pop 3 none :: lw_g
theorem kC_VA_pop : Cond.code y_VA_pop b_VA_pop 3 none ∈ lw_g := in_c6 227 rfl rfl
theorem d_VA_pop_0 : decode b_VA_pop 0 = .ok (.iload_n 1, 1) := bz_c27 (by decide +kernel)
theorem d_VA_pop_1 : decode b_VA_pop 1 = .ok (.bipush 64, 2) := bz_c16 (by decide +kernel)
theorem d_VA_pop_3 : decode b_VA_pop 3 = .ok (.if_icmp .eq 33, 3) := bz_c159 (by decide +kernel)
theorem d_VA_pop_6 : decode b_VA_pop 6 = .ok (.aload_n 0, 1) := bz_c42 (by decide +kernel)
theorem d_VA_pop_7 : decode b_VA_pop 7 = .ok (.invokevirtual 189, 3) := bz_c182 (by decide +kernel)
theorem d_VA_pop_10 : decode b_VA_pop 10 = .ok (.istore_n 2, 1) := bz_c61 (by decide +kernel)
theorem d_VA_pop_11 : decode b_VA_pop 11 = .ok (.aload_n 0, 1) := bz_c42 (by decide +kernel)
theorem d_VA_pop_12 : decode b_VA_pop 12 = .ok (.aload_n 0, 1) := bz_c42 (by decide +kernel)
theorem d_VA_pop_13 : decode b_VA_pop 13 = .ok (.getfield 39, 3) := bz_c180 (by decide +kernel)
theorem d_VA_pop_16 : decode b_VA_pop 16 = .ok (.ifCond .eq 16, 3) := bz_c153 (by decide +kernel)
theorem d_VA_pop_19 : decode b_VA_pop 19 = .ok (.iload_n 2, 1) := bz_c28 (by decide +kernel)
theorem d_VA_pop_20 : decode b_VA_pop 20 = .ok (.iload_n 1, 1) := bz_c27 (by decide +kernel)
theorem d_VA_pop_21 : decode b_VA_pop 21 = .ok (.if_icmp .eq 7, 3) := bz_c159 (by decide +kernel)
theorem d_VA_pop_24 : decode b_VA_pop 24 = .ok (.iload_n 2, 1) := bz_c28 (by decide +kernel)
theorem d_VA_pop_25 : decode b_VA_pop 25 = .ok (.ifCond .ne 7, 3) := bz_c154 (by decide +kernel)
theorem d_VA_pop_28 : decode b_VA_pop 28 = .ok (.iconst 1, 1) := bz_c4 (by decide +kernel)
theorem d_VA_pop_29 : decode b_VA_pop 29 = .ok (.goto 4, 3) := bz_c167 (by decide +kernel)
theorem d_VA_pop_32 : decode b_VA_pop 32 = .ok (.iconst 0, 1) := bz_c3 (by decide +kernel)
theorem d_VA_pop_33 : decode b_VA_pop 33 = .ok (.putfield 39, 3) := bz_c181 (by decide +kernel)
theorem d_VA_pop_36 : decode b_VA_pop 36 = .ok (.return_, 1) := bz_c177 (by decide +kernel)
theorem kM_VA_189 : Cond.methodLink R_VA 189 y_VA_popAny ∈ lw_g := in_c6 228 rfl rfl
theorem kV_VA_popAny : Cond.instanceMethod y_VA_popAny ∈ lw_g := in_c6 230 rfl rfl
theorem kS_VA_popAny : Cond.selects R_VA y_VA_popAny y_VA_popAny ∈ lw_g := in_s 88 (by decide +kernel) rfl
abbrev at_VA_pop (dC : Nat → ClassId) (dI : Nat → Nat → Nat) (h0 aw ac ty bo bg bh bd : Nat) (cty cbh cbd : ClassId) (h0_function : Int32) (h0_depth : Int32) (gty : Nat → Int32) (gbh : Nat → Int32) (gbd : Nat → Int32) (A : Nat → Prop) (u : Int32 × Int32) (t : State) : Prop := match u with | (h0_height, h0_sound) => va_P (dC, dI) cls (wz_65 h0 aw ac h0_sound h0_function ty h0_height bo bg bh bd h0_depth ty cty gty bh cbh gbh bd cbd gbd) t.heap ∧ va_K (dC, dI) cls [(cty, .int), (cbh, .int), (cbd, .boolean)] t ∧ va_D A (wz_65 h0 aw ac h0_sound h0_function ty h0_height bo bg bh bd h0_depth ty cty gty bh cbh gbh bd cbd gbd)
set_option maxHeartbeats 4000000 in
set_option maxRecDepth 100000 in
theorem c_VA_pop (l : Launch) (dC : Nat → ClassId) (dI : Nat → Nat → Nat) (sz : Nat) (h0 aw ac ty bo bg bh bd : Nat) (cty cbh cbd : ClassId) (h0_sound : Int32) (h0_function : Int32) (h0_height : Int32) (h0_depth : Int32) (gty : Nat → Int32) (gbh : Nat → Int32) (gbd : Nat → Int32)  (b_h0_sound : h0_sound = 0 ∨ h0_sound = 1) (b_h0_height : 0 ≤ h0_height.toInt ∧ h0_height.toInt ≤ 5000) (b_h0_depth : 0 ≤ h0_depth.toInt ∧ h0_depth.toInt ≤ 101) (b_gty : ∀ j : Nat, (gty j).toInt ≠ 64) (b_gbh : ∀ j : Nat, 0 ≤ (gbh j).toInt ∧ (gbh j).toInt ≤ 5000) (p0 : Int32)  (hd1 : 1 ≤ h0_depth.toInt) (hbh : (gbh (h0_depth.toInt - 1).toNat).toInt ≤ h0_height.toInt) : Met l y_VA_pop w_VA_pop ({ frames := 1, cells := 0, slots := 0, locals := 20 }) (va_Pc [.ref h0, .int p0] (fun U => U.heap.size = sz ∧ va_P (dC, dI) cls (wz_65 h0 aw ac h0_sound h0_function ty h0_height bo bg bh bd h0_depth ty cty gty bh cbh gbh bd cbd gbd) U.heap ∧ va_K (dC, dI) cls [(cty, .int), (cbh, .int), (cbd, .boolean)] U ∧ va_D (fun _ => True) (wz_65 h0 aw ac h0_sound h0_function ty h0_height bo bg bh bd h0_depth ty cty gty bh cbh gbh bd cbd gbd))) (va_Qv (fun (u : Int32 × Int32) => match u with | (h0_height2, h0_sound2) => (0 ≤ h0_height2.toInt ∧ h0_height2.toInt ≤ 5000) ∧ (h0_sound2 = 0 ∨ h0_sound2 = 1) ∧ (((gbh (h0_depth.toInt - 1).toNat).toInt ≤ h0_height2.toInt ∧ h0_height2.toInt ≤ h0_height.toInt) ∧ (p0.toInt = 64 → h0_height2.toInt = h0_height.toInt) ∧ (h0_sound2.toInt = 1 → h0_sound.toInt = 1 ∧ (p0.toInt ≠ 64 → (gbd (h0_depth.toInt - 1).toNat).toInt = 0 → (gbh (h0_depth.toInt - 1).toNat).toInt < h0_height.toInt ∧ h0_height2.toInt = h0_height.toInt - 1)))) (at_VA_pop dC dI h0 aw ac ty bo bg bh bd cty cbh cbd h0_function h0_depth gty gbh gbd (va_A (wz_65 h0 aw ac h0_sound h0_function ty h0_height bo bg bh bd h0_depth ty cty gty bh cbh gbh bd cbd gbd) sz)) (va_A (wz_65 h0 aw ac h0_sound h0_function ty h0_height bo bg bh bd h0_depth ty cty gty bh cbh gbh bd cbd gbd) sz)) 0 0 (va_A (wz_65 h0 aw ac h0_sound h0_function ty h0_height bo bg bh bd h0_depth ty cty gty bh cbh gbh bd cbd gbd) sz) := by
  refine Met.ofW (cc := b_VA_pop) (maxL := 3) (ret := none) (by decide) rfl ?_
  intro p e s m args below meth c s₁ B hml hv
  obtain ⟨rfl, hsz, hP, hK, hD0⟩ := hv
  have hx := B.exec
  have hb := B.bytes
  have hr := B.returns
  have hts0 := atoms_spec (ws := w_VA_pop) B.pre
  have hts : ∀ w ∈ lw_g, w.before _ s = true := fun w h => hts0 w (List.mem_cons_of_mem _ h)
  have hown : s.vm.findClass R_VA = some m.cls := findClass_of_methodNamed B.named
  have hlocks := B.notSynchronized
  clear hts0
  subst hsz
  have hD := hD0.self (sz := s.heap.size)
  generalize hAe : va_A (wz_65 h0 aw ac h0_sound h0_function ty h0_height bo bg bh bd h0_depth ty cty gty bh cbh gbh bd cbd gbd) s.heap.size = A at hD ⊢
  have hA : ∀ q : Nat, s.heap.size ≤ q → A q := fun q h => by rw [← hAe]; exact Or.inr h
  clear hAe
  have hP : va_P (dC, dI) cls (wz_65 h0 aw ac h0_sound h0_function ty h0_height bo bg bh bd h0_depth ty cty gty bh cbh gbh bd cbd gbd) s.heap := hP
  have hl := lv_entry ([.ref h0, .int p0]) (n := 3) (Nat.le_of_ble_eq_true rfl)
  rw [lg_entry_eq]
  generalize (lg_sl ([.ref h0, .int p0]) ++ List.replicate (3 - (lg_sl ([.ref h0, .int p0])).length) Slot.unset).toArray = ls at hl ⊢
  have hl : lv_has ls 3 [(0, .ref h0), (1, .int p0)] := hl
  have k0 : (0 : Int32).toInt = 0 := by decide
  refine w_gen (A := A) hP (fun H locs hP hS => ?_)
  have k1 : (1 : Int32).toInt = 1 := by decide
  have k64 : (64 : Int32).toInt = 64 := by decide
  have lo_p0 := i32_lo p0
  have hi_p0 := i32_hi p0
  have th0_sound := b01 b_h0_sound
  refine lv_iload_n hx hb d_VA_pop_0 rfl (lv_at hl 1 rfl) ?_
  refine lv_bipush (v := 64) hx hb d_VA_pop_1 (by decide) ?_
  refine lv_icmp_eq (tgt := 36) hx hb d_VA_pop_3 (by decide) (fun c3 => ?_) (fun c3 => ?_)
  · have q3 := eqI c3
    have hP9 := hP.sb (wq := (wz_65 h0 aw ac h0_sound h0_function ty h0_height bo bg bh bd h0_depth ty cty gty bh cbh gbh bd cbd gbd)) [0, 1, 2, 3] rfl
    have hD9 := hD.sb (wq := (wz_65 h0 aw ac h0_sound h0_function ty h0_height bo bg bh bd h0_depth ty cty gty bh cbh gbh bd cbd gbd)) [0, 1, 2, 3] (by decide) rfl
    exact W.vret hx hb hr (fun t ht hW => ⟨⟨(h0_height, h0_sound), rfl, ⟨b_h0_height, b_h0_sound, by (try dsimp only) <;> (first | (apply Int.le_antisymm <;> omega) | omega)⟩, va_P.he ht.symm hP9, va_K.moved hW.alike hK, hD9⟩, hS.F ht⟩) hS.2.2 d_VA_pop_36
  · have q3 := neI c3
    refine lv_aload_n hx hb d_VA_pop_6 rfl (lv_at hl 0 rfl) ?_
    have hPc := hP.sb (wq := (wz_65 h0 aw ac h0_sound h0_function ty h0_height bo bg bh bd h0_depth ty cty gty bh cbh gbh bd cbd gbd)) [0, 1, 2, 3] rfl
    have hDc := hD.sb (wq := (wz_65 h0 aw ac h0_sound h0_function ty h0_height bo bg bh bd h0_depth ty cty gty bh cbh gbh bd cbd gbd)) [0, 1, 2, 3] (by decide) rfl
    have hKc := hK.sb (tyq := [(cty, .int), (cbh, .int), (cbd, .boolean)]) [0, 1, 2] rfl
    have hFc := va_free (wc := (wz_65 h0 aw ac h0_sound h0_function ty h0_height bo bg bh bd h0_depth ty cty gty bh cbh gbh bd cbd gbd)) hD hS hA [0, 1, 2, 3] rfl
    refine va_calli (va_runV (As := []) (rest := []) ⟨hx, hb, hml, hown, hts⟩ (c_VA_popAny l dC dI H.size h0 aw ac ty bo bg bh bd cty cbh cbd h0_sound h0_function h0_height h0_depth gty gbh gbd (b_h0_sound) (b_h0_height) (b_h0_depth) (b_gty) (b_gbh) (by (try dsimp only) <;> (first | (apply Int.le_antisymm <;> omega) | omega)) (by (try dsimp only) <;> (first | (apply Int.le_antisymm <;> omega) | omega))) (cwV 0 hts (gV kM_VA_189 kV_VA_popAny kS_VA_popAny kI_VA kC_VA_popAny) rfl rfl rfl (by decide +kernel) ⟨Nat.le_of_ble_eq_true rfl, Nat.le_of_ble_eq_true rfl⟩) ⟨fun a U g mk z => by obtain ⟨z0, z1, zP, zK, zD⟩ := z; exact ⟨z0, z1, zP, va_K.moved (u := U) (U := U.calling g mk a) (Vm.Alike.refl U.vm) zK, zD⟩, va_recv hKc hPc (ci := 9) (q0 := 0) rfl rfl, fun U hU hW => ⟨rfl, by rw [hU], va_P.he hU.symm hPc, va_K.moved hW.alike hKc, hDc.weaken (fun _ _ _ _ => trivial)⟩⟩ rfl rfl hl.1 rfl (lv_room (Nat.le_of_ble_eq_true rfl)) d_VA_pop_7 ⟨(Nat.zero_le _), (Nat.zero_le _)⟩) hS (fun q _ h => hFc q h) hFc (fun r1 u t H1 locs ht hvm hw hB hz1 hk1 hS => ?_)
    obtain ⟨n2, n3⟩ := u
    try dsimp only at hw
    obtain ⟨bn2, bn3, xr1⟩ := hw
    try clear hw
    have tn3 := b01 bn3
    obtain ⟨hP1, hK1, hD1⟩ := hB
    replace hP1 := va_P.he ht hP1
    obtain ⟨hP, hD⟩ := va_join (wr := []) (w1 := (wz_65 h0 aw ac n3 h0_function ty n2 bo bg bh bd h0_depth ty cty gty bh cbh gbh bd cbd gbd)) hP hD [0, 1, 2, 3] [] rfl rfl (by decide) (by decide) hk1 hFc hP1 hD1
    clear hPc hDc hKc hFc hz1 hk1 hP1 hK1 hD1
    rename Heap => H
    have hP : va_P (dC, dI) cls (wz_65 h0 aw ac n3 h0_function ty n2 bo bg bh bd h0_depth ty cty gty bh cbh gbh bd cbd gbd) H := hP
    have hD : va_D A (wz_65 h0 aw ac n3 h0_function ty n2 bo bg bh bd h0_depth ty cty gty bh cbh gbh bd cbd gbd) := hD
    refine lv_istore_n (lv' := [(2, .int r1), (0, .ref h0), (1, .int p0)]) hx hb d_VA_pop_10 rfl hl (by decide) rfl (fun ls hl => ?_)
    refine lv_aload_n hx hb d_VA_pop_11 rfl (lv_at hl 1 rfl) ?_
    refine lv_aload_n hx hb d_VA_pop_12 rfl (lv_at hl 1 rfl) ?_
    refine va_get (D := (dC, dI)) (ci := 9) (v := .int n3) (C := R_VA) (T := F_VA) (N := 11) hx hb hts i_VA hown hK hP 0 rfl rfl 2 (by decide) (hts _ kF_VA_39) (fun _ h9 => h9) rfl d_VA_pop_13 ?_
    refine w_cut (pc2 := 33) (σ := Int32) (fun u H locs ls => match u with | j33_s0 => (j33_s0 = 0 ∨ j33_s0 = 1) ∧ (j33_s0.toInt = 1 → n3.toInt = 1) ∧ va_P (dC, dI) cls (wz_65 h0 aw ac n3 h0_function ty n2 bo bg bh bd h0_depth ty cty gty bh cbh gbh bd cbd gbd) H ∧ va_D A (wz_65 h0 aw ac n3 h0_function ty n2 bo bg bh bd h0_depth ty cty gty bh cbh gbh bd cbd gbd) ∧ va_S A s.heap H locs ∧ lv_has ls 3 []) (fun u => match u with | j33_s0 => [.int j33_s0, .ref h0]) ?_ (fun jn33 => ?_)
    · intro u H locs ls hI
      obtain ⟨j33_s0, rfl⟩ : ∃ z, z = u := ⟨_, rfl⟩
      obtain ⟨b_j33_s0, x0, hP, hD, hS, hl⟩ := hI
      have tj33_s0 := b01 b_j33_s0
      refine va_put (D := (dC, dI)) (ci := 9) (v := .int j33_s0) (ty := .boolean) (C := R_VA) (T := F_VA) (N := 11) hx hb hts i_VA t_VA t_VA_ok n_VA hown hK hP hD hS 0 rfl rfl 2 (by decide) (hts _ kF_VA_39) (fun _ h9 => h9) rfl (by decide +kernel) (zn01 (b_j33_s0)) (fz01 (b_j33_s0)) (Nat.le_of_ble_eq_true rfl) d_VA_pop_33 (fun H locs hP hD hS => ?_)
      have hP9 := hP.sb (wq := (wz_65 h0 aw ac j33_s0 h0_function ty n2 bo bg bh bd h0_depth ty cty gty bh cbh gbh bd cbd gbd)) [0, 1, 2, 3] rfl
      have hD9 := hD.sb (wq := (wz_65 h0 aw ac j33_s0 h0_function ty n2 bo bg bh bd h0_depth ty cty gty bh cbh gbh bd cbd gbd)) [0, 1, 2, 3] (by decide) rfl
      exact W.vret hx hb hr (fun t ht hW => ⟨⟨(n2, j33_s0), rfl, ⟨bn2, b_j33_s0, by (try dsimp only) <;> (first | (apply Int.le_antisymm <;> omega) | omega)⟩, va_P.he ht.symm hP9, va_K.moved hW.alike hK, hD9⟩, hS.F ht⟩) hS.2.2 d_VA_pop_36
    · skip
      refine w_cut (pc2 := 32) (σ := Unit) (fun u H locs ls => match u with | _ => va_P (dC, dI) cls (wz_65 h0 aw ac n3 h0_function ty n2 bo bg bh bd h0_depth ty cty gty bh cbh gbh bd cbd gbd) H ∧ va_D A (wz_65 h0 aw ac n3 h0_function ty n2 bo bg bh bd h0_depth ty cty gty bh cbh gbh bd cbd gbd) ∧ va_S A s.heap H locs ∧ lv_has ls 3 []) (fun u => match u with | _ => [.ref h0]) ?_ (fun jn32 => ?_)
      · intro u H locs ls hI
        obtain ⟨hP, hD, hS, hl⟩ := hI
        refine lv_iconst (v := 0) hx hb d_VA_pop_32 (by decide) ?_
        exact jn33 0 _ _ _ ⟨Or.inl rfl, by (try dsimp only) <;> (first | (apply Int.le_antisymm <;> omega) | omega), hP, hD, hS, lv_sub hl [] rfl⟩
      · skip
        refine lv_if_eq (tgt := 32) hx hb d_VA_pop_16 (by decide) (fun c16 => ?_) (fun c16 => ?_)
        · have q16 := eqI c16
          exact jn32 () _ _ _ ⟨hP, hD, hS, lv_sub hl [] rfl⟩
        · have q16 := neI c16
          refine lv_iload_n hx hb d_VA_pop_19 rfl (lv_at hl 0 rfl) ?_
          refine lv_iload_n hx hb d_VA_pop_20 rfl (lv_at hl 2 rfl) ?_
          refine w_cut (pc2 := 28) (σ := Unit) (fun u H locs ls => match u with | _ => va_P (dC, dI) cls (wz_65 h0 aw ac n3 h0_function ty n2 bo bg bh bd h0_depth ty cty gty bh cbh gbh bd cbd gbd) H ∧ va_D A (wz_65 h0 aw ac n3 h0_function ty n2 bo bg bh bd h0_depth ty cty gty bh cbh gbh bd cbd gbd) ∧ va_S A s.heap H locs ∧ lv_has ls 3 []) (fun u => match u with | _ => [.ref h0]) ?_ (fun jn28 => ?_)
          · intro u H locs ls hI
            obtain ⟨hP, hD, hS, hl⟩ := hI
            refine lv_iconst (v := 1) hx hb d_VA_pop_28 (by decide) ?_
            refine lv_goto (tgt := 33) hx hb d_VA_pop_29 (by decide) ?_
            exact jn33 1 _ _ _ ⟨Or.inr rfl, by (try dsimp only) <;> (first | (apply Int.le_antisymm <;> omega) | omega), hP, hD, hS, lv_sub hl [] rfl⟩
          · skip
            refine lv_icmp_eq (tgt := 28) hx hb d_VA_pop_21 (by decide) (fun c21 => ?_) (fun c21 => ?_)
            · have q21 := eqI c21
              exact jn28 () _ _ _ ⟨hP, hD, hS, lv_sub hl [] rfl⟩
            · have q21 := neI c21
              refine lv_iload_n hx hb d_VA_pop_24 rfl (lv_at hl 0 rfl) ?_
              refine lv_if_ne (tgt := 32) hx hb d_VA_pop_25 (by decide) (fun c25 => ?_) (fun c25 => ?_)
              · have q25 := neI c25
                exact jn32 () _ _ _ ⟨hP, hD, hS, lv_sub hl [] rfl⟩
              · have q25 := eqI c25
                exact jn28 () _ _ _ ⟨hP, hD, hS, lv_sub hl [] rfl⟩
abbrev b_VA_push : ByteArray := prog_12_method_18_code
def y_VA_push : MethodName := ⟨R_VA, "push", "(I)V"⟩
abbrev w_VA_push : List Cond := .code y_VA_push b_VA_push 2 none :: lw_g
theorem kC_VA_push : Cond.code y_VA_push b_VA_push 2 none ∈ lw_g := in_c6 239 rfl rfl
theorem d_VA_push_0 : decode b_VA_push 0 = .ok (.iload_n 1, 1) := bz_c27 (by decide +kernel)
theorem d_VA_push_1 : decode b_VA_push 1 = .ok (.bipush 64, 2) := bz_c16 (by decide +kernel)
theorem d_VA_push_3 : decode b_VA_push 3 = .ok (.if_icmp .eq 32, 3) := bz_c159 (by decide +kernel)
theorem d_VA_push_6 : decode b_VA_push 6 = .ok (.aload_n 0, 1) := bz_c42 (by decide +kernel)
theorem d_VA_push_7 : decode b_VA_push 7 = .ok (.getfield 114, 3) := bz_c180 (by decide +kernel)
theorem d_VA_push_10 : decode b_VA_push 10 = .ok (.aload_n 0, 1) := bz_c42 (by decide +kernel)
theorem d_VA_push_11 : decode b_VA_push 11 = .ok (.getfield 9, 3) := bz_c180 (by decide +kernel)
theorem d_VA_push_14 : decode b_VA_push 14 = .ok (.arraylength, 1) := bz_c190 (by decide +kernel)
theorem d_VA_push_15 : decode b_VA_push 15 = .ok (.if_icmp .ge 20, 3) := bz_c162 (by decide +kernel)
theorem d_VA_push_18 : decode b_VA_push 18 = .ok (.aload_n 0, 1) := bz_c42 (by decide +kernel)
theorem d_VA_push_19 : decode b_VA_push 19 = .ok (.getfield 9, 3) := bz_c180 (by decide +kernel)
theorem d_VA_push_22 : decode b_VA_push 22 = .ok (.aload_n 0, 1) := bz_c42 (by decide +kernel)
theorem d_VA_push_23 : decode b_VA_push 23 = .ok (.dup, 1) := bz_c89 (by decide +kernel)
theorem d_VA_push_24 : decode b_VA_push 24 = .ok (.getfield 114, 3) := bz_c180 (by decide +kernel)
theorem d_VA_push_27 : decode b_VA_push 27 = .ok (.dup_x1, 1) := by decide +kernel
theorem d_VA_push_28 : decode b_VA_push 28 = .ok (.iconst 1, 1) := bz_c4 (by decide +kernel)
theorem d_VA_push_29 : decode b_VA_push 29 = .ok (.iadd, 1) := bz_c96 (by decide +kernel)
theorem d_VA_push_30 : decode b_VA_push 30 = .ok (.putfield 114, 3) := bz_c181 (by decide +kernel)
theorem d_VA_push_33 : decode b_VA_push 33 = .ok (.iload_n 1, 1) := bz_c27 (by decide +kernel)
theorem d_VA_push_34 : decode b_VA_push 34 = .ok (.iastore, 1) := bz_c79 (by decide +kernel)
theorem d_VA_push_35 : decode b_VA_push 35 = .ok (.return_, 1) := bz_c177 (by decide +kernel)
abbrev at_VA_push (dC : Nat → ClassId) (dI : Nat → Nat → Nat) (h0 aw ac ty bo bg bh bd : Nat) (cty : ClassId) (h0_sound : Int32) (h0_function : Int32) (h0_depth : Int32) (A : Nat → Prop) (u : (Nat → Int32) × Int32) (t : State) : Prop := match u with | (gty, h0_height) => va_P (dC, dI) cls (wz_66 h0 aw ac h0_sound h0_function ty h0_height bo bg bh bd h0_depth ty cty gty) t.heap ∧ va_K (dC, dI) cls [(cty, .int)] t ∧ va_D A (wz_66 h0 aw ac h0_sound h0_function ty h0_height bo bg bh bd h0_depth ty cty gty)
set_option maxHeartbeats 4000000 in
set_option maxRecDepth 100000 in
theorem c_VA_push (l : Launch) (dC : Nat → ClassId) (dI : Nat → Nat → Nat) (sz : Nat) (h0 aw ac ty bo bg bh bd : Nat) (cty : ClassId) (h0_sound : Int32) (h0_function : Int32) (h0_height : Int32) (h0_depth : Int32) (gty : Nat → Int32)  (b_h0_height : 0 ≤ h0_height.toInt ∧ h0_height.toInt ≤ 5000) (b_gty : ∀ j : Nat, (gty j).toInt ≠ 64) (p0 : Int32)  (hh5 : h0_height.toInt < 5000) : Met l y_VA_push w_VA_push ({ frames := 0, cells := 0, slots := 0, locals := 0 }) (va_Pc [.ref h0, .int p0] (fun U => U.heap.size = sz ∧ va_P (dC, dI) cls (wz_66 h0 aw ac h0_sound h0_function ty h0_height bo bg bh bd h0_depth ty cty gty) U.heap ∧ va_K (dC, dI) cls [(cty, .int)] U ∧ va_D (fun _ => True) (wz_66 h0 aw ac h0_sound h0_function ty h0_height bo bg bh bd h0_depth ty cty gty))) (va_Qv (fun (u : (Nat → Int32) × Int32) => match u with | (gty2, h0_height2) => (∀ j : Nat, (gty2 j).toInt ≠ 64) ∧ (0 ≤ h0_height2.toInt ∧ h0_height2.toInt ≤ 5000) ∧ ((p0.toInt = 64 → h0_height2.toInt = h0_height.toInt) ∧ (p0.toInt ≠ 64 → h0_height2.toInt = h0_height.toInt + 1))) (at_VA_push dC dI h0 aw ac ty bo bg bh bd cty h0_sound h0_function h0_depth (va_A (wz_66 h0 aw ac h0_sound h0_function ty h0_height bo bg bh bd h0_depth ty cty gty) sz)) (va_A (wz_66 h0 aw ac h0_sound h0_function ty h0_height bo bg bh bd h0_depth ty cty gty) sz)) 0 0 (va_A (wz_66 h0 aw ac h0_sound h0_function ty h0_height bo bg bh bd h0_depth ty cty gty) sz) := by
  refine Met.ofW (cc := b_VA_push) (maxL := 2) (ret := none) (by decide) rfl ?_
  intro p e s m args below meth c s₁ B hml hv
  obtain ⟨rfl, hsz, hP, hK, hD0⟩ := hv
  have hx := B.exec
  have hb := B.bytes
  have hr := B.returns
  have hts0 := atoms_spec (ws := w_VA_push) B.pre
  have hts : ∀ w ∈ lw_g, w.before _ s = true := fun w h => hts0 w (List.mem_cons_of_mem _ h)
  have hown : s.vm.findClass R_VA = some m.cls := findClass_of_methodNamed B.named
  have hlocks := B.notSynchronized
  clear hts0
  subst hsz
  have hD := hD0.self (sz := s.heap.size)
  generalize hAe : va_A (wz_66 h0 aw ac h0_sound h0_function ty h0_height bo bg bh bd h0_depth ty cty gty) s.heap.size = A at hD ⊢
  have hA : ∀ q : Nat, s.heap.size ≤ q → A q := fun q h => by rw [← hAe]; exact Or.inr h
  clear hAe
  have hP : va_P (dC, dI) cls (wz_66 h0 aw ac h0_sound h0_function ty h0_height bo bg bh bd h0_depth ty cty gty) s.heap := hP
  have hl := lv_entry ([.ref h0, .int p0]) (n := 2) (Nat.le_of_ble_eq_true rfl)
  rw [lg_entry_eq]
  generalize (lg_sl ([.ref h0, .int p0]) ++ List.replicate (2 - (lg_sl ([.ref h0, .int p0])).length) Slot.unset).toArray = ls at hl ⊢
  have hl : lv_has ls 2 [(0, .ref h0), (1, .int p0)] := hl
  have k0 : (0 : Int32).toInt = 0 := by decide
  refine w_gen (A := A) hP (fun H locs hP hS => ?_)
  have k1 : (1 : Int32).toInt = 1 := by decide
  have k64 : (64 : Int32).toInt = 64 := by decide
  have lo_p0 := i32_lo p0
  have hi_p0 := i32_hi p0
  refine lv_iload_n hx hb d_VA_push_0 rfl (lv_at hl 1 rfl) ?_
  refine lv_bipush (v := 64) hx hb d_VA_push_1 (by decide) ?_
  refine lv_icmp_eq (tgt := 35) hx hb d_VA_push_3 (by decide) (fun c3 => ?_) (fun c3 => ?_)
  · have q3 := eqI c3
    have hP9 := hP.sb (wq := (wz_66 h0 aw ac h0_sound h0_function ty h0_height bo bg bh bd h0_depth ty cty gty)) [0, 1] rfl
    have hD9 := hD.sb (wq := (wz_66 h0 aw ac h0_sound h0_function ty h0_height bo bg bh bd h0_depth ty cty gty)) [0, 1] (by decide) rfl
    exact W.vret hx hb hr (fun t ht hW => ⟨⟨(gty, h0_height), rfl, ⟨b_gty, b_h0_height, by (try dsimp only) <;> (first | (apply Int.le_antisymm <;> omega) | omega)⟩, va_P.he ht.symm hP9, va_K.moved hW.alike hK, hD9⟩, hS.F ht⟩) hS.2.2 d_VA_push_35
  · have q3 := neI c3
    refine lv_aload_n hx hb d_VA_push_6 rfl (lv_at hl 0 rfl) ?_
    refine va_get (D := (dC, dI)) (ci := 9) (v := .int h0_height) (C := R_VA) (T := F_VA) (N := 11) hx hb hts i_VA hown hK hP 0 rfl rfl 5 (by decide) (hts _ kF_VA_114) (fun _ h9 => h9) rfl d_VA_push_7 ?_
    refine lv_aload_n hx hb d_VA_push_10 rfl (lv_at hl 0 rfl) ?_
    refine va_get (D := (dC, dI)) (ci := 9) (v := .ref ty) (C := R_VA) (T := F_VA) (N := 11) hx hb hts i_VA hown hK hP 0 rfl rfl 4 (by decide) (hts _ kF_VA_9) (fun _ h9 => h9) rfl d_VA_push_11 ?_
    refine va_alen hx hb hK hP 1 0 rfl rfl rfl d_VA_push_14 ?_
    refine lv_topi (fun x1 ex1 => ?_)
    have tx1 : x1.toInt = 5000 := by rw [ex1]; exact i32_len (by (first | (apply Int.le_antisymm <;> omega) | omega))
    refine lv_icmp_ge (tgt := 35) hx hb d_VA_push_15 (by decide) (fun c15 => ?_) (fun c15 => ?_)
    · have q15 := leI c15
      have hP9 := hP.sb (wq := (wz_66 h0 aw ac h0_sound h0_function ty h0_height bo bg bh bd h0_depth ty cty gty)) [0, 1] rfl
      have hD9 := hD.sb (wq := (wz_66 h0 aw ac h0_sound h0_function ty h0_height bo bg bh bd h0_depth ty cty gty)) [0, 1] (by decide) rfl
      exact W.vret hx hb hr (fun t ht hW => ⟨⟨(gty, h0_height), rfl, ⟨b_gty, b_h0_height, by (try dsimp only) <;> (first | (apply Int.le_antisymm <;> omega) | omega)⟩, va_P.he ht.symm hP9, va_K.moved hW.alike hK, hD9⟩, hS.F ht⟩) hS.2.2 d_VA_push_35
    · have q15 := nleI c15
      refine lv_aload_n hx hb d_VA_push_18 rfl (lv_at hl 0 rfl) ?_
      refine va_get (D := (dC, dI)) (ci := 9) (v := .ref ty) (C := R_VA) (T := F_VA) (N := 11) hx hb hts i_VA hown hK hP 0 rfl rfl 4 (by decide) (hts _ kF_VA_9) (fun _ h9 => h9) rfl d_VA_push_19 ?_
      refine lv_aload_n hx hb d_VA_push_22 rfl (lv_at hl 0 rfl) ?_
      refine lv_dup hx hb d_VA_push_23 rfl ?_
      refine va_get (D := (dC, dI)) (ci := 9) (v := .int h0_height) (C := R_VA) (T := F_VA) (N := 11) hx hb hts i_VA hown hK hP 0 rfl rfl 5 (by decide) (hts _ kF_VA_114) (fun _ h9 => h9) rfl d_VA_push_24 ?_
      refine lv_dup_x1 hx hb d_VA_push_27 rfl rfl ?_
      refine lv_iconst (v := 1) hx hb d_VA_push_28 (by decide) ?_
      refine lv_iadd hx hb d_VA_push_29 ?_
      refine lv_topi (fun x2 ex2 => ?_)
      have tx2 : x2.toInt = h0_height.toInt + 1 := by have z := i32_add ex2 (by (first | (apply Int.le_antisymm <;> omega) | omega)) (by (first | (apply Int.le_antisymm <;> omega) | omega)); first | exact z | (first | (apply Int.le_antisymm <;> omega) | omega)
      refine va_put (D := (dC, dI)) (ci := 9) (v := .int x2) (ty := .int) (C := R_VA) (T := F_VA) (N := 11) hx hb hts i_VA t_VA t_VA_ok n_VA hown hK hP hD hS 0 rfl rfl 5 (by decide) (hts _ kF_VA_114) (fun _ h9 => h9) rfl (by decide +kernel) rfl rfl (Nat.le_of_ble_eq_true rfl) d_VA_push_30 (fun H locs hP hD hS => ?_)
      refine lv_iload_n hx hb d_VA_push_33 rfl (lv_at hl 1 rfl) ?_
      have g34 : vp_in h0_height 5000 := vp_in_iff.mpr ⟨by (first | (apply Int.le_antisymm <;> omega) | omega), by (first | (apply Int.le_antisymm <;> omega) | omega)⟩
      refine va_iast hx hb hK hP hD hS 1 0 rfl rfl g34 d_VA_push_34 (fun H locs hP hD hS => ?_)
      generalize ef3 : upd gty h0_height.toNatClampNeg p0 = f3 at hP hD
      have b_f3 : ∀ j : Nat, (f3 j).toInt ≠ 64 := by rw [← ef3]; exact upd_p (Q := fun v => v.toInt ≠ 64) b_gty (by (try dsimp only) <;> (first | (apply Int.le_antisymm <;> omega) | omega))
      have hP9 := hP.sb (wq := (wz_66 h0 aw ac h0_sound h0_function ty x2 bo bg bh bd h0_depth ty cty f3)) [0, 1] rfl
      have hD9 := hD.sb (wq := (wz_66 h0 aw ac h0_sound h0_function ty x2 bo bg bh bd h0_depth ty cty f3)) [0, 1] (by decide) rfl
      exact W.vret hx hb hr (fun t ht hW => ⟨⟨(f3, x2), rfl, ⟨b_f3, by (try dsimp only) <;> (first | (apply Int.le_antisymm <;> omega) | omega), by (try dsimp only) <;> (first | (apply Int.le_antisymm <;> omega) | omega)⟩, va_P.he ht.symm hP9, va_K.moved hW.alike hK, hD9⟩, hS.F ht⟩) hS.2.2 d_VA_push_35
abbrev b_VA_open : ByteArray := prog_12_method_14_code
def y_VA_open : MethodName := ⟨R_VA, "open", "(II)V"⟩
abbrev w_VA_open : List Cond := .code y_VA_open b_VA_open 3 none :: lw_g
theorem kC_VA_open : Cond.code y_VA_open b_VA_open 3 none ∈ lw_g := in_c6 215 rfl rfl
theorem d_VA_open_0 : decode b_VA_open 0 = .ok (.aload_n 0, 1) := bz_c42 (by decide +kernel)
theorem d_VA_open_1 : decode b_VA_open 1 = .ok (.getfield 117, 3) := bz_c180 (by decide +kernel)
theorem d_VA_open_4 : decode b_VA_open 4 = .ok (.aload_n 0, 1) := bz_c42 (by decide +kernel)
theorem d_VA_open_5 : decode b_VA_open 5 = .ok (.getfield 15, 3) := bz_c180 (by decide +kernel)
theorem d_VA_open_8 : decode b_VA_open 8 = .ok (.arraylength, 1) := bz_c190 (by decide +kernel)
theorem d_VA_open_9 : decode b_VA_open 9 = .ok (.if_icmp .ge 56, 3) := bz_c162 (by decide +kernel)
theorem d_VA_open_12 : decode b_VA_open 12 = .ok (.aload_n 0, 1) := bz_c42 (by decide +kernel)
theorem d_VA_open_13 : decode b_VA_open 13 = .ok (.getfield 15, 3) := bz_c180 (by decide +kernel)
theorem d_VA_open_16 : decode b_VA_open 16 = .ok (.aload_n 0, 1) := bz_c42 (by decide +kernel)
theorem d_VA_open_17 : decode b_VA_open 17 = .ok (.getfield 117, 3) := bz_c180 (by decide +kernel)
theorem d_VA_open_20 : decode b_VA_open 20 = .ok (.iload_n 1, 1) := bz_c27 (by decide +kernel)
theorem d_VA_open_21 : decode b_VA_open 21 = .ok (.iastore, 1) := bz_c79 (by decide +kernel)
theorem d_VA_open_22 : decode b_VA_open 22 = .ok (.aload_n 0, 1) := bz_c42 (by decide +kernel)
theorem d_VA_open_23 : decode b_VA_open 23 = .ok (.getfield 18, 3) := bz_c180 (by decide +kernel)
theorem d_VA_open_26 : decode b_VA_open 26 = .ok (.aload_n 0, 1) := bz_c42 (by decide +kernel)
theorem d_VA_open_27 : decode b_VA_open 27 = .ok (.getfield 117, 3) := bz_c180 (by decide +kernel)
theorem d_VA_open_30 : decode b_VA_open 30 = .ok (.iload_n 2, 1) := bz_c28 (by decide +kernel)
theorem d_VA_open_31 : decode b_VA_open 31 = .ok (.iastore, 1) := bz_c79 (by decide +kernel)
theorem d_VA_open_32 : decode b_VA_open 32 = .ok (.aload_n 0, 1) := bz_c42 (by decide +kernel)
theorem d_VA_open_33 : decode b_VA_open 33 = .ok (.getfield 21, 3) := bz_c180 (by decide +kernel)
theorem d_VA_open_36 : decode b_VA_open 36 = .ok (.aload_n 0, 1) := bz_c42 (by decide +kernel)
theorem d_VA_open_37 : decode b_VA_open 37 = .ok (.getfield 117, 3) := bz_c180 (by decide +kernel)
theorem d_VA_open_40 : decode b_VA_open 40 = .ok (.aload_n 0, 1) := bz_c42 (by decide +kernel)
theorem d_VA_open_41 : decode b_VA_open 41 = .ok (.getfield 114, 3) := bz_c180 (by decide +kernel)
theorem d_VA_open_44 : decode b_VA_open 44 = .ok (.iastore, 1) := bz_c79 (by decide +kernel)
theorem d_VA_open_45 : decode b_VA_open 45 = .ok (.aload_n 0, 1) := bz_c42 (by decide +kernel)
theorem d_VA_open_46 : decode b_VA_open 46 = .ok (.getfield 24, 3) := bz_c180 (by decide +kernel)
theorem d_VA_open_49 : decode b_VA_open 49 = .ok (.aload_n 0, 1) := bz_c42 (by decide +kernel)
theorem d_VA_open_50 : decode b_VA_open 50 = .ok (.getfield 117, 3) := bz_c180 (by decide +kernel)
theorem d_VA_open_53 : decode b_VA_open 53 = .ok (.iconst 0, 1) := bz_c3 (by decide +kernel)
theorem d_VA_open_54 : decode b_VA_open 54 = .ok (.bastore, 1) := bz_c84 (by decide +kernel)
theorem d_VA_open_55 : decode b_VA_open 55 = .ok (.aload_n 0, 1) := bz_c42 (by decide +kernel)
theorem d_VA_open_56 : decode b_VA_open 56 = .ok (.dup, 1) := bz_c89 (by decide +kernel)
theorem d_VA_open_57 : decode b_VA_open 57 = .ok (.getfield 117, 3) := bz_c180 (by decide +kernel)
theorem d_VA_open_60 : decode b_VA_open 60 = .ok (.iconst 1, 1) := bz_c4 (by decide +kernel)
theorem d_VA_open_61 : decode b_VA_open 61 = .ok (.iadd, 1) := bz_c96 (by decide +kernel)
theorem d_VA_open_62 : decode b_VA_open 62 = .ok (.putfield 117, 3) := bz_c181 (by decide +kernel)
theorem d_VA_open_65 : decode b_VA_open 65 = .ok (.return_, 1) := bz_c177 (by decide +kernel)
theorem kF_VA_15 : Cond.fieldLink R_VA 15 "WaferForge$Validator" "blockOps" "[I" ∈ lw_g := in_c3 23 rfl rfl
theorem kF_VA_18 : Cond.fieldLink R_VA 18 "WaferForge$Validator" "blockGives" "[I" ∈ lw_g := in_c3 24 rfl rfl
abbrev at_VA_open (dC : Nat → ClassId) (dI : Nat → Nat → Nat) (h0 aw ac ty bo bg bh bd : Nat) (cbo cbg cbh cbd : ClassId) (h0_sound : Int32) (h0_function : Int32) (h0_height : Int32) (A : Nat → Prop) (u : (Nat → Int32) × (Nat → Int32) × (Nat → Int32) × (Nat → Int32) × Int32) (t : State) : Prop := match u with | (gbd, gbg, gbh, gbo, h0_depth) => va_P (dC, dI) cls (wz_67 h0 aw ac h0_sound h0_function ty h0_height bo bg bh bd h0_depth bo cbo gbo bg cbg gbg bh cbh gbh bd cbd gbd) t.heap ∧ va_K (dC, dI) cls [(cbo, .int), (cbg, .int), (cbh, .int), (cbd, .boolean)] t ∧ va_D A (wz_67 h0 aw ac h0_sound h0_function ty h0_height bo bg bh bd h0_depth bo cbo gbo bg cbg gbg bh cbh gbh bd cbd gbd)
set_option maxHeartbeats 4000000 in
set_option maxRecDepth 100000 in
theorem c_VA_open (l : Launch) (dC : Nat → ClassId) (dI : Nat → Nat → Nat) (sz : Nat) (h0 aw ac ty bo bg bh bd : Nat) (cbo cbg cbh cbd : ClassId) (h0_sound : Int32) (h0_function : Int32) (h0_height : Int32) (h0_depth : Int32) (gbo : Nat → Int32) (gbg : Nat → Int32) (gbh : Nat → Int32) (gbd : Nat → Int32)  (b_h0_height : 0 ≤ h0_height.toInt ∧ h0_height.toInt ≤ 5000) (b_h0_depth : 0 ≤ h0_depth.toInt ∧ h0_depth.toInt ≤ 101) (b_gbh : ∀ j : Nat, 0 ≤ (gbh j).toInt ∧ (gbh j).toInt ≤ 5000) (p0 : Int32) (p1 : Int32)  (hd2 : h0_depth.toInt ≤ 100) : Met l y_VA_open w_VA_open ({ frames := 0, cells := 0, slots := 0, locals := 0 }) (va_Pc [.ref h0, .int p0, .int p1] (fun U => U.heap.size = sz ∧ va_P (dC, dI) cls (wz_67 h0 aw ac h0_sound h0_function ty h0_height bo bg bh bd h0_depth bo cbo gbo bg cbg gbg bh cbh gbh bd cbd gbd) U.heap ∧ va_K (dC, dI) cls [(cbo, .int), (cbg, .int), (cbh, .int), (cbd, .boolean)] U ∧ va_D (fun _ => True) (wz_67 h0 aw ac h0_sound h0_function ty h0_height bo bg bh bd h0_depth bo cbo gbo bg cbg gbg bh cbh gbh bd cbd gbd))) (va_Qv (fun (u : (Nat → Int32) × (Nat → Int32) × (Nat → Int32) × (Nat → Int32) × Int32) => match u with | (gbd2, gbg2, gbh2, gbo2, h0_depth2) => (∀ j : Nat, 0 ≤ (gbh2 j).toInt ∧ (gbh2 j).toInt ≤ 5000) ∧ (0 ≤ h0_depth2.toInt ∧ h0_depth2.toInt ≤ 101) ∧ (h0_depth2.toInt = h0_depth.toInt + 1 ∧ gbo2 = upd gbo h0_depth.toNatClampNeg p0 ∧ gbg2 = upd gbg h0_depth.toNatClampNeg p1 ∧ gbh2 = upd gbh h0_depth.toNatClampNeg h0_height ∧ gbd2 = upd gbd h0_depth.toNatClampNeg (vp_nar .boolean 0))) (at_VA_open dC dI h0 aw ac ty bo bg bh bd cbo cbg cbh cbd h0_sound h0_function h0_height (va_A (wz_67 h0 aw ac h0_sound h0_function ty h0_height bo bg bh bd h0_depth bo cbo gbo bg cbg gbg bh cbh gbh bd cbd gbd) sz)) (va_A (wz_67 h0 aw ac h0_sound h0_function ty h0_height bo bg bh bd h0_depth bo cbo gbo bg cbg gbg bh cbh gbh bd cbd gbd) sz)) 0 0 (va_A (wz_67 h0 aw ac h0_sound h0_function ty h0_height bo bg bh bd h0_depth bo cbo gbo bg cbg gbg bh cbh gbh bd cbd gbd) sz) := by
  refine Met.ofW (cc := b_VA_open) (maxL := 3) (ret := none) (by decide) rfl ?_
  intro p e s m args below meth c s₁ B hml hv
  obtain ⟨rfl, hsz, hP, hK, hD0⟩ := hv
  have hx := B.exec
  have hb := B.bytes
  have hr := B.returns
  have hts0 := atoms_spec (ws := w_VA_open) B.pre
  have hts : ∀ w ∈ lw_g, w.before _ s = true := fun w h => hts0 w (List.mem_cons_of_mem _ h)
  have hown : s.vm.findClass R_VA = some m.cls := findClass_of_methodNamed B.named
  have hlocks := B.notSynchronized
  clear hts0
  subst hsz
  have hD := hD0.self (sz := s.heap.size)
  generalize hAe : va_A (wz_67 h0 aw ac h0_sound h0_function ty h0_height bo bg bh bd h0_depth bo cbo gbo bg cbg gbg bh cbh gbh bd cbd gbd) s.heap.size = A at hD ⊢
  have hA : ∀ q : Nat, s.heap.size ≤ q → A q := fun q h => by rw [← hAe]; exact Or.inr h
  clear hAe
  have hP : va_P (dC, dI) cls (wz_67 h0 aw ac h0_sound h0_function ty h0_height bo bg bh bd h0_depth bo cbo gbo bg cbg gbg bh cbh gbh bd cbd gbd) s.heap := hP
  have hl := lv_entry ([.ref h0, .int p0, .int p1]) (n := 3) (Nat.le_of_ble_eq_true rfl)
  rw [lg_entry_eq]
  generalize (lg_sl ([.ref h0, .int p0, .int p1]) ++ List.replicate (3 - (lg_sl ([.ref h0, .int p0, .int p1])).length) Slot.unset).toArray = ls at hl ⊢
  have hl : lv_has ls 3 [(0, .ref h0), (1, .int p0), (2, .int p1)] := hl
  have k0 : (0 : Int32).toInt = 0 := by decide
  refine w_gen (A := A) hP (fun H locs hP hS => ?_)
  have k1 : (1 : Int32).toInt = 1 := by decide
  have lo_p0 := i32_lo p0
  have hi_p0 := i32_hi p0
  have lo_p1 := i32_lo p1
  have hi_p1 := i32_hi p1
  refine lv_aload_n hx hb d_VA_open_0 rfl (lv_at hl 0 rfl) ?_
  refine va_get (D := (dC, dI)) (ci := 9) (v := .int h0_depth) (C := R_VA) (T := F_VA) (N := 11) hx hb hts i_VA hown hK hP 0 rfl rfl 10 (by decide) (hts _ kF_VA_117) (fun _ h9 => h9) rfl d_VA_open_1 ?_
  refine lv_aload_n hx hb d_VA_open_4 rfl (lv_at hl 0 rfl) ?_
  refine va_get (D := (dC, dI)) (ci := 9) (v := .ref bo) (C := R_VA) (T := F_VA) (N := 11) hx hb hts i_VA hown hK hP 0 rfl rfl 6 (by decide) (hts _ kF_VA_15) (fun _ h9 => h9) rfl d_VA_open_5 ?_
  refine va_alen hx hb hK hP 1 0 rfl rfl rfl d_VA_open_8 ?_
  refine lv_topi (fun x1 ex1 => ?_)
  have tx1 : x1.toInt = 101 := by rw [ex1]; exact i32_len (by (first | (apply Int.le_antisymm <;> omega) | omega))
  refine lv_icmp_ge (tgt := 65) hx hb d_VA_open_9 (by decide) (fun c9 => absurd (leI c9) (by (first | (apply Int.le_antisymm <;> omega) | omega))) (fun c9 => ?_)
  have q9 := nleI c9
  refine lv_aload_n hx hb d_VA_open_12 rfl (lv_at hl 0 rfl) ?_
  refine va_get (D := (dC, dI)) (ci := 9) (v := .ref bo) (C := R_VA) (T := F_VA) (N := 11) hx hb hts i_VA hown hK hP 0 rfl rfl 6 (by decide) (hts _ kF_VA_15) (fun _ h9 => h9) rfl d_VA_open_13 ?_
  refine lv_aload_n hx hb d_VA_open_16 rfl (lv_at hl 0 rfl) ?_
  refine va_get (D := (dC, dI)) (ci := 9) (v := .int h0_depth) (C := R_VA) (T := F_VA) (N := 11) hx hb hts i_VA hown hK hP 0 rfl rfl 10 (by decide) (hts _ kF_VA_117) (fun _ h9 => h9) rfl d_VA_open_17 ?_
  refine lv_iload_n hx hb d_VA_open_20 rfl (lv_at hl 1 rfl) ?_
  have g21 : vp_in h0_depth 101 := vp_in_iff.mpr ⟨by (first | (apply Int.le_antisymm <;> omega) | omega), by (first | (apply Int.le_antisymm <;> omega) | omega)⟩
  refine va_iast hx hb hK hP hD hS 1 0 rfl rfl g21 d_VA_open_21 (fun H locs hP hD hS => ?_)
  generalize ef2 : upd gbo h0_depth.toNatClampNeg p0 = f2 at hP hD
  refine lv_aload_n hx hb d_VA_open_22 rfl (lv_at hl 0 rfl) ?_
  refine va_get (D := (dC, dI)) (ci := 9) (v := .ref bg) (C := R_VA) (T := F_VA) (N := 11) hx hb hts i_VA hown hK hP 0 rfl rfl 7 (by decide) (hts _ kF_VA_18) (fun _ h9 => h9) rfl d_VA_open_23 ?_
  refine lv_aload_n hx hb d_VA_open_26 rfl (lv_at hl 0 rfl) ?_
  refine va_get (D := (dC, dI)) (ci := 9) (v := .int h0_depth) (C := R_VA) (T := F_VA) (N := 11) hx hb hts i_VA hown hK hP 0 rfl rfl 10 (by decide) (hts _ kF_VA_117) (fun _ h9 => h9) rfl d_VA_open_27 ?_
  refine lv_iload_n hx hb d_VA_open_30 rfl (lv_at hl 2 rfl) ?_
  have g31 : vp_in h0_depth 101 := vp_in_iff.mpr ⟨by (first | (apply Int.le_antisymm <;> omega) | omega), by (first | (apply Int.le_antisymm <;> omega) | omega)⟩
  refine va_iast hx hb hK hP hD hS 2 1 rfl rfl g31 d_VA_open_31 (fun H locs hP hD hS => ?_)
  generalize ef3 : upd gbg h0_depth.toNatClampNeg p1 = f3 at hP hD
  refine lv_aload_n hx hb d_VA_open_32 rfl (lv_at hl 0 rfl) ?_
  refine va_get (D := (dC, dI)) (ci := 9) (v := .ref bh) (C := R_VA) (T := F_VA) (N := 11) hx hb hts i_VA hown hK hP 0 rfl rfl 8 (by decide) (hts _ kF_VA_21) (fun _ h9 => h9) rfl d_VA_open_33 ?_
  refine lv_aload_n hx hb d_VA_open_36 rfl (lv_at hl 0 rfl) ?_
  refine va_get (D := (dC, dI)) (ci := 9) (v := .int h0_depth) (C := R_VA) (T := F_VA) (N := 11) hx hb hts i_VA hown hK hP 0 rfl rfl 10 (by decide) (hts _ kF_VA_117) (fun _ h9 => h9) rfl d_VA_open_37 ?_
  refine lv_aload_n hx hb d_VA_open_40 rfl (lv_at hl 0 rfl) ?_
  refine va_get (D := (dC, dI)) (ci := 9) (v := .int h0_height) (C := R_VA) (T := F_VA) (N := 11) hx hb hts i_VA hown hK hP 0 rfl rfl 5 (by decide) (hts _ kF_VA_114) (fun _ h9 => h9) rfl d_VA_open_41 ?_
  have g44 : vp_in h0_depth 101 := vp_in_iff.mpr ⟨by (first | (apply Int.le_antisymm <;> omega) | omega), by (first | (apply Int.le_antisymm <;> omega) | omega)⟩
  refine va_iast hx hb hK hP hD hS 3 2 rfl rfl g44 d_VA_open_44 (fun H locs hP hD hS => ?_)
  generalize ef4 : upd gbh h0_depth.toNatClampNeg h0_height = f4 at hP hD
  have b_f4 : ∀ j : Nat, 0 ≤ (f4 j).toInt ∧ (f4 j).toInt ≤ 5000 := by rw [← ef4]; exact upd_b b_gbh (b_h0_height)
  refine lv_aload_n hx hb d_VA_open_45 rfl (lv_at hl 0 rfl) ?_
  refine va_get (D := (dC, dI)) (ci := 9) (v := .ref bd) (C := R_VA) (T := F_VA) (N := 11) hx hb hts i_VA hown hK hP 0 rfl rfl 9 (by decide) (hts _ kF_VA_24) (fun _ h9 => h9) rfl d_VA_open_46 ?_
  refine lv_aload_n hx hb d_VA_open_49 rfl (lv_at hl 0 rfl) ?_
  refine va_get (D := (dC, dI)) (ci := 9) (v := .int h0_depth) (C := R_VA) (T := F_VA) (N := 11) hx hb hts i_VA hown hK hP 0 rfl rfl 10 (by decide) (hts _ kF_VA_117) (fun _ h9 => h9) rfl d_VA_open_50 ?_
  refine lv_iconst (v := 0) hx hb d_VA_open_53 (by decide) ?_
  have g54 : vp_in h0_depth 101 := vp_in_iff.mpr ⟨by (first | (apply Int.le_antisymm <;> omega) | omega), by (first | (apply Int.le_antisymm <;> omega) | omega)⟩
  refine va_zast hx hb hK hP hD hS 4 3 rfl rfl g54 d_VA_open_54 (fun H locs hP hD hS => ?_)
  generalize ef5 : upd gbd h0_depth.toNatClampNeg (vp_nar .boolean 0) = f5 at hP hD
  refine lv_aload_n hx hb d_VA_open_55 rfl (lv_at hl 0 rfl) ?_
  refine lv_dup hx hb d_VA_open_56 rfl ?_
  refine va_get (D := (dC, dI)) (ci := 9) (v := .int h0_depth) (C := R_VA) (T := F_VA) (N := 11) hx hb hts i_VA hown hK hP 0 rfl rfl 10 (by decide) (hts _ kF_VA_117) (fun _ h9 => h9) rfl d_VA_open_57 ?_
  refine lv_iconst (v := 1) hx hb d_VA_open_60 (by decide) ?_
  refine lv_iadd hx hb d_VA_open_61 ?_
  refine lv_topi (fun x6 ex6 => ?_)
  have tx6 : x6.toInt = h0_depth.toInt + 1 := by have z := i32_add ex6 (by (first | (apply Int.le_antisymm <;> omega) | omega)) (by (first | (apply Int.le_antisymm <;> omega) | omega)); first | exact z | (first | (apply Int.le_antisymm <;> omega) | omega)
  refine va_put (D := (dC, dI)) (ci := 9) (v := .int x6) (ty := .int) (C := R_VA) (T := F_VA) (N := 11) hx hb hts i_VA t_VA t_VA_ok n_VA hown hK hP hD hS 0 rfl rfl 10 (by decide) (hts _ kF_VA_117) (fun _ h9 => h9) rfl (by decide +kernel) rfl rfl (Nat.le_of_ble_eq_true rfl) d_VA_open_62 (fun H locs hP hD hS => ?_)
  have hP9 := hP.sb (wq := (wz_67 h0 aw ac h0_sound h0_function ty h0_height bo bg bh bd x6 bo cbo f2 bg cbg f3 bh cbh f4 bd cbd f5)) [0, 1, 2, 3, 4] rfl
  have hD9 := hD.sb (wq := (wz_67 h0 aw ac h0_sound h0_function ty h0_height bo bg bh bd x6 bo cbo f2 bg cbg f3 bh cbh f4 bd cbd f5)) [0, 1, 2, 3, 4] (by decide) rfl
  exact W.vret hx hb hr (fun t ht hW => ⟨⟨(f5, f3, f4, f2, x6), rfl, ⟨b_f4, by (try dsimp only) <;> (first | (apply Int.le_antisymm <;> omega) | omega), ⟨by (first | (apply Int.le_antisymm <;> omega) | omega), by (try dsimp only) <;> exact ef2.symm, by (try dsimp only) <;> exact ef3.symm, by (try dsimp only) <;> exact ef4.symm, by (try dsimp only) <;> exact ef5.symm⟩⟩, va_P.he ht.symm hP9, va_K.moved hW.alike hK, hD9⟩, hS.F ht⟩) hS.2.2 d_VA_open_65
abbrev b_VA_die : ByteArray := prog_12_method_16_code
def y_VA_die : MethodName := ⟨R_VA, "die", "()V"⟩
abbrev w_VA_die : List Cond := .code y_VA_die b_VA_die 1 none :: lw_g
theorem kC_VA_die : Cond.code y_VA_die b_VA_die 1 none ∈ lw_g := in_c6 223 rfl rfl
theorem d_VA_die_0 : decode b_VA_die 0 = .ok (.aload_n 0, 1) := bz_c42 (by decide +kernel)
theorem d_VA_die_1 : decode b_VA_die 1 = .ok (.getfield 117, 3) := bz_c180 (by decide +kernel)
theorem d_VA_die_4 : decode b_VA_die 4 = .ok (.ifCond .le 30, 3) := bz_c158 (by decide +kernel)
theorem d_VA_die_7 : decode b_VA_die 7 = .ok (.aload_n 0, 1) := bz_c42 (by decide +kernel)
theorem d_VA_die_8 : decode b_VA_die 8 = .ok (.aload_n 0, 1) := bz_c42 (by decide +kernel)
theorem d_VA_die_9 : decode b_VA_die 9 = .ok (.getfield 21, 3) := bz_c180 (by decide +kernel)
theorem d_VA_die_12 : decode b_VA_die 12 = .ok (.aload_n 0, 1) := bz_c42 (by decide +kernel)
theorem d_VA_die_13 : decode b_VA_die 13 = .ok (.getfield 117, 3) := bz_c180 (by decide +kernel)
theorem d_VA_die_16 : decode b_VA_die 16 = .ok (.iconst 1, 1) := bz_c4 (by decide +kernel)
theorem d_VA_die_17 : decode b_VA_die 17 = .ok (.isub, 1) := bz_c100 (by decide +kernel)
theorem d_VA_die_18 : decode b_VA_die 18 = .ok (.iaload, 1) := bz_c46 (by decide +kernel)
theorem d_VA_die_19 : decode b_VA_die 19 = .ok (.putfield 114, 3) := bz_c181 (by decide +kernel)
theorem d_VA_die_22 : decode b_VA_die 22 = .ok (.aload_n 0, 1) := bz_c42 (by decide +kernel)
theorem d_VA_die_23 : decode b_VA_die 23 = .ok (.getfield 24, 3) := bz_c180 (by decide +kernel)
theorem d_VA_die_26 : decode b_VA_die 26 = .ok (.aload_n 0, 1) := bz_c42 (by decide +kernel)
theorem d_VA_die_27 : decode b_VA_die 27 = .ok (.getfield 117, 3) := bz_c180 (by decide +kernel)
theorem d_VA_die_30 : decode b_VA_die 30 = .ok (.iconst 1, 1) := bz_c4 (by decide +kernel)
theorem d_VA_die_31 : decode b_VA_die 31 = .ok (.isub, 1) := bz_c100 (by decide +kernel)
theorem d_VA_die_32 : decode b_VA_die 32 = .ok (.iconst 1, 1) := bz_c4 (by decide +kernel)
theorem d_VA_die_33 : decode b_VA_die 33 = .ok (.bastore, 1) := bz_c84 (by decide +kernel)
theorem d_VA_die_34 : decode b_VA_die 34 = .ok (.return_, 1) := bz_c177 (by decide +kernel)
abbrev at_VA_die (dC : Nat → ClassId) (dI : Nat → Nat → Nat) (h0 aw ac ty bo bg bh bd : Nat) (cbh cbd : ClassId) (h0_sound : Int32) (h0_function : Int32) (h0_depth : Int32) (gbh : Nat → Int32) (A : Nat → Prop) (u : (Nat → Int32) × Int32) (t : State) : Prop := match u with | (gbd, h0_height) => va_P (dC, dI) cls (wz_68 h0 aw ac h0_sound h0_function ty h0_height bo bg bh bd h0_depth bh cbh gbh bd cbd gbd) t.heap ∧ va_K (dC, dI) cls [(cbh, .int), (cbd, .boolean)] t ∧ va_D A (wz_68 h0 aw ac h0_sound h0_function ty h0_height bo bg bh bd h0_depth bh cbh gbh bd cbd gbd)
set_option maxHeartbeats 4000000 in
set_option maxRecDepth 100000 in
theorem c_VA_die (l : Launch) (dC : Nat → ClassId) (dI : Nat → Nat → Nat) (sz : Nat) (h0 aw ac ty bo bg bh bd : Nat) (cbh cbd : ClassId) (h0_sound : Int32) (h0_function : Int32) (h0_height : Int32) (h0_depth : Int32) (gbh : Nat → Int32) (gbd : Nat → Int32)  (b_h0_height : 0 ≤ h0_height.toInt ∧ h0_height.toInt ≤ 5000) (b_h0_depth : 0 ≤ h0_depth.toInt ∧ h0_depth.toInt ≤ 101) (b_gbh : ∀ j : Nat, 0 ≤ (gbh j).toInt ∧ (gbh j).toInt ≤ 5000)   (hd1 : 1 ≤ h0_depth.toInt) : Met l y_VA_die w_VA_die ({ frames := 0, cells := 0, slots := 0, locals := 0 }) (va_Pc [.ref h0] (fun U => U.heap.size = sz ∧ va_P (dC, dI) cls (wz_68 h0 aw ac h0_sound h0_function ty h0_height bo bg bh bd h0_depth bh cbh gbh bd cbd gbd) U.heap ∧ va_K (dC, dI) cls [(cbh, .int), (cbd, .boolean)] U ∧ va_D (fun _ => True) (wz_68 h0 aw ac h0_sound h0_function ty h0_height bo bg bh bd h0_depth bh cbh gbh bd cbd gbd))) (va_Qv (fun (u : (Nat → Int32) × Int32) => match u with | (gbd2, h0_height2) => (0 ≤ h0_height2.toInt ∧ h0_height2.toInt ≤ 5000) ∧ (h0_height2.toInt = (gbh (h0_depth.toInt - 1).toNat).toInt ∧ gbd2 = upd gbd (h0_depth.toInt - 1).toNat (vp_nar .boolean 1))) (at_VA_die dC dI h0 aw ac ty bo bg bh bd cbh cbd h0_sound h0_function h0_depth gbh (va_A (wz_68 h0 aw ac h0_sound h0_function ty h0_height bo bg bh bd h0_depth bh cbh gbh bd cbd gbd) sz)) (va_A (wz_68 h0 aw ac h0_sound h0_function ty h0_height bo bg bh bd h0_depth bh cbh gbh bd cbd gbd) sz)) 0 0 (va_A (wz_68 h0 aw ac h0_sound h0_function ty h0_height bo bg bh bd h0_depth bh cbh gbh bd cbd gbd) sz) := by
  refine Met.ofW (cc := b_VA_die) (maxL := 1) (ret := none) (by decide) rfl ?_
  intro p e s m args below meth c s₁ B hml hv
  obtain ⟨rfl, hsz, hP, hK, hD0⟩ := hv
  have hx := B.exec
  have hb := B.bytes
  have hr := B.returns
  have hts0 := atoms_spec (ws := w_VA_die) B.pre
  have hts : ∀ w ∈ lw_g, w.before _ s = true := fun w h => hts0 w (List.mem_cons_of_mem _ h)
  have hown : s.vm.findClass R_VA = some m.cls := findClass_of_methodNamed B.named
  have hlocks := B.notSynchronized
  clear hts0
  subst hsz
  have hD := hD0.self (sz := s.heap.size)
  generalize hAe : va_A (wz_68 h0 aw ac h0_sound h0_function ty h0_height bo bg bh bd h0_depth bh cbh gbh bd cbd gbd) s.heap.size = A at hD ⊢
  have hA : ∀ q : Nat, s.heap.size ≤ q → A q := fun q h => by rw [← hAe]; exact Or.inr h
  clear hAe
  have hP : va_P (dC, dI) cls (wz_68 h0 aw ac h0_sound h0_function ty h0_height bo bg bh bd h0_depth bh cbh gbh bd cbd gbd) s.heap := hP
  have hl := lv_entry ([.ref h0]) (n := 1) (Nat.le_of_ble_eq_true rfl)
  rw [lg_entry_eq]
  generalize (lg_sl ([.ref h0]) ++ List.replicate (1 - (lg_sl ([.ref h0])).length) Slot.unset).toArray = ls at hl ⊢
  have hl : lv_has ls 1 [(0, .ref h0)] := hl
  have k0 : (0 : Int32).toInt = 0 := by decide
  refine w_gen (A := A) hP (fun H locs hP hS => ?_)
  have k1 : (1 : Int32).toInt = 1 := by decide
  refine lv_aload_n hx hb d_VA_die_0 rfl (lv_at hl 0 rfl) ?_
  refine va_get (D := (dC, dI)) (ci := 9) (v := .int h0_depth) (C := R_VA) (T := F_VA) (N := 11) hx hb hts i_VA hown hK hP 0 rfl rfl 10 (by decide) (hts _ kF_VA_117) (fun _ h9 => h9) rfl d_VA_die_1 ?_
  refine lv_if_le (tgt := 34) hx hb d_VA_die_4 (by decide) (fun c4 => absurd (leI c4) (by (first | (apply Int.le_antisymm <;> omega) | omega))) (fun c4 => ?_)
  have q4 := nleI c4
  refine lv_aload_n hx hb d_VA_die_7 rfl (lv_at hl 0 rfl) ?_
  refine lv_aload_n hx hb d_VA_die_8 rfl (lv_at hl 0 rfl) ?_
  refine va_get (D := (dC, dI)) (ci := 9) (v := .ref bh) (C := R_VA) (T := F_VA) (N := 11) hx hb hts i_VA hown hK hP 0 rfl rfl 8 (by decide) (hts _ kF_VA_21) (fun _ h9 => h9) rfl d_VA_die_9 ?_
  refine lv_aload_n hx hb d_VA_die_12 rfl (lv_at hl 0 rfl) ?_
  refine va_get (D := (dC, dI)) (ci := 9) (v := .int h0_depth) (C := R_VA) (T := F_VA) (N := 11) hx hb hts i_VA hown hK hP 0 rfl rfl 10 (by decide) (hts _ kF_VA_117) (fun _ h9 => h9) rfl d_VA_die_13 ?_
  refine lv_iconst (v := 1) hx hb d_VA_die_16 (by decide) ?_
  refine lv_isub hx hb d_VA_die_17 ?_
  refine lv_topi (fun x1 ex1 => ?_)
  have tx1 : x1.toInt = h0_depth.toInt - 1 := by have z := i32_sub ex1 (by (first | (apply Int.le_antisymm <;> omega) | omega)) (by (first | (apply Int.le_antisymm <;> omega) | omega)); first | exact z | (first | (apply Int.le_antisymm <;> omega) | omega)
  have g18 : vp_in x1 101 := vp_in_iff.mpr ⟨by (first | (apply Int.le_antisymm <;> omega) | omega), by (first | (apply Int.le_antisymm <;> omega) | omega)⟩
  refine va_iald hx hb hK hP 1 0 rfl rfl g18 d_VA_die_18 ?_
  refine lv_topi (fun x2 ex2 => ?_)
  have tx2 := b_gbh x1.toNatClampNeg
  rw [← ex2] at tx2
  rw [i32_natI (x := x1) (n := h0_depth.toInt - 1) (by (first | (apply Int.le_antisymm <;> omega) | omega))] at ex2
  have ux2 : x2.toInt = (gbh (h0_depth.toInt - 1).toNat).toInt := by rw [ex2]
  refine va_put (D := (dC, dI)) (ci := 9) (v := .int x2) (ty := .int) (C := R_VA) (T := F_VA) (N := 11) hx hb hts i_VA t_VA t_VA_ok n_VA hown hK hP hD hS 0 rfl rfl 5 (by decide) (hts _ kF_VA_114) (fun _ h9 => h9) rfl (by decide +kernel) rfl rfl (Nat.le_of_ble_eq_true rfl) d_VA_die_19 (fun H locs hP hD hS => ?_)
  refine lv_aload_n hx hb d_VA_die_22 rfl (lv_at hl 0 rfl) ?_
  refine va_get (D := (dC, dI)) (ci := 9) (v := .ref bd) (C := R_VA) (T := F_VA) (N := 11) hx hb hts i_VA hown hK hP 0 rfl rfl 9 (by decide) (hts _ kF_VA_24) (fun _ h9 => h9) rfl d_VA_die_23 ?_
  refine lv_aload_n hx hb d_VA_die_26 rfl (lv_at hl 0 rfl) ?_
  refine va_get (D := (dC, dI)) (ci := 9) (v := .int h0_depth) (C := R_VA) (T := F_VA) (N := 11) hx hb hts i_VA hown hK hP 0 rfl rfl 10 (by decide) (hts _ kF_VA_117) (fun _ h9 => h9) rfl d_VA_die_27 ?_
  refine lv_iconst (v := 1) hx hb d_VA_die_30 (by decide) ?_
  refine lv_isub hx hb d_VA_die_31 ?_
  refine lv_topi (fun x3 ex3 => ?_)
  have tx3 : x3.toInt = h0_depth.toInt - 1 := by have z := i32_sub ex3 (by (first | (apply Int.le_antisymm <;> omega) | omega)) (by (first | (apply Int.le_antisymm <;> omega) | omega)); first | exact z | (first | (apply Int.le_antisymm <;> omega) | omega)
  refine lv_iconst (v := 1) hx hb d_VA_die_32 (by decide) ?_
  have g33 : vp_in x3 101 := vp_in_iff.mpr ⟨by (first | (apply Int.le_antisymm <;> omega) | omega), by (first | (apply Int.le_antisymm <;> omega) | omega)⟩
  refine va_zast hx hb hK hP hD hS 2 1 rfl rfl g33 d_VA_die_33 (fun H locs hP hD hS => ?_)
  generalize ef4 : upd gbd x3.toNatClampNeg (vp_nar .boolean 1) = f4 at hP hD
  have hP9 := hP.sb (wq := (wz_68 h0 aw ac h0_sound h0_function ty x2 bo bg bh bd h0_depth bh cbh gbh bd cbd f4)) [0, 1, 2] rfl
  have hD9 := hD.sb (wq := (wz_68 h0 aw ac h0_sound h0_function ty x2 bo bg bh bd h0_depth bh cbh gbh bd cbd f4)) [0, 1, 2] (by decide) rfl
  exact W.vret hx hb hr (fun t ht hW => ⟨⟨(f4, x2), rfl, ⟨tx2, ⟨by (try dsimp only) <;> (first | (apply Int.le_antisymm <;> omega) | omega), by (try dsimp only); rw [← ef4, i32_natI (x := x3) (n := h0_depth.toInt - 1) (by (first | (apply Int.le_antisymm <;> omega) | omega))]⟩⟩, va_P.he ht.symm hP9, va_K.moved hW.alike hK, hD9⟩, hS.F ht⟩) hS.2.2 d_VA_die_34
abbrev b_VA_close : ByteArray := prog_12_method_15_code
def y_VA_close : MethodName := ⟨R_VA, "close", "()V"⟩
abbrev w_VA_close : List Cond := .code y_VA_close b_VA_close 1 none :: lw_g
theorem kC_VA_close : Cond.code y_VA_close b_VA_close 1 none ∈ lw_g := in_c6 235 rfl rfl
theorem d_VA_close_0 : decode b_VA_close 0 = .ok (.aload_n 0, 1) := bz_c42 (by decide +kernel)
theorem d_VA_close_1 : decode b_VA_close 1 = .ok (.getfield 117, 3) := bz_c180 (by decide +kernel)
theorem d_VA_close_4 : decode b_VA_close 4 = .ok (.ifCond .le 62, 3) := bz_c158 (by decide +kernel)
theorem d_VA_close_7 : decode b_VA_close 7 = .ok (.aload_n 0, 1) := bz_c42 (by decide +kernel)
theorem d_VA_close_8 : decode b_VA_close 8 = .ok (.aload_n 0, 1) := bz_c42 (by decide +kernel)
theorem d_VA_close_9 : decode b_VA_close 9 = .ok (.getfield 18, 3) := bz_c180 (by decide +kernel)
theorem d_VA_close_12 : decode b_VA_close 12 = .ok (.aload_n 0, 1) := bz_c42 (by decide +kernel)
theorem d_VA_close_13 : decode b_VA_close 13 = .ok (.getfield 117, 3) := bz_c180 (by decide +kernel)
theorem d_VA_close_16 : decode b_VA_close 16 = .ok (.iconst 1, 1) := bz_c4 (by decide +kernel)
theorem d_VA_close_17 : decode b_VA_close 17 = .ok (.isub, 1) := bz_c100 (by decide +kernel)
theorem d_VA_close_18 : decode b_VA_close 18 = .ok (.iaload, 1) := bz_c46 (by decide +kernel)
theorem d_VA_close_19 : decode b_VA_close 19 = .ok (.invokevirtual 161, 3) := bz_c182 (by decide +kernel)
theorem d_VA_close_22 : decode b_VA_close 22 = .ok (.aload_n 0, 1) := bz_c42 (by decide +kernel)
theorem d_VA_close_23 : decode b_VA_close 23 = .ok (.aload_n 0, 1) := bz_c42 (by decide +kernel)
theorem d_VA_close_24 : decode b_VA_close 24 = .ok (.getfield 39, 3) := bz_c180 (by decide +kernel)
theorem d_VA_close_27 : decode b_VA_close 27 = .ok (.ifCond .eq 25, 3) := bz_c153 (by decide +kernel)
theorem d_VA_close_30 : decode b_VA_close 30 = .ok (.aload_n 0, 1) := bz_c42 (by decide +kernel)
theorem d_VA_close_31 : decode b_VA_close 31 = .ok (.getfield 114, 3) := bz_c180 (by decide +kernel)
theorem d_VA_close_34 : decode b_VA_close 34 = .ok (.aload_n 0, 1) := bz_c42 (by decide +kernel)
theorem d_VA_close_35 : decode b_VA_close 35 = .ok (.getfield 21, 3) := bz_c180 (by decide +kernel)
theorem d_VA_close_38 : decode b_VA_close 38 = .ok (.aload_n 0, 1) := bz_c42 (by decide +kernel)
theorem d_VA_close_39 : decode b_VA_close 39 = .ok (.getfield 117, 3) := bz_c180 (by decide +kernel)
theorem d_VA_close_42 : decode b_VA_close 42 = .ok (.iconst 1, 1) := bz_c4 (by decide +kernel)
theorem d_VA_close_43 : decode b_VA_close 43 = .ok (.isub, 1) := bz_c100 (by decide +kernel)
theorem d_VA_close_44 : decode b_VA_close 44 = .ok (.iaload, 1) := bz_c46 (by decide +kernel)
theorem d_VA_close_45 : decode b_VA_close 45 = .ok (.if_icmp .ne 7, 3) := bz_c160 (by decide +kernel)
theorem d_VA_close_48 : decode b_VA_close 48 = .ok (.iconst 1, 1) := bz_c4 (by decide +kernel)
theorem d_VA_close_49 : decode b_VA_close 49 = .ok (.goto 4, 3) := bz_c167 (by decide +kernel)
theorem d_VA_close_52 : decode b_VA_close 52 = .ok (.iconst 0, 1) := bz_c3 (by decide +kernel)
theorem d_VA_close_53 : decode b_VA_close 53 = .ok (.putfield 39, 3) := bz_c181 (by decide +kernel)
theorem d_VA_close_56 : decode b_VA_close 56 = .ok (.aload_n 0, 1) := bz_c42 (by decide +kernel)
theorem d_VA_close_57 : decode b_VA_close 57 = .ok (.dup, 1) := bz_c89 (by decide +kernel)
theorem d_VA_close_58 : decode b_VA_close 58 = .ok (.getfield 117, 3) := bz_c180 (by decide +kernel)
theorem d_VA_close_61 : decode b_VA_close 61 = .ok (.iconst 1, 1) := bz_c4 (by decide +kernel)
theorem d_VA_close_62 : decode b_VA_close 62 = .ok (.isub, 1) := bz_c100 (by decide +kernel)
theorem d_VA_close_63 : decode b_VA_close 63 = .ok (.putfield 117, 3) := bz_c181 (by decide +kernel)
theorem d_VA_close_66 : decode b_VA_close 66 = .ok (.return_, 1) := bz_c177 (by decide +kernel)
theorem kM_VA_161 : Cond.methodLink R_VA 161 y_VA_pop ∈ lw_g := in_c6 224 rfl rfl
theorem kV_VA_pop : Cond.instanceMethod y_VA_pop ∈ lw_g := in_c6 226 rfl rfl
theorem kS_VA_pop : Cond.selects R_VA y_VA_pop y_VA_pop ∈ lw_g := in_s 87 (by decide +kernel) rfl
abbrev at_VA_close (dC : Nat → ClassId) (dI : Nat → Nat → Nat) (h0 aw ac ty bo bg bh bd : Nat) (cty cbg cbh cbd : ClassId) (h0_function : Int32) (gty : Nat → Int32) (gbg : Nat → Int32) (gbh : Nat → Int32) (gbd : Nat → Int32) (A : Nat → Prop) (u : Int32 × Int32 × Int32) (t : State) : Prop := match u with | (h0_depth, h0_height, h0_sound) => va_P (dC, dI) cls (wz_69 h0 aw ac h0_sound h0_function ty h0_height bo bg bh bd h0_depth ty cty gty bg cbg gbg bh cbh gbh bd cbd gbd) t.heap ∧ va_K (dC, dI) cls [(cty, .int), (cbg, .int), (cbh, .int), (cbd, .boolean)] t ∧ va_D A (wz_69 h0 aw ac h0_sound h0_function ty h0_height bo bg bh bd h0_depth ty cty gty bg cbg gbg bh cbh gbh bd cbd gbd)
set_option maxHeartbeats 4000000 in
set_option maxRecDepth 100000 in
theorem c_VA_close (l : Launch) (dC : Nat → ClassId) (dI : Nat → Nat → Nat) (sz : Nat) (h0 aw ac ty bo bg bh bd : Nat) (cty cbg cbh cbd : ClassId) (h0_sound : Int32) (h0_function : Int32) (h0_height : Int32) (h0_depth : Int32) (gty : Nat → Int32) (gbg : Nat → Int32) (gbh : Nat → Int32) (gbd : Nat → Int32)  (b_h0_sound : h0_sound = 0 ∨ h0_sound = 1) (b_h0_height : 0 ≤ h0_height.toInt ∧ h0_height.toInt ≤ 5000) (b_h0_depth : 0 ≤ h0_depth.toInt ∧ h0_depth.toInt ≤ 101) (b_gty : ∀ j : Nat, (gty j).toInt ≠ 64) (b_gbh : ∀ j : Nat, 0 ≤ (gbh j).toInt ∧ (gbh j).toInt ≤ 5000)   (hd1 : 1 ≤ h0_depth.toInt) (hbh : (gbh (h0_depth.toInt - 1).toNat).toInt ≤ h0_height.toInt) : Met l y_VA_close w_VA_close ({ frames := 2, cells := 0, slots := 0, locals := 42 }) (va_Pc [.ref h0] (fun U => U.heap.size = sz ∧ va_P (dC, dI) cls (wz_69 h0 aw ac h0_sound h0_function ty h0_height bo bg bh bd h0_depth ty cty gty bg cbg gbg bh cbh gbh bd cbd gbd) U.heap ∧ va_K (dC, dI) cls [(cty, .int), (cbg, .int), (cbh, .int), (cbd, .boolean)] U ∧ va_D (fun _ => True) (wz_69 h0 aw ac h0_sound h0_function ty h0_height bo bg bh bd h0_depth ty cty gty bg cbg gbg bh cbh gbh bd cbd gbd))) (va_Qv (fun (u : Int32 × Int32 × Int32) => match u with | (h0_depth2, h0_height2, h0_sound2) => (0 ≤ h0_depth2.toInt ∧ h0_depth2.toInt ≤ 101) ∧ (0 ≤ h0_height2.toInt ∧ h0_height2.toInt ≤ 5000) ∧ (h0_sound2 = 0 ∨ h0_sound2 = 1) ∧ (((gbh (h0_depth.toInt - 1).toNat).toInt ≤ h0_height2.toInt ∧ h0_height2.toInt ≤ h0_height.toInt) ∧ h0_depth2.toInt = h0_depth.toInt - 1 ∧ (h0_sound2.toInt = 1 → h0_sound.toInt = 1 ∧ h0_height2.toInt = (gbh (h0_depth.toInt - 1).toNat).toInt ∧ ((gbd (h0_depth.toInt - 1).toNat).toInt = 0 → ((gbg (h0_depth.toInt - 1).toNat).toInt = 64 → h0_height.toInt = (gbh (h0_depth.toInt - 1).toNat).toInt) ∧ ((gbg (h0_depth.toInt - 1).toNat).toInt ≠ 64 → h0_height.toInt = (gbh (h0_depth.toInt - 1).toNat).toInt + 1))))) (at_VA_close dC dI h0 aw ac ty bo bg bh bd cty cbg cbh cbd h0_function gty gbg gbh gbd (va_A (wz_69 h0 aw ac h0_sound h0_function ty h0_height bo bg bh bd h0_depth ty cty gty bg cbg gbg bh cbh gbh bd cbd gbd) sz)) (va_A (wz_69 h0 aw ac h0_sound h0_function ty h0_height bo bg bh bd h0_depth ty cty gty bg cbg gbg bh cbh gbh bd cbd gbd) sz)) 0 0 (va_A (wz_69 h0 aw ac h0_sound h0_function ty h0_height bo bg bh bd h0_depth ty cty gty bg cbg gbg bh cbh gbh bd cbd gbd) sz) := by
  refine Met.ofW (cc := b_VA_close) (maxL := 1) (ret := none) (by decide) rfl ?_
  intro p e s m args below meth c s₁ B hml hv
  obtain ⟨rfl, hsz, hP, hK, hD0⟩ := hv
  have hx := B.exec
  have hb := B.bytes
  have hr := B.returns
  have hts0 := atoms_spec (ws := w_VA_close) B.pre
  have hts : ∀ w ∈ lw_g, w.before _ s = true := fun w h => hts0 w (List.mem_cons_of_mem _ h)
  have hown : s.vm.findClass R_VA = some m.cls := findClass_of_methodNamed B.named
  have hlocks := B.notSynchronized
  clear hts0
  subst hsz
  have hD := hD0.self (sz := s.heap.size)
  generalize hAe : va_A (wz_69 h0 aw ac h0_sound h0_function ty h0_height bo bg bh bd h0_depth ty cty gty bg cbg gbg bh cbh gbh bd cbd gbd) s.heap.size = A at hD ⊢
  have hA : ∀ q : Nat, s.heap.size ≤ q → A q := fun q h => by rw [← hAe]; exact Or.inr h
  clear hAe
  have hP : va_P (dC, dI) cls (wz_69 h0 aw ac h0_sound h0_function ty h0_height bo bg bh bd h0_depth ty cty gty bg cbg gbg bh cbh gbh bd cbd gbd) s.heap := hP
  have hl := lv_entry ([.ref h0]) (n := 1) (Nat.le_of_ble_eq_true rfl)
  rw [lg_entry_eq]
  generalize (lg_sl ([.ref h0]) ++ List.replicate (1 - (lg_sl ([.ref h0])).length) Slot.unset).toArray = ls at hl ⊢
  have hl : lv_has ls 1 [(0, .ref h0)] := hl
  have k0 : (0 : Int32).toInt = 0 := by decide
  refine w_gen (A := A) hP (fun H locs hP hS => ?_)
  have k1 : (1 : Int32).toInt = 1 := by decide
  have th0_sound := b01 b_h0_sound
  refine lv_aload_n hx hb d_VA_close_0 rfl (lv_at hl 0 rfl) ?_
  refine va_get (D := (dC, dI)) (ci := 9) (v := .int h0_depth) (C := R_VA) (T := F_VA) (N := 11) hx hb hts i_VA hown hK hP 0 rfl rfl 10 (by decide) (hts _ kF_VA_117) (fun _ h9 => h9) rfl d_VA_close_1 ?_
  refine lv_if_le (tgt := 66) hx hb d_VA_close_4 (by decide) (fun c4 => absurd (leI c4) (by (first | (apply Int.le_antisymm <;> omega) | omega))) (fun c4 => ?_)
  have q4 := nleI c4
  refine lv_aload_n hx hb d_VA_close_7 rfl (lv_at hl 0 rfl) ?_
  refine lv_aload_n hx hb d_VA_close_8 rfl (lv_at hl 0 rfl) ?_
  refine va_get (D := (dC, dI)) (ci := 9) (v := .ref bg) (C := R_VA) (T := F_VA) (N := 11) hx hb hts i_VA hown hK hP 0 rfl rfl 7 (by decide) (hts _ kF_VA_18) (fun _ h9 => h9) rfl d_VA_close_9 ?_
  refine lv_aload_n hx hb d_VA_close_12 rfl (lv_at hl 0 rfl) ?_
  refine va_get (D := (dC, dI)) (ci := 9) (v := .int h0_depth) (C := R_VA) (T := F_VA) (N := 11) hx hb hts i_VA hown hK hP 0 rfl rfl 10 (by decide) (hts _ kF_VA_117) (fun _ h9 => h9) rfl d_VA_close_13 ?_
  refine lv_iconst (v := 1) hx hb d_VA_close_16 (by decide) ?_
  refine lv_isub hx hb d_VA_close_17 ?_
  refine lv_topi (fun x1 ex1 => ?_)
  have tx1 : x1.toInt = h0_depth.toInt - 1 := by have z := i32_sub ex1 (by (first | (apply Int.le_antisymm <;> omega) | omega)) (by (first | (apply Int.le_antisymm <;> omega) | omega)); first | exact z | (first | (apply Int.le_antisymm <;> omega) | omega)
  have g18 : vp_in x1 101 := vp_in_iff.mpr ⟨by (first | (apply Int.le_antisymm <;> omega) | omega), by (first | (apply Int.le_antisymm <;> omega) | omega)⟩
  refine va_iald hx hb hK hP 2 1 rfl rfl g18 d_VA_close_18 ?_
  refine lv_topi (fun x2 ex2 => ?_)
  rw [i32_natI (x := x1) (n := h0_depth.toInt - 1) (by (first | (apply Int.le_antisymm <;> omega) | omega))] at ex2
  have ux2 : x2.toInt = (gbg (h0_depth.toInt - 1).toNat).toInt := by rw [ex2]
  have hPc := hP.sb (wq := (wz_65 h0 aw ac h0_sound h0_function ty h0_height bo bg bh bd h0_depth ty cty gty bh cbh gbh bd cbd gbd)) [0, 1, 3, 4] rfl
  have hDc := hD.sb (wq := (wz_65 h0 aw ac h0_sound h0_function ty h0_height bo bg bh bd h0_depth ty cty gty bh cbh gbh bd cbd gbd)) [0, 1, 3, 4] (by decide) rfl
  have hKc := hK.sb (tyq := [(cty, .int), (cbh, .int), (cbd, .boolean)]) [0, 2, 3] rfl
  have hFc := va_free (wc := (wz_65 h0 aw ac h0_sound h0_function ty h0_height bo bg bh bd h0_depth ty cty gty bh cbh gbh bd cbd gbd)) hD hS hA [0, 1, 3, 4] rfl
  refine va_callv (va_runV (As := [.int x2]) (rest := []) ⟨hx, hb, hml, hown, hts⟩ (c_VA_pop l dC dI H.size h0 aw ac ty bo bg bh bd cty cbh cbd h0_sound h0_function h0_height h0_depth gty gbh gbd (b_h0_sound) (b_h0_height) (b_h0_depth) (b_gty) (b_gbh) x2 (by (try dsimp only) <;> (first | (apply Int.le_antisymm <;> omega) | omega)) (by (try dsimp only) <;> (first | (apply Int.le_antisymm <;> omega) | omega))) (cwV 1 hts (gV kM_VA_161 kV_VA_pop kS_VA_pop kI_VA kC_VA_pop) rfl rfl rfl (by decide +kernel) ⟨Nat.le_of_ble_eq_true rfl, Nat.le_of_ble_eq_true rfl⟩) ⟨fun a U g mk z => by obtain ⟨z0, z1, zP, zK, zD⟩ := z; exact ⟨z0, z1, zP, va_K.moved (u := U) (U := U.calling g mk a) (Vm.Alike.refl U.vm) zK, zD⟩, va_recv hKc hPc (ci := 9) (q0 := 0) rfl rfl, fun U hU hW => ⟨rfl, by rw [hU], va_P.he hU.symm hPc, va_K.moved hW.alike hKc, hDc.weaken (fun _ _ _ _ => trivial)⟩⟩ rfl rfl hl.1 rfl (lv_room (Nat.le_of_ble_eq_true rfl)) d_VA_close_19 ⟨(Nat.zero_le _), (Nat.zero_le _)⟩) hS (fun q _ h => hFc q h) hFc (fun u t H1 locs ht hvm hw hB hz1 hk1 hS => ?_)
  obtain ⟨n4, n5⟩ := u
  try dsimp only at hw
  obtain ⟨bn4, bn5, xr3⟩ := hw
  try clear hw
  have tn5 := b01 bn5
  obtain ⟨hP1, hK1, hD1⟩ := hB
  replace hP1 := va_P.he ht hP1
  obtain ⟨hP, hD⟩ := va_join (wr := [(bg, .inl (cbg, 101, .inl gbg))]) (w1 := (wz_65 h0 aw ac n5 h0_function ty n4 bo bg bh bd h0_depth ty cty gty bh cbh gbh bd cbd gbd)) hP hD [0, 1, 3, 4] [2] rfl rfl (by decide) (by decide) hk1 hFc hP1 hD1
  clear hPc hDc hKc hFc hz1 hk1 hP1 hK1 hD1
  rename Heap => H
  have hP : va_P (dC, dI) cls (wz_70 bg cbg gbg h0 aw ac n5 h0_function ty n4 bo bg bh bd h0_depth ty cty gty bh cbh gbh bd cbd gbd) H := hP
  have hD : va_D A (wz_70 bg cbg gbg h0 aw ac n5 h0_function ty n4 bo bg bh bd h0_depth ty cty gty bh cbh gbh bd cbd gbd) := hD
  refine lv_aload_n hx hb d_VA_close_22 rfl (lv_at hl 0 rfl) ?_
  refine lv_aload_n hx hb d_VA_close_23 rfl (lv_at hl 0 rfl) ?_
  refine va_get (D := (dC, dI)) (ci := 9) (v := .int n5) (C := R_VA) (T := F_VA) (N := 11) hx hb hts i_VA hown hK hP 1 rfl rfl 2 (by decide) (hts _ kF_VA_39) (fun _ h9 => h9) rfl d_VA_close_24 ?_
  refine w_cut (pc2 := 53) (σ := Int32) (fun u H locs ls => match u with | j53_s0 => (j53_s0 = 0 ∨ j53_s0 = 1) ∧ (j53_s0.toInt = 1 → n5.toInt = 1 ∧ n4.toInt = (gbh (h0_depth.toInt - 1).toNat).toInt) ∧ va_P (dC, dI) cls (wz_70 bg cbg gbg h0 aw ac n5 h0_function ty n4 bo bg bh bd h0_depth ty cty gty bh cbh gbh bd cbd gbd) H ∧ va_D A (wz_70 bg cbg gbg h0 aw ac n5 h0_function ty n4 bo bg bh bd h0_depth ty cty gty bh cbh gbh bd cbd gbd) ∧ va_S A s.heap H locs ∧ lv_has ls 1 [(0, .ref h0)]) (fun u => match u with | j53_s0 => [.int j53_s0, .ref h0]) ?_ (fun jn53 => ?_)
  · intro u H locs ls hI
    obtain ⟨j53_s0, rfl⟩ : ∃ z, z = u := ⟨_, rfl⟩
    obtain ⟨b_j53_s0, x0, hP, hD, hS, hl⟩ := hI
    have tj53_s0 := b01 b_j53_s0
    refine va_put (D := (dC, dI)) (ci := 9) (v := .int j53_s0) (ty := .boolean) (C := R_VA) (T := F_VA) (N := 11) hx hb hts i_VA t_VA t_VA_ok n_VA hown hK hP hD hS 1 rfl rfl 2 (by decide) (hts _ kF_VA_39) (fun _ h9 => h9) rfl (by decide +kernel) (zn01 (b_j53_s0)) (fz01 (b_j53_s0)) (Nat.le_of_ble_eq_true rfl) d_VA_close_53 (fun H locs hP hD hS => ?_)
    refine lv_aload_n hx hb d_VA_close_56 rfl (lv_at hl 0 rfl) ?_
    refine lv_dup hx hb d_VA_close_57 rfl ?_
    refine va_get (D := (dC, dI)) (ci := 9) (v := .int h0_depth) (C := R_VA) (T := F_VA) (N := 11) hx hb hts i_VA hown hK hP 1 rfl rfl 10 (by decide) (hts _ kF_VA_117) (fun _ h9 => h9) rfl d_VA_close_58 ?_
    refine lv_iconst (v := 1) hx hb d_VA_close_61 (by decide) ?_
    refine lv_isub hx hb d_VA_close_62 ?_
    refine lv_topi (fun x6 ex6 => ?_)
    have tx6 : x6.toInt = h0_depth.toInt - 1 := by have z := i32_sub ex6 (by (first | (apply Int.le_antisymm <;> omega) | omega)) (by (first | (apply Int.le_antisymm <;> omega) | omega)); first | exact z | (first | (apply Int.le_antisymm <;> omega) | omega)
    refine va_put (D := (dC, dI)) (ci := 9) (v := .int x6) (ty := .int) (C := R_VA) (T := F_VA) (N := 11) hx hb hts i_VA t_VA t_VA_ok n_VA hown hK hP hD hS 1 rfl rfl 10 (by decide) (hts _ kF_VA_117) (fun _ h9 => h9) rfl (by decide +kernel) rfl rfl (Nat.le_of_ble_eq_true rfl) d_VA_close_63 (fun H locs hP hD hS => ?_)
    have hP9 := hP.sb (wq := (wz_69 h0 aw ac j53_s0 h0_function ty n4 bo bg bh bd x6 ty cty gty bg cbg gbg bh cbh gbh bd cbd gbd)) [1, 2, 0, 3, 4] rfl
    have hD9 := hD.sb (wq := (wz_69 h0 aw ac j53_s0 h0_function ty n4 bo bg bh bd x6 ty cty gty bg cbg gbg bh cbh gbh bd cbd gbd)) [1, 2, 0, 3, 4] (by decide) rfl
    exact W.vret hx hb hr (fun t ht hW => ⟨⟨(x6, n4, j53_s0), rfl, ⟨by (try dsimp only) <;> (first | (apply Int.le_antisymm <;> omega) | omega), bn4, b_j53_s0, by (try dsimp only) <;> (first | (apply Int.le_antisymm <;> omega) | omega)⟩, va_P.he ht.symm hP9, va_K.moved hW.alike hK, hD9⟩, hS.F ht⟩) hS.2.2 d_VA_close_66
  · skip
    refine w_cut (pc2 := 52) (σ := Unit) (fun u H locs ls => match u with | _ => va_P (dC, dI) cls (wz_70 bg cbg gbg h0 aw ac n5 h0_function ty n4 bo bg bh bd h0_depth ty cty gty bh cbh gbh bd cbd gbd) H ∧ va_D A (wz_70 bg cbg gbg h0 aw ac n5 h0_function ty n4 bo bg bh bd h0_depth ty cty gty bh cbh gbh bd cbd gbd) ∧ va_S A s.heap H locs ∧ lv_has ls 1 [(0, .ref h0)]) (fun u => match u with | _ => [.ref h0]) ?_ (fun jn52 => ?_)
    · intro u H locs ls hI
      obtain ⟨hP, hD, hS, hl⟩ := hI
      refine lv_iconst (v := 0) hx hb d_VA_close_52 (by decide) ?_
      exact jn53 0 _ _ _ ⟨Or.inl rfl, by (try dsimp only) <;> (first | (apply Int.le_antisymm <;> omega) | omega), hP, hD, hS, lv_sub hl [0] rfl⟩
    · skip
      refine lv_if_eq (tgt := 52) hx hb d_VA_close_27 (by decide) (fun c27 => ?_) (fun c27 => ?_)
      · have q27 := eqI c27
        exact jn52 () _ _ _ ⟨hP, hD, hS, lv_sub hl [0] rfl⟩
      · have q27 := neI c27
        refine lv_aload_n hx hb d_VA_close_30 rfl (lv_at hl 0 rfl) ?_
        refine va_get (D := (dC, dI)) (ci := 9) (v := .int n4) (C := R_VA) (T := F_VA) (N := 11) hx hb hts i_VA hown hK hP 1 rfl rfl 5 (by decide) (hts _ kF_VA_114) (fun _ h9 => h9) rfl d_VA_close_31 ?_
        refine lv_aload_n hx hb d_VA_close_34 rfl (lv_at hl 0 rfl) ?_
        refine va_get (D := (dC, dI)) (ci := 9) (v := .ref bh) (C := R_VA) (T := F_VA) (N := 11) hx hb hts i_VA hown hK hP 1 rfl rfl 8 (by decide) (hts _ kF_VA_21) (fun _ h9 => h9) rfl d_VA_close_35 ?_
        refine lv_aload_n hx hb d_VA_close_38 rfl (lv_at hl 0 rfl) ?_
        refine va_get (D := (dC, dI)) (ci := 9) (v := .int h0_depth) (C := R_VA) (T := F_VA) (N := 11) hx hb hts i_VA hown hK hP 1 rfl rfl 10 (by decide) (hts _ kF_VA_117) (fun _ h9 => h9) rfl d_VA_close_39 ?_
        refine lv_iconst (v := 1) hx hb d_VA_close_42 (by decide) ?_
        refine lv_isub hx hb d_VA_close_43 ?_
        refine lv_topi (fun x7 ex7 => ?_)
        have tx7 : x7.toInt = h0_depth.toInt - 1 := by have z := i32_sub ex7 (by (first | (apply Int.le_antisymm <;> omega) | omega)) (by (first | (apply Int.le_antisymm <;> omega) | omega)); first | exact z | (first | (apply Int.le_antisymm <;> omega) | omega)
        have g44 : vp_in x7 101 := vp_in_iff.mpr ⟨by (first | (apply Int.le_antisymm <;> omega) | omega), by (first | (apply Int.le_antisymm <;> omega) | omega)⟩
        refine va_iald hx hb hK hP 3 2 rfl rfl g44 d_VA_close_44 ?_
        refine lv_topi (fun x8 ex8 => ?_)
        have tx8 := b_gbh x7.toNatClampNeg
        rw [← ex8] at tx8
        rw [i32_natI (x := x7) (n := h0_depth.toInt - 1) (by (first | (apply Int.le_antisymm <;> omega) | omega))] at ex8
        have ux8 : x8.toInt = (gbh (h0_depth.toInt - 1).toNat).toInt := by rw [ex8]
        refine lv_icmp_ne (tgt := 52) hx hb d_VA_close_45 (by decide) (fun c45 => ?_) (fun c45 => ?_)
        · have q45 := neI c45
          exact jn52 () _ _ _ ⟨hP, hD, hS, lv_sub hl [0] rfl⟩
        · have q45 := eqI c45
          refine lv_iconst (v := 1) hx hb d_VA_close_48 (by decide) ?_
          refine lv_goto (tgt := 53) hx hb d_VA_close_49 (by decide) ?_
          exact jn53 1 _ _ _ ⟨Or.inr rfl, by (try dsimp only) <;> (first | (apply Int.le_antisymm <;> omega) | omega), hP, hD, hS, lv_sub hl [0] rfl⟩
abbrev b_VA_labelType : ByteArray := prog_12_method_17_code
def y_VA_labelType : MethodName := ⟨R_VA, "labelType", "(I)I"⟩
abbrev w_VA_labelType : List Cond := .code y_VA_labelType b_VA_labelType 3 (Option.some .int) :: lw_g
theorem kC_VA_labelType : Cond.code y_VA_labelType b_VA_labelType 3 (Option.some .int) ∈ lw_g := in_c7 7 rfl rfl
theorem d_VA_labelType_0 : decode b_VA_labelType 0 = .ok (.iload_n 1, 1) := bz_c27 (by decide +kernel)
theorem d_VA_labelType_1 : decode b_VA_labelType 1 = .ok (.aload_n 0, 1) := bz_c42 (by decide +kernel)
theorem d_VA_labelType_2 : decode b_VA_labelType 2 = .ok (.getfield 117, 3) := bz_c180 (by decide +kernel)
theorem d_VA_labelType_5 : decode b_VA_labelType 5 = .ok (.if_icmp .lt 11, 3) := bz_c161 (by decide +kernel)
theorem d_VA_labelType_8 : decode b_VA_labelType 8 = .ok (.aload_n 0, 1) := bz_c42 (by decide +kernel)
theorem d_VA_labelType_9 : decode b_VA_labelType 9 = .ok (.iconst 0, 1) := bz_c3 (by decide +kernel)
theorem d_VA_labelType_10 : decode b_VA_labelType 10 = .ok (.putfield 39, 3) := bz_c181 (by decide +kernel)
theorem d_VA_labelType_13 : decode b_VA_labelType 13 = .ok (.bipush 64, 2) := bz_c16 (by decide +kernel)
theorem d_VA_labelType_15 : decode b_VA_labelType 15 = .ok (.ireturn, 1) := bz_c172 (by decide +kernel)
theorem d_VA_labelType_16 : decode b_VA_labelType 16 = .ok (.aload_n 0, 1) := bz_c42 (by decide +kernel)
theorem d_VA_labelType_17 : decode b_VA_labelType 17 = .ok (.getfield 117, 3) := bz_c180 (by decide +kernel)
theorem d_VA_labelType_20 : decode b_VA_labelType 20 = .ok (.iconst 1, 1) := bz_c4 (by decide +kernel)
theorem d_VA_labelType_21 : decode b_VA_labelType 21 = .ok (.isub, 1) := bz_c100 (by decide +kernel)
theorem d_VA_labelType_22 : decode b_VA_labelType 22 = .ok (.iload_n 1, 1) := bz_c27 (by decide +kernel)
theorem d_VA_labelType_23 : decode b_VA_labelType 23 = .ok (.isub, 1) := bz_c100 (by decide +kernel)
theorem d_VA_labelType_24 : decode b_VA_labelType 24 = .ok (.istore_n 2, 1) := bz_c61 (by decide +kernel)
theorem d_VA_labelType_25 : decode b_VA_labelType 25 = .ok (.aload_n 0, 1) := bz_c42 (by decide +kernel)
theorem d_VA_labelType_26 : decode b_VA_labelType 26 = .ok (.getfield 15, 3) := bz_c180 (by decide +kernel)
theorem d_VA_labelType_29 : decode b_VA_labelType 29 = .ok (.iload_n 2, 1) := bz_c28 (by decide +kernel)
theorem d_VA_labelType_30 : decode b_VA_labelType 30 = .ok (.iaload, 1) := bz_c46 (by decide +kernel)
theorem d_VA_labelType_31 : decode b_VA_labelType 31 = .ok (.iconst 3, 1) := bz_c6 (by decide +kernel)
theorem d_VA_labelType_32 : decode b_VA_labelType 32 = .ok (.if_icmp .ne 8, 3) := bz_c160 (by decide +kernel)
theorem d_VA_labelType_35 : decode b_VA_labelType 35 = .ok (.bipush 64, 2) := bz_c16 (by decide +kernel)
theorem d_VA_labelType_37 : decode b_VA_labelType 37 = .ok (.goto 9, 3) := bz_c167 (by decide +kernel)
theorem d_VA_labelType_40 : decode b_VA_labelType 40 = .ok (.aload_n 0, 1) := bz_c42 (by decide +kernel)
theorem d_VA_labelType_41 : decode b_VA_labelType 41 = .ok (.getfield 18, 3) := bz_c180 (by decide +kernel)
theorem d_VA_labelType_44 : decode b_VA_labelType 44 = .ok (.iload_n 2, 1) := bz_c28 (by decide +kernel)
theorem d_VA_labelType_45 : decode b_VA_labelType 45 = .ok (.iaload, 1) := bz_c46 (by decide +kernel)
theorem d_VA_labelType_46 : decode b_VA_labelType 46 = .ok (.ireturn, 1) := bz_c172 (by decide +kernel)
abbrev at_VA_labelType (dC : Nat → ClassId) (dI : Nat → Nat → Nat) (h0 aw ac ty bo bg bh bd : Nat) (cbo cbg : ClassId) (h0_function : Int32) (h0_height : Int32) (h0_depth : Int32) (gbo : Nat → Int32) (gbg : Nat → Int32) (A : Nat → Prop) (u : Int32) (t : State) : Prop := match u with | h0_sound => va_P (dC, dI) cls (wz_68 h0 aw ac h0_sound h0_function ty h0_height bo bg bh bd h0_depth bo cbo gbo bg cbg gbg) t.heap ∧ va_K (dC, dI) cls [(cbo, .int), (cbg, .int)] t ∧ va_D A (wz_68 h0 aw ac h0_sound h0_function ty h0_height bo bg bh bd h0_depth bo cbo gbo bg cbg gbg)
set_option maxHeartbeats 4000000 in
set_option maxRecDepth 100000 in
theorem c_VA_labelType (l : Launch) (dC : Nat → ClassId) (dI : Nat → Nat → Nat) (sz : Nat) (h0 aw ac ty bo bg bh bd : Nat) (cbo cbg : ClassId) (h0_sound : Int32) (h0_function : Int32) (h0_height : Int32) (h0_depth : Int32) (gbo : Nat → Int32) (gbg : Nat → Int32)  (b_h0_sound : h0_sound = 0 ∨ h0_sound = 1) (b_h0_depth : 0 ≤ h0_depth.toInt ∧ h0_depth.toInt ≤ 101) (p0 : Int32) (ba0 : 0 ≤ p0.toInt ∧ p0.toInt ≤ 2147483647)  : Met l y_VA_labelType w_VA_labelType ({ frames := 0, cells := 0, slots := 0, locals := 0 }) (va_Pc [.ref h0, .int p0] (fun U => U.heap.size = sz ∧ va_P (dC, dI) cls (wz_68 h0 aw ac h0_sound h0_function ty h0_height bo bg bh bd h0_depth bo cbo gbo bg cbg gbg) U.heap ∧ va_K (dC, dI) cls [(cbo, .int), (cbg, .int)] U ∧ va_D (fun _ => True) (wz_68 h0 aw ac h0_sound h0_function ty h0_height bo bg bh bd h0_depth bo cbo gbo bg cbg gbg))) (va_Qi (fun (r : Int32) (u : Int32) => match u with | h0_sound2 => (h0_sound2 = 0 ∨ h0_sound2 = 1) ∧ ((h0_sound2.toInt = 1 → h0_sound.toInt = 1 ∧ p0.toInt < h0_depth.toInt) ∧ (p0.toInt < h0_depth.toInt → ((gbo (h0_depth.toInt - 1 - p0.toInt).toNat).toInt = 3 → r.toInt = 64) ∧ ((gbo (h0_depth.toInt - 1 - p0.toInt).toNat).toInt ≠ 3 → r.toInt = (gbg (h0_depth.toInt - 1 - p0.toInt).toNat).toInt)))) (at_VA_labelType dC dI h0 aw ac ty bo bg bh bd cbo cbg h0_function h0_height h0_depth gbo gbg (va_A (wz_68 h0 aw ac h0_sound h0_function ty h0_height bo bg bh bd h0_depth bo cbo gbo bg cbg gbg) sz)) (va_A (wz_68 h0 aw ac h0_sound h0_function ty h0_height bo bg bh bd h0_depth bo cbo gbo bg cbg gbg) sz)) 0 0 (va_A (wz_68 h0 aw ac h0_sound h0_function ty h0_height bo bg bh bd h0_depth bo cbo gbo bg cbg gbg) sz) := by
  refine Met.ofW (cc := b_VA_labelType) (maxL := 3) (ret := (Option.some .int)) (by decide) rfl ?_
  intro p e s m args below meth c s₁ B hml hv
  obtain ⟨rfl, hsz, hP, hK, hD0⟩ := hv
  have hx := B.exec
  have hb := B.bytes
  have hr := B.returns
  have hts0 := atoms_spec (ws := w_VA_labelType) B.pre
  have hts : ∀ w ∈ lw_g, w.before _ s = true := fun w h => hts0 w (List.mem_cons_of_mem _ h)
  have hown : s.vm.findClass R_VA = some m.cls := findClass_of_methodNamed B.named
  have hlocks := B.notSynchronized
  clear hts0
  subst hsz
  have hD := hD0.self (sz := s.heap.size)
  generalize hAe : va_A (wz_68 h0 aw ac h0_sound h0_function ty h0_height bo bg bh bd h0_depth bo cbo gbo bg cbg gbg) s.heap.size = A at hD ⊢
  have hA : ∀ q : Nat, s.heap.size ≤ q → A q := fun q h => by rw [← hAe]; exact Or.inr h
  clear hAe
  have hP : va_P (dC, dI) cls (wz_68 h0 aw ac h0_sound h0_function ty h0_height bo bg bh bd h0_depth bo cbo gbo bg cbg gbg) s.heap := hP
  have hl := lv_entry ([.ref h0, .int p0]) (n := 3) (Nat.le_of_ble_eq_true rfl)
  rw [lg_entry_eq]
  generalize (lg_sl ([.ref h0, .int p0]) ++ List.replicate (3 - (lg_sl ([.ref h0, .int p0])).length) Slot.unset).toArray = ls at hl ⊢
  have hl : lv_has ls 3 [(0, .ref h0), (1, .int p0)] := hl
  have k0 : (0 : Int32).toInt = 0 := by decide
  refine w_gen (A := A) hP (fun H locs hP hS => ?_)
  have k1 : (1 : Int32).toInt = 1 := by decide
  have k3 : (3 : Int32).toInt = 3 := by decide
  have k64 : (64 : Int32).toInt = 64 := by decide
  have lo_p0 := i32_lo p0
  have hi_p0 := i32_hi p0
  have th0_sound := b01 b_h0_sound
  refine lv_iload_n hx hb d_VA_labelType_0 rfl (lv_at hl 1 rfl) ?_
  refine lv_aload_n hx hb d_VA_labelType_1 rfl (lv_at hl 0 rfl) ?_
  refine va_get (D := (dC, dI)) (ci := 9) (v := .int h0_depth) (C := R_VA) (T := F_VA) (N := 11) hx hb hts i_VA hown hK hP 0 rfl rfl 10 (by decide) (hts _ kF_VA_117) (fun _ h9 => h9) rfl d_VA_labelType_2 ?_
  refine lv_icmp_lt (tgt := 16) hx hb d_VA_labelType_5 (by decide) (fun c5 => ?_) (fun c5 => ?_)
  · have q5 := ltI c5
    refine lv_aload_n hx hb d_VA_labelType_16 rfl (lv_at hl 0 rfl) ?_
    refine va_get (D := (dC, dI)) (ci := 9) (v := .int h0_depth) (C := R_VA) (T := F_VA) (N := 11) hx hb hts i_VA hown hK hP 0 rfl rfl 10 (by decide) (hts _ kF_VA_117) (fun _ h9 => h9) rfl d_VA_labelType_17 ?_
    refine lv_iconst (v := 1) hx hb d_VA_labelType_20 (by decide) ?_
    refine lv_isub hx hb d_VA_labelType_21 ?_
    refine lv_topi (fun x1 ex1 => ?_)
    have tx1 : x1.toInt = h0_depth.toInt - 1 := by have z := i32_sub ex1 (by (first | (apply Int.le_antisymm <;> omega) | omega)) (by (first | (apply Int.le_antisymm <;> omega) | omega)); first | exact z | (first | (apply Int.le_antisymm <;> omega) | omega)
    refine lv_iload_n hx hb d_VA_labelType_22 rfl (lv_at hl 1 rfl) ?_
    refine lv_isub hx hb d_VA_labelType_23 ?_
    refine lv_topi (fun x2 ex2 => ?_)
    have tx2 : x2.toInt = x1.toInt - p0.toInt := by have z := i32_sub ex2 (by (first | (apply Int.le_antisymm <;> omega) | omega)) (by (first | (apply Int.le_antisymm <;> omega) | omega)); first | exact z | (first | (apply Int.le_antisymm <;> omega) | omega)
    refine lv_istore_n (lv' := [(2, .int x2), (0, .ref h0), (1, .int p0)]) hx hb d_VA_labelType_24 rfl hl (by decide) rfl (fun ls hl => ?_)
    refine lv_aload_n hx hb d_VA_labelType_25 rfl (lv_at hl 1 rfl) ?_
    refine va_get (D := (dC, dI)) (ci := 9) (v := .ref bo) (C := R_VA) (T := F_VA) (N := 11) hx hb hts i_VA hown hK hP 0 rfl rfl 6 (by decide) (hts _ kF_VA_15) (fun _ h9 => h9) rfl d_VA_labelType_26 ?_
    refine lv_iload_n hx hb d_VA_labelType_29 rfl (lv_at hl 0 rfl) ?_
    have g30 : vp_in x2 101 := vp_in_iff.mpr ⟨by (first | (apply Int.le_antisymm <;> omega) | omega), by (first | (apply Int.le_antisymm <;> omega) | omega)⟩
    refine va_iald hx hb hK hP 1 0 rfl rfl g30 d_VA_labelType_30 ?_
    refine lv_topi (fun x3 ex3 => ?_)
    rw [i32_natI (x := x2) (n := h0_depth.toInt - 1 - p0.toInt) (by (first | (apply Int.le_antisymm <;> omega) | omega))] at ex3
    have u30 : x3.toInt = (gbo (h0_depth.toInt - 1 - p0.toInt).toNat).toInt := by rw [ex3]
    refine lv_iconst (v := 3) hx hb d_VA_labelType_31 (by decide) ?_
    refine lv_icmp_ne (tgt := 40) hx hb d_VA_labelType_32 (by decide) (fun c32 => ?_) (fun c32 => ?_)
    · have q32 := neI c32
      refine lv_aload_n hx hb d_VA_labelType_40 rfl (lv_at hl 1 rfl) ?_
      refine va_get (D := (dC, dI)) (ci := 9) (v := .ref bg) (C := R_VA) (T := F_VA) (N := 11) hx hb hts i_VA hown hK hP 0 rfl rfl 7 (by decide) (hts _ kF_VA_18) (fun _ h9 => h9) rfl d_VA_labelType_41 ?_
      refine lv_iload_n hx hb d_VA_labelType_44 rfl (lv_at hl 0 rfl) ?_
      have g45 : vp_in x2 101 := vp_in_iff.mpr ⟨by (first | (apply Int.le_antisymm <;> omega) | omega), by (first | (apply Int.le_antisymm <;> omega) | omega)⟩
      refine va_iald hx hb hK hP 2 1 rfl rfl g45 d_VA_labelType_45 ?_
      refine lv_topi (fun x4 ex4 => ?_)
      rw [i32_natI (x := x2) (n := h0_depth.toInt - 1 - p0.toInt) (by (first | (apply Int.le_antisymm <;> omega) | omega))] at ex4
      have u45 : x4.toInt = (gbg (h0_depth.toInt - 1 - p0.toInt).toNat).toInt := by rw [ex4]
      have hP9 := hP.sb (wq := (wz_68 h0 aw ac h0_sound h0_function ty h0_height bo bg bh bd h0_depth bo cbo gbo bg cbg gbg)) [0, 1, 2] rfl
      have hD9 := hD.sb (wq := (wz_68 h0 aw ac h0_sound h0_function ty h0_height bo bg bh bd h0_depth bo cbo gbo bg cbg gbg)) [0, 1, 2] (by decide) rfl
      exact W.iret (v := x4) hx hb hr (fun t ht hW => ⟨⟨x4, h0_sound, rfl, ⟨b_h0_sound, by (try dsimp only) <;> (first | (apply Int.le_antisymm <;> omega) | omega)⟩, va_P.he ht.symm hP9, va_K.moved hW.alike hK, hD9⟩, hS.F ht⟩) hS.2.2 d_VA_labelType_46
    · have q32 := eqI c32
      refine lv_bipush (v := 64) hx hb d_VA_labelType_35 (by decide) ?_
      refine lv_goto (tgt := 46) hx hb d_VA_labelType_37 (by decide) ?_
      have hP9 := hP.sb (wq := (wz_68 h0 aw ac h0_sound h0_function ty h0_height bo bg bh bd h0_depth bo cbo gbo bg cbg gbg)) [0, 1, 2] rfl
      have hD9 := hD.sb (wq := (wz_68 h0 aw ac h0_sound h0_function ty h0_height bo bg bh bd h0_depth bo cbo gbo bg cbg gbg)) [0, 1, 2] (by decide) rfl
      exact W.iret (v := 64) hx hb hr (fun t ht hW => ⟨⟨64, h0_sound, rfl, ⟨b_h0_sound, by (try dsimp only) <;> (first | (apply Int.le_antisymm <;> omega) | omega)⟩, va_P.he ht.symm hP9, va_K.moved hW.alike hK, hD9⟩, hS.F ht⟩) hS.2.2 d_VA_labelType_46
  · have q5 := nltI c5
    refine lv_aload_n hx hb d_VA_labelType_8 rfl (lv_at hl 0 rfl) ?_
    refine lv_iconst (v := 0) hx hb d_VA_labelType_9 (by decide) ?_
    refine va_put (D := (dC, dI)) (ci := 9) (v := .int 0) (ty := .boolean) (C := R_VA) (T := F_VA) (N := 11) hx hb hts i_VA t_VA t_VA_ok n_VA hown hK hP hD hS 0 rfl rfl 2 (by decide) (hts _ kF_VA_39) (fun _ h9 => h9) rfl (by decide +kernel) rfl rfl (Nat.le_of_ble_eq_true rfl) d_VA_labelType_10 (fun H locs hP hD hS => ?_)
    refine lv_bipush (v := 64) hx hb d_VA_labelType_13 (by decide) ?_
    have hP9 := hP.sb (wq := (wz_68 h0 aw ac 0 h0_function ty h0_height bo bg bh bd h0_depth bo cbo gbo bg cbg gbg)) [0, 1, 2] rfl
    have hD9 := hD.sb (wq := (wz_68 h0 aw ac 0 h0_function ty h0_height bo bg bh bd h0_depth bo cbo gbo bg cbg gbg)) [0, 1, 2] (by decide) rfl
    exact W.iret (v := 64) hx hb hr (fun t ht hW => ⟨⟨64, 0, rfl, ⟨Or.inl rfl, by (try dsimp only) <;> (first | (apply Int.le_antisymm <;> omega) | omega)⟩, va_P.he ht.symm hP9, va_K.moved hW.alike hK, hD9⟩, hS.F ht⟩) hS.2.2 d_VA_labelType_15
end q_21
section q_21a
/-! what the validator takes of a function's tables -/
def vw_fun (gwaf gwat gwap gclk gclt : Nat → Int32) (f : Nat) : Prop :=
  (0 ≤ (gwaf f).toInt ∧ (gwaf f).toInt < 20) ∧ (0 ≤ (gwat (gwaf f).toNatClampNeg).toInt ∧ (gwat (gwaf f).toNatClampNeg).toInt ≤ 8 ∧ 0 ≤ (gclk f).toInt ∧ (gclk f).toInt ≤ 60) ∧
  (∀ j : Nat, (j : Int) < (gwat (gwaf f).toNatClampNeg).toInt → (gwap (8 * (gwaf f).toInt + j).toNat).toInt = 127 ∨ (gwap (8 * (gwaf f).toInt + j).toNat).toInt = 126) ∧
  (∀ j : Nat, 60 * (f : Int) ≤ (j : Int) → (j : Int) < 60 * (f : Int) + (gclk f).toInt → (gclt j).toInt = 127 ∨ (gclt j).toInt = 126)
theorem vw_loc {gwaf gwat gwap gclk gclt : Nat → Int32} {f : Nat} {p0 p1 r : Int32} (h : vw_fun gwaf gwat gwap gclk gclt f) (hp : p0.toInt = f)
    (x : (r.toInt = 0 ∧ (p1.toInt < 0 ∨ (gwat (gwaf p0.toNatClampNeg).toNatClampNeg).toInt + (gclk p0.toNatClampNeg).toInt ≤ p1.toInt)) ∨ (0 ≤ p1.toInt ∧ p1.toInt < (gwat (gwaf p0.toNatClampNeg).toNatClampNeg).toInt ∧ r = gwap (8 * (gwaf p0.toNatClampNeg).toInt + p1.toInt).toNat) ∨ ((gwat (gwaf p0.toNatClampNeg).toNatClampNeg).toInt ≤ p1.toInt ∧ p1.toInt < (gwat (gwaf p0.toNatClampNeg).toNatClampNeg).toInt + (gclk p0.toNatClampNeg).toInt ∧ r = gclt (60 * p0.toInt + p1.toInt - (gwat (gwaf p0.toNatClampNeg).toNatClampNeg).toInt).toNat)) :
    (r.toInt = 0 ∧ (p1.toInt < 0 ∨ (gwat (gwaf f).toNatClampNeg).toInt + (gclk f).toInt ≤ p1.toInt)) ∨ ((r.toInt = 127 ∨ r.toInt = 126) ∧ 0 ≤ p1.toInt ∧ p1.toInt < (gwat (gwaf f).toNatClampNeg).toInt + (gclk f).toInt) := by
  obtain ⟨⟨a1, a2⟩, ⟨b1, b2, b3, b4⟩, c1, c2⟩ := h
  rw [i32_nat hp] at x
  rcases x with ⟨x1, x2⟩ | ⟨x1, x2, x3⟩ | ⟨x1, x2, x3⟩
  · exact Or.inl ⟨x1, x2⟩
  · refine Or.inr ⟨?_, x1, by (first | (apply Int.le_antisymm <;> omega) | omega)⟩
    have q := c1 p1.toInt.toNat (by (first | (apply Int.le_antisymm <;> omega) | omega))
    rw [show (8 * (gwaf f).toInt + (p1.toInt.toNat : Int)).toNat = (8 * (gwaf f).toInt + p1.toInt).toNat from by (first | (apply Int.le_antisymm <;> omega) | omega), ← x3] at q
    exact q
  · refine Or.inr ⟨?_, by (first | (apply Int.le_antisymm <;> omega) | omega), by (first | (apply Int.le_antisymm <;> omega) | omega)⟩
    have q := c2 (60 * p0.toInt + p1.toInt - (gwat (gwaf f).toNatClampNeg).toInt).toNat (by (first | (apply Int.le_antisymm <;> omega) | omega)) (by (first | (apply Int.le_antisymm <;> omega) | omega))
    rw [← x3] at q
    exact q
end q_21a
section q_22
/-! Validator: the instructions -/
abbrev b_CD_greatestAlignment : ByteArray := prog_5_method_4_code
def y_CD_greatestAlignment : MethodName := ⟨R_CD, "greatestAlignment", "(I)I"⟩
abbrev w_CD_greatestAlignment : List Cond := .code y_CD_greatestAlignment b_CD_greatestAlignment 1 (Option.some .int) :: lw_g
theorem kC_CD_greatestAlignment : Cond.code y_CD_greatestAlignment b_CD_greatestAlignment 1 (Option.some .int) ∈ lw_g := in_c5 220 rfl rfl
theorem d_CD_greatestAlignment_0 : decode b_CD_greatestAlignment 0 = .ok (.iload_n 0, 1) := bz_c26 (by decide +kernel)
theorem d_CD_greatestAlignment_1 : decode b_CD_greatestAlignment 1 = .ok (.invokestatic 37, 3) := bz_c184 (by decide +kernel)
theorem d_CD_greatestAlignment_4 : decode b_CD_greatestAlignment 4 = .ok (.invokestatic 41, 3) := bz_c184 (by decide +kernel)
theorem d_CD_greatestAlignment_7 : decode b_CD_greatestAlignment 7 = .ok (.ireturn, 1) := bz_c172 (by decide +kernel)
theorem kM_CD_41 : Cond.methodLink R_CD 41 y_JI_numberOfTrailingZeros ∈ lw_g := in_c5 221 rfl rfl
abbrev at_CD_greatestAlignment (dC : Nat → ClassId) (dI : Nat → Nat → Nat)  (A : Nat → Prop) (u : Unit) (t : State) : Prop := match u with | _ => va_P (dC, dI) cls [] t.heap ∧ va_K (dC, dI) cls [] t ∧ va_D A []
set_option maxHeartbeats 4000000 in
set_option maxRecDepth 100000 in
theorem c_CD_greatestAlignment (l : Launch) (dC : Nat → ClassId) (dI : Nat → Nat → Nat) (sz : Nat)    (p0 : Int32)   : Met l y_CD_greatestAlignment w_CD_greatestAlignment ({ frames := 1, cells := 0, slots := 0, locals := 21 }) (va_Pc [.int p0] (fun U => U.heap.size = sz ∧ va_P (dC, dI) cls [] U.heap ∧ va_K (dC, dI) cls [] U ∧ va_D (fun _ => True) [])) (va_Qi (fun (r : Int32) (u : Unit) => match u with | _ => True) (at_CD_greatestAlignment dC dI  (va_A [] sz)) (va_A [] sz)) 0 0 (va_A [] sz) := by
  refine Met.ofW (cc := b_CD_greatestAlignment) (maxL := 1) (ret := (Option.some .int)) (by decide) rfl ?_
  intro p e s m args below meth c s₁ B hml hv
  obtain ⟨rfl, hsz, hP, hK, hD0⟩ := hv
  have hx := B.exec
  have hb := B.bytes
  have hr := B.returns
  have hts0 := atoms_spec (ws := w_CD_greatestAlignment) B.pre
  have hts : ∀ w ∈ lw_g, w.before _ s = true := fun w h => hts0 w (List.mem_cons_of_mem _ h)
  have hown : s.vm.findClass R_CD = some m.cls := findClass_of_methodNamed B.named
  have hlocks := B.notSynchronized
  clear hts0
  subst hsz
  have hD := hD0.self (sz := s.heap.size)
  generalize hAe : va_A [] s.heap.size = A at hD ⊢
  have hA : ∀ q : Nat, s.heap.size ≤ q → A q := fun q h => by rw [← hAe]; exact Or.inr h
  clear hAe
  have hP : va_P (dC, dI) cls [] s.heap := hP
  have hl := lv_entry ([.int p0]) (n := 1) (Nat.le_of_ble_eq_true rfl)
  rw [lg_entry_eq]
  generalize (lg_sl ([.int p0]) ++ List.replicate (1 - (lg_sl ([.int p0])).length) Slot.unset).toArray = ls at hl ⊢
  have hl : lv_has ls 1 [(0, .int p0)] := hl
  have k0 : (0 : Int32).toInt = 0 := by decide
  refine w_gen (A := A) hP (fun H locs hP hS => ?_)
  have lo_p0 := i32_lo p0
  have hi_p0 := i32_hi p0
  refine lv_iload_n hx hb d_CD_greatestAlignment_0 rfl (lv_at hl 0 rfl) ?_
  have hPc := hP.sb (wq := []) [] rfl
  have hDc := hD.sb (wq := []) [] (by decide) rfl
  have hKc := hK.sb (tyq := []) [] rfl
  have hFc := va_free (wc := []) hD hS hA [] rfl
  refine va_calli (va_runS (As := [.int p0]) (rest := []) ⟨hx, hb, hml, hown, hts⟩ (c_CD_accessBytes l dC dI H.size p0) ⟨callB_of 1 hts (gW kC_CD_accessBytes) rfl rfl rfl (hts _ kI_CD) (hts _ kM_CD_37) (by decide +kernel) ⟨Nat.le_of_ble_eq_true rfl, Nat.le_of_ble_eq_true rfl⟩, hts _ kT_CD_accessBytes⟩ ⟨fun a U g mk z => by obtain ⟨z0, z1, zP, zK, zD⟩ := z; exact ⟨z0, z1, zP, va_K.moved (u := U) (U := U.calling g mk a) (Vm.Alike.refl U.vm) zK, zD⟩, fun U hU hW => ⟨rfl, by rw [hU], va_P.he hU.symm hPc, va_K.moved hW.alike hKc, hDc.weaken (fun _ _ _ _ => trivial)⟩⟩ rfl rfl hl.1 rfl (lv_room (Nat.le_of_ble_eq_true rfl)) d_CD_greatestAlignment_1 ⟨(Nat.zero_le _), (Nat.zero_le _)⟩) hS (fun q _ h => hFc q h) hFc (fun r1 u t H1 locs ht hvm hw hB hz1 hk1 hS => ?_)
  try dsimp only at hw
  have tr1 := hw
  obtain ⟨hP1, hK1, hD1⟩ := hB
  replace hP1 := va_P.he ht hP1
  obtain ⟨hP, hD⟩ := va_join (wr := []) (w1 := []) hP hD [] [] rfl rfl (by decide) (by decide) hk1 hFc hP1 hD1
  clear hPc hDc hKc hFc hz1 hk1 hP1 hK1 hD1
  rename Heap => H
  have hP : va_P (dC, dI) cls [] H := hP
  have hD : va_D A [] := hD
  have hPc := hP.sb (wq := []) [] rfl
  have hDc := hD.sb (wq := []) [] (by decide) rfl
  have hKc := hK.sb (tyq := []) [] rfl
  have hFc := va_free (wc := []) hD hS hA [] rfl
  refine va_calli (va_runS (As := [.int r1]) (rest := []) ⟨hx, hb, hml, hown, hts⟩ (c_JI_numberOfTrailingZeros l dC dI H.size r1) ⟨callB_of 1 hts (gW kC_JI_numberOfTrailingZeros) rfl rfl rfl (hts _ kI_JI) (hts _ kM_CD_41) (by decide +kernel) ⟨Nat.le_of_ble_eq_true rfl, Nat.le_of_ble_eq_true rfl⟩, hts _ kT_JI_numberOfTrailingZeros⟩ ⟨fun a U g mk z => by obtain ⟨z0, z1, zP, zK, zD⟩ := z; exact ⟨z0, z1, zP, va_K.moved (u := U) (U := U.calling g mk a) (Vm.Alike.refl U.vm) zK, zD⟩, fun U hU hW => ⟨rfl, by rw [hU], va_P.he hU.symm hPc, va_K.moved hW.alike hKc, hDc.weaken (fun _ _ _ _ => trivial)⟩⟩ rfl rfl hl.1 rfl (lv_room (Nat.le_of_ble_eq_true rfl)) d_CD_greatestAlignment_4 ⟨(Nat.zero_le _), (Nat.zero_le _)⟩) hS (fun q _ h => hFc q h) hFc (fun r2 u t H1 locs ht hvm hw hB hz1 hk1 hS => ?_)
  try dsimp only at hw
  try clear hw
  obtain ⟨hP1, hK1, hD1⟩ := hB
  replace hP1 := va_P.he ht hP1
  obtain ⟨hP, hD⟩ := va_join (wr := []) (w1 := []) hP hD [] [] rfl rfl (by decide) (by decide) hk1 hFc hP1 hD1
  clear hPc hDc hKc hFc hz1 hk1 hP1 hK1 hD1
  rename Heap => H
  have hP : va_P (dC, dI) cls [] H := hP
  have hD : va_D A [] := hD
  have hP9 := hP.sb (wq := []) [] rfl
  have hD9 := hD.sb (wq := []) [] (by decide) rfl
  exact W.iret (v := r2) hx hb hr (fun t ht hW => ⟨⟨r2, (), rfl, ⟨⟩, va_P.he ht.symm hP9, va_K.moved hW.alike hK, hD9⟩, hS.F ht⟩) hS.2.2 d_CD_greatestAlignment_7
abbrev b_VA_checkNumber : ByteArray := prog_12_method_13_code
def y_VA_checkNumber : MethodName := ⟨R_VA, "checkNumber", "(I)V"⟩
abbrev w_VA_checkNumber : List Cond := .code y_VA_checkNumber b_VA_checkNumber 2 none :: lw_g
theorem kC_VA_checkNumber : Cond.code y_VA_checkNumber b_VA_checkNumber 2 none ∈ lw_g := in_c7 45 rfl rfl
theorem d_VA_checkNumber_0 : decode b_VA_checkNumber 0 = .ok (.iload_n 1, 1) := bz_c27 (by decide +kernel)
theorem d_VA_checkNumber_1 : decode b_VA_checkNumber 1 = .ok (.bipush 65, 2) := bz_c16 (by decide +kernel)
theorem d_VA_checkNumber_3 : decode b_VA_checkNumber 3 = .ok (.if_icmp .eq 9, 3) := bz_c159 (by decide +kernel)
theorem d_VA_checkNumber_6 : decode b_VA_checkNumber 6 = .ok (.iload_n 1, 1) := bz_c27 (by decide +kernel)
theorem d_VA_checkNumber_7 : decode b_VA_checkNumber 7 = .ok (.bipush 66, 2) := bz_c16 (by decide +kernel)
theorem d_VA_checkNumber_9 : decode b_VA_checkNumber 9 = .ok (.if_icmp .ne 21, 3) := bz_c160 (by decide +kernel)
theorem d_VA_checkNumber_12 : decode b_VA_checkNumber 12 = .ok (.aload_n 0, 1) := bz_c42 (by decide +kernel)
theorem d_VA_checkNumber_13 : decode b_VA_checkNumber 13 = .ok (.iload_n 1, 1) := bz_c27 (by decide +kernel)
theorem d_VA_checkNumber_14 : decode b_VA_checkNumber 14 = .ok (.bipush 65, 2) := bz_c16 (by decide +kernel)
theorem d_VA_checkNumber_16 : decode b_VA_checkNumber 16 = .ok (.if_icmp .ne 8, 3) := bz_c160 (by decide +kernel)
theorem d_VA_checkNumber_19 : decode b_VA_checkNumber 19 = .ok (.bipush 127, 2) := bz_c16 (by decide +kernel)
theorem d_VA_checkNumber_21 : decode b_VA_checkNumber 21 = .ok (.goto 5, 3) := bz_c167 (by decide +kernel)
theorem d_VA_checkNumber_24 : decode b_VA_checkNumber 24 = .ok (.bipush 126, 2) := bz_c16 (by decide +kernel)
theorem d_VA_checkNumber_26 : decode b_VA_checkNumber 26 = .ok (.invokevirtual 167, 3) := bz_c182 (by decide +kernel)
theorem d_VA_checkNumber_29 : decode b_VA_checkNumber 29 = .ok (.return_, 1) := bz_c177 (by decide +kernel)
theorem d_VA_checkNumber_30 : decode b_VA_checkNumber 30 = .ok (.aload_n 0, 1) := bz_c42 (by decide +kernel)
theorem d_VA_checkNumber_31 : decode b_VA_checkNumber 31 = .ok (.iload_n 1, 1) := bz_c27 (by decide +kernel)
theorem d_VA_checkNumber_32 : decode b_VA_checkNumber 32 = .ok (.invokestatic 209, 3) := bz_c184 (by decide +kernel)
theorem d_VA_checkNumber_35 : decode b_VA_checkNumber 35 = .ok (.invokevirtual 161, 3) := bz_c182 (by decide +kernel)
theorem d_VA_checkNumber_38 : decode b_VA_checkNumber 38 = .ok (.iload_n 1, 1) := bz_c27 (by decide +kernel)
theorem d_VA_checkNumber_39 : decode b_VA_checkNumber 39 = .ok (.invokestatic 212, 3) := bz_c184 (by decide +kernel)
theorem d_VA_checkNumber_42 : decode b_VA_checkNumber 42 = .ok (.ifCond .ne 11, 3) := bz_c154 (by decide +kernel)
theorem d_VA_checkNumber_45 : decode b_VA_checkNumber 45 = .ok (.aload_n 0, 1) := bz_c42 (by decide +kernel)
theorem d_VA_checkNumber_46 : decode b_VA_checkNumber 46 = .ok (.iload_n 1, 1) := bz_c27 (by decide +kernel)
theorem d_VA_checkNumber_47 : decode b_VA_checkNumber 47 = .ok (.invokestatic 209, 3) := bz_c184 (by decide +kernel)
theorem d_VA_checkNumber_50 : decode b_VA_checkNumber 50 = .ok (.invokevirtual 161, 3) := bz_c182 (by decide +kernel)
theorem d_VA_checkNumber_53 : decode b_VA_checkNumber 53 = .ok (.aload_n 0, 1) := bz_c42 (by decide +kernel)
theorem d_VA_checkNumber_54 : decode b_VA_checkNumber 54 = .ok (.iload_n 1, 1) := bz_c27 (by decide +kernel)
theorem d_VA_checkNumber_55 : decode b_VA_checkNumber 55 = .ok (.invokestatic 215, 3) := bz_c184 (by decide +kernel)
theorem d_VA_checkNumber_58 : decode b_VA_checkNumber 58 = .ok (.invokevirtual 167, 3) := bz_c182 (by decide +kernel)
theorem d_VA_checkNumber_61 : decode b_VA_checkNumber 61 = .ok (.return_, 1) := bz_c177 (by decide +kernel)
theorem kM_VA_167 : Cond.methodLink R_VA 167 y_VA_push ∈ lw_g := in_c6 236 rfl rfl
theorem kV_VA_push : Cond.instanceMethod y_VA_push ∈ lw_g := in_c6 238 rfl rfl
theorem kS_VA_push : Cond.selects R_VA y_VA_push y_VA_push ∈ lw_g := in_s 90 (by decide +kernel) rfl
theorem kM_VA_209 : Cond.methodLink R_VA 209 y_CD_operandType ∈ lw_g := in_c7 46 rfl rfl
theorem kT_CD_operandType : Cond.static y_CD_operandType ∈ lw_g := in_c7 47 rfl rfl
theorem kM_VA_212 : Cond.methodLink R_VA 212 y_CD_takesOne ∈ lw_g := in_c7 49 rfl rfl
theorem kM_VA_215 : Cond.methodLink R_VA 215 y_CD_resultType ∈ lw_g := in_c7 52 rfl rfl
theorem kT_CD_resultType : Cond.static y_CD_resultType ∈ lw_g := in_c7 53 rfl rfl
abbrev at_VA_checkNumber (dC : Nat → ClassId) (dI : Nat → Nat → Nat) (h0 aw ac ty bo bg bh bd : Nat) (cty cbh cbd : ClassId) (h0_function : Int32) (h0_depth : Int32) (gbh : Nat → Int32) (gbd : Nat → Int32) (A : Nat → Prop) (u : (Nat → Int32) × Int32 × Int32) (t : State) : Prop := match u with | (gty, h0_height, h0_sound) => va_P (dC, dI) cls (wz_65 h0 aw ac h0_sound h0_function ty h0_height bo bg bh bd h0_depth ty cty gty bh cbh gbh bd cbd gbd) t.heap ∧ va_K (dC, dI) cls [(cty, .int), (cbh, .int), (cbd, .boolean)] t ∧ va_D A (wz_65 h0 aw ac h0_sound h0_function ty h0_height bo bg bh bd h0_depth ty cty gty bh cbh gbh bd cbd gbd)
set_option maxHeartbeats 4000000 in
set_option maxRecDepth 100000 in
theorem c_VA_checkNumber (l : Launch) (dC : Nat → ClassId) (dI : Nat → Nat → Nat) (sz : Nat) (h0 aw ac ty bo bg bh bd : Nat) (cty cbh cbd : ClassId) (h0_sound : Int32) (h0_function : Int32) (h0_height : Int32) (h0_depth : Int32) (gty : Nat → Int32) (gbh : Nat → Int32) (gbd : Nat → Int32)  (b_h0_sound : h0_sound = 0 ∨ h0_sound = 1) (b_h0_height : 0 ≤ h0_height.toInt ∧ h0_height.toInt ≤ 5000) (b_h0_depth : 0 ≤ h0_depth.toInt ∧ h0_depth.toInt ≤ 101) (b_gty : ∀ j : Nat, (gty j).toInt ≠ 64) (b_gbh : ∀ j : Nat, 0 ≤ (gbh j).toInt ∧ (gbh j).toInt ≤ 5000) (p0 : Int32)  (hd1 : 1 ≤ h0_depth.toInt) (hbh : (gbh (h0_depth.toInt - 1).toNat).toInt ≤ h0_height.toInt) (hh5 : h0_height.toInt < 5000) : Met l y_VA_checkNumber w_VA_checkNumber ({ frames := 2, cells := 0, slots := 0, locals := 42 }) (va_Pc [.ref h0, .int p0] (fun U => U.heap.size = sz ∧ va_P (dC, dI) cls (wz_65 h0 aw ac h0_sound h0_function ty h0_height bo bg bh bd h0_depth ty cty gty bh cbh gbh bd cbd gbd) U.heap ∧ va_K (dC, dI) cls [(cty, .int), (cbh, .int), (cbd, .boolean)] U ∧ va_D (fun _ => True) (wz_65 h0 aw ac h0_sound h0_function ty h0_height bo bg bh bd h0_depth ty cty gty bh cbh gbh bd cbd gbd))) (va_Qv (fun (u : (Nat → Int32) × Int32 × Int32) => match u with | (gty2, h0_height2, h0_sound2) => (∀ j : Nat, (gty2 j).toInt ≠ 64) ∧ (0 ≤ h0_height2.toInt ∧ h0_height2.toInt ≤ 5000) ∧ (h0_sound2 = 0 ∨ h0_sound2 = 1) ∧ (((gbh (h0_depth.toInt - 1).toNat).toInt ≤ h0_height2.toInt ∧ h0_height2.toInt ≤ h0_height.toInt + 1) ∧ (h0_sound2.toInt = 1 → h0_sound.toInt = 1 ∧ ((gbd (h0_depth.toInt - 1).toNat).toInt = 0 → ((p0.toInt = 65 ∨ p0.toInt = 66) → (gbh (h0_depth.toInt - 1).toNat).toInt + 0 ≤ h0_height.toInt ∧ h0_height2.toInt = h0_height.toInt - 0 + 1) ∧ (¬ (p0.toInt = 65 ∨ p0.toInt = 66) → (p0.toInt = 69 ∨ p0.toInt = 80 ∨ (103 ≤ p0.toInt ∧ p0.toInt < 106) ∨ (121 ≤ p0.toInt ∧ p0.toInt < 124) ∨ 138 < p0.toInt) → (gbh (h0_depth.toInt - 1).toNat).toInt + 1 ≤ h0_height.toInt ∧ h0_height2.toInt = h0_height.toInt - 1 + 1) ∧ (¬ (p0.toInt = 65 ∨ p0.toInt = 66) → ¬ (p0.toInt = 69 ∨ p0.toInt = 80 ∨ (103 ≤ p0.toInt ∧ p0.toInt < 106) ∨ (121 ≤ p0.toInt ∧ p0.toInt < 124) ∨ 138 < p0.toInt) → (gbh (h0_depth.toInt - 1).toNat).toInt + 2 ≤ h0_height.toInt ∧ h0_height2.toInt = h0_height.toInt - 2 + 1))))) (at_VA_checkNumber dC dI h0 aw ac ty bo bg bh bd cty cbh cbd h0_function h0_depth gbh gbd (va_A (wz_65 h0 aw ac h0_sound h0_function ty h0_height bo bg bh bd h0_depth ty cty gty bh cbh gbh bd cbd gbd) sz)) (va_A (wz_65 h0 aw ac h0_sound h0_function ty h0_height bo bg bh bd h0_depth ty cty gty bh cbh gbh bd cbd gbd) sz)) 0 0 (va_A (wz_65 h0 aw ac h0_sound h0_function ty h0_height bo bg bh bd h0_depth ty cty gty bh cbh gbh bd cbd gbd) sz) := by
  refine Met.ofW (cc := b_VA_checkNumber) (maxL := 2) (ret := none) (by decide) rfl ?_
  intro p e s m args below meth c s₁ B hml hv
  obtain ⟨rfl, hsz, hP, hK, hD0⟩ := hv
  have hx := B.exec
  have hb := B.bytes
  have hr := B.returns
  have hts0 := atoms_spec (ws := w_VA_checkNumber) B.pre
  have hts : ∀ w ∈ lw_g, w.before _ s = true := fun w h => hts0 w (List.mem_cons_of_mem _ h)
  have hown : s.vm.findClass R_VA = some m.cls := findClass_of_methodNamed B.named
  have hlocks := B.notSynchronized
  clear hts0
  subst hsz
  have hD := hD0.self (sz := s.heap.size)
  generalize hAe : va_A (wz_65 h0 aw ac h0_sound h0_function ty h0_height bo bg bh bd h0_depth ty cty gty bh cbh gbh bd cbd gbd) s.heap.size = A at hD ⊢
  have hA : ∀ q : Nat, s.heap.size ≤ q → A q := fun q h => by rw [← hAe]; exact Or.inr h
  clear hAe
  have hP : va_P (dC, dI) cls (wz_65 h0 aw ac h0_sound h0_function ty h0_height bo bg bh bd h0_depth ty cty gty bh cbh gbh bd cbd gbd) s.heap := hP
  have hl := lv_entry ([.ref h0, .int p0]) (n := 2) (Nat.le_of_ble_eq_true rfl)
  rw [lg_entry_eq]
  generalize (lg_sl ([.ref h0, .int p0]) ++ List.replicate (2 - (lg_sl ([.ref h0, .int p0])).length) Slot.unset).toArray = ls at hl ⊢
  have hl : lv_has ls 2 [(0, .ref h0), (1, .int p0)] := hl
  have k0 : (0 : Int32).toInt = 0 := by decide
  refine w_gen (A := A) hP (fun H locs hP hS => ?_)
  have k65 : (65 : Int32).toInt = 65 := by decide
  have k66 : (66 : Int32).toInt = 66 := by decide
  have k126 : (126 : Int32).toInt = 126 := by decide
  have k127 : (127 : Int32).toInt = 127 := by decide
  have lo_p0 := i32_lo p0
  have hi_p0 := i32_hi p0
  have th0_sound := b01 b_h0_sound
  refine lv_iload_n hx hb d_VA_checkNumber_0 rfl (lv_at hl 1 rfl) ?_
  refine lv_bipush (v := 65) hx hb d_VA_checkNumber_1 (by decide) ?_
  refine w_cut (pc2 := 12) (σ := Unit) (fun u H locs ls => match u with | _ => (p0.toInt = 65 ∨ p0.toInt = 66) ∧ va_P (dC, dI) cls (wz_65 h0 aw ac h0_sound h0_function ty h0_height bo bg bh bd h0_depth ty cty gty bh cbh gbh bd cbd gbd) H ∧ va_D A (wz_65 h0 aw ac h0_sound h0_function ty h0_height bo bg bh bd h0_depth ty cty gty bh cbh gbh bd cbd gbd) ∧ va_S A s.heap H locs ∧ lv_has ls 2 [(0, .ref h0), (1, .int p0)]) (fun u => match u with | _ => []) ?_ (fun jn12 => ?_)
  · intro u H locs ls hI
    obtain ⟨y12, hP, hD, hS, hl⟩ := hI
    refine lv_aload_n hx hb d_VA_checkNumber_12 rfl (lv_at hl 0 rfl) ?_
    refine lv_iload_n hx hb d_VA_checkNumber_13 rfl (lv_at hl 1 rfl) ?_
    refine lv_bipush (v := 65) hx hb d_VA_checkNumber_14 (by decide) ?_
    refine w_cut (pc2 := 26) (σ := Int32) (fun u H locs ls => match u with | j26_s0 => (126 ≤ j26_s0.toInt ∧ j26_s0.toInt ≤ 127) ∧ va_P (dC, dI) cls (wz_65 h0 aw ac h0_sound h0_function ty h0_height bo bg bh bd h0_depth ty cty gty bh cbh gbh bd cbd gbd) H ∧ va_D A (wz_65 h0 aw ac h0_sound h0_function ty h0_height bo bg bh bd h0_depth ty cty gty bh cbh gbh bd cbd gbd) ∧ va_S A s.heap H locs ∧ lv_has ls 2 []) (fun u => match u with | j26_s0 => [.int j26_s0, .ref h0]) ?_ (fun jn26 => ?_)
    · intro u H locs ls hI
      obtain ⟨j26_s0, rfl⟩ : ∃ z, z = u := ⟨_, rfl⟩
      obtain ⟨b_j26_s0, hP, hD, hS, hl⟩ := hI
      have hPc := hP.sb (wq := (wz_66 h0 aw ac h0_sound h0_function ty h0_height bo bg bh bd h0_depth ty cty gty)) [0, 1] rfl
      have hDc := hD.sb (wq := (wz_66 h0 aw ac h0_sound h0_function ty h0_height bo bg bh bd h0_depth ty cty gty)) [0, 1] (by decide) rfl
      have hKc := hK.sb (tyq := [(cty, .int)]) [0] rfl
      have hFc := va_free (wc := (wz_66 h0 aw ac h0_sound h0_function ty h0_height bo bg bh bd h0_depth ty cty gty)) hD hS hA [0, 1] rfl
      refine va_callv (va_runV (As := [.int j26_s0]) (rest := []) ⟨hx, hb, hml, hown, hts⟩ (c_VA_push l dC dI H.size h0 aw ac ty bo bg bh bd cty h0_sound h0_function h0_height h0_depth gty (b_h0_height) (b_gty) j26_s0 (by (try dsimp only) <;> (first | (apply Int.le_antisymm <;> omega) | omega))) (cwV 1 hts (gV kM_VA_167 kV_VA_push kS_VA_push kI_VA kC_VA_push) rfl rfl rfl (by decide +kernel) ⟨Nat.le_of_ble_eq_true rfl, Nat.le_of_ble_eq_true rfl⟩) ⟨fun a U g mk z => by obtain ⟨z0, z1, zP, zK, zD⟩ := z; exact ⟨z0, z1, zP, va_K.moved (u := U) (U := U.calling g mk a) (Vm.Alike.refl U.vm) zK, zD⟩, va_recv hKc hPc (ci := 9) (q0 := 0) rfl rfl, fun U hU hW => ⟨rfl, by rw [hU], va_P.he hU.symm hPc, va_K.moved hW.alike hKc, hDc.weaken (fun _ _ _ _ => trivial)⟩⟩ rfl rfl hl.1 rfl (lv_room (Nat.le_of_ble_eq_true rfl)) d_VA_checkNumber_26 ⟨(Nat.zero_le _), (Nat.zero_le _)⟩) hS (fun q _ h => hFc q h) hFc (fun u t H1 locs ht hvm hw hB hz1 hk1 hS => ?_)
      obtain ⟨n2, n3⟩ := u
      try dsimp only at hw
      obtain ⟨bn2, bn3, xr1⟩ := hw
      try clear hw
      obtain ⟨hP1, hK1, hD1⟩ := hB
      replace hP1 := va_P.he ht hP1
      obtain ⟨hP, hD⟩ := va_join (wr := [(bh, .inl (cbh, 101, .inl gbh)), (bd, .inl (cbd, 101, .inl gbd))]) (w1 := (wz_66 h0 aw ac h0_sound h0_function ty n3 bo bg bh bd h0_depth ty cty n2)) hP hD [0, 1] [2, 3] rfl rfl (by decide) (by decide) hk1 hFc hP1 hD1
      clear hPc hDc hKc hFc hz1 hk1 hP1 hK1 hD1
      rename Heap => H
      have hP : va_P (dC, dI) cls (wz_71 bh cbh gbh bd cbd gbd h0 aw ac h0_sound h0_function ty n3 bo bg bh bd h0_depth ty cty n2) H := hP
      have hD : va_D A (wz_71 bh cbh gbh bd cbd gbd h0 aw ac h0_sound h0_function ty n3 bo bg bh bd h0_depth ty cty n2) := hD
      have hP9 := hP.sb (wq := (wz_65 h0 aw ac h0_sound h0_function ty n3 bo bg bh bd h0_depth ty cty n2 bh cbh gbh bd cbd gbd)) [2, 3, 0, 1] rfl
      have hD9 := hD.sb (wq := (wz_65 h0 aw ac h0_sound h0_function ty n3 bo bg bh bd h0_depth ty cty n2 bh cbh gbh bd cbd gbd)) [2, 3, 0, 1] (by decide) rfl
      exact W.vret hx hb hr (fun t ht hW => ⟨⟨(n2, n3, h0_sound), rfl, ⟨bn2, bn3, b_h0_sound, by (try dsimp only) <;> (first | (apply Int.le_antisymm <;> omega) | omega)⟩, va_P.he ht.symm hP9, va_K.moved hW.alike hK, hD9⟩, hS.F ht⟩) hS.2.2 d_VA_checkNumber_29
    · skip
      refine lv_icmp_ne (tgt := 24) hx hb d_VA_checkNumber_16 (by decide) (fun c16 => ?_) (fun c16 => ?_)
      · have q16 := neI c16
        refine lv_bipush (v := 126) hx hb d_VA_checkNumber_24 (by decide) ?_
        exact jn26 126 _ _ _ ⟨by (try dsimp only) <;> (first | (apply Int.le_antisymm <;> omega) | omega), hP, hD, hS, lv_sub hl [] rfl⟩
      · have q16 := eqI c16
        refine lv_bipush (v := 127) hx hb d_VA_checkNumber_19 (by decide) ?_
        refine lv_goto (tgt := 26) hx hb d_VA_checkNumber_21 (by decide) ?_
        exact jn26 127 _ _ _ ⟨by (try dsimp only) <;> (first | (apply Int.le_antisymm <;> omega) | omega), hP, hD, hS, lv_sub hl [] rfl⟩
  · skip
    refine lv_icmp_eq (tgt := 12) hx hb d_VA_checkNumber_3 (by decide) (fun c3 => ?_) (fun c3 => ?_)
    · have q3 := eqI c3
      exact jn12 () _ _ _ ⟨by (try dsimp only) <;> (first | (apply Int.le_antisymm <;> omega) | omega), hP, hD, hS, lv_sub hl [0, 1] rfl⟩
    · have q3 := neI c3
      refine lv_iload_n hx hb d_VA_checkNumber_6 rfl (lv_at hl 1 rfl) ?_
      refine lv_bipush (v := 66) hx hb d_VA_checkNumber_7 (by decide) ?_
      refine lv_icmp_ne (tgt := 30) hx hb d_VA_checkNumber_9 (by decide) (fun c9 => ?_) (fun c9 => ?_)
      · have q9 := neI c9
        refine lv_aload_n hx hb d_VA_checkNumber_30 rfl (lv_at hl 0 rfl) ?_
        refine lv_iload_n hx hb d_VA_checkNumber_31 rfl (lv_at hl 1 rfl) ?_
        have hPc := hP.sb (wq := []) [] rfl
        have hDc := hD.sb (wq := []) [] (by decide) rfl
        have hKc := hK.sb (tyq := []) [] rfl
        have hFc := va_free (wc := []) hD hS hA [] rfl
        refine va_calli (va_runS (As := [.int p0]) (rest := [.ref h0]) ⟨hx, hb, hml, hown, hts⟩ (c_CD_operandType l dC dI H.size p0) ⟨callB_of 1 hts (gW kC_CD_operandType) rfl rfl rfl (hts _ kI_CD) (hts _ kM_VA_209) (by decide +kernel) ⟨Nat.le_of_ble_eq_true rfl, Nat.le_of_ble_eq_true rfl⟩, hts _ kT_CD_operandType⟩ ⟨fun a U g mk z => by obtain ⟨z0, z1, zP, zK, zD⟩ := z; exact ⟨z0, z1, zP, va_K.moved (u := U) (U := U.calling g mk a) (Vm.Alike.refl U.vm) zK, zD⟩, fun U hU hW => ⟨rfl, by rw [hU], va_P.he hU.symm hPc, va_K.moved hW.alike hKc, hDc.weaken (fun _ _ _ _ => trivial)⟩⟩ rfl rfl hl.1 rfl (lv_room (Nat.le_of_ble_eq_true rfl)) d_VA_checkNumber_32 ⟨(Nat.zero_le _), (Nat.zero_le _)⟩) hS (fun q _ h => hFc q h) hFc (fun r4 u t H1 locs ht hvm hw hB hz1 hk1 hS => ?_)
        try dsimp only at hw
        have tr4 := hw
        obtain ⟨hP1, hK1, hD1⟩ := hB
        replace hP1 := va_P.he ht hP1
        obtain ⟨hP, hD⟩ := va_join (wr := (wz_65 h0 aw ac h0_sound h0_function ty h0_height bo bg bh bd h0_depth ty cty gty bh cbh gbh bd cbd gbd)) (w1 := []) hP hD [] [0, 1, 2, 3] rfl rfl (by decide) (by decide) hk1 hFc hP1 hD1
        clear hPc hDc hKc hFc hz1 hk1 hP1 hK1 hD1
        rename Heap => H
        have hP : va_P (dC, dI) cls (wz_65 h0 aw ac h0_sound h0_function ty h0_height bo bg bh bd h0_depth ty cty gty bh cbh gbh bd cbd gbd) H := hP
        have hD : va_D A (wz_65 h0 aw ac h0_sound h0_function ty h0_height bo bg bh bd h0_depth ty cty gty bh cbh gbh bd cbd gbd) := hD
        have hPc := hP.sb (wq := (wz_65 h0 aw ac h0_sound h0_function ty h0_height bo bg bh bd h0_depth ty cty gty bh cbh gbh bd cbd gbd)) [0, 1, 2, 3] rfl
        have hDc := hD.sb (wq := (wz_65 h0 aw ac h0_sound h0_function ty h0_height bo bg bh bd h0_depth ty cty gty bh cbh gbh bd cbd gbd)) [0, 1, 2, 3] (by decide) rfl
        have hKc := hK.sb (tyq := [(cty, .int), (cbh, .int), (cbd, .boolean)]) [0, 1, 2] rfl
        have hFc := va_free (wc := (wz_65 h0 aw ac h0_sound h0_function ty h0_height bo bg bh bd h0_depth ty cty gty bh cbh gbh bd cbd gbd)) hD hS hA [0, 1, 2, 3] rfl
        refine va_callv (va_runV (As := [.int r4]) (rest := []) ⟨hx, hb, hml, hown, hts⟩ (c_VA_pop l dC dI H.size h0 aw ac ty bo bg bh bd cty cbh cbd h0_sound h0_function h0_height h0_depth gty gbh gbd (b_h0_sound) (b_h0_height) (b_h0_depth) (b_gty) (b_gbh) r4 (by (try dsimp only) <;> (first | (apply Int.le_antisymm <;> omega) | omega)) (by (try dsimp only) <;> (first | (apply Int.le_antisymm <;> omega) | omega))) (cwV 1 hts (gV kM_VA_161 kV_VA_pop kS_VA_pop kI_VA kC_VA_pop) rfl rfl rfl (by decide +kernel) ⟨Nat.le_of_ble_eq_true rfl, Nat.le_of_ble_eq_true rfl⟩) ⟨fun a U g mk z => by obtain ⟨z0, z1, zP, zK, zD⟩ := z; exact ⟨z0, z1, zP, va_K.moved (u := U) (U := U.calling g mk a) (Vm.Alike.refl U.vm) zK, zD⟩, va_recv hKc hPc (ci := 9) (q0 := 0) rfl rfl, fun U hU hW => ⟨rfl, by rw [hU], va_P.he hU.symm hPc, va_K.moved hW.alike hKc, hDc.weaken (fun _ _ _ _ => trivial)⟩⟩ rfl rfl hl.1 rfl (lv_room (Nat.le_of_ble_eq_true rfl)) d_VA_checkNumber_35 ⟨(Nat.zero_le _), (Nat.zero_le _)⟩) hS (fun q _ h => hFc q h) hFc (fun u t H1 locs ht hvm hw hB hz1 hk1 hS => ?_)
        obtain ⟨n6, n7⟩ := u
        try dsimp only at hw
        obtain ⟨bn6, bn7, xr5⟩ := hw
        try clear hw
        have tn7 := b01 bn7
        obtain ⟨hP1, hK1, hD1⟩ := hB
        replace hP1 := va_P.he ht hP1
        obtain ⟨hP, hD⟩ := va_join (wr := []) (w1 := (wz_65 h0 aw ac n7 h0_function ty n6 bo bg bh bd h0_depth ty cty gty bh cbh gbh bd cbd gbd)) hP hD [0, 1, 2, 3] [] rfl rfl (by decide) (by decide) hk1 hFc hP1 hD1
        clear hPc hDc hKc hFc hz1 hk1 hP1 hK1 hD1
        rename Heap => H
        have hP : va_P (dC, dI) cls (wz_65 h0 aw ac n7 h0_function ty n6 bo bg bh bd h0_depth ty cty gty bh cbh gbh bd cbd gbd) H := hP
        have hD : va_D A (wz_65 h0 aw ac n7 h0_function ty n6 bo bg bh bd h0_depth ty cty gty bh cbh gbh bd cbd gbd) := hD
        refine lv_iload_n hx hb d_VA_checkNumber_38 rfl (lv_at hl 1 rfl) ?_
        have hPc := hP.sb (wq := []) [] rfl
        have hDc := hD.sb (wq := []) [] (by decide) rfl
        have hKc := hK.sb (tyq := []) [] rfl
        have hFc := va_free (wc := []) hD hS hA [] rfl
        refine va_calli (va_runS (As := [.int p0]) (rest := []) ⟨hx, hb, hml, hown, hts⟩ (c_CD_takesOne l dC dI H.size p0) ⟨callB_of 1 hts (gW kC_CD_takesOne) rfl rfl rfl (hts _ kI_CD) (hts _ kM_VA_212) (by decide +kernel) ⟨Nat.le_of_ble_eq_true rfl, Nat.le_of_ble_eq_true rfl⟩, hts _ kT_CD_takesOne⟩ ⟨fun a U g mk z => by obtain ⟨z0, z1, zP, zK, zD⟩ := z; exact ⟨z0, z1, zP, va_K.moved (u := U) (U := U.calling g mk a) (Vm.Alike.refl U.vm) zK, zD⟩, fun U hU hW => ⟨rfl, by rw [hU], va_P.he hU.symm hPc, va_K.moved hW.alike hKc, hDc.weaken (fun _ _ _ _ => trivial)⟩⟩ rfl rfl hl.1 rfl (lv_room (Nat.le_of_ble_eq_true rfl)) d_VA_checkNumber_39 ⟨(Nat.zero_le _), (Nat.zero_le _)⟩) hS (fun q _ h => hFc q h) hFc (fun r8 u t H1 locs ht hvm hw hB hz1 hk1 hS => ?_)
        try dsimp only at hw
        have tr8 := hw
        obtain ⟨hP1, hK1, hD1⟩ := hB
        replace hP1 := va_P.he ht hP1
        obtain ⟨hP, hD⟩ := va_join (wr := (wz_65 h0 aw ac n7 h0_function ty n6 bo bg bh bd h0_depth ty cty gty bh cbh gbh bd cbd gbd)) (w1 := []) hP hD [] [0, 1, 2, 3] rfl rfl (by decide) (by decide) hk1 hFc hP1 hD1
        clear hPc hDc hKc hFc hz1 hk1 hP1 hK1 hD1
        rename Heap => H
        have hP : va_P (dC, dI) cls (wz_65 h0 aw ac n7 h0_function ty n6 bo bg bh bd h0_depth ty cty gty bh cbh gbh bd cbd gbd) H := hP
        have hD : va_D A (wz_65 h0 aw ac n7 h0_function ty n6 bo bg bh bd h0_depth ty cty gty bh cbh gbh bd cbd gbd) := hD
        refine lv_if_ne (tgt := 53) hx hb d_VA_checkNumber_42 (by decide) (fun c42 => ?_) (fun c42 => ?_)
        · have q42 := neI c42
          refine lv_aload_n hx hb d_VA_checkNumber_53 rfl (lv_at hl 0 rfl) ?_
          refine lv_iload_n hx hb d_VA_checkNumber_54 rfl (lv_at hl 1 rfl) ?_
          have hPc := hP.sb (wq := []) [] rfl
          have hDc := hD.sb (wq := []) [] (by decide) rfl
          have hKc := hK.sb (tyq := []) [] rfl
          have hFc := va_free (wc := []) hD hS hA [] rfl
          refine va_calli (va_runS (As := [.int p0]) (rest := [.ref h0]) ⟨hx, hb, hml, hown, hts⟩ (c_CD_resultType l dC dI H.size p0) ⟨callB_of 1 hts (gW kC_CD_resultType) rfl rfl rfl (hts _ kI_CD) (hts _ kM_VA_215) (by decide +kernel) ⟨Nat.le_of_ble_eq_true rfl, Nat.le_of_ble_eq_true rfl⟩, hts _ kT_CD_resultType⟩ ⟨fun a U g mk z => by obtain ⟨z0, z1, zP, zK, zD⟩ := z; exact ⟨z0, z1, zP, va_K.moved (u := U) (U := U.calling g mk a) (Vm.Alike.refl U.vm) zK, zD⟩, fun U hU hW => ⟨rfl, by rw [hU], va_P.he hU.symm hPc, va_K.moved hW.alike hKc, hDc.weaken (fun _ _ _ _ => trivial)⟩⟩ rfl rfl hl.1 rfl (lv_room (Nat.le_of_ble_eq_true rfl)) d_VA_checkNumber_55 ⟨(Nat.zero_le _), (Nat.zero_le _)⟩) hS (fun q _ h => hFc q h) hFc (fun r9 u t H1 locs ht hvm hw hB hz1 hk1 hS => ?_)
          try dsimp only at hw
          have tr9 := hw
          obtain ⟨hP1, hK1, hD1⟩ := hB
          replace hP1 := va_P.he ht hP1
          obtain ⟨hP, hD⟩ := va_join (wr := (wz_65 h0 aw ac n7 h0_function ty n6 bo bg bh bd h0_depth ty cty gty bh cbh gbh bd cbd gbd)) (w1 := []) hP hD [] [0, 1, 2, 3] rfl rfl (by decide) (by decide) hk1 hFc hP1 hD1
          clear hPc hDc hKc hFc hz1 hk1 hP1 hK1 hD1
          rename Heap => H
          have hP : va_P (dC, dI) cls (wz_65 h0 aw ac n7 h0_function ty n6 bo bg bh bd h0_depth ty cty gty bh cbh gbh bd cbd gbd) H := hP
          have hD : va_D A (wz_65 h0 aw ac n7 h0_function ty n6 bo bg bh bd h0_depth ty cty gty bh cbh gbh bd cbd gbd) := hD
          have hPc := hP.sb (wq := (wz_66 h0 aw ac n7 h0_function ty n6 bo bg bh bd h0_depth ty cty gty)) [0, 1] rfl
          have hDc := hD.sb (wq := (wz_66 h0 aw ac n7 h0_function ty n6 bo bg bh bd h0_depth ty cty gty)) [0, 1] (by decide) rfl
          have hKc := hK.sb (tyq := [(cty, .int)]) [0] rfl
          have hFc := va_free (wc := (wz_66 h0 aw ac n7 h0_function ty n6 bo bg bh bd h0_depth ty cty gty)) hD hS hA [0, 1] rfl
          refine va_callv (va_runV (As := [.int r9]) (rest := []) ⟨hx, hb, hml, hown, hts⟩ (c_VA_push l dC dI H.size h0 aw ac ty bo bg bh bd cty n7 h0_function n6 h0_depth gty (bn6) (b_gty) r9 (by (try dsimp only) <;> (first | (apply Int.le_antisymm <;> omega) | omega))) (cwV 1 hts (gV kM_VA_167 kV_VA_push kS_VA_push kI_VA kC_VA_push) rfl rfl rfl (by decide +kernel) ⟨Nat.le_of_ble_eq_true rfl, Nat.le_of_ble_eq_true rfl⟩) ⟨fun a U g mk z => by obtain ⟨z0, z1, zP, zK, zD⟩ := z; exact ⟨z0, z1, zP, va_K.moved (u := U) (U := U.calling g mk a) (Vm.Alike.refl U.vm) zK, zD⟩, va_recv hKc hPc (ci := 9) (q0 := 0) rfl rfl, fun U hU hW => ⟨rfl, by rw [hU], va_P.he hU.symm hPc, va_K.moved hW.alike hKc, hDc.weaken (fun _ _ _ _ => trivial)⟩⟩ rfl rfl hl.1 rfl (lv_room (Nat.le_of_ble_eq_true rfl)) d_VA_checkNumber_58 ⟨(Nat.zero_le _), (Nat.zero_le _)⟩) hS (fun q _ h => hFc q h) hFc (fun u t H1 locs ht hvm hw hB hz1 hk1 hS => ?_)
          obtain ⟨n11, n12⟩ := u
          try dsimp only at hw
          obtain ⟨bn11, bn12, xr10⟩ := hw
          try clear hw
          obtain ⟨hP1, hK1, hD1⟩ := hB
          replace hP1 := va_P.he ht hP1
          obtain ⟨hP, hD⟩ := va_join (wr := [(bh, .inl (cbh, 101, .inl gbh)), (bd, .inl (cbd, 101, .inl gbd))]) (w1 := (wz_66 h0 aw ac n7 h0_function ty n12 bo bg bh bd h0_depth ty cty n11)) hP hD [0, 1] [2, 3] rfl rfl (by decide) (by decide) hk1 hFc hP1 hD1
          clear hPc hDc hKc hFc hz1 hk1 hP1 hK1 hD1
          rename Heap => H
          have hP : va_P (dC, dI) cls (wz_71 bh cbh gbh bd cbd gbd h0 aw ac n7 h0_function ty n12 bo bg bh bd h0_depth ty cty n11) H := hP
          have hD : va_D A (wz_71 bh cbh gbh bd cbd gbd h0 aw ac n7 h0_function ty n12 bo bg bh bd h0_depth ty cty n11) := hD
          have hP9 := hP.sb (wq := (wz_65 h0 aw ac n7 h0_function ty n12 bo bg bh bd h0_depth ty cty n11 bh cbh gbh bd cbd gbd)) [2, 3, 0, 1] rfl
          have hD9 := hD.sb (wq := (wz_65 h0 aw ac n7 h0_function ty n12 bo bg bh bd h0_depth ty cty n11 bh cbh gbh bd cbd gbd)) [2, 3, 0, 1] (by decide) rfl
          exact W.vret hx hb hr (fun t ht hW => ⟨⟨(n11, n12, n7), rfl, ⟨bn11, bn12, bn7, by (try dsimp only) <;> (first | (apply Int.le_antisymm <;> omega) | omega)⟩, va_P.he ht.symm hP9, va_K.moved hW.alike hK, hD9⟩, hS.F ht⟩) hS.2.2 d_VA_checkNumber_61
        · have q42 := eqI c42
          refine lv_aload_n hx hb d_VA_checkNumber_45 rfl (lv_at hl 0 rfl) ?_
          refine lv_iload_n hx hb d_VA_checkNumber_46 rfl (lv_at hl 1 rfl) ?_
          have hPc := hP.sb (wq := []) [] rfl
          have hDc := hD.sb (wq := []) [] (by decide) rfl
          have hKc := hK.sb (tyq := []) [] rfl
          have hFc := va_free (wc := []) hD hS hA [] rfl
          refine va_calli (va_runS (As := [.int p0]) (rest := [.ref h0]) ⟨hx, hb, hml, hown, hts⟩ (c_CD_operandType l dC dI H.size p0) ⟨callB_of 1 hts (gW kC_CD_operandType) rfl rfl rfl (hts _ kI_CD) (hts _ kM_VA_209) (by decide +kernel) ⟨Nat.le_of_ble_eq_true rfl, Nat.le_of_ble_eq_true rfl⟩, hts _ kT_CD_operandType⟩ ⟨fun a U g mk z => by obtain ⟨z0, z1, zP, zK, zD⟩ := z; exact ⟨z0, z1, zP, va_K.moved (u := U) (U := U.calling g mk a) (Vm.Alike.refl U.vm) zK, zD⟩, fun U hU hW => ⟨rfl, by rw [hU], va_P.he hU.symm hPc, va_K.moved hW.alike hKc, hDc.weaken (fun _ _ _ _ => trivial)⟩⟩ rfl rfl hl.1 rfl (lv_room (Nat.le_of_ble_eq_true rfl)) d_VA_checkNumber_47 ⟨(Nat.zero_le _), (Nat.zero_le _)⟩) hS (fun q _ h => hFc q h) hFc (fun r13 u t H1 locs ht hvm hw hB hz1 hk1 hS => ?_)
          try dsimp only at hw
          have tr13 := hw
          obtain ⟨hP1, hK1, hD1⟩ := hB
          replace hP1 := va_P.he ht hP1
          obtain ⟨hP, hD⟩ := va_join (wr := (wz_65 h0 aw ac n7 h0_function ty n6 bo bg bh bd h0_depth ty cty gty bh cbh gbh bd cbd gbd)) (w1 := []) hP hD [] [0, 1, 2, 3] rfl rfl (by decide) (by decide) hk1 hFc hP1 hD1
          clear hPc hDc hKc hFc hz1 hk1 hP1 hK1 hD1
          rename Heap => H
          have hP : va_P (dC, dI) cls (wz_65 h0 aw ac n7 h0_function ty n6 bo bg bh bd h0_depth ty cty gty bh cbh gbh bd cbd gbd) H := hP
          have hD : va_D A (wz_65 h0 aw ac n7 h0_function ty n6 bo bg bh bd h0_depth ty cty gty bh cbh gbh bd cbd gbd) := hD
          have hPc := hP.sb (wq := (wz_65 h0 aw ac n7 h0_function ty n6 bo bg bh bd h0_depth ty cty gty bh cbh gbh bd cbd gbd)) [0, 1, 2, 3] rfl
          have hDc := hD.sb (wq := (wz_65 h0 aw ac n7 h0_function ty n6 bo bg bh bd h0_depth ty cty gty bh cbh gbh bd cbd gbd)) [0, 1, 2, 3] (by decide) rfl
          have hKc := hK.sb (tyq := [(cty, .int), (cbh, .int), (cbd, .boolean)]) [0, 1, 2] rfl
          have hFc := va_free (wc := (wz_65 h0 aw ac n7 h0_function ty n6 bo bg bh bd h0_depth ty cty gty bh cbh gbh bd cbd gbd)) hD hS hA [0, 1, 2, 3] rfl
          refine va_callv (va_runV (As := [.int r13]) (rest := []) ⟨hx, hb, hml, hown, hts⟩ (c_VA_pop l dC dI H.size h0 aw ac ty bo bg bh bd cty cbh cbd n7 h0_function n6 h0_depth gty gbh gbd (bn7) (bn6) (b_h0_depth) (b_gty) (b_gbh) r13 (by (try dsimp only) <;> (first | (apply Int.le_antisymm <;> omega) | omega)) (by (try dsimp only) <;> (first | (apply Int.le_antisymm <;> omega) | omega))) (cwV 1 hts (gV kM_VA_161 kV_VA_pop kS_VA_pop kI_VA kC_VA_pop) rfl rfl rfl (by decide +kernel) ⟨Nat.le_of_ble_eq_true rfl, Nat.le_of_ble_eq_true rfl⟩) ⟨fun a U g mk z => by obtain ⟨z0, z1, zP, zK, zD⟩ := z; exact ⟨z0, z1, zP, va_K.moved (u := U) (U := U.calling g mk a) (Vm.Alike.refl U.vm) zK, zD⟩, va_recv hKc hPc (ci := 9) (q0 := 0) rfl rfl, fun U hU hW => ⟨rfl, by rw [hU], va_P.he hU.symm hPc, va_K.moved hW.alike hKc, hDc.weaken (fun _ _ _ _ => trivial)⟩⟩ rfl rfl hl.1 rfl (lv_room (Nat.le_of_ble_eq_true rfl)) d_VA_checkNumber_50 ⟨(Nat.zero_le _), (Nat.zero_le _)⟩) hS (fun q _ h => hFc q h) hFc (fun u t H1 locs ht hvm hw hB hz1 hk1 hS => ?_)
          obtain ⟨n15, n16⟩ := u
          try dsimp only at hw
          obtain ⟨bn15, bn16, xr14⟩ := hw
          try clear hw
          have tn16 := b01 bn16
          obtain ⟨hP1, hK1, hD1⟩ := hB
          replace hP1 := va_P.he ht hP1
          obtain ⟨hP, hD⟩ := va_join (wr := []) (w1 := (wz_65 h0 aw ac n16 h0_function ty n15 bo bg bh bd h0_depth ty cty gty bh cbh gbh bd cbd gbd)) hP hD [0, 1, 2, 3] [] rfl rfl (by decide) (by decide) hk1 hFc hP1 hD1
          clear hPc hDc hKc hFc hz1 hk1 hP1 hK1 hD1
          rename Heap => H
          have hP : va_P (dC, dI) cls (wz_65 h0 aw ac n16 h0_function ty n15 bo bg bh bd h0_depth ty cty gty bh cbh gbh bd cbd gbd) H := hP
          have hD : va_D A (wz_65 h0 aw ac n16 h0_function ty n15 bo bg bh bd h0_depth ty cty gty bh cbh gbh bd cbd gbd) := hD
          refine lv_aload_n hx hb d_VA_checkNumber_53 rfl (lv_at hl 0 rfl) ?_
          refine lv_iload_n hx hb d_VA_checkNumber_54 rfl (lv_at hl 1 rfl) ?_
          have hPc := hP.sb (wq := []) [] rfl
          have hDc := hD.sb (wq := []) [] (by decide) rfl
          have hKc := hK.sb (tyq := []) [] rfl
          have hFc := va_free (wc := []) hD hS hA [] rfl
          refine va_calli (va_runS (As := [.int p0]) (rest := [.ref h0]) ⟨hx, hb, hml, hown, hts⟩ (c_CD_resultType l dC dI H.size p0) ⟨callB_of 1 hts (gW kC_CD_resultType) rfl rfl rfl (hts _ kI_CD) (hts _ kM_VA_215) (by decide +kernel) ⟨Nat.le_of_ble_eq_true rfl, Nat.le_of_ble_eq_true rfl⟩, hts _ kT_CD_resultType⟩ ⟨fun a U g mk z => by obtain ⟨z0, z1, zP, zK, zD⟩ := z; exact ⟨z0, z1, zP, va_K.moved (u := U) (U := U.calling g mk a) (Vm.Alike.refl U.vm) zK, zD⟩, fun U hU hW => ⟨rfl, by rw [hU], va_P.he hU.symm hPc, va_K.moved hW.alike hKc, hDc.weaken (fun _ _ _ _ => trivial)⟩⟩ rfl rfl hl.1 rfl (lv_room (Nat.le_of_ble_eq_true rfl)) d_VA_checkNumber_55 ⟨(Nat.zero_le _), (Nat.zero_le _)⟩) hS (fun q _ h => hFc q h) hFc (fun r17 u t H1 locs ht hvm hw hB hz1 hk1 hS => ?_)
          try dsimp only at hw
          have tr17 := hw
          obtain ⟨hP1, hK1, hD1⟩ := hB
          replace hP1 := va_P.he ht hP1
          obtain ⟨hP, hD⟩ := va_join (wr := (wz_65 h0 aw ac n16 h0_function ty n15 bo bg bh bd h0_depth ty cty gty bh cbh gbh bd cbd gbd)) (w1 := []) hP hD [] [0, 1, 2, 3] rfl rfl (by decide) (by decide) hk1 hFc hP1 hD1
          clear hPc hDc hKc hFc hz1 hk1 hP1 hK1 hD1
          rename Heap => H
          have hP : va_P (dC, dI) cls (wz_65 h0 aw ac n16 h0_function ty n15 bo bg bh bd h0_depth ty cty gty bh cbh gbh bd cbd gbd) H := hP
          have hD : va_D A (wz_65 h0 aw ac n16 h0_function ty n15 bo bg bh bd h0_depth ty cty gty bh cbh gbh bd cbd gbd) := hD
          have hPc := hP.sb (wq := (wz_66 h0 aw ac n16 h0_function ty n15 bo bg bh bd h0_depth ty cty gty)) [0, 1] rfl
          have hDc := hD.sb (wq := (wz_66 h0 aw ac n16 h0_function ty n15 bo bg bh bd h0_depth ty cty gty)) [0, 1] (by decide) rfl
          have hKc := hK.sb (tyq := [(cty, .int)]) [0] rfl
          have hFc := va_free (wc := (wz_66 h0 aw ac n16 h0_function ty n15 bo bg bh bd h0_depth ty cty gty)) hD hS hA [0, 1] rfl
          refine va_callv (va_runV (As := [.int r17]) (rest := []) ⟨hx, hb, hml, hown, hts⟩ (c_VA_push l dC dI H.size h0 aw ac ty bo bg bh bd cty n16 h0_function n15 h0_depth gty (bn15) (b_gty) r17 (by (try dsimp only) <;> (first | (apply Int.le_antisymm <;> omega) | omega))) (cwV 1 hts (gV kM_VA_167 kV_VA_push kS_VA_push kI_VA kC_VA_push) rfl rfl rfl (by decide +kernel) ⟨Nat.le_of_ble_eq_true rfl, Nat.le_of_ble_eq_true rfl⟩) ⟨fun a U g mk z => by obtain ⟨z0, z1, zP, zK, zD⟩ := z; exact ⟨z0, z1, zP, va_K.moved (u := U) (U := U.calling g mk a) (Vm.Alike.refl U.vm) zK, zD⟩, va_recv hKc hPc (ci := 9) (q0 := 0) rfl rfl, fun U hU hW => ⟨rfl, by rw [hU], va_P.he hU.symm hPc, va_K.moved hW.alike hKc, hDc.weaken (fun _ _ _ _ => trivial)⟩⟩ rfl rfl hl.1 rfl (lv_room (Nat.le_of_ble_eq_true rfl)) d_VA_checkNumber_58 ⟨(Nat.zero_le _), (Nat.zero_le _)⟩) hS (fun q _ h => hFc q h) hFc (fun u t H1 locs ht hvm hw hB hz1 hk1 hS => ?_)
          obtain ⟨n19, n20⟩ := u
          try dsimp only at hw
          obtain ⟨bn19, bn20, xr18⟩ := hw
          try clear hw
          obtain ⟨hP1, hK1, hD1⟩ := hB
          replace hP1 := va_P.he ht hP1
          obtain ⟨hP, hD⟩ := va_join (wr := [(bh, .inl (cbh, 101, .inl gbh)), (bd, .inl (cbd, 101, .inl gbd))]) (w1 := (wz_66 h0 aw ac n16 h0_function ty n20 bo bg bh bd h0_depth ty cty n19)) hP hD [0, 1] [2, 3] rfl rfl (by decide) (by decide) hk1 hFc hP1 hD1
          clear hPc hDc hKc hFc hz1 hk1 hP1 hK1 hD1
          rename Heap => H
          have hP : va_P (dC, dI) cls (wz_71 bh cbh gbh bd cbd gbd h0 aw ac n16 h0_function ty n20 bo bg bh bd h0_depth ty cty n19) H := hP
          have hD : va_D A (wz_71 bh cbh gbh bd cbd gbd h0 aw ac n16 h0_function ty n20 bo bg bh bd h0_depth ty cty n19) := hD
          have hP9 := hP.sb (wq := (wz_65 h0 aw ac n16 h0_function ty n20 bo bg bh bd h0_depth ty cty n19 bh cbh gbh bd cbd gbd)) [2, 3, 0, 1] rfl
          have hD9 := hD.sb (wq := (wz_65 h0 aw ac n16 h0_function ty n20 bo bg bh bd h0_depth ty cty n19 bh cbh gbh bd cbd gbd)) [2, 3, 0, 1] (by decide) rfl
          exact W.vret hx hb hr (fun t ht hW => ⟨⟨(n19, n20, n16), rfl, ⟨bn19, bn20, bn16, by (try dsimp only) <;> (first | (apply Int.le_antisymm <;> omega) | omega)⟩, va_P.he ht.symm hP9, va_K.moved hW.alike hK, hD9⟩, hS.F ht⟩) hS.2.2 d_VA_checkNumber_61
      · have q9 := eqI c9
        exact jn12 () _ _ _ ⟨by (try dsimp only) <;> (first | (apply Int.le_antisymm <;> omega) | omega), hP, hD, hS, lv_sub hl [0, 1] rfl⟩
abbrev b_VA_checkMemory : ByteArray := prog_12_method_12_code
def y_VA_checkMemory : MethodName := ⟨R_VA, "checkMemory", "(II)V"⟩
abbrev w_VA_checkMemory : List Cond := .code y_VA_checkMemory b_VA_checkMemory 4 none :: lw_g
theorem kC_VA_checkMemory : Cond.code y_VA_checkMemory b_VA_checkMemory 4 none ∈ lw_g := in_c7 36 rfl rfl
theorem d_VA_checkMemory_0 : decode b_VA_checkMemory 0 = .ok (.aload_n 0, 1) := bz_c42 (by decide +kernel)
theorem d_VA_checkMemory_1 : decode b_VA_checkMemory 1 = .ok (.aload_n 0, 1) := bz_c42 (by decide +kernel)
theorem d_VA_checkMemory_2 : decode b_VA_checkMemory 2 = .ok (.getfield 39, 3) := bz_c180 (by decide +kernel)
theorem d_VA_checkMemory_5 : decode b_VA_checkMemory 5 = .ok (.ifCond .eq 32, 3) := bz_c153 (by decide +kernel)
theorem d_VA_checkMemory_8 : decode b_VA_checkMemory 8 = .ok (.aload_n 0, 1) := bz_c42 (by decide +kernel)
theorem d_VA_checkMemory_9 : decode b_VA_checkMemory 9 = .ok (.getfield 28, 3) := bz_c180 (by decide +kernel)
theorem d_VA_checkMemory_12 : decode b_VA_checkMemory 12 = .ok (.getfield 89, 3) := bz_c180 (by decide +kernel)
theorem d_VA_checkMemory_15 : decode b_VA_checkMemory 15 = .ok (.ifCond .eq 22, 3) := bz_c153 (by decide +kernel)
theorem d_VA_checkMemory_18 : decode b_VA_checkMemory 18 = .ok (.iload_n 1, 1) := bz_c27 (by decide +kernel)
theorem d_VA_checkMemory_19 : decode b_VA_checkMemory 19 = .ok (.invokestatic 199, 3) := bz_c184 (by decide +kernel)
theorem d_VA_checkMemory_22 : decode b_VA_checkMemory 22 = .ok (.ifCond .eq 11, 3) := bz_c153 (by decide +kernel)
theorem d_VA_checkMemory_25 : decode b_VA_checkMemory 25 = .ok (.iload_n 2, 1) := bz_c28 (by decide +kernel)
theorem d_VA_checkMemory_26 : decode b_VA_checkMemory 26 = .ok (.iload_n 1, 1) := bz_c27 (by decide +kernel)
theorem d_VA_checkMemory_27 : decode b_VA_checkMemory 27 = .ok (.invokestatic 203, 3) := bz_c184 (by decide +kernel)
theorem d_VA_checkMemory_30 : decode b_VA_checkMemory 30 = .ok (.if_icmp .gt 7, 3) := bz_c163 (by decide +kernel)
theorem d_VA_checkMemory_33 : decode b_VA_checkMemory 33 = .ok (.iconst 1, 1) := bz_c4 (by decide +kernel)
theorem d_VA_checkMemory_34 : decode b_VA_checkMemory 34 = .ok (.goto 4, 3) := bz_c167 (by decide +kernel)
theorem d_VA_checkMemory_37 : decode b_VA_checkMemory 37 = .ok (.iconst 0, 1) := bz_c3 (by decide +kernel)
theorem d_VA_checkMemory_38 : decode b_VA_checkMemory 38 = .ok (.putfield 39, 3) := bz_c181 (by decide +kernel)
theorem d_VA_checkMemory_41 : decode b_VA_checkMemory 41 = .ok (.iload_n 1, 1) := bz_c27 (by decide +kernel)
theorem d_VA_checkMemory_42 : decode b_VA_checkMemory 42 = .ok (.bipush 41, 2) := bz_c16 (by decide +kernel)
theorem d_VA_checkMemory_44 : decode b_VA_checkMemory 44 = .ok (.if_icmp .eq 9, 3) := bz_c159 (by decide +kernel)
theorem d_VA_checkMemory_47 : decode b_VA_checkMemory 47 = .ok (.iload_n 1, 1) := bz_c27 (by decide +kernel)
theorem d_VA_checkMemory_48 : decode b_VA_checkMemory 48 = .ok (.bipush 55, 2) := bz_c16 (by decide +kernel)
theorem d_VA_checkMemory_50 : decode b_VA_checkMemory 50 = .ok (.if_icmp .ne 8, 3) := bz_c160 (by decide +kernel)
theorem d_VA_checkMemory_53 : decode b_VA_checkMemory 53 = .ok (.bipush 126, 2) := bz_c16 (by decide +kernel)
theorem d_VA_checkMemory_55 : decode b_VA_checkMemory 55 = .ok (.goto 5, 3) := bz_c167 (by decide +kernel)
theorem d_VA_checkMemory_58 : decode b_VA_checkMemory 58 = .ok (.bipush 127, 2) := bz_c16 (by decide +kernel)
theorem d_VA_checkMemory_60 : decode b_VA_checkMemory 60 = .ok (.istore_n 3, 1) := bz_c62 (by decide +kernel)
theorem d_VA_checkMemory_61 : decode b_VA_checkMemory 61 = .ok (.iload_n 1, 1) := bz_c27 (by decide +kernel)
theorem d_VA_checkMemory_62 : decode b_VA_checkMemory 62 = .ok (.invokestatic 206, 3) := bz_c184 (by decide +kernel)
theorem d_VA_checkMemory_65 : decode b_VA_checkMemory 65 = .ok (.ifCond .eq 15, 3) := bz_c153 (by decide +kernel)
theorem d_VA_checkMemory_68 : decode b_VA_checkMemory 68 = .ok (.aload_n 0, 1) := bz_c42 (by decide +kernel)
theorem d_VA_checkMemory_69 : decode b_VA_checkMemory 69 = .ok (.iload_n 3, 1) := bz_c29 (by decide +kernel)
theorem d_VA_checkMemory_70 : decode b_VA_checkMemory 70 = .ok (.invokevirtual 161, 3) := bz_c182 (by decide +kernel)
theorem d_VA_checkMemory_73 : decode b_VA_checkMemory 73 = .ok (.aload_n 0, 1) := bz_c42 (by decide +kernel)
theorem d_VA_checkMemory_74 : decode b_VA_checkMemory 74 = .ok (.bipush 127, 2) := bz_c16 (by decide +kernel)
theorem d_VA_checkMemory_76 : decode b_VA_checkMemory 76 = .ok (.invokevirtual 161, 3) := bz_c182 (by decide +kernel)
theorem d_VA_checkMemory_79 : decode b_VA_checkMemory 79 = .ok (.return_, 1) := bz_c177 (by decide +kernel)
theorem d_VA_checkMemory_80 : decode b_VA_checkMemory 80 = .ok (.iload_n 1, 1) := bz_c27 (by decide +kernel)
theorem d_VA_checkMemory_81 : decode b_VA_checkMemory 81 = .ok (.bipush 63, 2) := bz_c16 (by decide +kernel)
theorem d_VA_checkMemory_83 : decode b_VA_checkMemory 83 = .ok (.if_icmp .eq 9, 3) := bz_c159 (by decide +kernel)
theorem d_VA_checkMemory_86 : decode b_VA_checkMemory 86 = .ok (.aload_n 0, 1) := bz_c42 (by decide +kernel)
theorem d_VA_checkMemory_87 : decode b_VA_checkMemory 87 = .ok (.bipush 127, 2) := bz_c16 (by decide +kernel)
theorem d_VA_checkMemory_89 : decode b_VA_checkMemory 89 = .ok (.invokevirtual 161, 3) := bz_c182 (by decide +kernel)
theorem d_VA_checkMemory_92 : decode b_VA_checkMemory 92 = .ok (.aload_n 0, 1) := bz_c42 (by decide +kernel)
theorem d_VA_checkMemory_93 : decode b_VA_checkMemory 93 = .ok (.iload_n 3, 1) := bz_c29 (by decide +kernel)
theorem d_VA_checkMemory_94 : decode b_VA_checkMemory 94 = .ok (.invokevirtual 167, 3) := bz_c182 (by decide +kernel)
theorem d_VA_checkMemory_97 : decode b_VA_checkMemory 97 = .ok (.return_, 1) := bz_c177 (by decide +kernel)
theorem kM_VA_199 : Cond.methodLink R_VA 199 y_CD_isAccess ∈ lw_g := in_c7 37 rfl rfl
theorem kM_VA_203 : Cond.methodLink R_VA 203 y_CD_greatestAlignment ∈ lw_g := in_c7 38 rfl rfl
theorem kT_CD_greatestAlignment : Cond.static y_CD_greatestAlignment ∈ lw_g := in_c5 219 rfl rfl
theorem kM_VA_206 : Cond.methodLink R_VA 206 y_CD_isStore ∈ lw_g := in_c7 39 rfl rfl
theorem kF_VA_28 : Cond.fieldLink R_VA 28 "WaferForge$Validator" "wafer" "LWaferForge$Wafer;" ∈ lw_g := in_c3 17 rfl rfl
theorem kF_VA_89 : Cond.fieldLink R_VA 89 "WaferForge$Wafer" "hasMemory" "Z" ∈ lw_g := in_c1 166 rfl rfl
abbrev at_VA_checkMemory (dC : Nat → ClassId) (dI : Nat → Nat → Nat) (h0 aw ac ty bo bg bh bd : Nat) (cty cbh cbd : ClassId) (h0_function : Int32) (h0_depth : Int32) (law : List Value) (aw_hasMemory : Int32) (gbh : Nat → Int32) (gbd : Nat → Int32) (A : Nat → Prop) (u : (Nat → Int32) × Int32 × Int32) (t : State) : Prop := match u with | (gty, h0_height, h0_sound) => va_P (dC, dI) cls (wz_72 h0 aw ac h0_sound h0_function ty h0_height bo bg bh bd h0_depth aw law ty cty gty bh cbh gbh bd cbd gbd) t.heap ∧ va_K (dC, dI) cls [(cty, .int), (cbh, .int), (cbd, .boolean)] t ∧ va_D A (wz_72 h0 aw ac h0_sound h0_function ty h0_height bo bg bh bd h0_depth aw law ty cty gty bh cbh gbh bd cbd gbd)
set_option maxHeartbeats 4000000 in
set_option maxRecDepth 100000 in
theorem c_VA_checkMemory (l : Launch) (dC : Nat → ClassId) (dI : Nat → Nat → Nat) (sz : Nat) (h0 aw ac ty bo bg bh bd : Nat) (cty cbh cbd : ClassId) (h0_sound : Int32) (h0_function : Int32) (h0_height : Int32) (h0_depth : Int32) (law : List Value) (aw_hasMemory : Int32) (gty : Nat → Int32) (gbh : Nat → Int32) (gbd : Nat → Int32) (paw_8 : law[8]? = some (.int aw_hasMemory)) (plaw : law.length = 21) (b_h0_sound : h0_sound = 0 ∨ h0_sound = 1) (b_h0_height : 0 ≤ h0_height.toInt ∧ h0_height.toInt ≤ 5000) (b_h0_depth : 0 ≤ h0_depth.toInt ∧ h0_depth.toInt ≤ 101) (b_gty : ∀ j : Nat, (gty j).toInt ≠ 64) (b_gbh : ∀ j : Nat, 0 ≤ (gbh j).toInt ∧ (gbh j).toInt ≤ 5000) (b_aw_hasMemory : aw_hasMemory = 0 ∨ aw_hasMemory = 1) (p0 : Int32) (p1 : Int32)  (hd1 : 1 ≤ h0_depth.toInt) (hbh : (gbh (h0_depth.toInt - 1).toNat).toInt ≤ h0_height.toInt) (hh5 : h0_height.toInt < 5000) : Met l y_VA_checkMemory w_VA_checkMemory ({ frames := 2, cells := 0, slots := 0, locals := 42 }) (va_Pc [.ref h0, .int p0, .int p1] (fun U => U.heap.size = sz ∧ va_P (dC, dI) cls (wz_72 h0 aw ac h0_sound h0_function ty h0_height bo bg bh bd h0_depth aw law ty cty gty bh cbh gbh bd cbd gbd) U.heap ∧ va_K (dC, dI) cls [(cty, .int), (cbh, .int), (cbd, .boolean)] U ∧ va_D (fun _ => True) (wz_72 h0 aw ac h0_sound h0_function ty h0_height bo bg bh bd h0_depth aw law ty cty gty bh cbh gbh bd cbd gbd))) (va_Qv (fun (u : (Nat → Int32) × Int32 × Int32) => match u with | (gty2, h0_height2, h0_sound2) => (∀ j : Nat, (gty2 j).toInt ≠ 64) ∧ (0 ≤ h0_height2.toInt ∧ h0_height2.toInt ≤ 5000) ∧ (h0_sound2 = 0 ∨ h0_sound2 = 1) ∧ (((gbh (h0_depth.toInt - 1).toNat).toInt ≤ h0_height2.toInt ∧ h0_height2.toInt ≤ h0_height.toInt + 1) ∧ (h0_sound2.toInt = 1 → h0_sound.toInt = 1 ∧ ((gbd (h0_depth.toInt - 1).toNat).toInt = 0 → (p0.toInt = 63 → (gbh (h0_depth.toInt - 1).toNat).toInt + 0 ≤ h0_height.toInt ∧ h0_height2.toInt = h0_height.toInt - 0 + 1) ∧ (p0.toInt ≠ 63 → (p0.toInt = 54 ∨ p0.toInt = 55 ∨ p0.toInt = 58) → (gbh (h0_depth.toInt - 1).toNat).toInt + 2 ≤ h0_height.toInt ∧ h0_height2.toInt = h0_height.toInt - 2 + 0) ∧ (p0.toInt ≠ 63 → ¬ (p0.toInt = 54 ∨ p0.toInt = 55 ∨ p0.toInt = 58) → (gbh (h0_depth.toInt - 1).toNat).toInt + 1 ≤ h0_height.toInt ∧ h0_height2.toInt = h0_height.toInt - 1 + 1))))) (at_VA_checkMemory dC dI h0 aw ac ty bo bg bh bd cty cbh cbd h0_function h0_depth law aw_hasMemory gbh gbd (va_A (wz_72 h0 aw ac h0_sound h0_function ty h0_height bo bg bh bd h0_depth aw law ty cty gty bh cbh gbh bd cbd gbd) sz)) (va_A (wz_72 h0 aw ac h0_sound h0_function ty h0_height bo bg bh bd h0_depth aw law ty cty gty bh cbh gbh bd cbd gbd) sz)) 0 0 (va_A (wz_72 h0 aw ac h0_sound h0_function ty h0_height bo bg bh bd h0_depth aw law ty cty gty bh cbh gbh bd cbd gbd) sz) := by
  refine Met.ofW (cc := b_VA_checkMemory) (maxL := 4) (ret := none) (by decide) rfl ?_
  intro p e s m args below meth c s₁ B hml hv
  obtain ⟨rfl, hsz, hP, hK, hD0⟩ := hv
  have hx := B.exec
  have hb := B.bytes
  have hr := B.returns
  have hts0 := atoms_spec (ws := w_VA_checkMemory) B.pre
  have hts : ∀ w ∈ lw_g, w.before _ s = true := fun w h => hts0 w (List.mem_cons_of_mem _ h)
  have hown : s.vm.findClass R_VA = some m.cls := findClass_of_methodNamed B.named
  have hlocks := B.notSynchronized
  clear hts0
  subst hsz
  have hD := hD0.self (sz := s.heap.size)
  generalize hAe : va_A (wz_72 h0 aw ac h0_sound h0_function ty h0_height bo bg bh bd h0_depth aw law ty cty gty bh cbh gbh bd cbd gbd) s.heap.size = A at hD ⊢
  have hA : ∀ q : Nat, s.heap.size ≤ q → A q := fun q h => by rw [← hAe]; exact Or.inr h
  clear hAe
  have hP : va_P (dC, dI) cls (wz_72 h0 aw ac h0_sound h0_function ty h0_height bo bg bh bd h0_depth aw law ty cty gty bh cbh gbh bd cbd gbd) s.heap := hP
  have hl := lv_entry ([.ref h0, .int p0, .int p1]) (n := 4) (Nat.le_of_ble_eq_true rfl)
  rw [lg_entry_eq]
  generalize (lg_sl ([.ref h0, .int p0, .int p1]) ++ List.replicate (4 - (lg_sl ([.ref h0, .int p0, .int p1])).length) Slot.unset).toArray = ls at hl ⊢
  have hl : lv_has ls 4 [(0, .ref h0), (1, .int p0), (2, .int p1)] := hl
  have k0 : (0 : Int32).toInt = 0 := by decide
  refine w_gen (A := A) hP (fun H locs hP hS => ?_)
  have k1 : (1 : Int32).toInt = 1 := by decide
  have k41 : (41 : Int32).toInt = 41 := by decide
  have k55 : (55 : Int32).toInt = 55 := by decide
  have k63 : (63 : Int32).toInt = 63 := by decide
  have k126 : (126 : Int32).toInt = 126 := by decide
  have k127 : (127 : Int32).toInt = 127 := by decide
  have lo_p0 := i32_lo p0
  have hi_p0 := i32_hi p0
  have lo_p1 := i32_lo p1
  have hi_p1 := i32_hi p1
  have th0_sound := b01 b_h0_sound
  have taw_hasMemory := b01 b_aw_hasMemory
  refine lv_aload_n hx hb d_VA_checkMemory_0 rfl (lv_at hl 0 rfl) ?_
  refine lv_aload_n hx hb d_VA_checkMemory_1 rfl (lv_at hl 0 rfl) ?_
  refine va_get (D := (dC, dI)) (ci := 9) (v := .int h0_sound) (C := R_VA) (T := F_VA) (N := 11) hx hb hts i_VA hown hK hP 0 rfl rfl 2 (by decide) (hts _ kF_VA_39) (fun _ h9 => h9) rfl d_VA_checkMemory_2 ?_
  refine w_cut (pc2 := 38) (σ := Int32) (fun u H locs ls => match u with | j38_s0 => (j38_s0 = 0 ∨ j38_s0 = 1) ∧ (j38_s0.toInt = 1 → h0_sound.toInt = 1) ∧ va_P (dC, dI) cls (wz_72 h0 aw ac h0_sound h0_function ty h0_height bo bg bh bd h0_depth aw law ty cty gty bh cbh gbh bd cbd gbd) H ∧ va_D A (wz_72 h0 aw ac h0_sound h0_function ty h0_height bo bg bh bd h0_depth aw law ty cty gty bh cbh gbh bd cbd gbd) ∧ va_S A s.heap H locs ∧ lv_has ls 4 [(0, .ref h0), (1, .int p0)]) (fun u => match u with | j38_s0 => [.int j38_s0, .ref h0]) ?_ (fun jn38 => ?_)
  · intro u H locs ls hI
    obtain ⟨j38_s0, rfl⟩ : ∃ z, z = u := ⟨_, rfl⟩
    obtain ⟨b_j38_s0, x0, hP, hD, hS, hl⟩ := hI
    have tj38_s0 := b01 b_j38_s0
    refine va_put (D := (dC, dI)) (ci := 9) (v := .int j38_s0) (ty := .boolean) (C := R_VA) (T := F_VA) (N := 11) hx hb hts i_VA t_VA t_VA_ok n_VA hown hK hP hD hS 0 rfl rfl 2 (by decide) (hts _ kF_VA_39) (fun _ h9 => h9) rfl (by decide +kernel) (zn01 (b_j38_s0)) (fz01 (b_j38_s0)) (Nat.le_of_ble_eq_true rfl) d_VA_checkMemory_38 (fun H locs hP hD hS => ?_)
    refine lv_iload_n hx hb d_VA_checkMemory_41 rfl (lv_at hl 1 rfl) ?_
    refine lv_bipush (v := 41) hx hb d_VA_checkMemory_42 (by decide) ?_
    refine w_cut (pc2 := 60) (σ := Int32) (fun u H locs ls => match u with | j60_s0 => (126 ≤ j60_s0.toInt ∧ j60_s0.toInt ≤ 127) ∧ va_P (dC, dI) cls (wz_72 h0 aw ac j38_s0 h0_function ty h0_height bo bg bh bd h0_depth aw law ty cty gty bh cbh gbh bd cbd gbd) H ∧ va_D A (wz_72 h0 aw ac j38_s0 h0_function ty h0_height bo bg bh bd h0_depth aw law ty cty gty bh cbh gbh bd cbd gbd) ∧ va_S A s.heap H locs ∧ lv_has ls 4 [(0, .ref h0), (1, .int p0)]) (fun u => match u with | j60_s0 => [.int j60_s0]) ?_ (fun jn60 => ?_)
    · intro u H locs ls hI
      obtain ⟨j60_s0, rfl⟩ : ∃ z, z = u := ⟨_, rfl⟩
      obtain ⟨b_j60_s0, hP, hD, hS, hl⟩ := hI
      refine lv_istore_n (lv' := [(3, .int j60_s0), (0, .ref h0), (1, .int p0)]) hx hb d_VA_checkMemory_60 rfl hl (by decide) rfl (fun ls hl => ?_)
      refine lv_iload_n hx hb d_VA_checkMemory_61 rfl (lv_at hl 2 rfl) ?_
      have hPc := hP.sb (wq := []) [] rfl
      have hDc := hD.sb (wq := []) [] (by decide) rfl
      have hKc := hK.sb (tyq := []) [] rfl
      have hFc := va_free (wc := []) hD hS hA [] rfl
      refine va_calli (va_runS (As := [.int p0]) (rest := []) ⟨hx, hb, hml, hown, hts⟩ (c_CD_isStore l dC dI H.size p0) ⟨callB_of 1 hts (gW kC_CD_isStore) rfl rfl rfl (hts _ kI_CD) (hts _ kM_VA_206) (by decide +kernel) ⟨Nat.le_of_ble_eq_true rfl, Nat.le_of_ble_eq_true rfl⟩, hts _ kT_CD_isStore⟩ ⟨fun a U g mk z => by obtain ⟨z0, z1, zP, zK, zD⟩ := z; exact ⟨z0, z1, zP, va_K.moved (u := U) (U := U.calling g mk a) (Vm.Alike.refl U.vm) zK, zD⟩, fun U hU hW => ⟨rfl, by rw [hU], va_P.he hU.symm hPc, va_K.moved hW.alike hKc, hDc.weaken (fun _ _ _ _ => trivial)⟩⟩ rfl rfl hl.1 rfl (lv_room (Nat.le_of_ble_eq_true rfl)) d_VA_checkMemory_62 ⟨(Nat.zero_le _), (Nat.zero_le _)⟩) hS (fun q _ h => hFc q h) hFc (fun r1 u t H1 locs ht hvm hw hB hz1 hk1 hS => ?_)
      try dsimp only at hw
      have tr1 := hw
      obtain ⟨hP1, hK1, hD1⟩ := hB
      replace hP1 := va_P.he ht hP1
      obtain ⟨hP, hD⟩ := va_join (wr := (wz_72 h0 aw ac j38_s0 h0_function ty h0_height bo bg bh bd h0_depth aw law ty cty gty bh cbh gbh bd cbd gbd)) (w1 := []) hP hD [] [0, 1, 2, 3, 4] rfl rfl (by decide) (by decide) hk1 hFc hP1 hD1
      clear hPc hDc hKc hFc hz1 hk1 hP1 hK1 hD1
      rename Heap => H
      have hP : va_P (dC, dI) cls (wz_72 h0 aw ac j38_s0 h0_function ty h0_height bo bg bh bd h0_depth aw law ty cty gty bh cbh gbh bd cbd gbd) H := hP
      have hD : va_D A (wz_72 h0 aw ac j38_s0 h0_function ty h0_height bo bg bh bd h0_depth aw law ty cty gty bh cbh gbh bd cbd gbd) := hD
      refine lv_if_eq (tgt := 80) hx hb d_VA_checkMemory_65 (by decide) (fun c65 => ?_) (fun c65 => ?_)
      · have q65 := eqI c65
        refine lv_iload_n hx hb d_VA_checkMemory_80 rfl (lv_at hl 2 rfl) ?_
        refine lv_bipush (v := 63) hx hb d_VA_checkMemory_81 (by decide) ?_
        refine lv_icmp_eq (tgt := 92) hx hb d_VA_checkMemory_83 (by decide) (fun c83 => ?_) (fun c83 => ?_)
        · have q83 := eqI c83
          refine lv_aload_n hx hb d_VA_checkMemory_92 rfl (lv_at hl 1 rfl) ?_
          refine lv_iload_n hx hb d_VA_checkMemory_93 rfl (lv_at hl 0 rfl) ?_
          have hPc := hP.sb (wq := (wz_66 h0 aw ac j38_s0 h0_function ty h0_height bo bg bh bd h0_depth ty cty gty)) [0, 2] rfl
          have hDc := hD.sb (wq := (wz_66 h0 aw ac j38_s0 h0_function ty h0_height bo bg bh bd h0_depth ty cty gty)) [0, 2] (by decide) rfl
          have hKc := hK.sb (tyq := [(cty, .int)]) [0] rfl
          have hFc := va_free (wc := (wz_66 h0 aw ac j38_s0 h0_function ty h0_height bo bg bh bd h0_depth ty cty gty)) hD hS hA [0, 2] rfl
          refine va_callv (va_runV (As := [.int j60_s0]) (rest := []) ⟨hx, hb, hml, hown, hts⟩ (c_VA_push l dC dI H.size h0 aw ac ty bo bg bh bd cty j38_s0 h0_function h0_height h0_depth gty (b_h0_height) (b_gty) j60_s0 (by (try dsimp only) <;> (first | (apply Int.le_antisymm <;> omega) | omega))) (cwV 1 hts (gV kM_VA_167 kV_VA_push kS_VA_push kI_VA kC_VA_push) rfl rfl rfl (by decide +kernel) ⟨Nat.le_of_ble_eq_true rfl, Nat.le_of_ble_eq_true rfl⟩) ⟨fun a U g mk z => by obtain ⟨z0, z1, zP, zK, zD⟩ := z; exact ⟨z0, z1, zP, va_K.moved (u := U) (U := U.calling g mk a) (Vm.Alike.refl U.vm) zK, zD⟩, va_recv hKc hPc (ci := 9) (q0 := 0) rfl rfl, fun U hU hW => ⟨rfl, by rw [hU], va_P.he hU.symm hPc, va_K.moved hW.alike hKc, hDc.weaken (fun _ _ _ _ => trivial)⟩⟩ rfl rfl hl.1 rfl (lv_room (Nat.le_of_ble_eq_true rfl)) d_VA_checkMemory_94 ⟨(Nat.zero_le _), (Nat.zero_le _)⟩) hS (fun q _ h => hFc q h) hFc (fun u t H1 locs ht hvm hw hB hz1 hk1 hS => ?_)
          obtain ⟨n3, n4⟩ := u
          try dsimp only at hw
          obtain ⟨bn3, bn4, xr2⟩ := hw
          try clear hw
          obtain ⟨hP1, hK1, hD1⟩ := hB
          replace hP1 := va_P.he ht hP1
          obtain ⟨hP, hD⟩ := va_join (wr := [(aw, .inr (10, law)), (bh, .inl (cbh, 101, .inl gbh)), (bd, .inl (cbd, 101, .inl gbd))]) (w1 := (wz_66 h0 aw ac j38_s0 h0_function ty n4 bo bg bh bd h0_depth ty cty n3)) hP hD [0, 2] [1, 3, 4] rfl rfl (by decide) (by decide) hk1 hFc hP1 hD1
          clear hPc hDc hKc hFc hz1 hk1 hP1 hK1 hD1
          rename Heap => H
          have hP : va_P (dC, dI) cls (wz_73 aw law bh cbh gbh bd cbd gbd h0 aw ac j38_s0 h0_function ty n4 bo bg bh bd h0_depth ty cty n3) H := hP
          have hD : va_D A (wz_73 aw law bh cbh gbh bd cbd gbd h0 aw ac j38_s0 h0_function ty n4 bo bg bh bd h0_depth ty cty n3) := hD
          have hP9 := hP.sb (wq := (wz_72 h0 aw ac j38_s0 h0_function ty n4 bo bg bh bd h0_depth aw law ty cty n3 bh cbh gbh bd cbd gbd)) [3, 0, 4, 1, 2] rfl
          have hD9 := hD.sb (wq := (wz_72 h0 aw ac j38_s0 h0_function ty n4 bo bg bh bd h0_depth aw law ty cty n3 bh cbh gbh bd cbd gbd)) [3, 0, 4, 1, 2] (by decide) rfl
          exact W.vret hx hb hr (fun t ht hW => ⟨⟨(n3, n4, j38_s0), rfl, ⟨bn3, bn4, b_j38_s0, by (try dsimp only) <;> (first | (apply Int.le_antisymm <;> omega) | omega)⟩, va_P.he ht.symm hP9, va_K.moved hW.alike hK, hD9⟩, hS.F ht⟩) hS.2.2 d_VA_checkMemory_97
        · have q83 := neI c83
          refine lv_aload_n hx hb d_VA_checkMemory_86 rfl (lv_at hl 1 rfl) ?_
          refine lv_bipush (v := 127) hx hb d_VA_checkMemory_87 (by decide) ?_
          have hPc := hP.sb (wq := (wz_65 h0 aw ac j38_s0 h0_function ty h0_height bo bg bh bd h0_depth ty cty gty bh cbh gbh bd cbd gbd)) [0, 2, 3, 4] rfl
          have hDc := hD.sb (wq := (wz_65 h0 aw ac j38_s0 h0_function ty h0_height bo bg bh bd h0_depth ty cty gty bh cbh gbh bd cbd gbd)) [0, 2, 3, 4] (by decide) rfl
          have hKc := hK.sb (tyq := [(cty, .int), (cbh, .int), (cbd, .boolean)]) [0, 1, 2] rfl
          have hFc := va_free (wc := (wz_65 h0 aw ac j38_s0 h0_function ty h0_height bo bg bh bd h0_depth ty cty gty bh cbh gbh bd cbd gbd)) hD hS hA [0, 2, 3, 4] rfl
          refine va_callv (va_runV (As := [.int 127]) (rest := []) ⟨hx, hb, hml, hown, hts⟩ (c_VA_pop l dC dI H.size h0 aw ac ty bo bg bh bd cty cbh cbd j38_s0 h0_function h0_height h0_depth gty gbh gbd (b_j38_s0) (b_h0_height) (b_h0_depth) (b_gty) (b_gbh) 127 (by (try dsimp only) <;> (first | (apply Int.le_antisymm <;> omega) | omega)) (by (try dsimp only) <;> (first | (apply Int.le_antisymm <;> omega) | omega))) (cwV 1 hts (gV kM_VA_161 kV_VA_pop kS_VA_pop kI_VA kC_VA_pop) rfl rfl rfl (by decide +kernel) ⟨Nat.le_of_ble_eq_true rfl, Nat.le_of_ble_eq_true rfl⟩) ⟨fun a U g mk z => by obtain ⟨z0, z1, zP, zK, zD⟩ := z; exact ⟨z0, z1, zP, va_K.moved (u := U) (U := U.calling g mk a) (Vm.Alike.refl U.vm) zK, zD⟩, va_recv hKc hPc (ci := 9) (q0 := 0) rfl rfl, fun U hU hW => ⟨rfl, by rw [hU], va_P.he hU.symm hPc, va_K.moved hW.alike hKc, hDc.weaken (fun _ _ _ _ => trivial)⟩⟩ rfl rfl hl.1 rfl (lv_room (Nat.le_of_ble_eq_true rfl)) d_VA_checkMemory_89 ⟨(Nat.zero_le _), (Nat.zero_le _)⟩) hS (fun q _ h => hFc q h) hFc (fun u t H1 locs ht hvm hw hB hz1 hk1 hS => ?_)
          obtain ⟨n6, n7⟩ := u
          try dsimp only at hw
          obtain ⟨bn6, bn7, xr5⟩ := hw
          try clear hw
          have tn7 := b01 bn7
          obtain ⟨hP1, hK1, hD1⟩ := hB
          replace hP1 := va_P.he ht hP1
          obtain ⟨hP, hD⟩ := va_join (wr := [(aw, .inr (10, law))]) (w1 := (wz_65 h0 aw ac n7 h0_function ty n6 bo bg bh bd h0_depth ty cty gty bh cbh gbh bd cbd gbd)) hP hD [0, 2, 3, 4] [1] rfl rfl (by decide) (by decide) hk1 hFc hP1 hD1
          clear hPc hDc hKc hFc hz1 hk1 hP1 hK1 hD1
          rename Heap => H
          have hP : va_P (dC, dI) cls (wz_74 aw law h0 aw ac n7 h0_function ty n6 bo bg bh bd h0_depth ty cty gty bh cbh gbh bd cbd gbd) H := hP
          have hD : va_D A (wz_74 aw law h0 aw ac n7 h0_function ty n6 bo bg bh bd h0_depth ty cty gty bh cbh gbh bd cbd gbd) := hD
          refine lv_aload_n hx hb d_VA_checkMemory_92 rfl (lv_at hl 1 rfl) ?_
          refine lv_iload_n hx hb d_VA_checkMemory_93 rfl (lv_at hl 0 rfl) ?_
          have hPc := hP.sb (wq := (wz_66 h0 aw ac n7 h0_function ty n6 bo bg bh bd h0_depth ty cty gty)) [1, 2] rfl
          have hDc := hD.sb (wq := (wz_66 h0 aw ac n7 h0_function ty n6 bo bg bh bd h0_depth ty cty gty)) [1, 2] (by decide) rfl
          have hKc := hK.sb (tyq := [(cty, .int)]) [0] rfl
          have hFc := va_free (wc := (wz_66 h0 aw ac n7 h0_function ty n6 bo bg bh bd h0_depth ty cty gty)) hD hS hA [1, 2] rfl
          refine va_callv (va_runV (As := [.int j60_s0]) (rest := []) ⟨hx, hb, hml, hown, hts⟩ (c_VA_push l dC dI H.size h0 aw ac ty bo bg bh bd cty n7 h0_function n6 h0_depth gty (bn6) (b_gty) j60_s0 (by (try dsimp only) <;> (first | (apply Int.le_antisymm <;> omega) | omega))) (cwV 1 hts (gV kM_VA_167 kV_VA_push kS_VA_push kI_VA kC_VA_push) rfl rfl rfl (by decide +kernel) ⟨Nat.le_of_ble_eq_true rfl, Nat.le_of_ble_eq_true rfl⟩) ⟨fun a U g mk z => by obtain ⟨z0, z1, zP, zK, zD⟩ := z; exact ⟨z0, z1, zP, va_K.moved (u := U) (U := U.calling g mk a) (Vm.Alike.refl U.vm) zK, zD⟩, va_recv hKc hPc (ci := 9) (q0 := 0) rfl rfl, fun U hU hW => ⟨rfl, by rw [hU], va_P.he hU.symm hPc, va_K.moved hW.alike hKc, hDc.weaken (fun _ _ _ _ => trivial)⟩⟩ rfl rfl hl.1 rfl (lv_room (Nat.le_of_ble_eq_true rfl)) d_VA_checkMemory_94 ⟨(Nat.zero_le _), (Nat.zero_le _)⟩) hS (fun q _ h => hFc q h) hFc (fun u t H1 locs ht hvm hw hB hz1 hk1 hS => ?_)
          obtain ⟨n9, n10⟩ := u
          try dsimp only at hw
          obtain ⟨bn9, bn10, xr8⟩ := hw
          try clear hw
          obtain ⟨hP1, hK1, hD1⟩ := hB
          replace hP1 := va_P.he ht hP1
          obtain ⟨hP, hD⟩ := va_join (wr := [(aw, .inr (10, law)), (bh, .inl (cbh, 101, .inl gbh)), (bd, .inl (cbd, 101, .inl gbd))]) (w1 := (wz_66 h0 aw ac n7 h0_function ty n10 bo bg bh bd h0_depth ty cty n9)) hP hD [1, 2] [0, 3, 4] rfl rfl (by decide) (by decide) hk1 hFc hP1 hD1
          clear hPc hDc hKc hFc hz1 hk1 hP1 hK1 hD1
          rename Heap => H
          have hP : va_P (dC, dI) cls (wz_73 aw law bh cbh gbh bd cbd gbd h0 aw ac n7 h0_function ty n10 bo bg bh bd h0_depth ty cty n9) H := hP
          have hD : va_D A (wz_73 aw law bh cbh gbh bd cbd gbd h0 aw ac n7 h0_function ty n10 bo bg bh bd h0_depth ty cty n9) := hD
          have hP9 := hP.sb (wq := (wz_72 h0 aw ac n7 h0_function ty n10 bo bg bh bd h0_depth aw law ty cty n9 bh cbh gbh bd cbd gbd)) [3, 0, 4, 1, 2] rfl
          have hD9 := hD.sb (wq := (wz_72 h0 aw ac n7 h0_function ty n10 bo bg bh bd h0_depth aw law ty cty n9 bh cbh gbh bd cbd gbd)) [3, 0, 4, 1, 2] (by decide) rfl
          exact W.vret hx hb hr (fun t ht hW => ⟨⟨(n9, n10, n7), rfl, ⟨bn9, bn10, bn7, by (try dsimp only) <;> (first | (apply Int.le_antisymm <;> omega) | omega)⟩, va_P.he ht.symm hP9, va_K.moved hW.alike hK, hD9⟩, hS.F ht⟩) hS.2.2 d_VA_checkMemory_97
      · have q65 := neI c65
        refine lv_aload_n hx hb d_VA_checkMemory_68 rfl (lv_at hl 1 rfl) ?_
        refine lv_iload_n hx hb d_VA_checkMemory_69 rfl (lv_at hl 0 rfl) ?_
        have hPc := hP.sb (wq := (wz_65 h0 aw ac j38_s0 h0_function ty h0_height bo bg bh bd h0_depth ty cty gty bh cbh gbh bd cbd gbd)) [0, 2, 3, 4] rfl
        have hDc := hD.sb (wq := (wz_65 h0 aw ac j38_s0 h0_function ty h0_height bo bg bh bd h0_depth ty cty gty bh cbh gbh bd cbd gbd)) [0, 2, 3, 4] (by decide) rfl
        have hKc := hK.sb (tyq := [(cty, .int), (cbh, .int), (cbd, .boolean)]) [0, 1, 2] rfl
        have hFc := va_free (wc := (wz_65 h0 aw ac j38_s0 h0_function ty h0_height bo bg bh bd h0_depth ty cty gty bh cbh gbh bd cbd gbd)) hD hS hA [0, 2, 3, 4] rfl
        refine va_callv (va_runV (As := [.int j60_s0]) (rest := []) ⟨hx, hb, hml, hown, hts⟩ (c_VA_pop l dC dI H.size h0 aw ac ty bo bg bh bd cty cbh cbd j38_s0 h0_function h0_height h0_depth gty gbh gbd (b_j38_s0) (b_h0_height) (b_h0_depth) (b_gty) (b_gbh) j60_s0 (by (try dsimp only) <;> (first | (apply Int.le_antisymm <;> omega) | omega)) (by (try dsimp only) <;> (first | (apply Int.le_antisymm <;> omega) | omega))) (cwV 1 hts (gV kM_VA_161 kV_VA_pop kS_VA_pop kI_VA kC_VA_pop) rfl rfl rfl (by decide +kernel) ⟨Nat.le_of_ble_eq_true rfl, Nat.le_of_ble_eq_true rfl⟩) ⟨fun a U g mk z => by obtain ⟨z0, z1, zP, zK, zD⟩ := z; exact ⟨z0, z1, zP, va_K.moved (u := U) (U := U.calling g mk a) (Vm.Alike.refl U.vm) zK, zD⟩, va_recv hKc hPc (ci := 9) (q0 := 0) rfl rfl, fun U hU hW => ⟨rfl, by rw [hU], va_P.he hU.symm hPc, va_K.moved hW.alike hKc, hDc.weaken (fun _ _ _ _ => trivial)⟩⟩ rfl rfl hl.1 rfl (lv_room (Nat.le_of_ble_eq_true rfl)) d_VA_checkMemory_70 ⟨(Nat.zero_le _), (Nat.zero_le _)⟩) hS (fun q _ h => hFc q h) hFc (fun u t H1 locs ht hvm hw hB hz1 hk1 hS => ?_)
        obtain ⟨n12, n13⟩ := u
        try dsimp only at hw
        obtain ⟨bn12, bn13, xr11⟩ := hw
        try clear hw
        have tn13 := b01 bn13
        obtain ⟨hP1, hK1, hD1⟩ := hB
        replace hP1 := va_P.he ht hP1
        obtain ⟨hP, hD⟩ := va_join (wr := [(aw, .inr (10, law))]) (w1 := (wz_65 h0 aw ac n13 h0_function ty n12 bo bg bh bd h0_depth ty cty gty bh cbh gbh bd cbd gbd)) hP hD [0, 2, 3, 4] [1] rfl rfl (by decide) (by decide) hk1 hFc hP1 hD1
        clear hPc hDc hKc hFc hz1 hk1 hP1 hK1 hD1
        rename Heap => H
        have hP : va_P (dC, dI) cls (wz_74 aw law h0 aw ac n13 h0_function ty n12 bo bg bh bd h0_depth ty cty gty bh cbh gbh bd cbd gbd) H := hP
        have hD : va_D A (wz_74 aw law h0 aw ac n13 h0_function ty n12 bo bg bh bd h0_depth ty cty gty bh cbh gbh bd cbd gbd) := hD
        refine lv_aload_n hx hb d_VA_checkMemory_73 rfl (lv_at hl 1 rfl) ?_
        refine lv_bipush (v := 127) hx hb d_VA_checkMemory_74 (by decide) ?_
        have hPc := hP.sb (wq := (wz_65 h0 aw ac n13 h0_function ty n12 bo bg bh bd h0_depth ty cty gty bh cbh gbh bd cbd gbd)) [1, 2, 3, 4] rfl
        have hDc := hD.sb (wq := (wz_65 h0 aw ac n13 h0_function ty n12 bo bg bh bd h0_depth ty cty gty bh cbh gbh bd cbd gbd)) [1, 2, 3, 4] (by decide) rfl
        have hKc := hK.sb (tyq := [(cty, .int), (cbh, .int), (cbd, .boolean)]) [0, 1, 2] rfl
        have hFc := va_free (wc := (wz_65 h0 aw ac n13 h0_function ty n12 bo bg bh bd h0_depth ty cty gty bh cbh gbh bd cbd gbd)) hD hS hA [1, 2, 3, 4] rfl
        refine va_callv (va_runV (As := [.int 127]) (rest := []) ⟨hx, hb, hml, hown, hts⟩ (c_VA_pop l dC dI H.size h0 aw ac ty bo bg bh bd cty cbh cbd n13 h0_function n12 h0_depth gty gbh gbd (bn13) (bn12) (b_h0_depth) (b_gty) (b_gbh) 127 (by (try dsimp only) <;> (first | (apply Int.le_antisymm <;> omega) | omega)) (by (try dsimp only) <;> (first | (apply Int.le_antisymm <;> omega) | omega))) (cwV 1 hts (gV kM_VA_161 kV_VA_pop kS_VA_pop kI_VA kC_VA_pop) rfl rfl rfl (by decide +kernel) ⟨Nat.le_of_ble_eq_true rfl, Nat.le_of_ble_eq_true rfl⟩) ⟨fun a U g mk z => by obtain ⟨z0, z1, zP, zK, zD⟩ := z; exact ⟨z0, z1, zP, va_K.moved (u := U) (U := U.calling g mk a) (Vm.Alike.refl U.vm) zK, zD⟩, va_recv hKc hPc (ci := 9) (q0 := 0) rfl rfl, fun U hU hW => ⟨rfl, by rw [hU], va_P.he hU.symm hPc, va_K.moved hW.alike hKc, hDc.weaken (fun _ _ _ _ => trivial)⟩⟩ rfl rfl hl.1 rfl (lv_room (Nat.le_of_ble_eq_true rfl)) d_VA_checkMemory_76 ⟨(Nat.zero_le _), (Nat.zero_le _)⟩) hS (fun q _ h => hFc q h) hFc (fun u t H1 locs ht hvm hw hB hz1 hk1 hS => ?_)
        obtain ⟨n15, n16⟩ := u
        try dsimp only at hw
        obtain ⟨bn15, bn16, xr14⟩ := hw
        try clear hw
        have tn16 := b01 bn16
        obtain ⟨hP1, hK1, hD1⟩ := hB
        replace hP1 := va_P.he ht hP1
        obtain ⟨hP, hD⟩ := va_join (wr := [(aw, .inr (10, law))]) (w1 := (wz_65 h0 aw ac n16 h0_function ty n15 bo bg bh bd h0_depth ty cty gty bh cbh gbh bd cbd gbd)) hP hD [1, 2, 3, 4] [0] rfl rfl (by decide) (by decide) hk1 hFc hP1 hD1
        clear hPc hDc hKc hFc hz1 hk1 hP1 hK1 hD1
        rename Heap => H
        have hP : va_P (dC, dI) cls (wz_74 aw law h0 aw ac n16 h0_function ty n15 bo bg bh bd h0_depth ty cty gty bh cbh gbh bd cbd gbd) H := hP
        have hD : va_D A (wz_74 aw law h0 aw ac n16 h0_function ty n15 bo bg bh bd h0_depth ty cty gty bh cbh gbh bd cbd gbd) := hD
        have hP9 := hP.sb (wq := (wz_72 h0 aw ac n16 h0_function ty n15 bo bg bh bd h0_depth aw law ty cty gty bh cbh gbh bd cbd gbd)) [1, 0, 2, 3, 4] rfl
        have hD9 := hD.sb (wq := (wz_72 h0 aw ac n16 h0_function ty n15 bo bg bh bd h0_depth aw law ty cty gty bh cbh gbh bd cbd gbd)) [1, 0, 2, 3, 4] (by decide) rfl
        exact W.vret hx hb hr (fun t ht hW => ⟨⟨(gty, n15, n16), rfl, ⟨b_gty, bn15, bn16, by (try dsimp only) <;> (first | (apply Int.le_antisymm <;> omega) | omega)⟩, va_P.he ht.symm hP9, va_K.moved hW.alike hK, hD9⟩, hS.F ht⟩) hS.2.2 d_VA_checkMemory_79
    · skip
      refine w_cut (pc2 := 53) (σ := Unit) (fun u H locs ls => match u with | _ => va_P (dC, dI) cls (wz_72 h0 aw ac j38_s0 h0_function ty h0_height bo bg bh bd h0_depth aw law ty cty gty bh cbh gbh bd cbd gbd) H ∧ va_D A (wz_72 h0 aw ac j38_s0 h0_function ty h0_height bo bg bh bd h0_depth aw law ty cty gty bh cbh gbh bd cbd gbd) ∧ va_S A s.heap H locs ∧ lv_has ls 4 [(0, .ref h0), (1, .int p0)]) (fun u => match u with | _ => []) ?_ (fun jn53 => ?_)
      · intro u H locs ls hI
        obtain ⟨hP, hD, hS, hl⟩ := hI
        refine lv_bipush (v := 126) hx hb d_VA_checkMemory_53 (by decide) ?_
        refine lv_goto (tgt := 60) hx hb d_VA_checkMemory_55 (by decide) ?_
        exact jn60 126 _ _ _ ⟨by (try dsimp only) <;> (first | (apply Int.le_antisymm <;> omega) | omega), hP, hD, hS, lv_sub hl [0, 1] rfl⟩
      · skip
        refine lv_icmp_eq (tgt := 53) hx hb d_VA_checkMemory_44 (by decide) (fun c44 => ?_) (fun c44 => ?_)
        · have q44 := eqI c44
          exact jn53 () _ _ _ ⟨hP, hD, hS, lv_sub hl [0, 1] rfl⟩
        · have q44 := neI c44
          refine lv_iload_n hx hb d_VA_checkMemory_47 rfl (lv_at hl 1 rfl) ?_
          refine lv_bipush (v := 55) hx hb d_VA_checkMemory_48 (by decide) ?_
          refine lv_icmp_ne (tgt := 58) hx hb d_VA_checkMemory_50 (by decide) (fun c50 => ?_) (fun c50 => ?_)
          · have q50 := neI c50
            refine lv_bipush (v := 127) hx hb d_VA_checkMemory_58 (by decide) ?_
            exact jn60 127 _ _ _ ⟨by (try dsimp only) <;> (first | (apply Int.le_antisymm <;> omega) | omega), hP, hD, hS, lv_sub hl [0, 1] rfl⟩
          · have q50 := eqI c50
            exact jn53 () _ _ _ ⟨hP, hD, hS, lv_sub hl [0, 1] rfl⟩
  · skip
    refine w_cut (pc2 := 37) (σ := Unit) (fun u H locs ls => match u with | _ => va_P (dC, dI) cls (wz_72 h0 aw ac h0_sound h0_function ty h0_height bo bg bh bd h0_depth aw law ty cty gty bh cbh gbh bd cbd gbd) H ∧ va_D A (wz_72 h0 aw ac h0_sound h0_function ty h0_height bo bg bh bd h0_depth aw law ty cty gty bh cbh gbh bd cbd gbd) ∧ va_S A s.heap H locs ∧ lv_has ls 4 [(0, .ref h0), (1, .int p0)]) (fun u => match u with | _ => [.ref h0]) ?_ (fun jn37 => ?_)
    · intro u H locs ls hI
      obtain ⟨hP, hD, hS, hl⟩ := hI
      refine lv_iconst (v := 0) hx hb d_VA_checkMemory_37 (by decide) ?_
      exact jn38 0 _ _ _ ⟨Or.inl rfl, by (try dsimp only) <;> (first | (apply Int.le_antisymm <;> omega) | omega), hP, hD, hS, lv_sub hl [0, 1] rfl⟩
    · skip
      refine lv_if_eq (tgt := 37) hx hb d_VA_checkMemory_5 (by decide) (fun c5 => ?_) (fun c5 => ?_)
      · have q5 := eqI c5
        exact jn37 () _ _ _ ⟨hP, hD, hS, lv_sub hl [0, 1] rfl⟩
      · have q5 := neI c5
        refine lv_aload_n hx hb d_VA_checkMemory_8 rfl (lv_at hl 0 rfl) ?_
        refine va_get (D := (dC, dI)) (ci := 9) (v := .ref aw) (C := R_VA) (T := F_VA) (N := 11) hx hb hts i_VA hown hK hP 0 rfl rfl 0 (by decide) (hts _ kF_VA_28) (fun _ h9 => h9) rfl d_VA_checkMemory_9 ?_
        refine va_get (D := (dC, dI)) (ci := 10) (v := .int aw_hasMemory) (C := R_WA) (T := F_WA) (N := 21) hx hb hts i_WA hown hK hP 1 rfl rfl 8 (by decide) (hts _ kF_VA_89) (fun _ h9 => h9) paw_8 d_VA_checkMemory_12 ?_
        refine lv_if_eq (tgt := 37) hx hb d_VA_checkMemory_15 (by decide) (fun c15 => ?_) (fun c15 => ?_)
        · have q15 := eqI c15
          exact jn37 () _ _ _ ⟨hP, hD, hS, lv_sub hl [0, 1] rfl⟩
        · have q15 := neI c15
          refine lv_iload_n hx hb d_VA_checkMemory_18 rfl (lv_at hl 1 rfl) ?_
          have hPc := hP.sb (wq := []) [] rfl
          have hDc := hD.sb (wq := []) [] (by decide) rfl
          have hKc := hK.sb (tyq := []) [] rfl
          have hFc := va_free (wc := []) hD hS hA [] rfl
          refine va_calli (va_runS (As := [.int p0]) (rest := [.ref h0]) ⟨hx, hb, hml, hown, hts⟩ (c_CD_isAccess l dC dI H.size p0) ⟨callB_of 1 hts (gW kC_CD_isAccess) rfl rfl rfl (hts _ kI_CD) (hts _ kM_VA_199) (by decide +kernel) ⟨Nat.le_of_ble_eq_true rfl, Nat.le_of_ble_eq_true rfl⟩, hts _ kT_CD_isAccess⟩ ⟨fun a U g mk z => by obtain ⟨z0, z1, zP, zK, zD⟩ := z; exact ⟨z0, z1, zP, va_K.moved (u := U) (U := U.calling g mk a) (Vm.Alike.refl U.vm) zK, zD⟩, fun U hU hW => ⟨rfl, by rw [hU], va_P.he hU.symm hPc, va_K.moved hW.alike hKc, hDc.weaken (fun _ _ _ _ => trivial)⟩⟩ rfl rfl hl.1 rfl (lv_room (Nat.le_of_ble_eq_true rfl)) d_VA_checkMemory_19 ⟨(Nat.zero_le _), (Nat.zero_le _)⟩) hS (fun q _ h => hFc q h) hFc (fun r17 u t H1 locs ht hvm hw hB hz1 hk1 hS => ?_)
          try dsimp only at hw
          have tr17 := hw
          obtain ⟨hP1, hK1, hD1⟩ := hB
          replace hP1 := va_P.he ht hP1
          obtain ⟨hP, hD⟩ := va_join (wr := (wz_72 h0 aw ac h0_sound h0_function ty h0_height bo bg bh bd h0_depth aw law ty cty gty bh cbh gbh bd cbd gbd)) (w1 := []) hP hD [] [0, 1, 2, 3, 4] rfl rfl (by decide) (by decide) hk1 hFc hP1 hD1
          clear hPc hDc hKc hFc hz1 hk1 hP1 hK1 hD1
          rename Heap => H
          have hP : va_P (dC, dI) cls (wz_72 h0 aw ac h0_sound h0_function ty h0_height bo bg bh bd h0_depth aw law ty cty gty bh cbh gbh bd cbd gbd) H := hP
          have hD : va_D A (wz_72 h0 aw ac h0_sound h0_function ty h0_height bo bg bh bd h0_depth aw law ty cty gty bh cbh gbh bd cbd gbd) := hD
          refine w_cut (pc2 := 33) (σ := Unit) (fun u H locs ls => match u with | _ => va_P (dC, dI) cls (wz_72 h0 aw ac h0_sound h0_function ty h0_height bo bg bh bd h0_depth aw law ty cty gty bh cbh gbh bd cbd gbd) H ∧ va_D A (wz_72 h0 aw ac h0_sound h0_function ty h0_height bo bg bh bd h0_depth aw law ty cty gty bh cbh gbh bd cbd gbd) ∧ va_S A s.heap H locs ∧ lv_has ls 4 [(0, .ref h0), (1, .int p0)]) (fun u => match u with | _ => [.ref h0]) ?_ (fun jn33 => ?_)
          · intro u H locs ls hI
            obtain ⟨hP, hD, hS, hl⟩ := hI
            refine lv_iconst (v := 1) hx hb d_VA_checkMemory_33 (by decide) ?_
            refine lv_goto (tgt := 38) hx hb d_VA_checkMemory_34 (by decide) ?_
            exact jn38 1 _ _ _ ⟨Or.inr rfl, by (try dsimp only) <;> (first | (apply Int.le_antisymm <;> omega) | omega), hP, hD, hS, lv_sub hl [0, 1] rfl⟩
          · skip
            refine lv_if_eq (tgt := 33) hx hb d_VA_checkMemory_22 (by decide) (fun c22 => ?_) (fun c22 => ?_)
            · have q22 := eqI c22
              exact jn33 () _ _ _ ⟨hP, hD, hS, lv_sub hl [0, 1] rfl⟩
            · have q22 := neI c22
              refine lv_iload_n hx hb d_VA_checkMemory_25 rfl (lv_at hl 2 rfl) ?_
              refine lv_iload_n hx hb d_VA_checkMemory_26 rfl (lv_at hl 1 rfl) ?_
              have hPc := hP.sb (wq := []) [] rfl
              have hDc := hD.sb (wq := []) [] (by decide) rfl
              have hKc := hK.sb (tyq := []) [] rfl
              have hFc := va_free (wc := []) hD hS hA [] rfl
              refine va_calli (va_runS (As := [.int p0]) (rest := [.int p1, .ref h0]) ⟨hx, hb, hml, hown, hts⟩ (c_CD_greatestAlignment l dC dI H.size p0) ⟨callB_of 1 hts (gW kC_CD_greatestAlignment) rfl rfl rfl (hts _ kI_CD) (hts _ kM_VA_203) (by decide +kernel) ⟨Nat.le_of_ble_eq_true rfl, Nat.le_of_ble_eq_true rfl⟩, hts _ kT_CD_greatestAlignment⟩ ⟨fun a U g mk z => by obtain ⟨z0, z1, zP, zK, zD⟩ := z; exact ⟨z0, z1, zP, va_K.moved (u := U) (U := U.calling g mk a) (Vm.Alike.refl U.vm) zK, zD⟩, fun U hU hW => ⟨rfl, by rw [hU], va_P.he hU.symm hPc, va_K.moved hW.alike hKc, hDc.weaken (fun _ _ _ _ => trivial)⟩⟩ rfl rfl hl.1 rfl (lv_room (Nat.le_of_ble_eq_true rfl)) d_VA_checkMemory_27 ⟨(Nat.zero_le _), (Nat.zero_le _)⟩) hS (fun q _ h => hFc q h) hFc (fun r18 u t H1 locs ht hvm hw hB hz1 hk1 hS => ?_)
              try dsimp only at hw
              try clear hw
              obtain ⟨hP1, hK1, hD1⟩ := hB
              replace hP1 := va_P.he ht hP1
              obtain ⟨hP, hD⟩ := va_join (wr := (wz_72 h0 aw ac h0_sound h0_function ty h0_height bo bg bh bd h0_depth aw law ty cty gty bh cbh gbh bd cbd gbd)) (w1 := []) hP hD [] [0, 1, 2, 3, 4] rfl rfl (by decide) (by decide) hk1 hFc hP1 hD1
              clear hPc hDc hKc hFc hz1 hk1 hP1 hK1 hD1
              rename Heap => H
              have hP : va_P (dC, dI) cls (wz_72 h0 aw ac h0_sound h0_function ty h0_height bo bg bh bd h0_depth aw law ty cty gty bh cbh gbh bd cbd gbd) H := hP
              have hD : va_D A (wz_72 h0 aw ac h0_sound h0_function ty h0_height bo bg bh bd h0_depth aw law ty cty gty bh cbh gbh bd cbd gbd) := hD
              refine lv_icmp_gt (tgt := 37) hx hb d_VA_checkMemory_30 (by decide) (fun c30 => ?_) (fun c30 => ?_)
              · have q30 := ltI c30
                exact jn37 () _ _ _ ⟨hP, hD, hS, lv_sub hl [0, 1] rfl⟩
              · have q30 := nltI c30
                exact jn33 () _ _ _ ⟨hP, hD, hS, lv_sub hl [0, 1] rfl⟩
abbrev b_VA_checkSelect : ByteArray := prog_12_method_11_code
def y_VA_checkSelect : MethodName := ⟨R_VA, "checkSelect", "()V"⟩
abbrev w_VA_checkSelect : List Cond := .code y_VA_checkSelect b_VA_checkSelect 3 none :: lw_g
theorem kC_VA_checkSelect : Cond.code y_VA_checkSelect b_VA_checkSelect 3 none ∈ lw_g := in_c7 32 rfl rfl
theorem d_VA_checkSelect_0 : decode b_VA_checkSelect 0 = .ok (.aload_n 0, 1) := bz_c42 (by decide +kernel)
theorem d_VA_checkSelect_1 : decode b_VA_checkSelect 1 = .ok (.bipush 127, 2) := bz_c16 (by decide +kernel)
theorem d_VA_checkSelect_3 : decode b_VA_checkSelect 3 = .ok (.invokevirtual 161, 3) := bz_c182 (by decide +kernel)
theorem d_VA_checkSelect_6 : decode b_VA_checkSelect 6 = .ok (.aload_n 0, 1) := bz_c42 (by decide +kernel)
theorem d_VA_checkSelect_7 : decode b_VA_checkSelect 7 = .ok (.invokevirtual 189, 3) := bz_c182 (by decide +kernel)
theorem d_VA_checkSelect_10 : decode b_VA_checkSelect 10 = .ok (.istore_n 1, 1) := bz_c60 (by decide +kernel)
theorem d_VA_checkSelect_11 : decode b_VA_checkSelect 11 = .ok (.aload_n 0, 1) := bz_c42 (by decide +kernel)
theorem d_VA_checkSelect_12 : decode b_VA_checkSelect 12 = .ok (.invokevirtual 189, 3) := bz_c182 (by decide +kernel)
theorem d_VA_checkSelect_15 : decode b_VA_checkSelect 15 = .ok (.istore_n 2, 1) := bz_c61 (by decide +kernel)
theorem d_VA_checkSelect_16 : decode b_VA_checkSelect 16 = .ok (.aload_n 0, 1) := bz_c42 (by decide +kernel)
theorem d_VA_checkSelect_17 : decode b_VA_checkSelect 17 = .ok (.aload_n 0, 1) := bz_c42 (by decide +kernel)
theorem d_VA_checkSelect_18 : decode b_VA_checkSelect 18 = .ok (.getfield 39, 3) := bz_c180 (by decide +kernel)
theorem d_VA_checkSelect_21 : decode b_VA_checkSelect 21 = .ok (.ifCond .eq 20, 3) := bz_c153 (by decide +kernel)
theorem d_VA_checkSelect_24 : decode b_VA_checkSelect 24 = .ok (.iload_n 1, 1) := bz_c27 (by decide +kernel)
theorem d_VA_checkSelect_25 : decode b_VA_checkSelect 25 = .ok (.iload_n 2, 1) := bz_c28 (by decide +kernel)
theorem d_VA_checkSelect_26 : decode b_VA_checkSelect 26 = .ok (.if_icmp .eq 11, 3) := bz_c159 (by decide +kernel)
theorem d_VA_checkSelect_29 : decode b_VA_checkSelect 29 = .ok (.iload_n 1, 1) := bz_c27 (by decide +kernel)
theorem d_VA_checkSelect_30 : decode b_VA_checkSelect 30 = .ok (.ifCond .eq 7, 3) := bz_c153 (by decide +kernel)
theorem d_VA_checkSelect_33 : decode b_VA_checkSelect 33 = .ok (.iload_n 2, 1) := bz_c28 (by decide +kernel)
theorem d_VA_checkSelect_34 : decode b_VA_checkSelect 34 = .ok (.ifCond .ne 7, 3) := bz_c154 (by decide +kernel)
theorem d_VA_checkSelect_37 : decode b_VA_checkSelect 37 = .ok (.iconst 1, 1) := bz_c4 (by decide +kernel)
theorem d_VA_checkSelect_38 : decode b_VA_checkSelect 38 = .ok (.goto 4, 3) := bz_c167 (by decide +kernel)
theorem d_VA_checkSelect_41 : decode b_VA_checkSelect 41 = .ok (.iconst 0, 1) := bz_c3 (by decide +kernel)
theorem d_VA_checkSelect_42 : decode b_VA_checkSelect 42 = .ok (.putfield 39, 3) := bz_c181 (by decide +kernel)
theorem d_VA_checkSelect_45 : decode b_VA_checkSelect 45 = .ok (.aload_n 0, 1) := bz_c42 (by decide +kernel)
theorem d_VA_checkSelect_46 : decode b_VA_checkSelect 46 = .ok (.iload_n 1, 1) := bz_c27 (by decide +kernel)
theorem d_VA_checkSelect_47 : decode b_VA_checkSelect 47 = .ok (.ifCond .ne 7, 3) := bz_c154 (by decide +kernel)
theorem d_VA_checkSelect_50 : decode b_VA_checkSelect 50 = .ok (.iload_n 2, 1) := bz_c28 (by decide +kernel)
theorem d_VA_checkSelect_51 : decode b_VA_checkSelect 51 = .ok (.goto 4, 3) := bz_c167 (by decide +kernel)
theorem d_VA_checkSelect_54 : decode b_VA_checkSelect 54 = .ok (.iload_n 1, 1) := bz_c27 (by decide +kernel)
theorem d_VA_checkSelect_55 : decode b_VA_checkSelect 55 = .ok (.invokevirtual 167, 3) := bz_c182 (by decide +kernel)
theorem d_VA_checkSelect_58 : decode b_VA_checkSelect 58 = .ok (.return_, 1) := bz_c177 (by decide +kernel)
abbrev at_VA_checkSelect (dC : Nat → ClassId) (dI : Nat → Nat → Nat) (h0 aw ac ty bo bg bh bd : Nat) (cty cbh cbd : ClassId) (h0_function : Int32) (h0_depth : Int32) (gbh : Nat → Int32) (gbd : Nat → Int32) (A : Nat → Prop) (u : (Nat → Int32) × Int32 × Int32) (t : State) : Prop := match u with | (gty, h0_height, h0_sound) => va_P (dC, dI) cls (wz_65 h0 aw ac h0_sound h0_function ty h0_height bo bg bh bd h0_depth ty cty gty bh cbh gbh bd cbd gbd) t.heap ∧ va_K (dC, dI) cls [(cty, .int), (cbh, .int), (cbd, .boolean)] t ∧ va_D A (wz_65 h0 aw ac h0_sound h0_function ty h0_height bo bg bh bd h0_depth ty cty gty bh cbh gbh bd cbd gbd)
set_option maxHeartbeats 4000000 in
set_option maxRecDepth 100000 in
theorem c_VA_checkSelect (l : Launch) (dC : Nat → ClassId) (dI : Nat → Nat → Nat) (sz : Nat) (h0 aw ac ty bo bg bh bd : Nat) (cty cbh cbd : ClassId) (h0_sound : Int32) (h0_function : Int32) (h0_height : Int32) (h0_depth : Int32) (gty : Nat → Int32) (gbh : Nat → Int32) (gbd : Nat → Int32)  (b_h0_sound : h0_sound = 0 ∨ h0_sound = 1) (b_h0_height : 0 ≤ h0_height.toInt ∧ h0_height.toInt ≤ 5000) (b_h0_depth : 0 ≤ h0_depth.toInt ∧ h0_depth.toInt ≤ 101) (b_gty : ∀ j : Nat, (gty j).toInt ≠ 64) (b_gbh : ∀ j : Nat, 0 ≤ (gbh j).toInt ∧ (gbh j).toInt ≤ 5000)   (hd1 : 1 ≤ h0_depth.toInt) (hbh : (gbh (h0_depth.toInt - 1).toNat).toInt ≤ h0_height.toInt) (hh5 : h0_height.toInt < 5000) : Met l y_VA_checkSelect w_VA_checkSelect ({ frames := 2, cells := 0, slots := 0, locals := 42 }) (va_Pc [.ref h0] (fun U => U.heap.size = sz ∧ va_P (dC, dI) cls (wz_65 h0 aw ac h0_sound h0_function ty h0_height bo bg bh bd h0_depth ty cty gty bh cbh gbh bd cbd gbd) U.heap ∧ va_K (dC, dI) cls [(cty, .int), (cbh, .int), (cbd, .boolean)] U ∧ va_D (fun _ => True) (wz_65 h0 aw ac h0_sound h0_function ty h0_height bo bg bh bd h0_depth ty cty gty bh cbh gbh bd cbd gbd))) (va_Qv (fun (u : (Nat → Int32) × Int32 × Int32) => match u with | (gty2, h0_height2, h0_sound2) => (∀ j : Nat, (gty2 j).toInt ≠ 64) ∧ (0 ≤ h0_height2.toInt ∧ h0_height2.toInt ≤ 5000) ∧ (h0_sound2 = 0 ∨ h0_sound2 = 1) ∧ (((gbh (h0_depth.toInt - 1).toNat).toInt ≤ h0_height2.toInt ∧ h0_height2.toInt ≤ h0_height.toInt + 1) ∧ (h0_sound2.toInt = 1 → h0_sound.toInt = 1 ∧ ((gbd (h0_depth.toInt - 1).toNat).toInt = 0 → ((gbh (h0_depth.toInt - 1).toNat).toInt + 3 ≤ h0_height.toInt ∧ h0_height2.toInt = h0_height.toInt - 3 + 1))))) (at_VA_checkSelect dC dI h0 aw ac ty bo bg bh bd cty cbh cbd h0_function h0_depth gbh gbd (va_A (wz_65 h0 aw ac h0_sound h0_function ty h0_height bo bg bh bd h0_depth ty cty gty bh cbh gbh bd cbd gbd) sz)) (va_A (wz_65 h0 aw ac h0_sound h0_function ty h0_height bo bg bh bd h0_depth ty cty gty bh cbh gbh bd cbd gbd) sz)) 0 0 (va_A (wz_65 h0 aw ac h0_sound h0_function ty h0_height bo bg bh bd h0_depth ty cty gty bh cbh gbh bd cbd gbd) sz) := by
  refine Met.ofW (cc := b_VA_checkSelect) (maxL := 3) (ret := none) (by decide) rfl ?_
  intro p e s m args below meth c s₁ B hml hv
  obtain ⟨rfl, hsz, hP, hK, hD0⟩ := hv
  have hx := B.exec
  have hb := B.bytes
  have hr := B.returns
  have hts0 := atoms_spec (ws := w_VA_checkSelect) B.pre
  have hts : ∀ w ∈ lw_g, w.before _ s = true := fun w h => hts0 w (List.mem_cons_of_mem _ h)
  have hown : s.vm.findClass R_VA = some m.cls := findClass_of_methodNamed B.named
  have hlocks := B.notSynchronized
  clear hts0
  subst hsz
  have hD := hD0.self (sz := s.heap.size)
  generalize hAe : va_A (wz_65 h0 aw ac h0_sound h0_function ty h0_height bo bg bh bd h0_depth ty cty gty bh cbh gbh bd cbd gbd) s.heap.size = A at hD ⊢
  have hA : ∀ q : Nat, s.heap.size ≤ q → A q := fun q h => by rw [← hAe]; exact Or.inr h
  clear hAe
  have hP : va_P (dC, dI) cls (wz_65 h0 aw ac h0_sound h0_function ty h0_height bo bg bh bd h0_depth ty cty gty bh cbh gbh bd cbd gbd) s.heap := hP
  have hl := lv_entry ([.ref h0]) (n := 3) (Nat.le_of_ble_eq_true rfl)
  rw [lg_entry_eq]
  generalize (lg_sl ([.ref h0]) ++ List.replicate (3 - (lg_sl ([.ref h0])).length) Slot.unset).toArray = ls at hl ⊢
  have hl : lv_has ls 3 [(0, .ref h0)] := hl
  have k0 : (0 : Int32).toInt = 0 := by decide
  refine w_gen (A := A) hP (fun H locs hP hS => ?_)
  have k1 : (1 : Int32).toInt = 1 := by decide
  have k127 : (127 : Int32).toInt = 127 := by decide
  have th0_sound := b01 b_h0_sound
  refine lv_aload_n hx hb d_VA_checkSelect_0 rfl (lv_at hl 0 rfl) ?_
  refine lv_bipush (v := 127) hx hb d_VA_checkSelect_1 (by decide) ?_
  have hPc := hP.sb (wq := (wz_65 h0 aw ac h0_sound h0_function ty h0_height bo bg bh bd h0_depth ty cty gty bh cbh gbh bd cbd gbd)) [0, 1, 2, 3] rfl
  have hDc := hD.sb (wq := (wz_65 h0 aw ac h0_sound h0_function ty h0_height bo bg bh bd h0_depth ty cty gty bh cbh gbh bd cbd gbd)) [0, 1, 2, 3] (by decide) rfl
  have hKc := hK.sb (tyq := [(cty, .int), (cbh, .int), (cbd, .boolean)]) [0, 1, 2] rfl
  have hFc := va_free (wc := (wz_65 h0 aw ac h0_sound h0_function ty h0_height bo bg bh bd h0_depth ty cty gty bh cbh gbh bd cbd gbd)) hD hS hA [0, 1, 2, 3] rfl
  refine va_callv (va_runV (As := [.int 127]) (rest := []) ⟨hx, hb, hml, hown, hts⟩ (c_VA_pop l dC dI H.size h0 aw ac ty bo bg bh bd cty cbh cbd h0_sound h0_function h0_height h0_depth gty gbh gbd (b_h0_sound) (b_h0_height) (b_h0_depth) (b_gty) (b_gbh) 127 (by (try dsimp only) <;> (first | (apply Int.le_antisymm <;> omega) | omega)) (by (try dsimp only) <;> (first | (apply Int.le_antisymm <;> omega) | omega))) (cwV 1 hts (gV kM_VA_161 kV_VA_pop kS_VA_pop kI_VA kC_VA_pop) rfl rfl rfl (by decide +kernel) ⟨Nat.le_of_ble_eq_true rfl, Nat.le_of_ble_eq_true rfl⟩) ⟨fun a U g mk z => by obtain ⟨z0, z1, zP, zK, zD⟩ := z; exact ⟨z0, z1, zP, va_K.moved (u := U) (U := U.calling g mk a) (Vm.Alike.refl U.vm) zK, zD⟩, va_recv hKc hPc (ci := 9) (q0 := 0) rfl rfl, fun U hU hW => ⟨rfl, by rw [hU], va_P.he hU.symm hPc, va_K.moved hW.alike hKc, hDc.weaken (fun _ _ _ _ => trivial)⟩⟩ rfl rfl hl.1 rfl (lv_room (Nat.le_of_ble_eq_true rfl)) d_VA_checkSelect_3 ⟨(Nat.zero_le _), (Nat.zero_le _)⟩) hS (fun q _ h => hFc q h) hFc (fun u t H1 locs ht hvm hw hB hz1 hk1 hS => ?_)
  obtain ⟨n2, n3⟩ := u
  try dsimp only at hw
  obtain ⟨bn2, bn3, xr1⟩ := hw
  try clear hw
  have tn3 := b01 bn3
  obtain ⟨hP1, hK1, hD1⟩ := hB
  replace hP1 := va_P.he ht hP1
  obtain ⟨hP, hD⟩ := va_join (wr := []) (w1 := (wz_65 h0 aw ac n3 h0_function ty n2 bo bg bh bd h0_depth ty cty gty bh cbh gbh bd cbd gbd)) hP hD [0, 1, 2, 3] [] rfl rfl (by decide) (by decide) hk1 hFc hP1 hD1
  clear hPc hDc hKc hFc hz1 hk1 hP1 hK1 hD1
  rename Heap => H
  have hP : va_P (dC, dI) cls (wz_65 h0 aw ac n3 h0_function ty n2 bo bg bh bd h0_depth ty cty gty bh cbh gbh bd cbd gbd) H := hP
  have hD : va_D A (wz_65 h0 aw ac n3 h0_function ty n2 bo bg bh bd h0_depth ty cty gty bh cbh gbh bd cbd gbd) := hD
  refine lv_aload_n hx hb d_VA_checkSelect_6 rfl (lv_at hl 0 rfl) ?_
  have hPc := hP.sb (wq := (wz_65 h0 aw ac n3 h0_function ty n2 bo bg bh bd h0_depth ty cty gty bh cbh gbh bd cbd gbd)) [0, 1, 2, 3] rfl
  have hDc := hD.sb (wq := (wz_65 h0 aw ac n3 h0_function ty n2 bo bg bh bd h0_depth ty cty gty bh cbh gbh bd cbd gbd)) [0, 1, 2, 3] (by decide) rfl
  have hKc := hK.sb (tyq := [(cty, .int), (cbh, .int), (cbd, .boolean)]) [0, 1, 2] rfl
  have hFc := va_free (wc := (wz_65 h0 aw ac n3 h0_function ty n2 bo bg bh bd h0_depth ty cty gty bh cbh gbh bd cbd gbd)) hD hS hA [0, 1, 2, 3] rfl
  refine va_calli (va_runV (As := []) (rest := []) ⟨hx, hb, hml, hown, hts⟩ (c_VA_popAny l dC dI H.size h0 aw ac ty bo bg bh bd cty cbh cbd n3 h0_function n2 h0_depth gty gbh gbd (bn3) (bn2) (b_h0_depth) (b_gty) (b_gbh) (by (try dsimp only) <;> (first | (apply Int.le_antisymm <;> omega) | omega)) (by (try dsimp only) <;> (first | (apply Int.le_antisymm <;> omega) | omega))) (cwV 0 hts (gV kM_VA_189 kV_VA_popAny kS_VA_popAny kI_VA kC_VA_popAny) rfl rfl rfl (by decide +kernel) ⟨Nat.le_of_ble_eq_true rfl, Nat.le_of_ble_eq_true rfl⟩) ⟨fun a U g mk z => by obtain ⟨z0, z1, zP, zK, zD⟩ := z; exact ⟨z0, z1, zP, va_K.moved (u := U) (U := U.calling g mk a) (Vm.Alike.refl U.vm) zK, zD⟩, va_recv hKc hPc (ci := 9) (q0 := 0) rfl rfl, fun U hU hW => ⟨rfl, by rw [hU], va_P.he hU.symm hPc, va_K.moved hW.alike hKc, hDc.weaken (fun _ _ _ _ => trivial)⟩⟩ rfl rfl hl.1 rfl (lv_room (Nat.le_of_ble_eq_true rfl)) d_VA_checkSelect_7 ⟨(Nat.zero_le _), (Nat.zero_le _)⟩) hS (fun q _ h => hFc q h) hFc (fun r4 u t H1 locs ht hvm hw hB hz1 hk1 hS => ?_)
  obtain ⟨n5, n6⟩ := u
  try dsimp only at hw
  obtain ⟨bn5, bn6, xr4⟩ := hw
  try clear hw
  have tn6 := b01 bn6
  obtain ⟨hP1, hK1, hD1⟩ := hB
  replace hP1 := va_P.he ht hP1
  obtain ⟨hP, hD⟩ := va_join (wr := []) (w1 := (wz_65 h0 aw ac n6 h0_function ty n5 bo bg bh bd h0_depth ty cty gty bh cbh gbh bd cbd gbd)) hP hD [0, 1, 2, 3] [] rfl rfl (by decide) (by decide) hk1 hFc hP1 hD1
  clear hPc hDc hKc hFc hz1 hk1 hP1 hK1 hD1
  rename Heap => H
  have hP : va_P (dC, dI) cls (wz_65 h0 aw ac n6 h0_function ty n5 bo bg bh bd h0_depth ty cty gty bh cbh gbh bd cbd gbd) H := hP
  have hD : va_D A (wz_65 h0 aw ac n6 h0_function ty n5 bo bg bh bd h0_depth ty cty gty bh cbh gbh bd cbd gbd) := hD
  refine lv_istore_n (lv' := [(1, .int r4), (0, .ref h0)]) hx hb d_VA_checkSelect_10 rfl hl (by decide) rfl (fun ls hl => ?_)
  refine lv_aload_n hx hb d_VA_checkSelect_11 rfl (lv_at hl 1 rfl) ?_
  have hPc := hP.sb (wq := (wz_65 h0 aw ac n6 h0_function ty n5 bo bg bh bd h0_depth ty cty gty bh cbh gbh bd cbd gbd)) [0, 1, 2, 3] rfl
  have hDc := hD.sb (wq := (wz_65 h0 aw ac n6 h0_function ty n5 bo bg bh bd h0_depth ty cty gty bh cbh gbh bd cbd gbd)) [0, 1, 2, 3] (by decide) rfl
  have hKc := hK.sb (tyq := [(cty, .int), (cbh, .int), (cbd, .boolean)]) [0, 1, 2] rfl
  have hFc := va_free (wc := (wz_65 h0 aw ac n6 h0_function ty n5 bo bg bh bd h0_depth ty cty gty bh cbh gbh bd cbd gbd)) hD hS hA [0, 1, 2, 3] rfl
  refine va_calli (va_runV (As := []) (rest := []) ⟨hx, hb, hml, hown, hts⟩ (c_VA_popAny l dC dI H.size h0 aw ac ty bo bg bh bd cty cbh cbd n6 h0_function n5 h0_depth gty gbh gbd (bn6) (bn5) (b_h0_depth) (b_gty) (b_gbh) (by (try dsimp only) <;> (first | (apply Int.le_antisymm <;> omega) | omega)) (by (try dsimp only) <;> (first | (apply Int.le_antisymm <;> omega) | omega))) (cwV 0 hts (gV kM_VA_189 kV_VA_popAny kS_VA_popAny kI_VA kC_VA_popAny) rfl rfl rfl (by decide +kernel) ⟨Nat.le_of_ble_eq_true rfl, Nat.le_of_ble_eq_true rfl⟩) ⟨fun a U g mk z => by obtain ⟨z0, z1, zP, zK, zD⟩ := z; exact ⟨z0, z1, zP, va_K.moved (u := U) (U := U.calling g mk a) (Vm.Alike.refl U.vm) zK, zD⟩, va_recv hKc hPc (ci := 9) (q0 := 0) rfl rfl, fun U hU hW => ⟨rfl, by rw [hU], va_P.he hU.symm hPc, va_K.moved hW.alike hKc, hDc.weaken (fun _ _ _ _ => trivial)⟩⟩ rfl rfl hl.1 rfl (lv_room (Nat.le_of_ble_eq_true rfl)) d_VA_checkSelect_12 ⟨(Nat.zero_le _), (Nat.zero_le _)⟩) hS (fun q _ h => hFc q h) hFc (fun r7 u t H1 locs ht hvm hw hB hz1 hk1 hS => ?_)
  obtain ⟨n8, n9⟩ := u
  try dsimp only at hw
  obtain ⟨bn8, bn9, xr7⟩ := hw
  try clear hw
  have tn9 := b01 bn9
  obtain ⟨hP1, hK1, hD1⟩ := hB
  replace hP1 := va_P.he ht hP1
  obtain ⟨hP, hD⟩ := va_join (wr := []) (w1 := (wz_65 h0 aw ac n9 h0_function ty n8 bo bg bh bd h0_depth ty cty gty bh cbh gbh bd cbd gbd)) hP hD [0, 1, 2, 3] [] rfl rfl (by decide) (by decide) hk1 hFc hP1 hD1
  clear hPc hDc hKc hFc hz1 hk1 hP1 hK1 hD1
  rename Heap => H
  have hP : va_P (dC, dI) cls (wz_65 h0 aw ac n9 h0_function ty n8 bo bg bh bd h0_depth ty cty gty bh cbh gbh bd cbd gbd) H := hP
  have hD : va_D A (wz_65 h0 aw ac n9 h0_function ty n8 bo bg bh bd h0_depth ty cty gty bh cbh gbh bd cbd gbd) := hD
  refine lv_istore_n (lv' := [(2, .int r7), (1, .int r4), (0, .ref h0)]) hx hb d_VA_checkSelect_15 rfl hl (by decide) rfl (fun ls hl => ?_)
  refine lv_aload_n hx hb d_VA_checkSelect_16 rfl (lv_at hl 2 rfl) ?_
  refine lv_aload_n hx hb d_VA_checkSelect_17 rfl (lv_at hl 2 rfl) ?_
  refine va_get (D := (dC, dI)) (ci := 9) (v := .int n9) (C := R_VA) (T := F_VA) (N := 11) hx hb hts i_VA hown hK hP 0 rfl rfl 2 (by decide) (hts _ kF_VA_39) (fun _ h9 => h9) rfl d_VA_checkSelect_18 ?_
  refine w_cut (pc2 := 42) (σ := Int32) (fun u H locs ls => match u with | j42_s0 => (j42_s0 = 0 ∨ j42_s0 = 1) ∧ (j42_s0.toInt = 1 → n9.toInt = 1) ∧ va_P (dC, dI) cls (wz_65 h0 aw ac n9 h0_function ty n8 bo bg bh bd h0_depth ty cty gty bh cbh gbh bd cbd gbd) H ∧ va_D A (wz_65 h0 aw ac n9 h0_function ty n8 bo bg bh bd h0_depth ty cty gty bh cbh gbh bd cbd gbd) ∧ va_S A s.heap H locs ∧ lv_has ls 3 [(0, .ref h0), (1, .int r4), (2, .int r7)]) (fun u => match u with | j42_s0 => [.int j42_s0, .ref h0]) ?_ (fun jn42 => ?_)
  · intro u H locs ls hI
    obtain ⟨j42_s0, rfl⟩ : ∃ z, z = u := ⟨_, rfl⟩
    obtain ⟨b_j42_s0, x0, hP, hD, hS, hl⟩ := hI
    have tj42_s0 := b01 b_j42_s0
    refine va_put (D := (dC, dI)) (ci := 9) (v := .int j42_s0) (ty := .boolean) (C := R_VA) (T := F_VA) (N := 11) hx hb hts i_VA t_VA t_VA_ok n_VA hown hK hP hD hS 0 rfl rfl 2 (by decide) (hts _ kF_VA_39) (fun _ h9 => h9) rfl (by decide +kernel) (zn01 (b_j42_s0)) (fz01 (b_j42_s0)) (Nat.le_of_ble_eq_true rfl) d_VA_checkSelect_42 (fun H locs hP hD hS => ?_)
    refine lv_aload_n hx hb d_VA_checkSelect_45 rfl (lv_at hl 0 rfl) ?_
    refine lv_iload_n hx hb d_VA_checkSelect_46 rfl (lv_at hl 1 rfl) ?_
    refine w_cut (pc2 := 55) (σ := Int32) (fun u H locs ls => match u with | j55_s0 => (j55_s0.toInt ≠ 64) ∧ va_P (dC, dI) cls (wz_65 h0 aw ac j42_s0 h0_function ty n8 bo bg bh bd h0_depth ty cty gty bh cbh gbh bd cbd gbd) H ∧ va_D A (wz_65 h0 aw ac j42_s0 h0_function ty n8 bo bg bh bd h0_depth ty cty gty bh cbh gbh bd cbd gbd) ∧ va_S A s.heap H locs ∧ lv_has ls 3 []) (fun u => match u with | j55_s0 => [.int j55_s0, .ref h0]) ?_ (fun jn55 => ?_)
    · intro u H locs ls hI
      obtain ⟨j55_s0, rfl⟩ : ∃ z, z = u := ⟨_, rfl⟩
      obtain ⟨b_j55_s0, hP, hD, hS, hl⟩ := hI
      have hPc := hP.sb (wq := (wz_66 h0 aw ac j42_s0 h0_function ty n8 bo bg bh bd h0_depth ty cty gty)) [0, 1] rfl
      have hDc := hD.sb (wq := (wz_66 h0 aw ac j42_s0 h0_function ty n8 bo bg bh bd h0_depth ty cty gty)) [0, 1] (by decide) rfl
      have hKc := hK.sb (tyq := [(cty, .int)]) [0] rfl
      have hFc := va_free (wc := (wz_66 h0 aw ac j42_s0 h0_function ty n8 bo bg bh bd h0_depth ty cty gty)) hD hS hA [0, 1] rfl
      refine va_callv (va_runV (As := [.int j55_s0]) (rest := []) ⟨hx, hb, hml, hown, hts⟩ (c_VA_push l dC dI H.size h0 aw ac ty bo bg bh bd cty j42_s0 h0_function n8 h0_depth gty (bn8) (b_gty) j55_s0 (by (try dsimp only) <;> (first | (apply Int.le_antisymm <;> omega) | omega))) (cwV 1 hts (gV kM_VA_167 kV_VA_push kS_VA_push kI_VA kC_VA_push) rfl rfl rfl (by decide +kernel) ⟨Nat.le_of_ble_eq_true rfl, Nat.le_of_ble_eq_true rfl⟩) ⟨fun a U g mk z => by obtain ⟨z0, z1, zP, zK, zD⟩ := z; exact ⟨z0, z1, zP, va_K.moved (u := U) (U := U.calling g mk a) (Vm.Alike.refl U.vm) zK, zD⟩, va_recv hKc hPc (ci := 9) (q0 := 0) rfl rfl, fun U hU hW => ⟨rfl, by rw [hU], va_P.he hU.symm hPc, va_K.moved hW.alike hKc, hDc.weaken (fun _ _ _ _ => trivial)⟩⟩ rfl rfl hl.1 rfl (lv_room (Nat.le_of_ble_eq_true rfl)) d_VA_checkSelect_55 ⟨(Nat.zero_le _), (Nat.zero_le _)⟩) hS (fun q _ h => hFc q h) hFc (fun u t H1 locs ht hvm hw hB hz1 hk1 hS => ?_)
      obtain ⟨n11, n12⟩ := u
      try dsimp only at hw
      obtain ⟨bn11, bn12, xr10⟩ := hw
      try clear hw
      obtain ⟨hP1, hK1, hD1⟩ := hB
      replace hP1 := va_P.he ht hP1
      obtain ⟨hP, hD⟩ := va_join (wr := [(bh, .inl (cbh, 101, .inl gbh)), (bd, .inl (cbd, 101, .inl gbd))]) (w1 := (wz_66 h0 aw ac j42_s0 h0_function ty n12 bo bg bh bd h0_depth ty cty n11)) hP hD [0, 1] [2, 3] rfl rfl (by decide) (by decide) hk1 hFc hP1 hD1
      clear hPc hDc hKc hFc hz1 hk1 hP1 hK1 hD1
      rename Heap => H
      have hP : va_P (dC, dI) cls (wz_71 bh cbh gbh bd cbd gbd h0 aw ac j42_s0 h0_function ty n12 bo bg bh bd h0_depth ty cty n11) H := hP
      have hD : va_D A (wz_71 bh cbh gbh bd cbd gbd h0 aw ac j42_s0 h0_function ty n12 bo bg bh bd h0_depth ty cty n11) := hD
      have hP9 := hP.sb (wq := (wz_65 h0 aw ac j42_s0 h0_function ty n12 bo bg bh bd h0_depth ty cty n11 bh cbh gbh bd cbd gbd)) [2, 3, 0, 1] rfl
      have hD9 := hD.sb (wq := (wz_65 h0 aw ac j42_s0 h0_function ty n12 bo bg bh bd h0_depth ty cty n11 bh cbh gbh bd cbd gbd)) [2, 3, 0, 1] (by decide) rfl
      exact W.vret hx hb hr (fun t ht hW => ⟨⟨(n11, n12, j42_s0), rfl, ⟨bn11, bn12, b_j42_s0, by (try dsimp only) <;> (first | (apply Int.le_antisymm <;> omega) | omega)⟩, va_P.he ht.symm hP9, va_K.moved hW.alike hK, hD9⟩, hS.F ht⟩) hS.2.2 d_VA_checkSelect_58
    · skip
      refine lv_if_ne (tgt := 54) hx hb d_VA_checkSelect_47 (by decide) (fun c47 => ?_) (fun c47 => ?_)
      · have q47 := neI c47
        refine lv_iload_n hx hb d_VA_checkSelect_54 rfl (lv_at hl 1 rfl) ?_
        exact jn55 r4 _ _ _ ⟨by (try dsimp only) <;> (first | (apply Int.le_antisymm <;> omega) | omega), hP, hD, hS, lv_sub hl [] rfl⟩
      · have q47 := eqI c47
        refine lv_iload_n hx hb d_VA_checkSelect_50 rfl (lv_at hl 2 rfl) ?_
        refine lv_goto (tgt := 55) hx hb d_VA_checkSelect_51 (by decide) ?_
        exact jn55 r7 _ _ _ ⟨by (try dsimp only) <;> (first | (apply Int.le_antisymm <;> omega) | omega), hP, hD, hS, lv_sub hl [] rfl⟩
  · skip
    refine w_cut (pc2 := 41) (σ := Unit) (fun u H locs ls => match u with | _ => va_P (dC, dI) cls (wz_65 h0 aw ac n9 h0_function ty n8 bo bg bh bd h0_depth ty cty gty bh cbh gbh bd cbd gbd) H ∧ va_D A (wz_65 h0 aw ac n9 h0_function ty n8 bo bg bh bd h0_depth ty cty gty bh cbh gbh bd cbd gbd) ∧ va_S A s.heap H locs ∧ lv_has ls 3 [(0, .ref h0), (1, .int r4), (2, .int r7)]) (fun u => match u with | _ => [.ref h0]) ?_ (fun jn41 => ?_)
    · intro u H locs ls hI
      obtain ⟨hP, hD, hS, hl⟩ := hI
      refine lv_iconst (v := 0) hx hb d_VA_checkSelect_41 (by decide) ?_
      exact jn42 0 _ _ _ ⟨Or.inl rfl, by (try dsimp only) <;> (first | (apply Int.le_antisymm <;> omega) | omega), hP, hD, hS, lv_sub hl [0, 1, 2] rfl⟩
    · skip
      refine lv_if_eq (tgt := 41) hx hb d_VA_checkSelect_21 (by decide) (fun c21 => ?_) (fun c21 => ?_)
      · have q21 := eqI c21
        exact jn41 () _ _ _ ⟨hP, hD, hS, lv_sub hl [2, 1, 0] rfl⟩
      · have q21 := neI c21
        refine lv_iload_n hx hb d_VA_checkSelect_24 rfl (lv_at hl 1 rfl) ?_
        refine lv_iload_n hx hb d_VA_checkSelect_25 rfl (lv_at hl 0 rfl) ?_
        refine w_cut (pc2 := 37) (σ := Unit) (fun u H locs ls => match u with | _ => va_P (dC, dI) cls (wz_65 h0 aw ac n9 h0_function ty n8 bo bg bh bd h0_depth ty cty gty bh cbh gbh bd cbd gbd) H ∧ va_D A (wz_65 h0 aw ac n9 h0_function ty n8 bo bg bh bd h0_depth ty cty gty bh cbh gbh bd cbd gbd) ∧ va_S A s.heap H locs ∧ lv_has ls 3 [(0, .ref h0), (1, .int r4), (2, .int r7)]) (fun u => match u with | _ => [.ref h0]) ?_ (fun jn37 => ?_)
        · intro u H locs ls hI
          obtain ⟨hP, hD, hS, hl⟩ := hI
          refine lv_iconst (v := 1) hx hb d_VA_checkSelect_37 (by decide) ?_
          refine lv_goto (tgt := 42) hx hb d_VA_checkSelect_38 (by decide) ?_
          exact jn42 1 _ _ _ ⟨Or.inr rfl, by (try dsimp only) <;> (first | (apply Int.le_antisymm <;> omega) | omega), hP, hD, hS, lv_sub hl [0, 1, 2] rfl⟩
        · skip
          refine lv_icmp_eq (tgt := 37) hx hb d_VA_checkSelect_26 (by decide) (fun c26 => ?_) (fun c26 => ?_)
          · have q26 := eqI c26
            exact jn37 () _ _ _ ⟨hP, hD, hS, lv_sub hl [2, 1, 0] rfl⟩
          · have q26 := neI c26
            refine lv_iload_n hx hb d_VA_checkSelect_29 rfl (lv_at hl 1 rfl) ?_
            refine lv_if_eq (tgt := 37) hx hb d_VA_checkSelect_30 (by decide) (fun c30 => ?_) (fun c30 => ?_)
            · have q30 := eqI c30
              exact jn37 () _ _ _ ⟨hP, hD, hS, lv_sub hl [2, 1, 0] rfl⟩
            · have q30 := neI c30
              refine lv_iload_n hx hb d_VA_checkSelect_33 rfl (lv_at hl 0 rfl) ?_
              refine lv_if_ne (tgt := 41) hx hb d_VA_checkSelect_34 (by decide) (fun c34 => ?_) (fun c34 => ?_)
              · have q34 := neI c34
                exact jn41 () _ _ _ ⟨hP, hD, hS, lv_sub hl [2, 1, 0] rfl⟩
              · have q34 := eqI c34
                exact jn37 () _ _ _ ⟨hP, hD, hS, lv_sub hl [2, 1, 0] rfl⟩
end q_22

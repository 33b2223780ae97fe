section q_14
/-! Machine: a step -/
abbrev b_WA_localType : ByteArray := prog_13_method_7_code
def y_WA_localType : MethodName := ⟨R_WA, "localType", "(II)I"⟩
abbrev w_WA_localType : List Cond := .code y_WA_localType b_WA_localType 4 (Option.some .int) :: lw_g
theorem kC_WA_localType : Cond.code y_WA_localType b_WA_localType 4 (Option.some .int) ∈ lw_g := in_c7 23 rfl rfl
theorem d_WA_localType_0 : decode b_WA_localType 0 = .ok (.aload_n 0, 1) := bz_c42 (by decide +kernel)
theorem d_WA_localType_1 : decode b_WA_localType 1 = .ok (.iload_n 1, 1) := bz_c27 (by decide +kernel)
theorem d_WA_localType_2 : decode b_WA_localType 2 = .ok (.invokevirtual 103, 3) := bz_c182 (by decide +kernel)
theorem d_WA_localType_5 : decode b_WA_localType 5 = .ok (.istore_n 3, 1) := bz_c62 (by decide +kernel)
theorem d_WA_localType_6 : decode b_WA_localType 6 = .ok (.iload_n 2, 1) := bz_c28 (by decide +kernel)
theorem d_WA_localType_7 : decode b_WA_localType 7 = .ok (.ifCond .lt 18, 3) := bz_c155 (by decide +kernel)
theorem d_WA_localType_10 : decode b_WA_localType 10 = .ok (.iload_n 2, 1) := bz_c28 (by decide +kernel)
theorem d_WA_localType_11 : decode b_WA_localType 11 = .ok (.iload_n 3, 1) := bz_c29 (by decide +kernel)
theorem d_WA_localType_12 : decode b_WA_localType 12 = .ok (.aload_n 0, 1) := bz_c42 (by decide +kernel)
theorem d_WA_localType_13 : decode b_WA_localType 13 = .ok (.getfield 23, 3) := bz_c180 (by decide +kernel)
theorem d_WA_localType_16 : decode b_WA_localType 16 = .ok (.getfield 106, 3) := bz_c180 (by decide +kernel)
theorem d_WA_localType_19 : decode b_WA_localType 19 = .ok (.iload_n 1, 1) := bz_c27 (by decide +kernel)
theorem d_WA_localType_20 : decode b_WA_localType 20 = .ok (.iaload, 1) := bz_c46 (by decide +kernel)
theorem d_WA_localType_21 : decode b_WA_localType 21 = .ok (.iadd, 1) := bz_c96 (by decide +kernel)
theorem d_WA_localType_22 : decode b_WA_localType 22 = .ok (.if_icmp .lt 5, 3) := bz_c161 (by decide +kernel)
theorem d_WA_localType_25 : decode b_WA_localType 25 = .ok (.iconst 0, 1) := bz_c3 (by decide +kernel)
theorem d_WA_localType_26 : decode b_WA_localType 26 = .ok (.ireturn, 1) := bz_c172 (by decide +kernel)
theorem d_WA_localType_27 : decode b_WA_localType 27 = .ok (.iload_n 2, 1) := bz_c28 (by decide +kernel)
theorem d_WA_localType_28 : decode b_WA_localType 28 = .ok (.iload_n 3, 1) := bz_c29 (by decide +kernel)
theorem d_WA_localType_29 : decode b_WA_localType 29 = .ok (.if_icmp .ge 22, 3) := bz_c162 (by decide +kernel)
theorem d_WA_localType_32 : decode b_WA_localType 32 = .ok (.aload_n 0, 1) := bz_c42 (by decide +kernel)
theorem d_WA_localType_33 : decode b_WA_localType 33 = .ok (.getfield 31, 3) := bz_c180 (by decide +kernel)
theorem d_WA_localType_36 : decode b_WA_localType 36 = .ok (.aload_n 0, 1) := bz_c42 (by decide +kernel)
theorem d_WA_localType_37 : decode b_WA_localType 37 = .ok (.getfield 37, 3) := bz_c180 (by decide +kernel)
theorem d_WA_localType_40 : decode b_WA_localType 40 = .ok (.iload_n 1, 1) := bz_c27 (by decide +kernel)
theorem d_WA_localType_41 : decode b_WA_localType 41 = .ok (.iaload, 1) := bz_c46 (by decide +kernel)
theorem d_WA_localType_42 : decode b_WA_localType 42 = .ok (.bipush 8, 2) := bz_c16 (by decide +kernel)
theorem d_WA_localType_44 : decode b_WA_localType 44 = .ok (.imul, 1) := bz_c104 (by decide +kernel)
theorem d_WA_localType_45 : decode b_WA_localType 45 = .ok (.iload_n 2, 1) := bz_c28 (by decide +kernel)
theorem d_WA_localType_46 : decode b_WA_localType 46 = .ok (.iadd, 1) := bz_c96 (by decide +kernel)
theorem d_WA_localType_47 : decode b_WA_localType 47 = .ok (.iaload, 1) := bz_c46 (by decide +kernel)
theorem d_WA_localType_48 : decode b_WA_localType 48 = .ok (.goto 19, 3) := bz_c167 (by decide +kernel)
theorem d_WA_localType_51 : decode b_WA_localType 51 = .ok (.aload_n 0, 1) := bz_c42 (by decide +kernel)
theorem d_WA_localType_52 : decode b_WA_localType 52 = .ok (.getfield 23, 3) := bz_c180 (by decide +kernel)
theorem d_WA_localType_55 : decode b_WA_localType 55 = .ok (.getfield 109, 3) := bz_c180 (by decide +kernel)
theorem d_WA_localType_58 : decode b_WA_localType 58 = .ok (.iload_n 1, 1) := bz_c27 (by decide +kernel)
theorem d_WA_localType_59 : decode b_WA_localType 59 = .ok (.bipush 60, 2) := bz_c16 (by decide +kernel)
theorem d_WA_localType_61 : decode b_WA_localType 61 = .ok (.imul, 1) := bz_c104 (by decide +kernel)
theorem d_WA_localType_62 : decode b_WA_localType 62 = .ok (.iload_n 2, 1) := bz_c28 (by decide +kernel)
theorem d_WA_localType_63 : decode b_WA_localType 63 = .ok (.iadd, 1) := bz_c96 (by decide +kernel)
theorem d_WA_localType_64 : decode b_WA_localType 64 = .ok (.iload_n 3, 1) := bz_c29 (by decide +kernel)
theorem d_WA_localType_65 : decode b_WA_localType 65 = .ok (.isub, 1) := bz_c100 (by decide +kernel)
theorem d_WA_localType_66 : decode b_WA_localType 66 = .ok (.iaload, 1) := bz_c46 (by decide +kernel)
theorem d_WA_localType_67 : decode b_WA_localType 67 = .ok (.ireturn, 1) := bz_c172 (by decide +kernel)
theorem kM_WA_103 : Cond.methodLink R_WA 103 y_WA_takes ∈ lw_g := in_c7 24 rfl rfl
theorem kF_WA_23 : Cond.fieldLink R_WA 23 "WaferForge$Wafer" "codes" "LWaferForge$Codes;" ∈ lw_g := in_c1 145 rfl rfl
theorem kF_WA_106 : Cond.fieldLink R_WA 106 "WaferForge$Codes" "localCounts" "[I" ∈ lw_g := in_c1 88 rfl rfl
theorem kF_WA_109 : Cond.fieldLink R_WA 109 "WaferForge$Codes" "localTypes" "[I" ∈ lw_g := in_c1 92 rfl rfl
theorem kF_WA_31 : Cond.fieldLink R_WA 31 "WaferForge$Wafer" "typeParameters" "[I" ∈ lw_g := in_c1 154 rfl rfl
abbrev at_WA_localType (dC : Nat → ClassId) (dI : Nat → Nat → Nat) (h0 ac wat wap waf ac_firsts_r clk clt ac_ops_r ac_values_r ac_partners_r ac_elses_r ac_labels_r : Nat) (cwaf cwat cwap cclk cclt : ClassId) (lh0 : List Value) (ac_length : Int32) (ac_labelCount : Int32) (gwaf : Nat → Int32) (gwat : Nat → Int32) (gwap : Nat → Int32) (gclk : Nat → Int32) (gclt : Nat → Int32) (A : Nat → Prop) (u : Unit) (t : State) : Prop := match u with | _ => va_P (dC, dI) cls (wz_32 h0 lh0 ac ac_firsts_r clk clt ac_length ac_ops_r ac_values_r ac_partners_r ac_elses_r ac_labelCount ac_labels_r waf cwaf gwaf wat cwat gwat wap cwap gwap clk cclk gclk clt cclt gclt) t.heap ∧ va_K (dC, dI) cls [(cwaf, .int), (cwat, .int), (cwap, .int), (cclk, .int), (cclt, .int)] t ∧ va_D A (wz_32 h0 lh0 ac ac_firsts_r clk clt ac_length ac_ops_r ac_values_r ac_partners_r ac_elses_r ac_labelCount ac_labels_r waf cwaf gwaf wat cwat gwat wap cwap gwap clk cclk gclk clt cclt gclt)
set_option maxHeartbeats 4000000 in
set_option maxRecDepth 100000 in
theorem c_WA_localType (l : Launch) (dC : Nat → ClassId) (dI : Nat → Nat → Nat) (sz : Nat) (h0 ac wat wap waf ac_firsts_r clk clt ac_ops_r ac_values_r ac_partners_r ac_elses_r ac_labels_r : Nat) (cwaf cwat cwap cclk cclt : ClassId) (lh0 : List Value) (ac_length : Int32) (ac_labelCount : Int32) (gwaf : Nat → Int32) (gwat : Nat → Int32) (gwap : Nat → Int32) (gclk : Nat → Int32) (gclt : Nat → Int32) (ph0_1 : lh0[1]? = some (.ref ac)) (ph0_3 : lh0[3]? = some (.ref wat)) (ph0_4 : lh0[4]? = some (.ref wap)) (ph0_7 : lh0[7]? = some (.ref waf)) (plh0 : lh0.length = 21)  (p0 : Int32) (p1 : Int32) (ba0 : 0 ≤ p0.toInt ∧ p0.toInt ≤ 29) (hf : 0 ≤ (gwaf p0.toNatClampNeg).toInt ∧ (gwaf p0.toNatClampNeg).toInt < 20) (ht : 0 ≤ (gwat (gwaf p0.toNatClampNeg).toNatClampNeg).toInt ∧ (gwat (gwaf p0.toNatClampNeg).toNatClampNeg).toInt ≤ 8 ∧ 0 ≤ (gclk p0.toNatClampNeg).toInt ∧ (gclk p0.toNatClampNeg).toInt ≤ 60) : Met l y_WA_localType w_WA_localType ({ frames := 1, cells := 0, slots := 0, locals := 21 }) (va_Pc [.ref h0, .int p0, .int p1] (fun U => U.heap.size = sz ∧ va_P (dC, dI) cls (wz_32 h0 lh0 ac ac_firsts_r clk clt ac_length ac_ops_r ac_values_r ac_partners_r ac_elses_r ac_labelCount ac_labels_r waf cwaf gwaf wat cwat gwat wap cwap gwap clk cclk gclk clt cclt gclt) U.heap ∧ va_K (dC, dI) cls [(cwaf, .int), (cwat, .int), (cwap, .int), (cclk, .int), (cclt, .int)] U ∧ va_D (fun _ => True) (wz_32 h0 lh0 ac ac_firsts_r clk clt ac_length ac_ops_r ac_values_r ac_partners_r ac_elses_r ac_labelCount ac_labels_r waf cwaf gwaf wat cwat gwat wap cwap gwap clk cclk gclk clt cclt gclt))) (va_Qi (fun (r : Int32) (u : Unit) => match u with | _ => (r.toInt = 0 ∨ (0 ≤ p1.toInt ∧ p1.toInt < (gwat (gwaf p0.toNatClampNeg).toNatClampNeg).toInt + (gclk p0.toNatClampNeg).toInt))) (at_WA_localType dC dI h0 ac wat wap waf ac_firsts_r clk clt ac_ops_r ac_values_r ac_partners_r ac_elses_r ac_labels_r cwaf cwat cwap cclk cclt lh0 ac_length ac_labelCount gwaf gwat gwap gclk gclt (va_A (wz_32 h0 lh0 ac ac_firsts_r clk clt ac_length ac_ops_r ac_values_r ac_partners_r ac_elses_r ac_labelCount ac_labels_r waf cwaf gwaf wat cwat gwat wap cwap gwap clk cclk gclk clt cclt gclt) sz)) (va_A (wz_32 h0 lh0 ac ac_firsts_r clk clt ac_length ac_ops_r ac_values_r ac_partners_r ac_elses_r ac_labelCount ac_labels_r waf cwaf gwaf wat cwat gwat wap cwap gwap clk cclk gclk clt cclt gclt) sz)) 0 0 (va_A (wz_32 h0 lh0 ac ac_firsts_r clk clt ac_length ac_ops_r ac_values_r ac_partners_r ac_elses_r ac_labelCount ac_labels_r waf cwaf gwaf wat cwat gwat wap cwap gwap clk cclk gclk clt cclt gclt) sz) := by
  refine Met.ofW (cc := b_WA_localType) (maxL := 4) (ret := (Option.some .int)) (by decide) rfl ?_
  intro p e s m args below meth c s₁ B hml hv
  obtain ⟨rfl, hsz, hP, hK, hD0⟩ := hv
  have hx := B.exec
  have hb := B.bytes
  have hr := B.returns
  have hts0 := atoms_spec (ws := w_WA_localType) B.pre
  have hts : ∀ w ∈ lw_g, w.before _ s = true := fun w h => hts0 w (List.mem_cons_of_mem _ h)
  have hown : s.vm.findClass R_WA = some m.cls := findClass_of_methodNamed B.named
  have hlocks := B.notSynchronized
  clear hts0
  subst hsz
  have hD := hD0.self (sz := s.heap.size)
  generalize hAe : va_A (wz_32 h0 lh0 ac ac_firsts_r clk clt ac_length ac_ops_r ac_values_r ac_partners_r ac_elses_r ac_labelCount ac_labels_r waf cwaf gwaf wat cwat gwat wap cwap gwap clk cclk gclk clt cclt gclt) s.heap.size = A at hD ⊢
  have hA : ∀ q : Nat, s.heap.size ≤ q → A q := fun q h => by rw [← hAe]; exact Or.inr h
  clear hAe
  have hP : va_P (dC, dI) cls (wz_32 h0 lh0 ac ac_firsts_r clk clt ac_length ac_ops_r ac_values_r ac_partners_r ac_elses_r ac_labelCount ac_labels_r waf cwaf gwaf wat cwat gwat wap cwap gwap clk cclk gclk clt cclt gclt) s.heap := hP
  have hl := lv_entry ([.ref h0, .int p0, .int p1]) (n := 4) (Nat.le_of_ble_eq_true rfl)
  rw [lg_entry_eq]
  generalize (lg_sl ([.ref h0, .int p0, .int p1]) ++ List.replicate (4 - (lg_sl ([.ref h0, .int p0, .int p1])).length) Slot.unset).toArray = ls at hl ⊢
  have hl : lv_has ls 4 [(0, .ref h0), (1, .int p0), (2, .int p1)] := hl
  have k0 : (0 : Int32).toInt = 0 := by decide
  refine w_gen (A := A) hP (fun H locs hP hS => ?_)
  have k8 : (8 : Int32).toInt = 8 := by decide
  have k60 : (60 : Int32).toInt = 60 := by decide
  have lo_p0 := i32_lo p0
  have hi_p0 := i32_hi p0
  have lo_p1 := i32_lo p1
  have hi_p1 := i32_hi p1
  refine lv_aload_n hx hb d_WA_localType_0 rfl (lv_at hl 0 rfl) ?_
  refine lv_iload_n hx hb d_WA_localType_1 rfl (lv_at hl 1 rfl) ?_
  have hPc := hP.sb (wq := (wz_16 h0 lh0 waf cwaf gwaf wat cwat gwat)) [0, 2, 3] rfl
  have hDc := hD.sb (wq := (wz_16 h0 lh0 waf cwaf gwaf wat cwat gwat)) [0, 2, 3] (by decide) rfl
  have hKc := hK.sb (tyq := [(cwaf, .int), (cwat, .int)]) [0, 1] rfl
  have hFc := va_free (wc := (wz_16 h0 lh0 waf cwaf gwaf wat cwat gwat)) hD hS hA [0, 2, 3] rfl
  refine va_calli (va_runV (As := [.int p0]) (rest := []) ⟨hx, hb, hml, hown, hts⟩ (c_WA_takes l dC dI h0 waf wat H.size cwaf cwat gwaf gwat lh0 ph0_7 ph0_3 plh0 p0 (by (first | (apply Int.le_antisymm <;> omega) | omega)) (hf)) (cwV 1 hts (gV kM_WA_103 kV_WA_takes kS_WA_takes kI_WA kC_WA_takes) rfl rfl rfl (by decide +kernel) ⟨Nat.le_of_ble_eq_true rfl, Nat.le_of_ble_eq_true rfl⟩) ⟨fun a U g mk z => by obtain ⟨z0, z1, zP, zK, zD⟩ := z; exact ⟨z0, z1, zP, va_K.moved (u := U) (U := U.calling g mk a) (Vm.Alike.refl U.vm) zK, zD⟩, va_recv hKc hPc (ci := 10) (q0 := 0) rfl rfl, fun U hU hW => ⟨rfl, by rw [hU], va_P.he hU.symm hPc, va_K.moved hW.alike hKc, hDc.weaken (fun _ _ _ _ => trivial)⟩⟩ rfl rfl hl.1 rfl (lv_room (Nat.le_of_ble_eq_true rfl)) d_WA_localType_2 ⟨(Nat.zero_le _), (Nat.zero_le _)⟩) hS (fun q _ h => hFc q h) hFc (fun r1 u t H1 locs ht hvm hw hB hz1 hk1 hS => ?_)
  try dsimp only at hw
  have er1 := hw
  try clear hw
  have tr1 : r1.toInt = (gwat (gwaf p0.toNatClampNeg).toNatClampNeg).toInt := by rw [er1]
  obtain ⟨hP1, hK1, hD1⟩ := hB
  replace hP1 := va_P.he ht hP1
  obtain ⟨hP, hD⟩ := va_join (wr := [(ac, .inr (3, [.ref ac_firsts_r, .ref clk, .ref clt, .int ac_length, .ref ac_ops_r, .ref ac_values_r, .ref ac_partners_r, .ref ac_elses_r, .int ac_labelCount, .ref ac_labels_r])), (wap, .inl (cwap, 160, .inl gwap)), (clk, .inl (cclk, 30, .inl gclk)), (clt, .inl (cclt, 1800, .inl gclt))]) (w1 := (wz_16 h0 lh0 waf cwaf gwaf wat cwat gwat)) hP hD [0, 2, 3] [1, 4, 5, 6] rfl rfl (by decide) (by decide) hk1 hFc hP1 hD1
  clear hPc hDc hKc hFc hz1 hk1 hP1 hK1 hD1
  rename Heap => H
  have hP : va_P (dC, dI) cls (wz_33 ac ac_firsts_r clk clt ac_length ac_ops_r ac_values_r ac_partners_r ac_elses_r ac_labelCount ac_labels_r wap cwap gwap clk cclk gclk clt cclt gclt h0 lh0 waf cwaf gwaf wat cwat gwat) H := hP
  have hD : va_D A (wz_33 ac ac_firsts_r clk clt ac_length ac_ops_r ac_values_r ac_partners_r ac_elses_r ac_labelCount ac_labels_r wap cwap gwap clk cclk gclk clt cclt gclt h0 lh0 waf cwaf gwaf wat cwat gwat) := hD
  refine lv_istore_n (lv' := [(3, .int r1), (0, .ref h0), (1, .int p0), (2, .int p1)]) hx hb d_WA_localType_5 rfl hl (by decide) rfl (fun ls hl => ?_)
  refine lv_iload_n hx hb d_WA_localType_6 rfl (lv_at hl 3 rfl) ?_
  refine lv_if_lt (tgt := 25) hx hb d_WA_localType_7 (by decide) (fun c7 => ?_) (fun c7 => ?_)
  · have q7 := ltI c7
    refine lv_iconst (v := 0) hx hb d_WA_localType_25 (by decide) ?_
    have hP9 := hP.sb (wq := (wz_32 h0 lh0 ac ac_firsts_r clk clt ac_length ac_ops_r ac_values_r ac_partners_r ac_elses_r ac_labelCount ac_labels_r waf cwaf gwaf wat cwat gwat wap cwap gwap clk cclk gclk clt cclt gclt)) [4, 0, 5, 6, 1, 2, 3] rfl
    have hD9 := hD.sb (wq := (wz_32 h0 lh0 ac ac_firsts_r clk clt ac_length ac_ops_r ac_values_r ac_partners_r ac_elses_r ac_labelCount ac_labels_r waf cwaf gwaf wat cwat gwat wap cwap gwap clk cclk gclk clt cclt gclt)) [4, 0, 5, 6, 1, 2, 3] (by decide) rfl
    exact W.iret (v := 0) hx hb hr (fun t ht hW => ⟨⟨0, (), rfl, (by (try dsimp only); (first | (apply Int.le_antisymm <;> omega) | omega)), va_P.he ht.symm hP9, va_K.moved hW.alike hK, hD9⟩, hS.F ht⟩) hS.2.2 d_WA_localType_26
  · have q7 := nltI c7
    refine lv_iload_n hx hb d_WA_localType_10 rfl (lv_at hl 3 rfl) ?_
    refine lv_iload_n hx hb d_WA_localType_11 rfl (lv_at hl 0 rfl) ?_
    refine lv_aload_n hx hb d_WA_localType_12 rfl (lv_at hl 1 rfl) ?_
    refine va_get (D := (dC, dI)) (ci := 10) (v := .ref ac) (C := R_WA) (T := F_WA) (N := 21) hx hb hts i_WA hown hK hP 4 rfl rfl 1 (by decide) (hts _ kF_WA_23) (fun _ h9 => h9) ph0_1 d_WA_localType_13 ?_
    refine va_get (D := (dC, dI)) (ci := 3) (v := .ref clk) (C := R_CD) (T := F_CD) (N := 10) hx hb hts i_CD hown hK hP 0 rfl rfl 1 (by decide) (hts _ kF_WA_106) (fun _ h9 => h9) rfl d_WA_localType_16 ?_
    refine lv_iload_n hx hb d_WA_localType_19 rfl (lv_at hl 2 rfl) ?_
    have g20 : vp_in p0 30 := vp_in_iff.mpr ⟨by (first | (apply Int.le_antisymm <;> omega) | omega), by (first | (apply Int.le_antisymm <;> omega) | omega)⟩
    refine va_iald hx hb hK hP 2 3 rfl rfl g20 d_WA_localType_20 ?_
    refine lv_topi (fun x2 ex2 => ?_)
    have tx2 : x2.toInt = (gclk p0.toNatClampNeg).toInt := by rw [ex2]
    refine lv_iadd hx hb d_WA_localType_21 ?_
    refine lv_topi (fun x3 ex3 => ?_)
    have tx3 : x3.toInt = r1.toInt + x2.toInt := by have z := i32_add ex3 (by (first | (apply Int.le_antisymm <;> omega) | omega)) (by (first | (apply Int.le_antisymm <;> omega) | omega)); first | exact z | (first | (apply Int.le_antisymm <;> omega) | omega)
    refine lv_icmp_lt (tgt := 27) hx hb d_WA_localType_22 (by decide) (fun c22 => ?_) (fun c22 => ?_)
    · have q22 := ltI c22
      refine lv_iload_n hx hb d_WA_localType_27 rfl (lv_at hl 3 rfl) ?_
      refine lv_iload_n hx hb d_WA_localType_28 rfl (lv_at hl 0 rfl) ?_
      refine lv_icmp_ge (tgt := 51) hx hb d_WA_localType_29 (by decide) (fun c29 => ?_) (fun c29 => ?_)
      · have q29 := leI c29
        refine lv_aload_n hx hb d_WA_localType_51 rfl (lv_at hl 1 rfl) ?_
        refine va_get (D := (dC, dI)) (ci := 10) (v := .ref ac) (C := R_WA) (T := F_WA) (N := 21) hx hb hts i_WA hown hK hP 4 rfl rfl 1 (by decide) (hts _ kF_WA_23) (fun _ h9 => h9) ph0_1 d_WA_localType_52 ?_
        refine va_get (D := (dC, dI)) (ci := 3) (v := .ref clt) (C := R_CD) (T := F_CD) (N := 10) hx hb hts i_CD hown hK hP 0 rfl rfl 2 (by decide) (hts _ kF_WA_109) (fun _ h9 => h9) rfl d_WA_localType_55 ?_
        refine lv_iload_n hx hb d_WA_localType_58 rfl (lv_at hl 2 rfl) ?_
        refine lv_bipush (v := 60) hx hb d_WA_localType_59 (by decide) ?_
        refine lv_imul hx hb d_WA_localType_61 ?_
        refine lv_topi (fun x4 ex4 => ?_)
        have tx4 : x4.toInt = p0.toInt * 60 := by have z := i32_mul ex4 (by rw [k60]; (first | (apply Int.le_antisymm <;> omega) | omega)) (by rw [k60]; (first | (apply Int.le_antisymm <;> omega) | omega)); rw [k60] at z; exact z
        refine lv_iload_n hx hb d_WA_localType_62 rfl (lv_at hl 3 rfl) ?_
        refine lv_iadd hx hb d_WA_localType_63 ?_
        refine lv_topi (fun x5 ex5 => ?_)
        have tx5 : x5.toInt = x4.toInt + p1.toInt := by have z := i32_add ex5 (by (first | (apply Int.le_antisymm <;> omega) | omega)) (by (first | (apply Int.le_antisymm <;> omega) | omega)); first | exact z | (first | (apply Int.le_antisymm <;> omega) | omega)
        refine lv_iload_n hx hb d_WA_localType_64 rfl (lv_at hl 0 rfl) ?_
        refine lv_isub hx hb d_WA_localType_65 ?_
        refine lv_topi (fun x6 ex6 => ?_)
        have tx6 : x6.toInt = x5.toInt - r1.toInt := by have z := i32_sub ex6 (by (first | (apply Int.le_antisymm <;> omega) | omega)) (by (first | (apply Int.le_antisymm <;> omega) | omega)); first | exact z | (first | (apply Int.le_antisymm <;> omega) | omega)
        have g66 : vp_in x6 1800 := vp_in_iff.mpr ⟨by (first | (apply Int.le_antisymm <;> omega) | omega), by (first | (apply Int.le_antisymm <;> omega) | omega)⟩
        refine va_iald hx hb hK hP 3 4 rfl rfl g66 d_WA_localType_66 ?_
        refine lv_topi (fun x7 ex7 => ?_)
        have hP9 := hP.sb (wq := (wz_32 h0 lh0 ac ac_firsts_r clk clt ac_length ac_ops_r ac_values_r ac_partners_r ac_elses_r ac_labelCount ac_labels_r waf cwaf gwaf wat cwat gwat wap cwap gwap clk cclk gclk clt cclt gclt)) [4, 0, 5, 6, 1, 2, 3] rfl
        have hD9 := hD.sb (wq := (wz_32 h0 lh0 ac ac_firsts_r clk clt ac_length ac_ops_r ac_values_r ac_partners_r ac_elses_r ac_labelCount ac_labels_r waf cwaf gwaf wat cwat gwat wap cwap gwap clk cclk gclk clt cclt gclt)) [4, 0, 5, 6, 1, 2, 3] (by decide) rfl
        exact W.iret (v := x7) hx hb hr (fun t ht hW => ⟨⟨x7, (), rfl, (by (try dsimp only); (first | (apply Int.le_antisymm <;> omega) | omega)), va_P.he ht.symm hP9, va_K.moved hW.alike hK, hD9⟩, hS.F ht⟩) hS.2.2 d_WA_localType_67
      · have q29 := nleI c29
        refine lv_aload_n hx hb d_WA_localType_32 rfl (lv_at hl 1 rfl) ?_
        refine va_get (D := (dC, dI)) (ci := 10) (v := .ref wap) (C := R_WA) (T := F_WA) (N := 21) hx hb hts i_WA hown hK hP 4 rfl rfl 4 (by decide) (hts _ kF_WA_31) (fun _ h9 => h9) ph0_4 d_WA_localType_33 ?_
        refine lv_aload_n hx hb d_WA_localType_36 rfl (lv_at hl 1 rfl) ?_
        refine va_get (D := (dC, dI)) (ci := 10) (v := .ref waf) (C := R_WA) (T := F_WA) (N := 21) hx hb hts i_WA hown hK hP 4 rfl rfl 7 (by decide) (hts _ kF_WA_37) (fun _ h9 => h9) ph0_7 d_WA_localType_37 ?_
        refine lv_iload_n hx hb d_WA_localType_40 rfl (lv_at hl 2 rfl) ?_
        have g41 : vp_in p0 30 := vp_in_iff.mpr ⟨by (first | (apply Int.le_antisymm <;> omega) | omega), by (first | (apply Int.le_antisymm <;> omega) | omega)⟩
        refine va_iald hx hb hK hP 5 0 rfl rfl g41 d_WA_localType_41 ?_
        refine lv_topi (fun x8 ex8 => ?_)
        have tx8 : x8.toInt = (gwaf p0.toNatClampNeg).toInt := by rw [ex8]
        refine lv_bipush (v := 8) hx hb d_WA_localType_42 (by decide) ?_
        refine lv_imul hx hb d_WA_localType_44 ?_
        refine lv_topi (fun x9 ex9 => ?_)
        have tx9 : x9.toInt = x8.toInt * 8 := by have z := i32_mul ex9 (by rw [k8]; (first | (apply Int.le_antisymm <;> omega) | omega)) (by rw [k8]; (first | (apply Int.le_antisymm <;> omega) | omega)); rw [k8] at z; exact z
        refine lv_iload_n hx hb d_WA_localType_45 rfl (lv_at hl 3 rfl) ?_
        refine lv_iadd hx hb d_WA_localType_46 ?_
        refine lv_topi (fun x10 ex10 => ?_)
        have tx10 : x10.toInt = x9.toInt + p1.toInt := by have z := i32_add ex10 (by (first | (apply Int.le_antisymm <;> omega) | omega)) (by (first | (apply Int.le_antisymm <;> omega) | omega)); first | exact z | (first | (apply Int.le_antisymm <;> omega) | omega)
        have g47 : vp_in x10 160 := vp_in_iff.mpr ⟨by (first | (apply Int.le_antisymm <;> omega) | omega), by (first | (apply Int.le_antisymm <;> omega) | omega)⟩
        refine va_iald hx hb hK hP 1 2 rfl rfl g47 d_WA_localType_47 ?_
        refine lv_topi (fun x11 ex11 => ?_)
        refine lv_goto (tgt := 67) hx hb d_WA_localType_48 (by decide) ?_
        have hP9 := hP.sb (wq := (wz_32 h0 lh0 ac ac_firsts_r clk clt ac_length ac_ops_r ac_values_r ac_partners_r ac_elses_r ac_labelCount ac_labels_r waf cwaf gwaf wat cwat gwat wap cwap gwap clk cclk gclk clt cclt gclt)) [4, 0, 5, 6, 1, 2, 3] rfl
        have hD9 := hD.sb (wq := (wz_32 h0 lh0 ac ac_firsts_r clk clt ac_length ac_ops_r ac_values_r ac_partners_r ac_elses_r ac_labelCount ac_labels_r waf cwaf gwaf wat cwat gwat wap cwap gwap clk cclk gclk clt cclt gclt)) [4, 0, 5, 6, 1, 2, 3] (by decide) rfl
        exact W.iret (v := x11) hx hb hr (fun t ht hW => ⟨⟨x11, (), rfl, (by (try dsimp only); (first | (apply Int.le_antisymm <;> omega) | omega)), va_P.he ht.symm hP9, va_K.moved hW.alike hK, hD9⟩, hS.F ht⟩) hS.2.2 d_WA_localType_67
    · have q22 := nltI c22
      refine lv_iconst (v := 0) hx hb d_WA_localType_25 (by decide) ?_
      have hP9 := hP.sb (wq := (wz_32 h0 lh0 ac ac_firsts_r clk clt ac_length ac_ops_r ac_values_r ac_partners_r ac_elses_r ac_labelCount ac_labels_r waf cwaf gwaf wat cwat gwat wap cwap gwap clk cclk gclk clt cclt gclt)) [4, 0, 5, 6, 1, 2, 3] rfl
      have hD9 := hD.sb (wq := (wz_32 h0 lh0 ac ac_firsts_r clk clt ac_length ac_ops_r ac_values_r ac_partners_r ac_elses_r ac_labelCount ac_labels_r waf cwaf gwaf wat cwat gwat wap cwap gwap clk cclk gclk clt cclt gclt)) [4, 0, 5, 6, 1, 2, 3] (by decide) rfl
      exact W.iret (v := 0) hx hb hr (fun t ht hW => ⟨⟨0, (), rfl, (by (try dsimp only); (first | (apply Int.le_antisymm <;> omega) | omega)), va_P.he ht.symm hP9, va_K.moved hW.alike hK, hD9⟩, hS.F ht⟩) hS.2.2 d_WA_localType_26
abbrev b_MA_performVariable : ByteArray := prog_6_method_14_code
def y_MA_performVariable : MethodName := ⟨R_MA, "performVariable", "(II)V"⟩
abbrev w_MA_performVariable : List Cond := .code y_MA_performVariable b_MA_performVariable 9 none :: lw_g
theorem kC_MA_performVariable : Cond.code y_MA_performVariable b_MA_performVariable 9 none ∈ lw_g := in_c7 155 rfl rfl
theorem d_MA_performVariable_0 : decode b_MA_performVariable 0 = .ok (.aload_n 0, 1) := bz_c42 (by decide +kernel)
theorem d_MA_performVariable_1 : decode b_MA_performVariable 1 = .ok (.getfield 80, 3) := bz_c180 (by decide +kernel)
theorem d_MA_performVariable_4 : decode b_MA_performVariable 4 = .ok (.ifCond .le 19, 3) := bz_c158 (by decide +kernel)
theorem d_MA_performVariable_7 : decode b_MA_performVariable 7 = .ok (.aload_n 0, 1) := bz_c42 (by decide +kernel)
theorem d_MA_performVariable_8 : decode b_MA_performVariable 8 = .ok (.getfield 25, 3) := bz_c180 (by decide +kernel)
theorem d_MA_performVariable_11 : decode b_MA_performVariable 11 = .ok (.aload_n 0, 1) := bz_c42 (by decide +kernel)
theorem d_MA_performVariable_12 : decode b_MA_performVariable 12 = .ok (.getfield 80, 3) := bz_c180 (by decide +kernel)
theorem d_MA_performVariable_15 : decode b_MA_performVariable 15 = .ok (.iconst 1, 1) := bz_c4 (by decide +kernel)
theorem d_MA_performVariable_16 : decode b_MA_performVariable 16 = .ok (.isub, 1) := bz_c100 (by decide +kernel)
theorem d_MA_performVariable_17 : decode b_MA_performVariable 17 = .ok (.iaload, 1) := bz_c46 (by decide +kernel)
theorem d_MA_performVariable_18 : decode b_MA_performVariable 18 = .ok (.iload_n 2, 1) := bz_c28 (by decide +kernel)
theorem d_MA_performVariable_19 : decode b_MA_performVariable 19 = .ok (.iadd, 1) := bz_c96 (by decide +kernel)
theorem d_MA_performVariable_20 : decode b_MA_performVariable 20 = .ok (.goto 4, 3) := bz_c167 (by decide +kernel)
theorem d_MA_performVariable_23 : decode b_MA_performVariable 23 = .ok (.iconst 0, 1) := bz_c3 (by decide +kernel)
theorem d_MA_performVariable_24 : decode b_MA_performVariable 24 = .ok (.istore_n 3, 1) := bz_c62 (by decide +kernel)
theorem d_MA_performVariable_25 : decode b_MA_performVariable 25 = .ok (.iload_n 1, 1) := bz_c27 (by decide +kernel)
theorem d_MA_performVariable_26 : decode b_MA_performVariable 26 = .ok (.tableswitch 168 26 35 #[54, 62, 168, 168, 168, 168, 109, 122, 135, 155], 54) := by decide +kernel
theorem d_MA_performVariable_80 : decode b_MA_performVariable 80 = .ok (.aload_n 0, 1) := bz_c42 (by decide +kernel)
theorem d_MA_performVariable_81 : decode b_MA_performVariable 81 = .ok (.invokevirtual 142, 3) := bz_c182 (by decide +kernel)
theorem d_MA_performVariable_84 : decode b_MA_performVariable 84 = .ok (.pop2, 1) := by decide +kernel
theorem d_MA_performVariable_85 : decode b_MA_performVariable 85 = .ok (.goto 119, 3) := bz_c167 (by decide +kernel)
theorem d_MA_performVariable_88 : decode b_MA_performVariable 88 = .ok (.aload_n 0, 1) := bz_c42 (by decide +kernel)
theorem d_MA_performVariable_89 : decode b_MA_performVariable 89 = .ok (.invokevirtual 142, 3) := bz_c182 (by decide +kernel)
theorem d_MA_performVariable_92 : decode b_MA_performVariable 92 = .ok (.lconst 0, 1) := bz_c9 (by decide +kernel)
theorem d_MA_performVariable_93 : decode b_MA_performVariable 93 = .ok (.lcmp, 1) := bz_c148 (by decide +kernel)
theorem d_MA_performVariable_94 : decode b_MA_performVariable 94 = .ok (.ifCond .eq 7, 3) := bz_c153 (by decide +kernel)
theorem d_MA_performVariable_97 : decode b_MA_performVariable 97 = .ok (.iconst 1, 1) := bz_c4 (by decide +kernel)
theorem d_MA_performVariable_98 : decode b_MA_performVariable 98 = .ok (.goto 4, 3) := bz_c167 (by decide +kernel)
theorem d_MA_performVariable_101 : decode b_MA_performVariable 101 = .ok (.iconst 0, 1) := bz_c3 (by decide +kernel)
theorem d_MA_performVariable_102 : decode b_MA_performVariable 102 = .ok (.istore 4, 2) := bz_c54 (by decide +kernel)
theorem d_MA_performVariable_104 : decode b_MA_performVariable 104 = .ok (.aload_n 0, 1) := bz_c42 (by decide +kernel)
theorem d_MA_performVariable_105 : decode b_MA_performVariable 105 = .ok (.invokevirtual 142, 3) := bz_c182 (by decide +kernel)
theorem d_MA_performVariable_108 : decode b_MA_performVariable 108 = .ok (.lstore 5, 2) := bz_c55 (by decide +kernel)
theorem d_MA_performVariable_110 : decode b_MA_performVariable 110 = .ok (.aload_n 0, 1) := bz_c42 (by decide +kernel)
theorem d_MA_performVariable_111 : decode b_MA_performVariable 111 = .ok (.invokevirtual 142, 3) := bz_c182 (by decide +kernel)
theorem d_MA_performVariable_114 : decode b_MA_performVariable 114 = .ok (.lstore 7, 2) := bz_c55 (by decide +kernel)
theorem d_MA_performVariable_116 : decode b_MA_performVariable 116 = .ok (.aload_n 0, 1) := bz_c42 (by decide +kernel)
theorem d_MA_performVariable_117 : decode b_MA_performVariable 117 = .ok (.iload 4, 2) := bz_c21 (by decide +kernel)
theorem d_MA_performVariable_119 : decode b_MA_performVariable 119 = .ok (.ifCond .eq 8, 3) := bz_c153 (by decide +kernel)
theorem d_MA_performVariable_122 : decode b_MA_performVariable 122 = .ok (.lload 7, 2) := bz_c22 (by decide +kernel)
theorem d_MA_performVariable_124 : decode b_MA_performVariable 124 = .ok (.goto 5, 3) := bz_c167 (by decide +kernel)
theorem d_MA_performVariable_127 : decode b_MA_performVariable 127 = .ok (.lload 5, 2) := bz_c22 (by decide +kernel)
theorem d_MA_performVariable_129 : decode b_MA_performVariable 129 = .ok (.invokevirtual 94, 3) := bz_c182 (by decide +kernel)
theorem d_MA_performVariable_132 : decode b_MA_performVariable 132 = .ok (.goto 72, 3) := bz_c167 (by decide +kernel)
theorem d_MA_performVariable_135 : decode b_MA_performVariable 135 = .ok (.aload_n 0, 1) := bz_c42 (by decide +kernel)
theorem d_MA_performVariable_136 : decode b_MA_performVariable 136 = .ok (.aload_n 0, 1) := bz_c42 (by decide +kernel)
theorem d_MA_performVariable_137 : decode b_MA_performVariable 137 = .ok (.getfield 18, 3) := bz_c180 (by decide +kernel)
theorem d_MA_performVariable_140 : decode b_MA_performVariable 140 = .ok (.iload_n 3, 1) := bz_c29 (by decide +kernel)
theorem d_MA_performVariable_141 : decode b_MA_performVariable 141 = .ok (.laload, 1) := bz_c47 (by decide +kernel)
theorem d_MA_performVariable_142 : decode b_MA_performVariable 142 = .ok (.invokevirtual 94, 3) := bz_c182 (by decide +kernel)
theorem d_MA_performVariable_145 : decode b_MA_performVariable 145 = .ok (.goto 59, 3) := bz_c167 (by decide +kernel)
theorem d_MA_performVariable_148 : decode b_MA_performVariable 148 = .ok (.aload_n 0, 1) := bz_c42 (by decide +kernel)
theorem d_MA_performVariable_149 : decode b_MA_performVariable 149 = .ok (.getfield 18, 3) := bz_c180 (by decide +kernel)
theorem d_MA_performVariable_152 : decode b_MA_performVariable 152 = .ok (.iload_n 3, 1) := bz_c29 (by decide +kernel)
theorem d_MA_performVariable_153 : decode b_MA_performVariable 153 = .ok (.aload_n 0, 1) := bz_c42 (by decide +kernel)
theorem d_MA_performVariable_154 : decode b_MA_performVariable 154 = .ok (.invokevirtual 142, 3) := bz_c182 (by decide +kernel)
theorem d_MA_performVariable_157 : decode b_MA_performVariable 157 = .ok (.lastore, 1) := bz_c80 (by decide +kernel)
theorem d_MA_performVariable_158 : decode b_MA_performVariable 158 = .ok (.goto 46, 3) := bz_c167 (by decide +kernel)
theorem d_MA_performVariable_161 : decode b_MA_performVariable 161 = .ok (.aload_n 0, 1) := bz_c42 (by decide +kernel)
theorem d_MA_performVariable_162 : decode b_MA_performVariable 162 = .ok (.getfield 18, 3) := bz_c180 (by decide +kernel)
theorem d_MA_performVariable_165 : decode b_MA_performVariable 165 = .ok (.iload_n 3, 1) := bz_c29 (by decide +kernel)
theorem d_MA_performVariable_166 : decode b_MA_performVariable 166 = .ok (.aload_n 0, 1) := bz_c42 (by decide +kernel)
theorem d_MA_performVariable_167 : decode b_MA_performVariable 167 = .ok (.getfield 18, 3) := bz_c180 (by decide +kernel)
theorem d_MA_performVariable_170 : decode b_MA_performVariable 170 = .ok (.aload_n 0, 1) := bz_c42 (by decide +kernel)
theorem d_MA_performVariable_171 : decode b_MA_performVariable 171 = .ok (.getfield 77, 3) := bz_c180 (by decide +kernel)
theorem d_MA_performVariable_174 : decode b_MA_performVariable 174 = .ok (.iconst 1, 1) := bz_c4 (by decide +kernel)
theorem d_MA_performVariable_175 : decode b_MA_performVariable 175 = .ok (.isub, 1) := bz_c100 (by decide +kernel)
theorem d_MA_performVariable_176 : decode b_MA_performVariable 176 = .ok (.laload, 1) := bz_c47 (by decide +kernel)
theorem d_MA_performVariable_177 : decode b_MA_performVariable 177 = .ok (.lastore, 1) := bz_c80 (by decide +kernel)
theorem d_MA_performVariable_178 : decode b_MA_performVariable 178 = .ok (.goto 26, 3) := bz_c167 (by decide +kernel)
theorem d_MA_performVariable_181 : decode b_MA_performVariable 181 = .ok (.aload_n 0, 1) := bz_c42 (by decide +kernel)
theorem d_MA_performVariable_182 : decode b_MA_performVariable 182 = .ok (.aload_n 0, 1) := bz_c42 (by decide +kernel)
theorem d_MA_performVariable_183 : decode b_MA_performVariable 183 = .ok (.getfield 9, 3) := bz_c180 (by decide +kernel)
theorem d_MA_performVariable_186 : decode b_MA_performVariable 186 = .ok (.iload_n 2, 1) := bz_c28 (by decide +kernel)
theorem d_MA_performVariable_187 : decode b_MA_performVariable 187 = .ok (.laload, 1) := bz_c47 (by decide +kernel)
theorem d_MA_performVariable_188 : decode b_MA_performVariable 188 = .ok (.invokevirtual 94, 3) := bz_c182 (by decide +kernel)
theorem d_MA_performVariable_191 : decode b_MA_performVariable 191 = .ok (.goto 13, 3) := bz_c167 (by decide +kernel)
theorem d_MA_performVariable_194 : decode b_MA_performVariable 194 = .ok (.aload_n 0, 1) := bz_c42 (by decide +kernel)
theorem d_MA_performVariable_195 : decode b_MA_performVariable 195 = .ok (.getfield 9, 3) := bz_c180 (by decide +kernel)
theorem d_MA_performVariable_198 : decode b_MA_performVariable 198 = .ok (.iload_n 2, 1) := bz_c28 (by decide +kernel)
theorem d_MA_performVariable_199 : decode b_MA_performVariable 199 = .ok (.aload_n 0, 1) := bz_c42 (by decide +kernel)
theorem d_MA_performVariable_200 : decode b_MA_performVariable 200 = .ok (.invokevirtual 142, 3) := bz_c182 (by decide +kernel)
theorem d_MA_performVariable_203 : decode b_MA_performVariable 203 = .ok (.lastore, 1) := bz_c80 (by decide +kernel)
theorem d_MA_performVariable_204 : decode b_MA_performVariable 204 = .ok (.return_, 1) := bz_c177 (by decide +kernel)
theorem kF_MA_9 : Cond.fieldLink R_MA 9 "WaferForge$Machine" "globals" "[J" ∈ lw_g := in_c3 63 rfl rfl
abbrev at_MA_performVariable (dC : Nat → ClassId) (dI : Nat → Nat → Nat) (h0 gl aw ac ce sk fb fs ff fl lb lh : Nat) (csk cgl cfs : ClassId) (h0_pages : Int32) (h0_steps : Int32) (h0_frameCount : Int32) (h0_labelCount : Int32) (h0_at : Int32) (gfs : Nat → Int32) (A : Nat → Prop) (u : (Nat → Int64) × (Nat → Int64) × Int32 × Int32) (t : State) : Prop := match u with | (ggl, gsk, h0_height, h0_reason) => va_P (dC, dI) cls (wz_34 h0 h0_pages h0_steps h0_reason gl aw ac ce sk h0_height fb fs ff fl h0_frameCount lb lh h0_labelCount h0_at sk csk gsk gl cgl ggl fs cfs gfs) t.heap ∧ va_K (dC, dI) cls [(csk, .long), (cgl, .long), (cfs, .int)] t ∧ va_D A (wz_34 h0 h0_pages h0_steps h0_reason gl aw ac ce sk h0_height fb fs ff fl h0_frameCount lb lh h0_labelCount h0_at sk csk gsk gl cgl ggl fs cfs gfs)
set_option maxHeartbeats 4000000 in
set_option maxRecDepth 100000 in
theorem c_MA_performVariable (l : Launch) (dC : Nat → ClassId) (dI : Nat → Nat → Nat) (sz : Nat) (h0 gl aw ac ce sk fb fs ff fl lb lh : Nat) (csk cgl cfs : ClassId) (h0_pages : Int32) (h0_steps : Int32) (h0_reason : Int32) (h0_height : Int32) (h0_frameCount : Int32) (h0_labelCount : Int32) (h0_at : Int32) (gsk : Nat → Int64) (ggl : Nat → Int64) (gfs : Nat → Int32) (nl : Nat → Int) (f : Nat) (h : Int)  (b_h0_reason : 0 ≤ h0_reason.toInt ∧ h0_reason.toInt ≤ 14) (b_h0_height : 0 ≤ h0_height.toInt ∧ h0_height.toInt ≤ 12096) (b_h0_frameCount : 0 ≤ h0_frameCount.toInt ∧ h0_frameCount.toInt ≤ 100) (p0 : Int32) (p1 : Int32)  (hr0 : h0_reason.toInt = 0) (hk1 : 1 ≤ h0_frameCount.toInt) (hH : h0_height.toInt = (gfs (h0_frameCount.toInt - 1).toNat).toInt + nl f + h) (hb0 : 0 ≤ (gfs (h0_frameCount.toInt - 1).toNat).toInt ∧ 0 ≤ nl f ∧ 0 ≤ h) (hv : (p0.toInt = 26 ∨ p0.toInt = 27 ∨ (32 ≤ p0.toInt ∧ p0.toInt ≤ 36)) ∧ (p0.toInt = 26 → 1 ≤ h) ∧ (p0.toInt = 27 → 3 ≤ h) ∧ (32 ≤ p0.toInt ∧ p0.toInt ≤ 34 → 0 ≤ p1.toInt ∧ p1.toInt < nl f) ∧ (p0.toInt = 33 ∨ p0.toInt = 34 ∨ p0.toInt = 36 → 1 ≤ h) ∧ (35 ≤ p0.toInt → 0 ≤ p1.toInt ∧ p1.toInt < 20)) : Met l y_MA_performVariable w_MA_performVariable ({ frames := 1, cells := 0, slots := 0, locals := 22 }) (va_Pc [.ref h0, .int p0, .int p1] (fun U => U.heap.size = sz ∧ va_P (dC, dI) cls (wz_34 h0 h0_pages h0_steps h0_reason gl aw ac ce sk h0_height fb fs ff fl h0_frameCount lb lh h0_labelCount h0_at sk csk gsk gl cgl ggl fs cfs gfs) U.heap ∧ va_K (dC, dI) cls [(csk, .long), (cgl, .long), (cfs, .int)] U ∧ va_D (fun _ => True) (wz_34 h0 h0_pages h0_steps h0_reason gl aw ac ce sk h0_height fb fs ff fl h0_frameCount lb lh h0_labelCount h0_at sk csk gsk gl cgl ggl fs cfs gfs))) (va_Qv (fun (u : (Nat → Int64) × (Nat → Int64) × Int32 × Int32) => match u with | (ggl2, gsk2, h0_height2, h0_reason2) => (0 ≤ h0_height2.toInt ∧ h0_height2.toInt ≤ 12096) ∧ (0 ≤ h0_reason2.toInt ∧ h0_reason2.toInt ≤ 14) ∧ (h0_reason2.toInt = 0 → (p0.toInt = 26 ∨ p0.toInt = 33 ∨ p0.toInt = 36 → h0_height2.toInt = h0_height.toInt - 1) ∧ (p0.toInt = 27 → h0_height2.toInt = h0_height.toInt - 2) ∧ (p0.toInt = 32 ∨ p0.toInt = 35 → h0_height2.toInt = h0_height.toInt + 1) ∧ (p0.toInt = 34 → h0_height2.toInt = h0_height.toInt))) (at_MA_performVariable dC dI h0 gl aw ac ce sk fb fs ff fl lb lh csk cgl cfs h0_pages h0_steps h0_frameCount h0_labelCount h0_at gfs (va_A (wz_34 h0 h0_pages h0_steps h0_reason gl aw ac ce sk h0_height fb fs ff fl h0_frameCount lb lh h0_labelCount h0_at sk csk gsk gl cgl ggl fs cfs gfs) sz)) (va_A (wz_34 h0 h0_pages h0_steps h0_reason gl aw ac ce sk h0_height fb fs ff fl h0_frameCount lb lh h0_labelCount h0_at sk csk gsk gl cgl ggl fs cfs gfs) sz)) 0 0 (va_A (wz_34 h0 h0_pages h0_steps h0_reason gl aw ac ce sk h0_height fb fs ff fl h0_frameCount lb lh h0_labelCount h0_at sk csk gsk gl cgl ggl fs cfs gfs) sz) := by
  refine Met.ofW (cc := b_MA_performVariable) (maxL := 9) (ret := none) (by decide) rfl ?_
  intro p e s m args below meth c s₁ B hml hv
  obtain ⟨rfl, hsz, hP, hK, hD0⟩ := hv
  have hx := B.exec
  have hb := B.bytes
  have hr := B.returns
  have hts0 := atoms_spec (ws := w_MA_performVariable) B.pre
  have hts : ∀ w ∈ lw_g, w.before _ s = true := fun w h => hts0 w (List.mem_cons_of_mem _ h)
  have hown : s.vm.findClass R_MA = some m.cls := findClass_of_methodNamed B.named
  have hlocks := B.notSynchronized
  clear hts0
  subst hsz
  have hD := hD0.self (sz := s.heap.size)
  generalize hAe : va_A (wz_34 h0 h0_pages h0_steps h0_reason gl aw ac ce sk h0_height fb fs ff fl h0_frameCount lb lh h0_labelCount h0_at sk csk gsk gl cgl ggl fs cfs gfs) s.heap.size = A at hD ⊢
  have hA : ∀ q : Nat, s.heap.size ≤ q → A q := fun q h => by rw [← hAe]; exact Or.inr h
  clear hAe
  have hP : va_P (dC, dI) cls (wz_34 h0 h0_pages h0_steps h0_reason gl aw ac ce sk h0_height fb fs ff fl h0_frameCount lb lh h0_labelCount h0_at sk csk gsk gl cgl ggl fs cfs gfs) s.heap := hP
  have hl := lv_entry ([.ref h0, .int p0, .int p1]) (n := 9) (Nat.le_of_ble_eq_true rfl)
  rw [lg_entry_eq]
  generalize (lg_sl ([.ref h0, .int p0, .int p1]) ++ List.replicate (9 - (lg_sl ([.ref h0, .int p0, .int p1])).length) Slot.unset).toArray = ls at hl ⊢
  have hl : lv_has ls 9 [(0, .ref h0), (1, .int p0), (2, .int p1)] := hl
  have k0 : (0 : Int32).toInt = 0 := by decide
  refine w_gen (A := A) hP (fun H locs hP hS => ?_)
  have k1 : (1 : Int32).toInt = 1 := by decide
  have lo_p0 := i32_lo p0
  have hi_p0 := i32_hi p0
  have lo_p1 := i32_lo p1
  have hi_p1 := i32_hi p1
  refine lv_aload_n hx hb d_MA_performVariable_0 rfl (lv_at hl 0 rfl) ?_
  refine va_get (D := (dC, dI)) (ci := 4) (v := .int h0_frameCount) (C := R_MA) (T := F_MA) (N := 18) hx hb hts i_MA hown hK hP 0 rfl rfl 13 (by decide) (hts _ kF_MA_80) (fun _ h9 => h9) rfl d_MA_performVariable_1 ?_
  refine w_cut (pc2 := 24) (σ := Int32) (fun u H locs ls => match u with | j24_s0 => (32 ≤ p0.toInt ∧ p0.toInt ≤ 34 → j24_s0.toInt = (gfs (h0_frameCount.toInt - 1).toNat).toInt + p1.toInt) ∧ va_P (dC, dI) cls (wz_34 h0 h0_pages h0_steps h0_reason gl aw ac ce sk h0_height fb fs ff fl h0_frameCount lb lh h0_labelCount h0_at sk csk gsk gl cgl ggl fs cfs gfs) H ∧ va_D A (wz_34 h0 h0_pages h0_steps h0_reason gl aw ac ce sk h0_height fb fs ff fl h0_frameCount lb lh h0_labelCount h0_at sk csk gsk gl cgl ggl fs cfs gfs) ∧ va_S A s.heap H locs ∧ lv_has ls 9 [(0, .ref h0), (1, .int p0), (2, .int p1)]) (fun u => match u with | j24_s0 => [.int j24_s0]) ?_ (fun jn24 => ?_)
  · intro u H locs ls hI
    obtain ⟨j24_s0, rfl⟩ : ∃ z, z = u := ⟨_, rfl⟩
    obtain ⟨v24, hP, hD, hS, hl⟩ := hI
    refine lv_istore_n (lv' := [(3, .int j24_s0), (0, .ref h0), (1, .int p0), (2, .int p1)]) hx hb d_MA_performVariable_24 rfl hl (by decide) rfl (fun ls hl => ?_)
    refine lv_iload_n hx hb d_MA_performVariable_25 rfl (lv_at hl 2 rfl) ?_
    by_cases g26_80 : p0.toInt = 26
    · have ho26 : tab_off 168 26 35 #[54, 62, 168, 168, 168, 168, 109, 122, 135, 155] p0.toInt = 54 := by rw [g26_80]; rfl
      refine lv_tab (tgt := 80) hx hb d_MA_performVariable_26 (by decide) ho26 (by decide) ?_
      clear ho26
      refine lv_aload_n hx hb d_MA_performVariable_80 rfl (lv_at hl 1 rfl) ?_
      have hPc := hP.sb (wq := (wz_17 h0 h0_pages h0_steps h0_reason gl aw ac ce sk h0_height fb fs ff fl h0_frameCount lb lh h0_labelCount h0_at sk csk gsk)) [0, 1] rfl
      have hDc := hD.sb (wq := (wz_17 h0 h0_pages h0_steps h0_reason gl aw ac ce sk h0_height fb fs ff fl h0_frameCount lb lh h0_labelCount h0_at sk csk gsk)) [0, 1] (by decide) rfl
      have hKc := hK.sb (tyq := [(csk, .long)]) [0] rfl
      have hFc := va_free (wc := (wz_17 h0 h0_pages h0_steps h0_reason gl aw ac ce sk h0_height fb fs ff fl h0_frameCount lb lh h0_labelCount h0_at sk csk gsk)) hD hS hA [0, 1] rfl
      refine va_calll (va_runV (As := []) (rest := []) ⟨hx, hb, hml, hown, hts⟩ (c_MA_pop l dC dI H.size h0 gl aw ac ce sk fb fs ff fl lb lh csk h0_pages h0_steps h0_reason h0_height h0_frameCount h0_labelCount h0_at gsk (b_h0_height)) (cwV 0 hts (gV kM_MA_142 kV_MA_pop kS_MA_pop kI_MA kC_MA_pop) rfl rfl rfl (by decide +kernel) ⟨Nat.le_of_ble_eq_true rfl, Nat.le_of_ble_eq_true rfl⟩) ⟨fun a U g mk z => by obtain ⟨z0, z1, zP, zK, zD⟩ := z; exact ⟨z0, z1, zP, va_K.moved (u := U) (U := U.calling g mk a) (Vm.Alike.refl U.vm) zK, zD⟩, va_recv hKc hPc (ci := 4) (q0 := 0) rfl rfl, fun U hU hW => ⟨rfl, by rw [hU], va_P.he hU.symm hPc, va_K.moved hW.alike hKc, hDc.weaken (fun _ _ _ _ => trivial)⟩⟩ rfl rfl hl.1 rfl (lv_room (Nat.le_of_ble_eq_true rfl)) d_MA_performVariable_81 ⟨(Nat.zero_le _), (Nat.zero_le _)⟩) hS (fun q _ h => hFc q h) hFc (fun r1 u t H1 locs ht hvm hw hB hz1 hk1 hS => ?_)
      obtain ⟨n2, rfl⟩ : ∃ z, z = u := ⟨_, rfl⟩
      try dsimp only at hw
      obtain ⟨bn2, xr1⟩ := hw
      try clear hw
      obtain ⟨hP1, hK1, hD1⟩ := hB
      replace hP1 := va_P.he ht hP1
      obtain ⟨hP, hD⟩ := va_join (wr := [(gl, .inl (cgl, 20, .inr (.inl ggl))), (fs, .inl (cfs, 100, .inl gfs))]) (w1 := (wz_17 h0 h0_pages h0_steps h0_reason gl aw ac ce sk n2 fb fs ff fl h0_frameCount lb lh h0_labelCount h0_at sk csk gsk)) hP hD [0, 1] [2, 3] rfl rfl (by decide) (by decide) hk1 hFc hP1 hD1
      clear hPc hDc hKc hFc hz1 hk1 hP1 hK1 hD1
      rename Heap => H
      have hP : va_P (dC, dI) cls (wz_35 gl cgl ggl fs cfs gfs h0 h0_pages h0_steps h0_reason gl aw ac ce sk n2 fb fs ff fl h0_frameCount lb lh h0_labelCount h0_at sk csk gsk) H := hP
      have hD : va_D A (wz_35 gl cgl ggl fs cfs gfs h0 h0_pages h0_steps h0_reason gl aw ac ce sk n2 fb fs ff fl h0_frameCount lb lh h0_labelCount h0_at sk csk gsk) := hD
      refine lv_pop2_2 hx hb d_MA_performVariable_84 rfl ?_
      refine lv_goto (tgt := 204) hx hb d_MA_performVariable_85 (by decide) ?_
      have hP9 := hP.sb (wq := (wz_34 h0 h0_pages h0_steps h0_reason gl aw ac ce sk n2 fb fs ff fl h0_frameCount lb lh h0_labelCount h0_at sk csk gsk gl cgl ggl fs cfs gfs)) [2, 3, 0, 1] rfl
      have hD9 := hD.sb (wq := (wz_34 h0 h0_pages h0_steps h0_reason gl aw ac ce sk n2 fb fs ff fl h0_frameCount lb lh h0_labelCount h0_at sk csk gsk gl cgl ggl fs cfs gfs)) [2, 3, 0, 1] (by decide) rfl
      exact W.vret hx hb hr (fun t ht hW => ⟨⟨(ggl, gsk, n2, h0_reason), rfl, ⟨bn2, b_h0_reason, by (try dsimp only); (first | (apply Int.le_antisymm <;> omega) | omega)⟩, va_P.he ht.symm hP9, va_K.moved hW.alike hK, hD9⟩, hS.F ht⟩) hS.2.2 d_MA_performVariable_204
    · skip
      by_cases g26_88 : p0.toInt = 27
      · have ho26 : tab_off 168 26 35 #[54, 62, 168, 168, 168, 168, 109, 122, 135, 155] p0.toInt = 62 := by rw [g26_88]; rfl
        refine lv_tab (tgt := 88) hx hb d_MA_performVariable_26 (by decide) ho26 (by decide) ?_
        clear ho26
        refine lv_aload_n hx hb d_MA_performVariable_88 rfl (lv_at hl 1 rfl) ?_
        have hPc := hP.sb (wq := (wz_17 h0 h0_pages h0_steps h0_reason gl aw ac ce sk h0_height fb fs ff fl h0_frameCount lb lh h0_labelCount h0_at sk csk gsk)) [0, 1] rfl
        have hDc := hD.sb (wq := (wz_17 h0 h0_pages h0_steps h0_reason gl aw ac ce sk h0_height fb fs ff fl h0_frameCount lb lh h0_labelCount h0_at sk csk gsk)) [0, 1] (by decide) rfl
        have hKc := hK.sb (tyq := [(csk, .long)]) [0] rfl
        have hFc := va_free (wc := (wz_17 h0 h0_pages h0_steps h0_reason gl aw ac ce sk h0_height fb fs ff fl h0_frameCount lb lh h0_labelCount h0_at sk csk gsk)) hD hS hA [0, 1] rfl
        refine va_calll (va_runV (As := []) (rest := []) ⟨hx, hb, hml, hown, hts⟩ (c_MA_pop l dC dI H.size h0 gl aw ac ce sk fb fs ff fl lb lh csk h0_pages h0_steps h0_reason h0_height h0_frameCount h0_labelCount h0_at gsk (b_h0_height)) (cwV 0 hts (gV kM_MA_142 kV_MA_pop kS_MA_pop kI_MA kC_MA_pop) rfl rfl rfl (by decide +kernel) ⟨Nat.le_of_ble_eq_true rfl, Nat.le_of_ble_eq_true rfl⟩) ⟨fun a U g mk z => by obtain ⟨z0, z1, zP, zK, zD⟩ := z; exact ⟨z0, z1, zP, va_K.moved (u := U) (U := U.calling g mk a) (Vm.Alike.refl U.vm) zK, zD⟩, va_recv hKc hPc (ci := 4) (q0 := 0) rfl rfl, fun U hU hW => ⟨rfl, by rw [hU], va_P.he hU.symm hPc, va_K.moved hW.alike hKc, hDc.weaken (fun _ _ _ _ => trivial)⟩⟩ rfl rfl hl.1 rfl (lv_room (Nat.le_of_ble_eq_true rfl)) d_MA_performVariable_89 ⟨(Nat.zero_le _), (Nat.zero_le _)⟩) hS (fun q _ h => hFc q h) hFc (fun r3 u t H1 locs ht hvm hw hB hz1 hk1 hS => ?_)
        obtain ⟨n4, rfl⟩ : ∃ z, z = u := ⟨_, rfl⟩
        try dsimp only at hw
        obtain ⟨bn4, xr3⟩ := hw
        try clear hw
        obtain ⟨hP1, hK1, hD1⟩ := hB
        replace hP1 := va_P.he ht hP1
        obtain ⟨hP, hD⟩ := va_join (wr := [(gl, .inl (cgl, 20, .inr (.inl ggl))), (fs, .inl (cfs, 100, .inl gfs))]) (w1 := (wz_17 h0 h0_pages h0_steps h0_reason gl aw ac ce sk n4 fb fs ff fl h0_frameCount lb lh h0_labelCount h0_at sk csk gsk)) hP hD [0, 1] [2, 3] rfl rfl (by decide) (by decide) hk1 hFc hP1 hD1
        clear hPc hDc hKc hFc hz1 hk1 hP1 hK1 hD1
        rename Heap => H
        have hP : va_P (dC, dI) cls (wz_35 gl cgl ggl fs cfs gfs h0 h0_pages h0_steps h0_reason gl aw ac ce sk n4 fb fs ff fl h0_frameCount lb lh h0_labelCount h0_at sk csk gsk) H := hP
        have hD : va_D A (wz_35 gl cgl ggl fs cfs gfs h0 h0_pages h0_steps h0_reason gl aw ac ce sk n4 fb fs ff fl h0_frameCount lb lh h0_labelCount h0_at sk csk gsk) := hD
        refine lv_lconst (v := 0) hx hb d_MA_performVariable_92 (by decide) ?_
        have kl0 : (0 : Int64).toInt = 0 := by decide
        refine W.lcmp hx hb d_MA_performVariable_93 ?_
        refine lv_topi (fun x5 ex5 => ?_)
        have tx5 := lgc ex5
        refine w_cut (pc2 := 102) (σ := Int32) (fun u H locs ls => match u with | j102_s0 => (j102_s0 = 0 ∨ j102_s0 = 1) ∧ va_P (dC, dI) cls (wz_35 gl cgl ggl fs cfs gfs h0 h0_pages h0_steps h0_reason gl aw ac ce sk n4 fb fs ff fl h0_frameCount lb lh h0_labelCount h0_at sk csk gsk) H ∧ va_D A (wz_35 gl cgl ggl fs cfs gfs h0 h0_pages h0_steps h0_reason gl aw ac ce sk n4 fb fs ff fl h0_frameCount lb lh h0_labelCount h0_at sk csk gsk) ∧ va_S A s.heap H locs ∧ lv_has ls 9 [(0, .ref h0)]) (fun u => match u with | j102_s0 => [.int j102_s0]) ?_ (fun jn102 => ?_)
        · intro u H locs ls hI
          obtain ⟨j102_s0, rfl⟩ : ∃ z, z = u := ⟨_, rfl⟩
          obtain ⟨b_j102_s0, hP, hD, hS, hl⟩ := hI
          have tj102_s0 := b01 b_j102_s0
          refine lv_istore (lv' := [(4, .int j102_s0), (0, .ref h0)]) hx hb d_MA_performVariable_102 hl (by decide) rfl (fun ls hl => ?_)
          refine lv_aload_n hx hb d_MA_performVariable_104 rfl (lv_at hl 1 rfl) ?_
          have hPc := hP.sb (wq := (wz_17 h0 h0_pages h0_steps h0_reason gl aw ac ce sk n4 fb fs ff fl h0_frameCount lb lh h0_labelCount h0_at sk csk gsk)) [2, 3] rfl
          have hDc := hD.sb (wq := (wz_17 h0 h0_pages h0_steps h0_reason gl aw ac ce sk n4 fb fs ff fl h0_frameCount lb lh h0_labelCount h0_at sk csk gsk)) [2, 3] (by decide) rfl
          have hKc := hK.sb (tyq := [(csk, .long)]) [0] rfl
          have hFc := va_free (wc := (wz_17 h0 h0_pages h0_steps h0_reason gl aw ac ce sk n4 fb fs ff fl h0_frameCount lb lh h0_labelCount h0_at sk csk gsk)) hD hS hA [2, 3] rfl
          refine va_calll (va_runV (As := []) (rest := []) ⟨hx, hb, hml, hown, hts⟩ (c_MA_pop l dC dI H.size h0 gl aw ac ce sk fb fs ff fl lb lh csk h0_pages h0_steps h0_reason n4 h0_frameCount h0_labelCount h0_at gsk (bn4)) (cwV 0 hts (gV kM_MA_142 kV_MA_pop kS_MA_pop kI_MA kC_MA_pop) rfl rfl rfl (by decide +kernel) ⟨Nat.le_of_ble_eq_true rfl, Nat.le_of_ble_eq_true rfl⟩) ⟨fun a U g mk z => by obtain ⟨z0, z1, zP, zK, zD⟩ := z; exact ⟨z0, z1, zP, va_K.moved (u := U) (U := U.calling g mk a) (Vm.Alike.refl U.vm) zK, zD⟩, va_recv hKc hPc (ci := 4) (q0 := 0) rfl rfl, fun U hU hW => ⟨rfl, by rw [hU], va_P.he hU.symm hPc, va_K.moved hW.alike hKc, hDc.weaken (fun _ _ _ _ => trivial)⟩⟩ rfl rfl hl.1 rfl (lv_room (Nat.le_of_ble_eq_true rfl)) d_MA_performVariable_105 ⟨(Nat.zero_le _), (Nat.zero_le _)⟩) hS (fun q _ h => hFc q h) hFc (fun r6 u t H1 locs ht hvm hw hB hz1 hk1 hS => ?_)
          obtain ⟨n7, rfl⟩ : ∃ z, z = u := ⟨_, rfl⟩
          try dsimp only at hw
          obtain ⟨bn7, xr6⟩ := hw
          try clear hw
          obtain ⟨hP1, hK1, hD1⟩ := hB
          replace hP1 := va_P.he ht hP1
          obtain ⟨hP, hD⟩ := va_join (wr := [(gl, .inl (cgl, 20, .inr (.inl ggl))), (fs, .inl (cfs, 100, .inl gfs))]) (w1 := (wz_17 h0 h0_pages h0_steps h0_reason gl aw ac ce sk n7 fb fs ff fl h0_frameCount lb lh h0_labelCount h0_at sk csk gsk)) hP hD [2, 3] [0, 1] rfl rfl (by decide) (by decide) hk1 hFc hP1 hD1
          clear hPc hDc hKc hFc hz1 hk1 hP1 hK1 hD1
          rename Heap => H
          have hP : va_P (dC, dI) cls (wz_35 gl cgl ggl fs cfs gfs h0 h0_pages h0_steps h0_reason gl aw ac ce sk n7 fb fs ff fl h0_frameCount lb lh h0_labelCount h0_at sk csk gsk) H := hP
          have hD : va_D A (wz_35 gl cgl ggl fs cfs gfs h0 h0_pages h0_steps h0_reason gl aw ac ce sk n7 fb fs ff fl h0_frameCount lb lh h0_labelCount h0_at sk csk gsk) := hD
          refine lv_lstore (lv' := [(5, .long r6), (4, .int j102_s0), (0, .ref h0)]) hx hb d_MA_performVariable_108 hl (by decide) rfl (fun ls hl => ?_)
          refine lv_aload_n hx hb d_MA_performVariable_110 rfl (lv_at hl 2 rfl) ?_
          have hPc := hP.sb (wq := (wz_17 h0 h0_pages h0_steps h0_reason gl aw ac ce sk n7 fb fs ff fl h0_frameCount lb lh h0_labelCount h0_at sk csk gsk)) [2, 3] rfl
          have hDc := hD.sb (wq := (wz_17 h0 h0_pages h0_steps h0_reason gl aw ac ce sk n7 fb fs ff fl h0_frameCount lb lh h0_labelCount h0_at sk csk gsk)) [2, 3] (by decide) rfl
          have hKc := hK.sb (tyq := [(csk, .long)]) [0] rfl
          have hFc := va_free (wc := (wz_17 h0 h0_pages h0_steps h0_reason gl aw ac ce sk n7 fb fs ff fl h0_frameCount lb lh h0_labelCount h0_at sk csk gsk)) hD hS hA [2, 3] rfl
          refine va_calll (va_runV (As := []) (rest := []) ⟨hx, hb, hml, hown, hts⟩ (c_MA_pop l dC dI H.size h0 gl aw ac ce sk fb fs ff fl lb lh csk h0_pages h0_steps h0_reason n7 h0_frameCount h0_labelCount h0_at gsk (bn7)) (cwV 0 hts (gV kM_MA_142 kV_MA_pop kS_MA_pop kI_MA kC_MA_pop) rfl rfl rfl (by decide +kernel) ⟨Nat.le_of_ble_eq_true rfl, Nat.le_of_ble_eq_true rfl⟩) ⟨fun a U g mk z => by obtain ⟨z0, z1, zP, zK, zD⟩ := z; exact ⟨z0, z1, zP, va_K.moved (u := U) (U := U.calling g mk a) (Vm.Alike.refl U.vm) zK, zD⟩, va_recv hKc hPc (ci := 4) (q0 := 0) rfl rfl, fun U hU hW => ⟨rfl, by rw [hU], va_P.he hU.symm hPc, va_K.moved hW.alike hKc, hDc.weaken (fun _ _ _ _ => trivial)⟩⟩ rfl rfl hl.1 rfl (lv_room (Nat.le_of_ble_eq_true rfl)) d_MA_performVariable_111 ⟨(Nat.zero_le _), (Nat.zero_le _)⟩) hS (fun q _ h => hFc q h) hFc (fun r8 u t H1 locs ht hvm hw hB hz1 hk1 hS => ?_)
          obtain ⟨n9, rfl⟩ : ∃ z, z = u := ⟨_, rfl⟩
          try dsimp only at hw
          obtain ⟨bn9, xr8⟩ := hw
          try clear hw
          obtain ⟨hP1, hK1, hD1⟩ := hB
          replace hP1 := va_P.he ht hP1
          obtain ⟨hP, hD⟩ := va_join (wr := [(gl, .inl (cgl, 20, .inr (.inl ggl))), (fs, .inl (cfs, 100, .inl gfs))]) (w1 := (wz_17 h0 h0_pages h0_steps h0_reason gl aw ac ce sk n9 fb fs ff fl h0_frameCount lb lh h0_labelCount h0_at sk csk gsk)) hP hD [2, 3] [0, 1] rfl rfl (by decide) (by decide) hk1 hFc hP1 hD1
          clear hPc hDc hKc hFc hz1 hk1 hP1 hK1 hD1
          rename Heap => H
          have hP : va_P (dC, dI) cls (wz_35 gl cgl ggl fs cfs gfs h0 h0_pages h0_steps h0_reason gl aw ac ce sk n9 fb fs ff fl h0_frameCount lb lh h0_labelCount h0_at sk csk gsk) H := hP
          have hD : va_D A (wz_35 gl cgl ggl fs cfs gfs h0 h0_pages h0_steps h0_reason gl aw ac ce sk n9 fb fs ff fl h0_frameCount lb lh h0_labelCount h0_at sk csk gsk) := hD
          refine lv_lstore (lv' := [(7, .long r8), (5, .long r6), (4, .int j102_s0), (0, .ref h0)]) hx hb d_MA_performVariable_114 hl (by decide) rfl (fun ls hl => ?_)
          refine lv_aload_n hx hb d_MA_performVariable_116 rfl (lv_at hl 3 rfl) ?_
          refine lv_iload hx hb d_MA_performVariable_117 (lv_at hl 2 rfl) ?_
          refine w_cut (pc2 := 129) (σ := Int64) (fun u H locs ls => match u with | j129_s0 => va_P (dC, dI) cls (wz_35 gl cgl ggl fs cfs gfs h0 h0_pages h0_steps h0_reason gl aw ac ce sk n9 fb fs ff fl h0_frameCount lb lh h0_labelCount h0_at sk csk gsk) H ∧ va_D A (wz_35 gl cgl ggl fs cfs gfs h0 h0_pages h0_steps h0_reason gl aw ac ce sk n9 fb fs ff fl h0_frameCount lb lh h0_labelCount h0_at sk csk gsk) ∧ va_S A s.heap H locs ∧ lv_has ls 9 []) (fun u => match u with | j129_s0 => [.long j129_s0, .ref h0]) ?_ (fun jn129 => ?_)
          · intro u H locs ls hI
            obtain ⟨j129_s0, rfl⟩ : ∃ z, z = u := ⟨_, rfl⟩
            obtain ⟨hP, hD, hS, hl⟩ := hI
            have hPc := hP.sb (wq := (wz_17 h0 h0_pages h0_steps h0_reason gl aw ac ce sk n9 fb fs ff fl h0_frameCount lb lh h0_labelCount h0_at sk csk gsk)) [2, 3] rfl
            have hDc := hD.sb (wq := (wz_17 h0 h0_pages h0_steps h0_reason gl aw ac ce sk n9 fb fs ff fl h0_frameCount lb lh h0_labelCount h0_at sk csk gsk)) [2, 3] (by decide) rfl
            have hKc := hK.sb (tyq := [(csk, .long)]) [0] rfl
            have hFc := va_free (wc := (wz_17 h0 h0_pages h0_steps h0_reason gl aw ac ce sk n9 fb fs ff fl h0_frameCount lb lh h0_labelCount h0_at sk csk gsk)) hD hS hA [2, 3] rfl
            refine va_callv (va_runV (As := [.long j129_s0]) (rest := []) ⟨hx, hb, hml, hown, hts⟩ (c_MA_push l dC dI H.size h0 gl aw ac ce sk fb fs ff fl lb lh csk h0_pages h0_steps h0_reason n9 h0_frameCount h0_labelCount h0_at gsk (b_h0_reason) (bn9) j129_s0) (cwV 1 hts (gV kM_MA_94 kV_MA_push kS_MA_push kI_MA kC_MA_push) rfl rfl rfl (by decide +kernel) ⟨Nat.le_of_ble_eq_true rfl, Nat.le_of_ble_eq_true rfl⟩) ⟨fun a U g mk z => by obtain ⟨z0, z1, zP, zK, zD⟩ := z; exact ⟨z0, z1, zP, va_K.moved (u := U) (U := U.calling g mk a) (Vm.Alike.refl U.vm) zK, zD⟩, va_recv hKc hPc (ci := 4) (q0 := 0) rfl rfl, fun U hU hW => ⟨rfl, by rw [hU], va_P.he hU.symm hPc, va_K.moved hW.alike hKc, hDc.weaken (fun _ _ _ _ => trivial)⟩⟩ rfl rfl hl.1 rfl (lv_room (Nat.le_of_ble_eq_true rfl)) d_MA_performVariable_129 ⟨(Nat.zero_le _), (Nat.zero_le _)⟩) hS (fun q _ h => hFc q h) hFc (fun u t H1 locs ht hvm hw hB hz1 hk1 hS => ?_)
            obtain ⟨n11, n12, n13⟩ := u
            try dsimp only at hw
            obtain ⟨bn12, bn13, xr10⟩ := hw
            try clear hw
            obtain ⟨hP1, hK1, hD1⟩ := hB
            replace hP1 := va_P.he ht hP1
            obtain ⟨hP, hD⟩ := va_join (wr := [(gl, .inl (cgl, 20, .inr (.inl ggl))), (fs, .inl (cfs, 100, .inl gfs))]) (w1 := (wz_17 h0 h0_pages h0_steps n13 gl aw ac ce sk n12 fb fs ff fl h0_frameCount lb lh h0_labelCount h0_at sk csk n11)) hP hD [2, 3] [0, 1] rfl rfl (by decide) (by decide) hk1 hFc hP1 hD1
            clear hPc hDc hKc hFc hz1 hk1 hP1 hK1 hD1
            rename Heap => H
            have hP : va_P (dC, dI) cls (wz_35 gl cgl ggl fs cfs gfs h0 h0_pages h0_steps n13 gl aw ac ce sk n12 fb fs ff fl h0_frameCount lb lh h0_labelCount h0_at sk csk n11) H := hP
            have hD : va_D A (wz_35 gl cgl ggl fs cfs gfs h0 h0_pages h0_steps n13 gl aw ac ce sk n12 fb fs ff fl h0_frameCount lb lh h0_labelCount h0_at sk csk n11) := hD
            refine lv_goto (tgt := 204) hx hb d_MA_performVariable_132 (by decide) ?_
            have hP9 := hP.sb (wq := (wz_34 h0 h0_pages h0_steps n13 gl aw ac ce sk n12 fb fs ff fl h0_frameCount lb lh h0_labelCount h0_at sk csk n11 gl cgl ggl fs cfs gfs)) [2, 3, 0, 1] rfl
            have hD9 := hD.sb (wq := (wz_34 h0 h0_pages h0_steps n13 gl aw ac ce sk n12 fb fs ff fl h0_frameCount lb lh h0_labelCount h0_at sk csk n11 gl cgl ggl fs cfs gfs)) [2, 3, 0, 1] (by decide) rfl
            exact W.vret hx hb hr (fun t ht hW => ⟨⟨(ggl, n11, n12, n13), rfl, ⟨bn12, bn13, by (try dsimp only); (first | (apply Int.le_antisymm <;> omega) | omega)⟩, va_P.he ht.symm hP9, va_K.moved hW.alike hK, hD9⟩, hS.F ht⟩) hS.2.2 d_MA_performVariable_204
          · skip
            refine lv_if_eq (tgt := 127) hx hb d_MA_performVariable_119 (by decide) (fun c119 => ?_) (fun c119 => ?_)
            · have q119 := eqI c119
              refine lv_lload hx hb d_MA_performVariable_127 (lv_at hl 1 rfl) ?_
              exact jn129 r6 _ _ _ ⟨hP, hD, hS, lv_sub hl [] rfl⟩
            · have q119 := neI c119
              refine lv_lload hx hb d_MA_performVariable_122 (lv_at hl 0 rfl) ?_
              refine lv_goto (tgt := 129) hx hb d_MA_performVariable_124 (by decide) ?_
              exact jn129 r8 _ _ _ ⟨hP, hD, hS, lv_sub hl [] rfl⟩
        · skip
          refine lv_if_eq (tgt := 101) hx hb d_MA_performVariable_94 (by decide) (fun c94 => ?_) (fun c94 => ?_)
          · have q94 := eqI c94
            refine lv_iconst (v := 0) hx hb d_MA_performVariable_101 (by decide) ?_
            exact jn102 0 _ _ _ ⟨Or.inl rfl, hP, hD, hS, lv_sub hl [1] rfl⟩
          · have q94 := neI c94
            refine lv_iconst (v := 1) hx hb d_MA_performVariable_97 (by decide) ?_
            refine lv_goto (tgt := 102) hx hb d_MA_performVariable_98 (by decide) ?_
            exact jn102 1 _ _ _ ⟨Or.inr rfl, hP, hD, hS, lv_sub hl [1] rfl⟩
      · skip
        by_cases g26_135 : p0.toInt = 32
        · have ho26 : tab_off 168 26 35 #[54, 62, 168, 168, 168, 168, 109, 122, 135, 155] p0.toInt = 109 := by rw [g26_135]; rfl
          refine lv_tab (tgt := 135) hx hb d_MA_performVariable_26 (by decide) ho26 (by decide) ?_
          clear ho26
          refine lv_aload_n hx hb d_MA_performVariable_135 rfl (lv_at hl 1 rfl) ?_
          refine lv_aload_n hx hb d_MA_performVariable_136 rfl (lv_at hl 1 rfl) ?_
          refine va_get (D := (dC, dI)) (ci := 4) (v := .ref sk) (C := R_MA) (T := F_MA) (N := 18) hx hb hts i_MA hown hK hP 0 rfl rfl 7 (by decide) (hts _ kF_MA_18) (fun _ h9 => h9) rfl d_MA_performVariable_137 ?_
          refine lv_iload_n hx hb d_MA_performVariable_140 rfl (lv_at hl 0 rfl) ?_
          have g141 : vp_in j24_s0 12096 := vp_in_iff.mpr ⟨by (first | (apply Int.le_antisymm <;> omega) | omega), by (first | (apply Int.le_antisymm <;> omega) | omega)⟩
          refine va_lald hx hb hK hP 1 0 rfl rfl g141 d_MA_performVariable_141 ?_
          refine lv_topl (fun x14 ex14 => ?_)
          have hPc := hP.sb (wq := (wz_17 h0 h0_pages h0_steps h0_reason gl aw ac ce sk h0_height fb fs ff fl h0_frameCount lb lh h0_labelCount h0_at sk csk gsk)) [0, 1] rfl
          have hDc := hD.sb (wq := (wz_17 h0 h0_pages h0_steps h0_reason gl aw ac ce sk h0_height fb fs ff fl h0_frameCount lb lh h0_labelCount h0_at sk csk gsk)) [0, 1] (by decide) rfl
          have hKc := hK.sb (tyq := [(csk, .long)]) [0] rfl
          have hFc := va_free (wc := (wz_17 h0 h0_pages h0_steps h0_reason gl aw ac ce sk h0_height fb fs ff fl h0_frameCount lb lh h0_labelCount h0_at sk csk gsk)) hD hS hA [0, 1] rfl
          refine va_callv (va_runV (As := [.long x14]) (rest := []) ⟨hx, hb, hml, hown, hts⟩ (c_MA_push l dC dI H.size h0 gl aw ac ce sk fb fs ff fl lb lh csk h0_pages h0_steps h0_reason h0_height h0_frameCount h0_labelCount h0_at gsk (b_h0_reason) (b_h0_height) x14) (cwV 1 hts (gV kM_MA_94 kV_MA_push kS_MA_push kI_MA kC_MA_push) rfl rfl rfl (by decide +kernel) ⟨Nat.le_of_ble_eq_true rfl, Nat.le_of_ble_eq_true rfl⟩) ⟨fun a U g mk z => by obtain ⟨z0, z1, zP, zK, zD⟩ := z; exact ⟨z0, z1, zP, va_K.moved (u := U) (U := U.calling g mk a) (Vm.Alike.refl U.vm) zK, zD⟩, va_recv hKc hPc (ci := 4) (q0 := 0) rfl rfl, fun U hU hW => ⟨rfl, by rw [hU], va_P.he hU.symm hPc, va_K.moved hW.alike hKc, hDc.weaken (fun _ _ _ _ => trivial)⟩⟩ rfl rfl hl.1 rfl (lv_room (Nat.le_of_ble_eq_true rfl)) d_MA_performVariable_142 ⟨(Nat.zero_le _), (Nat.zero_le _)⟩) hS (fun q _ h => hFc q h) hFc (fun u t H1 locs ht hvm hw hB hz1 hk1 hS => ?_)
          obtain ⟨n16, n17, n18⟩ := u
          try dsimp only at hw
          obtain ⟨bn17, bn18, xr15⟩ := hw
          try clear hw
          obtain ⟨hP1, hK1, hD1⟩ := hB
          replace hP1 := va_P.he ht hP1
          obtain ⟨hP, hD⟩ := va_join (wr := [(gl, .inl (cgl, 20, .inr (.inl ggl))), (fs, .inl (cfs, 100, .inl gfs))]) (w1 := (wz_17 h0 h0_pages h0_steps n18 gl aw ac ce sk n17 fb fs ff fl h0_frameCount lb lh h0_labelCount h0_at sk csk n16)) hP hD [0, 1] [2, 3] rfl rfl (by decide) (by decide) hk1 hFc hP1 hD1
          clear hPc hDc hKc hFc hz1 hk1 hP1 hK1 hD1
          rename Heap => H
          have hP : va_P (dC, dI) cls (wz_35 gl cgl ggl fs cfs gfs h0 h0_pages h0_steps n18 gl aw ac ce sk n17 fb fs ff fl h0_frameCount lb lh h0_labelCount h0_at sk csk n16) H := hP
          have hD : va_D A (wz_35 gl cgl ggl fs cfs gfs h0 h0_pages h0_steps n18 gl aw ac ce sk n17 fb fs ff fl h0_frameCount lb lh h0_labelCount h0_at sk csk n16) := hD
          refine lv_goto (tgt := 204) hx hb d_MA_performVariable_145 (by decide) ?_
          have hP9 := hP.sb (wq := (wz_34 h0 h0_pages h0_steps n18 gl aw ac ce sk n17 fb fs ff fl h0_frameCount lb lh h0_labelCount h0_at sk csk n16 gl cgl ggl fs cfs gfs)) [2, 3, 0, 1] rfl
          have hD9 := hD.sb (wq := (wz_34 h0 h0_pages h0_steps n18 gl aw ac ce sk n17 fb fs ff fl h0_frameCount lb lh h0_labelCount h0_at sk csk n16 gl cgl ggl fs cfs gfs)) [2, 3, 0, 1] (by decide) rfl
          exact W.vret hx hb hr (fun t ht hW => ⟨⟨(ggl, n16, n17, n18), rfl, ⟨bn17, bn18, by (try dsimp only); (first | (apply Int.le_antisymm <;> omega) | omega)⟩, va_P.he ht.symm hP9, va_K.moved hW.alike hK, hD9⟩, hS.F ht⟩) hS.2.2 d_MA_performVariable_204
        · skip
          by_cases g26_148 : p0.toInt = 33
          · have ho26 : tab_off 168 26 35 #[54, 62, 168, 168, 168, 168, 109, 122, 135, 155] p0.toInt = 122 := by rw [g26_148]; rfl
            refine lv_tab (tgt := 148) hx hb d_MA_performVariable_26 (by decide) ho26 (by decide) ?_
            clear ho26
            refine lv_aload_n hx hb d_MA_performVariable_148 rfl (lv_at hl 1 rfl) ?_
            refine va_get (D := (dC, dI)) (ci := 4) (v := .ref sk) (C := R_MA) (T := F_MA) (N := 18) hx hb hts i_MA hown hK hP 0 rfl rfl 7 (by decide) (hts _ kF_MA_18) (fun _ h9 => h9) rfl d_MA_performVariable_149 ?_
            refine lv_iload_n hx hb d_MA_performVariable_152 rfl (lv_at hl 0 rfl) ?_
            refine lv_aload_n hx hb d_MA_performVariable_153 rfl (lv_at hl 1 rfl) ?_
            have hPc := hP.sb (wq := (wz_17 h0 h0_pages h0_steps h0_reason gl aw ac ce sk h0_height fb fs ff fl h0_frameCount lb lh h0_labelCount h0_at sk csk gsk)) [0, 1] rfl
            have hDc := hD.sb (wq := (wz_17 h0 h0_pages h0_steps h0_reason gl aw ac ce sk h0_height fb fs ff fl h0_frameCount lb lh h0_labelCount h0_at sk csk gsk)) [0, 1] (by decide) rfl
            have hKc := hK.sb (tyq := [(csk, .long)]) [0] rfl
            have hFc := va_free (wc := (wz_17 h0 h0_pages h0_steps h0_reason gl aw ac ce sk h0_height fb fs ff fl h0_frameCount lb lh h0_labelCount h0_at sk csk gsk)) hD hS hA [0, 1] rfl
            refine va_calll (va_runV (As := []) (rest := [.int j24_s0, .ref sk]) ⟨hx, hb, hml, hown, hts⟩ (c_MA_pop l dC dI H.size h0 gl aw ac ce sk fb fs ff fl lb lh csk h0_pages h0_steps h0_reason h0_height h0_frameCount h0_labelCount h0_at gsk (b_h0_height)) (cwV 0 hts (gV kM_MA_142 kV_MA_pop kS_MA_pop kI_MA kC_MA_pop) rfl rfl rfl (by decide +kernel) ⟨Nat.le_of_ble_eq_true rfl, Nat.le_of_ble_eq_true rfl⟩) ⟨fun a U g mk z => by obtain ⟨z0, z1, zP, zK, zD⟩ := z; exact ⟨z0, z1, zP, va_K.moved (u := U) (U := U.calling g mk a) (Vm.Alike.refl U.vm) zK, zD⟩, va_recv hKc hPc (ci := 4) (q0 := 0) rfl rfl, fun U hU hW => ⟨rfl, by rw [hU], va_P.he hU.symm hPc, va_K.moved hW.alike hKc, hDc.weaken (fun _ _ _ _ => trivial)⟩⟩ rfl rfl hl.1 rfl (lv_room (Nat.le_of_ble_eq_true rfl)) d_MA_performVariable_154 ⟨(Nat.zero_le _), (Nat.zero_le _)⟩) hS (fun q _ h => hFc q h) hFc (fun r19 u t H1 locs ht hvm hw hB hz1 hk1 hS => ?_)
            obtain ⟨n20, rfl⟩ : ∃ z, z = u := ⟨_, rfl⟩
            try dsimp only at hw
            obtain ⟨bn20, xr19⟩ := hw
            try clear hw
            obtain ⟨hP1, hK1, hD1⟩ := hB
            replace hP1 := va_P.he ht hP1
            obtain ⟨hP, hD⟩ := va_join (wr := [(gl, .inl (cgl, 20, .inr (.inl ggl))), (fs, .inl (cfs, 100, .inl gfs))]) (w1 := (wz_17 h0 h0_pages h0_steps h0_reason gl aw ac ce sk n20 fb fs ff fl h0_frameCount lb lh h0_labelCount h0_at sk csk gsk)) hP hD [0, 1] [2, 3] rfl rfl (by decide) (by decide) hk1 hFc hP1 hD1
            clear hPc hDc hKc hFc hz1 hk1 hP1 hK1 hD1
            rename Heap => H
            have hP : va_P (dC, dI) cls (wz_35 gl cgl ggl fs cfs gfs h0 h0_pages h0_steps h0_reason gl aw ac ce sk n20 fb fs ff fl h0_frameCount lb lh h0_labelCount h0_at sk csk gsk) H := hP
            have hD : va_D A (wz_35 gl cgl ggl fs cfs gfs h0 h0_pages h0_steps h0_reason gl aw ac ce sk n20 fb fs ff fl h0_frameCount lb lh h0_labelCount h0_at sk csk gsk) := hD
            have g157 : vp_in j24_s0 12096 := vp_in_iff.mpr ⟨by (first | (apply Int.le_antisymm <;> omega) | omega), by (first | (apply Int.le_antisymm <;> omega) | omega)⟩
            refine va_last hx hb hK hP hD hS 3 0 rfl rfl g157 d_MA_performVariable_157 (fun H locs hP hD hS => ?_)
            generalize ef21 : vp_updL gsk j24_s0.toNatClampNeg r19 = f21 at hP hD
            refine lv_goto (tgt := 204) hx hb d_MA_performVariable_158 (by decide) ?_
            have hP9 := hP.sb (wq := (wz_34 h0 h0_pages h0_steps h0_reason gl aw ac ce sk n20 fb fs ff fl h0_frameCount lb lh h0_labelCount h0_at sk csk f21 gl cgl ggl fs cfs gfs)) [2, 3, 0, 1] rfl
            have hD9 := hD.sb (wq := (wz_34 h0 h0_pages h0_steps h0_reason gl aw ac ce sk n20 fb fs ff fl h0_frameCount lb lh h0_labelCount h0_at sk csk f21 gl cgl ggl fs cfs gfs)) [2, 3, 0, 1] (by decide) rfl
            exact W.vret hx hb hr (fun t ht hW => ⟨⟨(ggl, f21, n20, h0_reason), rfl, ⟨bn20, b_h0_reason, by (try dsimp only); (first | (apply Int.le_antisymm <;> omega) | omega)⟩, va_P.he ht.symm hP9, va_K.moved hW.alike hK, hD9⟩, hS.F ht⟩) hS.2.2 d_MA_performVariable_204
          · skip
            by_cases g26_161 : p0.toInt = 34
            · have ho26 : tab_off 168 26 35 #[54, 62, 168, 168, 168, 168, 109, 122, 135, 155] p0.toInt = 135 := by rw [g26_161]; rfl
              refine lv_tab (tgt := 161) hx hb d_MA_performVariable_26 (by decide) ho26 (by decide) ?_
              clear ho26
              refine lv_aload_n hx hb d_MA_performVariable_161 rfl (lv_at hl 1 rfl) ?_
              refine va_get (D := (dC, dI)) (ci := 4) (v := .ref sk) (C := R_MA) (T := F_MA) (N := 18) hx hb hts i_MA hown hK hP 0 rfl rfl 7 (by decide) (hts _ kF_MA_18) (fun _ h9 => h9) rfl d_MA_performVariable_162 ?_
              refine lv_iload_n hx hb d_MA_performVariable_165 rfl (lv_at hl 0 rfl) ?_
              refine lv_aload_n hx hb d_MA_performVariable_166 rfl (lv_at hl 1 rfl) ?_
              refine va_get (D := (dC, dI)) (ci := 4) (v := .ref sk) (C := R_MA) (T := F_MA) (N := 18) hx hb hts i_MA hown hK hP 0 rfl rfl 7 (by decide) (hts _ kF_MA_18) (fun _ h9 => h9) rfl d_MA_performVariable_167 ?_
              refine lv_aload_n hx hb d_MA_performVariable_170 rfl (lv_at hl 1 rfl) ?_
              refine va_get (D := (dC, dI)) (ci := 4) (v := .int h0_height) (C := R_MA) (T := F_MA) (N := 18) hx hb hts i_MA hown hK hP 0 rfl rfl 8 (by decide) (hts _ kF_MA_77) (fun _ h9 => h9) rfl d_MA_performVariable_171 ?_
              refine lv_iconst (v := 1) hx hb d_MA_performVariable_174 (by decide) ?_
              refine lv_isub hx hb d_MA_performVariable_175 ?_
              refine lv_topi (fun x22 ex22 => ?_)
              have tx22 : x22.toInt = h0_height.toInt - 1 := by have z := i32_sub ex22 (by (first | (apply Int.le_antisymm <;> omega) | omega)) (by (first | (apply Int.le_antisymm <;> omega) | omega)); first | exact z | (first | (apply Int.le_antisymm <;> omega) | omega)
              have g176 : vp_in x22 12096 := vp_in_iff.mpr ⟨by (first | (apply Int.le_antisymm <;> omega) | omega), by (first | (apply Int.le_antisymm <;> omega) | omega)⟩
              refine va_lald hx hb hK hP 1 0 rfl rfl g176 d_MA_performVariable_176 ?_
              refine lv_topl (fun x23 ex23 => ?_)
              have g177 : vp_in j24_s0 12096 := vp_in_iff.mpr ⟨by (first | (apply Int.le_antisymm <;> omega) | omega), by (first | (apply Int.le_antisymm <;> omega) | omega)⟩
              refine va_last hx hb hK hP hD hS 1 0 rfl rfl g177 d_MA_performVariable_177 (fun H locs hP hD hS => ?_)
              generalize ef24 : vp_updL gsk j24_s0.toNatClampNeg x23 = f24 at hP hD
              refine lv_goto (tgt := 204) hx hb d_MA_performVariable_178 (by decide) ?_
              have hP9 := hP.sb (wq := (wz_34 h0 h0_pages h0_steps h0_reason gl aw ac ce sk h0_height fb fs ff fl h0_frameCount lb lh h0_labelCount h0_at sk csk f24 gl cgl ggl fs cfs gfs)) [0, 1, 2, 3] rfl
              have hD9 := hD.sb (wq := (wz_34 h0 h0_pages h0_steps h0_reason gl aw ac ce sk h0_height fb fs ff fl h0_frameCount lb lh h0_labelCount h0_at sk csk f24 gl cgl ggl fs cfs gfs)) [0, 1, 2, 3] (by decide) rfl
              exact W.vret hx hb hr (fun t ht hW => ⟨⟨(ggl, f24, h0_height, h0_reason), rfl, ⟨b_h0_height, b_h0_reason, by (try dsimp only); (first | (apply Int.le_antisymm <;> omega) | omega)⟩, va_P.he ht.symm hP9, va_K.moved hW.alike hK, hD9⟩, hS.F ht⟩) hS.2.2 d_MA_performVariable_204
            · skip
              by_cases g26_181 : p0.toInt = 35
              · have ho26 : tab_off 168 26 35 #[54, 62, 168, 168, 168, 168, 109, 122, 135, 155] p0.toInt = 155 := by rw [g26_181]; rfl
                refine lv_tab (tgt := 181) hx hb d_MA_performVariable_26 (by decide) ho26 (by decide) ?_
                clear ho26
                refine lv_aload_n hx hb d_MA_performVariable_181 rfl (lv_at hl 1 rfl) ?_
                refine lv_aload_n hx hb d_MA_performVariable_182 rfl (lv_at hl 1 rfl) ?_
                refine va_get (D := (dC, dI)) (ci := 4) (v := .ref gl) (C := R_MA) (T := F_MA) (N := 18) hx hb hts i_MA hown hK hP 0 rfl rfl 3 (by decide) (hts _ kF_MA_9) (fun _ h9 => h9) rfl d_MA_performVariable_183 ?_
                refine lv_iload_n hx hb d_MA_performVariable_186 rfl (lv_at hl 3 rfl) ?_
                have g187 : vp_in p1 20 := vp_in_iff.mpr ⟨by (first | (apply Int.le_antisymm <;> omega) | omega), by (first | (apply Int.le_antisymm <;> omega) | omega)⟩
                refine va_lald hx hb hK hP 2 1 rfl rfl g187 d_MA_performVariable_187 ?_
                refine lv_topl (fun x25 ex25 => ?_)
                have hPc := hP.sb (wq := (wz_17 h0 h0_pages h0_steps h0_reason gl aw ac ce sk h0_height fb fs ff fl h0_frameCount lb lh h0_labelCount h0_at sk csk gsk)) [0, 1] rfl
                have hDc := hD.sb (wq := (wz_17 h0 h0_pages h0_steps h0_reason gl aw ac ce sk h0_height fb fs ff fl h0_frameCount lb lh h0_labelCount h0_at sk csk gsk)) [0, 1] (by decide) rfl
                have hKc := hK.sb (tyq := [(csk, .long)]) [0] rfl
                have hFc := va_free (wc := (wz_17 h0 h0_pages h0_steps h0_reason gl aw ac ce sk h0_height fb fs ff fl h0_frameCount lb lh h0_labelCount h0_at sk csk gsk)) hD hS hA [0, 1] rfl
                refine va_callv (va_runV (As := [.long x25]) (rest := []) ⟨hx, hb, hml, hown, hts⟩ (c_MA_push l dC dI H.size h0 gl aw ac ce sk fb fs ff fl lb lh csk h0_pages h0_steps h0_reason h0_height h0_frameCount h0_labelCount h0_at gsk (b_h0_reason) (b_h0_height) x25) (cwV 1 hts (gV kM_MA_94 kV_MA_push kS_MA_push kI_MA kC_MA_push) rfl rfl rfl (by decide +kernel) ⟨Nat.le_of_ble_eq_true rfl, Nat.le_of_ble_eq_true rfl⟩) ⟨fun a U g mk z => by obtain ⟨z0, z1, zP, zK, zD⟩ := z; exact ⟨z0, z1, zP, va_K.moved (u := U) (U := U.calling g mk a) (Vm.Alike.refl U.vm) zK, zD⟩, va_recv hKc hPc (ci := 4) (q0 := 0) rfl rfl, fun U hU hW => ⟨rfl, by rw [hU], va_P.he hU.symm hPc, va_K.moved hW.alike hKc, hDc.weaken (fun _ _ _ _ => trivial)⟩⟩ rfl rfl hl.1 rfl (lv_room (Nat.le_of_ble_eq_true rfl)) d_MA_performVariable_188 ⟨(Nat.zero_le _), (Nat.zero_le _)⟩) hS (fun q _ h => hFc q h) hFc (fun u t H1 locs ht hvm hw hB hz1 hk1 hS => ?_)
                obtain ⟨n27, n28, n29⟩ := u
                try dsimp only at hw
                obtain ⟨bn28, bn29, xr26⟩ := hw
                try clear hw
                obtain ⟨hP1, hK1, hD1⟩ := hB
                replace hP1 := va_P.he ht hP1
                obtain ⟨hP, hD⟩ := va_join (wr := [(gl, .inl (cgl, 20, .inr (.inl ggl))), (fs, .inl (cfs, 100, .inl gfs))]) (w1 := (wz_17 h0 h0_pages h0_steps n29 gl aw ac ce sk n28 fb fs ff fl h0_frameCount lb lh h0_labelCount h0_at sk csk n27)) hP hD [0, 1] [2, 3] rfl rfl (by decide) (by decide) hk1 hFc hP1 hD1
                clear hPc hDc hKc hFc hz1 hk1 hP1 hK1 hD1
                rename Heap => H
                have hP : va_P (dC, dI) cls (wz_35 gl cgl ggl fs cfs gfs h0 h0_pages h0_steps n29 gl aw ac ce sk n28 fb fs ff fl h0_frameCount lb lh h0_labelCount h0_at sk csk n27) H := hP
                have hD : va_D A (wz_35 gl cgl ggl fs cfs gfs h0 h0_pages h0_steps n29 gl aw ac ce sk n28 fb fs ff fl h0_frameCount lb lh h0_labelCount h0_at sk csk n27) := hD
                refine lv_goto (tgt := 204) hx hb d_MA_performVariable_191 (by decide) ?_
                have hP9 := hP.sb (wq := (wz_34 h0 h0_pages h0_steps n29 gl aw ac ce sk n28 fb fs ff fl h0_frameCount lb lh h0_labelCount h0_at sk csk n27 gl cgl ggl fs cfs gfs)) [2, 3, 0, 1] rfl
                have hD9 := hD.sb (wq := (wz_34 h0 h0_pages h0_steps n29 gl aw ac ce sk n28 fb fs ff fl h0_frameCount lb lh h0_labelCount h0_at sk csk n27 gl cgl ggl fs cfs gfs)) [2, 3, 0, 1] (by decide) rfl
                exact W.vret hx hb hr (fun t ht hW => ⟨⟨(ggl, n27, n28, n29), rfl, ⟨bn28, bn29, by (try dsimp only); (first | (apply Int.le_antisymm <;> omega) | omega)⟩, va_P.he ht.symm hP9, va_K.moved hW.alike hK, hD9⟩, hS.F ht⟩) hS.2.2 d_MA_performVariable_204
              · skip
                have ho26 : tab_off 168 26 35 #[54, 62, 168, 168, 168, 168, 109, 122, 135, 155] p0.toInt = 168 := by
                  unfold tab_off
                  split
                  · rfl
                  · rcases (by (first | (apply Int.le_antisymm <;> omega) | omega) : p0.toInt = 28 ∨ p0.toInt = 29 ∨ p0.toInt = 30 ∨ p0.toInt = 31) with z | z | z | z <;> (rw [z]; rfl)
                refine lv_tab (tgt := 194) hx hb d_MA_performVariable_26 (by decide) ho26 (by decide) ?_
                clear ho26
                refine lv_aload_n hx hb d_MA_performVariable_194 rfl (lv_at hl 1 rfl) ?_
                refine va_get (D := (dC, dI)) (ci := 4) (v := .ref gl) (C := R_MA) (T := F_MA) (N := 18) hx hb hts i_MA hown hK hP 0 rfl rfl 3 (by decide) (hts _ kF_MA_9) (fun _ h9 => h9) rfl d_MA_performVariable_195 ?_
                refine lv_iload_n hx hb d_MA_performVariable_198 rfl (lv_at hl 3 rfl) ?_
                refine lv_aload_n hx hb d_MA_performVariable_199 rfl (lv_at hl 1 rfl) ?_
                have hPc := hP.sb (wq := (wz_17 h0 h0_pages h0_steps h0_reason gl aw ac ce sk h0_height fb fs ff fl h0_frameCount lb lh h0_labelCount h0_at sk csk gsk)) [0, 1] rfl
                have hDc := hD.sb (wq := (wz_17 h0 h0_pages h0_steps h0_reason gl aw ac ce sk h0_height fb fs ff fl h0_frameCount lb lh h0_labelCount h0_at sk csk gsk)) [0, 1] (by decide) rfl
                have hKc := hK.sb (tyq := [(csk, .long)]) [0] rfl
                have hFc := va_free (wc := (wz_17 h0 h0_pages h0_steps h0_reason gl aw ac ce sk h0_height fb fs ff fl h0_frameCount lb lh h0_labelCount h0_at sk csk gsk)) hD hS hA [0, 1] rfl
                refine va_calll (va_runV (As := []) (rest := [.int p1, .ref gl]) ⟨hx, hb, hml, hown, hts⟩ (c_MA_pop l dC dI H.size h0 gl aw ac ce sk fb fs ff fl lb lh csk h0_pages h0_steps h0_reason h0_height h0_frameCount h0_labelCount h0_at gsk (b_h0_height)) (cwV 0 hts (gV kM_MA_142 kV_MA_pop kS_MA_pop kI_MA kC_MA_pop) rfl rfl rfl (by decide +kernel) ⟨Nat.le_of_ble_eq_true rfl, Nat.le_of_ble_eq_true rfl⟩) ⟨fun a U g mk z => by obtain ⟨z0, z1, zP, zK, zD⟩ := z; exact ⟨z0, z1, zP, va_K.moved (u := U) (U := U.calling g mk a) (Vm.Alike.refl U.vm) zK, zD⟩, va_recv hKc hPc (ci := 4) (q0 := 0) rfl rfl, fun U hU hW => ⟨rfl, by rw [hU], va_P.he hU.symm hPc, va_K.moved hW.alike hKc, hDc.weaken (fun _ _ _ _ => trivial)⟩⟩ rfl rfl hl.1 rfl (lv_room (Nat.le_of_ble_eq_true rfl)) d_MA_performVariable_200 ⟨(Nat.zero_le _), (Nat.zero_le _)⟩) hS (fun q _ h => hFc q h) hFc (fun r30 u t H1 locs ht hvm hw hB hz1 hk1 hS => ?_)
                obtain ⟨n31, rfl⟩ : ∃ z, z = u := ⟨_, rfl⟩
                try dsimp only at hw
                obtain ⟨bn31, xr30⟩ := hw
                try clear hw
                obtain ⟨hP1, hK1, hD1⟩ := hB
                replace hP1 := va_P.he ht hP1
                obtain ⟨hP, hD⟩ := va_join (wr := [(gl, .inl (cgl, 20, .inr (.inl ggl))), (fs, .inl (cfs, 100, .inl gfs))]) (w1 := (wz_17 h0 h0_pages h0_steps h0_reason gl aw ac ce sk n31 fb fs ff fl h0_frameCount lb lh h0_labelCount h0_at sk csk gsk)) hP hD [0, 1] [2, 3] rfl rfl (by decide) (by decide) hk1 hFc hP1 hD1
                clear hPc hDc hKc hFc hz1 hk1 hP1 hK1 hD1
                rename Heap => H
                have hP : va_P (dC, dI) cls (wz_35 gl cgl ggl fs cfs gfs h0 h0_pages h0_steps h0_reason gl aw ac ce sk n31 fb fs ff fl h0_frameCount lb lh h0_labelCount h0_at sk csk gsk) H := hP
                have hD : va_D A (wz_35 gl cgl ggl fs cfs gfs h0 h0_pages h0_steps h0_reason gl aw ac ce sk n31 fb fs ff fl h0_frameCount lb lh h0_labelCount h0_at sk csk gsk) := hD
                have g203 : vp_in p1 20 := vp_in_iff.mpr ⟨by (first | (apply Int.le_antisymm <;> omega) | omega), by (first | (apply Int.le_antisymm <;> omega) | omega)⟩
                refine va_last hx hb hK hP hD hS 0 1 rfl rfl g203 d_MA_performVariable_203 (fun H locs hP hD hS => ?_)
                generalize ef32 : vp_updL ggl p1.toNatClampNeg r30 = f32 at hP hD
                have hP9 := hP.sb (wq := (wz_34 h0 h0_pages h0_steps h0_reason gl aw ac ce sk n31 fb fs ff fl h0_frameCount lb lh h0_labelCount h0_at sk csk gsk gl cgl f32 fs cfs gfs)) [2, 3, 0, 1] rfl
                have hD9 := hD.sb (wq := (wz_34 h0 h0_pages h0_steps h0_reason gl aw ac ce sk n31 fb fs ff fl h0_frameCount lb lh h0_labelCount h0_at sk csk gsk gl cgl f32 fs cfs gfs)) [2, 3, 0, 1] (by decide) rfl
                exact W.vret hx hb hr (fun t ht hW => ⟨⟨(f32, gsk, n31, h0_reason), rfl, ⟨bn31, b_h0_reason, by (try dsimp only); (first | (apply Int.le_antisymm <;> omega) | omega)⟩, va_P.he ht.symm hP9, va_K.moved hW.alike hK, hD9⟩, hS.F ht⟩) hS.2.2 d_MA_performVariable_204
  · skip
    refine lv_if_le (tgt := 23) hx hb d_MA_performVariable_4 (by decide) (fun c4 => absurd (leI c4) (by (first | (apply Int.le_antisymm <;> omega) | omega))) (fun c4 => ?_)
    have q4 := nleI c4
    refine lv_aload_n hx hb d_MA_performVariable_7 rfl (lv_at hl 0 rfl) ?_
    refine va_get (D := (dC, dI)) (ci := 4) (v := .ref fs) (C := R_MA) (T := F_MA) (N := 18) hx hb hts i_MA hown hK hP 0 rfl rfl 10 (by decide) (hts _ kF_MA_25) (fun _ h9 => h9) rfl d_MA_performVariable_8 ?_
    refine lv_aload_n hx hb d_MA_performVariable_11 rfl (lv_at hl 0 rfl) ?_
    refine va_get (D := (dC, dI)) (ci := 4) (v := .int h0_frameCount) (C := R_MA) (T := F_MA) (N := 18) hx hb hts i_MA hown hK hP 0 rfl rfl 13 (by decide) (hts _ kF_MA_80) (fun _ h9 => h9) rfl d_MA_performVariable_12 ?_
    refine lv_iconst (v := 1) hx hb d_MA_performVariable_15 (by decide) ?_
    refine lv_isub hx hb d_MA_performVariable_16 ?_
    refine lv_topi (fun x33 ex33 => ?_)
    have tx33 : x33.toInt = h0_frameCount.toInt - 1 := by have z := i32_sub ex33 (by (first | (apply Int.le_antisymm <;> omega) | omega)) (by (first | (apply Int.le_antisymm <;> omega) | omega)); first | exact z | (first | (apply Int.le_antisymm <;> omega) | omega)
    have g17 : vp_in x33 100 := vp_in_iff.mpr ⟨by (first | (apply Int.le_antisymm <;> omega) | omega), by (first | (apply Int.le_antisymm <;> omega) | omega)⟩
    refine va_iald hx hb hK hP 3 2 rfl rfl g17 d_MA_performVariable_17 ?_
    refine lv_topi (fun x34 ex34 => ?_)
    rw [i32_natI (x := x33) (n := h0_frameCount.toInt - 1) (by (first | (apply Int.le_antisymm <;> omega) | omega))] at ex34
    have tx34 : x34.toInt = (gfs (h0_frameCount.toInt - 1).toNat).toInt := by rw [ex34]
    refine lv_iload_n hx hb d_MA_performVariable_18 rfl (lv_at hl 2 rfl) ?_
    refine lv_iadd hx hb d_MA_performVariable_19 ?_
    refine lv_topi (fun x35 ex35 => ?_)
    refine lv_goto (tgt := 24) hx hb d_MA_performVariable_20 (by decide) ?_
    exact jn24 x35 _ _ _ ⟨fun z => by have y := i32_add ex35 (by (first | (apply Int.le_antisymm <;> omega) | omega)) (by (first | (apply Int.le_antisymm <;> omega) | omega)); (first | (apply Int.le_antisymm <;> omega) | omega), hP, hD, hS, lv_sub hl [0, 1, 2] rfl⟩
abbrev b_MA_perform : ByteArray := prog_6_method_6_code
def y_MA_perform : MethodName := ⟨R_MA, "perform", "(II)V"⟩
abbrev w_MA_perform : List Cond := .code y_MA_perform b_MA_perform 6 none :: lw_g
theorem kC_MA_perform : Cond.code y_MA_perform b_MA_perform 6 none ∈ lw_g := in_c7 134 rfl rfl
theorem d_MA_perform_0 : decode b_MA_perform 0 = .ok (.aload_n 0, 1) := bz_c42 (by decide +kernel)
theorem d_MA_perform_1 : decode b_MA_perform 1 = .ok (.getfield 50, 3) := bz_c180 (by decide +kernel)
theorem d_MA_perform_4 : decode b_MA_perform 4 = .ok (.getfield 128, 3) := bz_c180 (by decide +kernel)
theorem d_MA_perform_7 : decode b_MA_perform 7 = .ok (.iload_n 2, 1) := bz_c28 (by decide +kernel)
theorem d_MA_perform_8 : decode b_MA_perform 8 = .ok (.laload, 1) := bz_c47 (by decide +kernel)
theorem d_MA_perform_9 : decode b_MA_perform 9 = .ok (.l2i, 1) := bz_c136 (by decide +kernel)
theorem d_MA_perform_10 : decode b_MA_perform 10 = .ok (.istore_n 3, 1) := bz_c62 (by decide +kernel)
theorem d_MA_perform_11 : decode b_MA_perform 11 = .ok (.iload_n 1, 1) := bz_c27 (by decide +kernel)
theorem d_MA_perform_12 : decode b_MA_perform 12 = .ok (.tableswitch 192 0 16 #[84, 192, 93, 93, 101, 192, 192, 192, 192, 192, 192, 192, 109, 117, 134, 177, 184], 84) := by decide +kernel
theorem d_MA_perform_96 : decode b_MA_perform 96 = .ok (.aload_n 0, 1) := bz_c42 (by decide +kernel)
theorem d_MA_perform_97 : decode b_MA_perform 97 = .ok (.bipush 9, 2) := bz_c16 (by decide +kernel)
theorem d_MA_perform_99 : decode b_MA_perform 99 = .ok (.putfield 71, 3) := bz_c181 (by decide +kernel)
theorem d_MA_perform_102 : decode b_MA_perform 102 = .ok (.goto 102, 3) := bz_c167 (by decide +kernel)
theorem d_MA_perform_105 : decode b_MA_perform 105 = .ok (.aload_n 0, 1) := bz_c42 (by decide +kernel)
theorem d_MA_perform_106 : decode b_MA_perform 106 = .ok (.iload_n 2, 1) := bz_c28 (by decide +kernel)
theorem d_MA_perform_107 : decode b_MA_perform 107 = .ok (.invokevirtual 153, 3) := bz_c182 (by decide +kernel)
theorem d_MA_perform_110 : decode b_MA_perform 110 = .ok (.goto 94, 3) := bz_c167 (by decide +kernel)
theorem d_MA_perform_113 : decode b_MA_perform 113 = .ok (.aload_n 0, 1) := bz_c42 (by decide +kernel)
theorem d_MA_perform_114 : decode b_MA_perform 114 = .ok (.iload_n 2, 1) := bz_c28 (by decide +kernel)
theorem d_MA_perform_115 : decode b_MA_perform 115 = .ok (.invokevirtual 156, 3) := bz_c182 (by decide +kernel)
theorem d_MA_perform_118 : decode b_MA_perform 118 = .ok (.goto 86, 3) := bz_c167 (by decide +kernel)
theorem d_MA_perform_121 : decode b_MA_perform 121 = .ok (.aload_n 0, 1) := bz_c42 (by decide +kernel)
theorem d_MA_perform_122 : decode b_MA_perform 122 = .ok (.iload_n 3, 1) := bz_c29 (by decide +kernel)
theorem d_MA_perform_123 : decode b_MA_perform 123 = .ok (.invokevirtual 159, 3) := bz_c182 (by decide +kernel)
theorem d_MA_perform_126 : decode b_MA_perform 126 = .ok (.goto 78, 3) := bz_c167 (by decide +kernel)
theorem d_MA_perform_129 : decode b_MA_perform 129 = .ok (.aload_n 0, 1) := bz_c42 (by decide +kernel)
theorem d_MA_perform_130 : decode b_MA_perform 130 = .ok (.invokevirtual 142, 3) := bz_c182 (by decide +kernel)
theorem d_MA_perform_133 : decode b_MA_perform 133 = .ok (.lconst 0, 1) := bz_c9 (by decide +kernel)
theorem d_MA_perform_134 : decode b_MA_perform 134 = .ok (.lcmp, 1) := bz_c148 (by decide +kernel)
theorem d_MA_perform_135 : decode b_MA_perform 135 = .ok (.ifCond .eq 69, 3) := bz_c153 (by decide +kernel)
theorem d_MA_perform_138 : decode b_MA_perform 138 = .ok (.aload_n 0, 1) := bz_c42 (by decide +kernel)
theorem d_MA_perform_139 : decode b_MA_perform 139 = .ok (.iload_n 3, 1) := bz_c29 (by decide +kernel)
theorem d_MA_perform_140 : decode b_MA_perform 140 = .ok (.invokevirtual 159, 3) := bz_c182 (by decide +kernel)
theorem d_MA_perform_143 : decode b_MA_perform 143 = .ok (.goto 61, 3) := bz_c167 (by decide +kernel)
theorem d_MA_perform_146 : decode b_MA_perform 146 = .ok (.aload_n 0, 1) := bz_c42 (by decide +kernel)
theorem d_MA_perform_147 : decode b_MA_perform 147 = .ok (.invokevirtual 142, 3) := bz_c182 (by decide +kernel)
theorem d_MA_perform_150 : decode b_MA_perform 150 = .ok (.ldc2_w 162, 3) := bz_c20 (by decide +kernel)
theorem d_MA_perform_153 : decode b_MA_perform 153 = .ok (.land, 1) := bz_c127 (by decide +kernel)
theorem d_MA_perform_154 : decode b_MA_perform 154 = .ok (.lstore 4, 2) := bz_c55 (by decide +kernel)
theorem d_MA_perform_156 : decode b_MA_perform 156 = .ok (.aload_n 0, 1) := bz_c42 (by decide +kernel)
theorem d_MA_perform_157 : decode b_MA_perform 157 = .ok (.aload_n 0, 1) := bz_c42 (by decide +kernel)
theorem d_MA_perform_158 : decode b_MA_perform 158 = .ok (.getfield 50, 3) := bz_c180 (by decide +kernel)
theorem d_MA_perform_161 : decode b_MA_perform 161 = .ok (.getfield 164, 3) := bz_c180 (by decide +kernel)
theorem d_MA_perform_164 : decode b_MA_perform 164 = .ok (.iload_n 3, 1) := bz_c29 (by decide +kernel)
theorem d_MA_perform_165 : decode b_MA_perform 165 = .ok (.lload 4, 2) := bz_c22 (by decide +kernel)
theorem d_MA_perform_167 : decode b_MA_perform 167 = .ok (.aload_n 0, 1) := bz_c42 (by decide +kernel)
theorem d_MA_perform_168 : decode b_MA_perform 168 = .ok (.getfield 50, 3) := bz_c180 (by decide +kernel)
theorem d_MA_perform_171 : decode b_MA_perform 171 = .ok (.getfield 120, 3) := bz_c180 (by decide +kernel)
theorem d_MA_perform_174 : decode b_MA_perform 174 = .ok (.iload_n 2, 1) := bz_c28 (by decide +kernel)
theorem d_MA_perform_175 : decode b_MA_perform 175 = .ok (.iaload, 1) := bz_c46 (by decide +kernel)
theorem d_MA_perform_176 : decode b_MA_perform 176 = .ok (.i2l, 1) := bz_c133 (by decide +kernel)
theorem d_MA_perform_177 : decode b_MA_perform 177 = .ok (.invokestatic 167, 3) := bz_c184 (by decide +kernel)
theorem d_MA_perform_180 : decode b_MA_perform 180 = .ok (.l2i, 1) := bz_c136 (by decide +kernel)
theorem d_MA_perform_181 : decode b_MA_perform 181 = .ok (.iadd, 1) := bz_c96 (by decide +kernel)
theorem d_MA_perform_182 : decode b_MA_perform 182 = .ok (.iaload, 1) := bz_c46 (by decide +kernel)
theorem d_MA_perform_183 : decode b_MA_perform 183 = .ok (.invokevirtual 159, 3) := bz_c182 (by decide +kernel)
theorem d_MA_perform_186 : decode b_MA_perform 186 = .ok (.goto 18, 3) := bz_c167 (by decide +kernel)
theorem d_MA_perform_189 : decode b_MA_perform 189 = .ok (.aload_n 0, 1) := bz_c42 (by decide +kernel)
theorem d_MA_perform_190 : decode b_MA_perform 190 = .ok (.invokevirtual 173, 3) := bz_c182 (by decide +kernel)
theorem d_MA_perform_193 : decode b_MA_perform 193 = .ok (.goto 11, 3) := bz_c167 (by decide +kernel)
theorem d_MA_perform_196 : decode b_MA_perform 196 = .ok (.aload_n 0, 1) := bz_c42 (by decide +kernel)
theorem d_MA_perform_197 : decode b_MA_perform 197 = .ok (.iload_n 3, 1) := bz_c29 (by decide +kernel)
theorem d_MA_perform_198 : decode b_MA_perform 198 = .ok (.invokevirtual 98, 3) := bz_c182 (by decide +kernel)
theorem d_MA_perform_201 : decode b_MA_perform 201 = .ok (.goto 3, 3) := bz_c167 (by decide +kernel)
theorem d_MA_perform_204 : decode b_MA_perform 204 = .ok (.return_, 1) := bz_c177 (by decide +kernel)
theorem kM_MA_98 : Cond.methodLink R_MA 98 y_MA_enter ∈ lw_g := in_c7 104 rfl rfl
theorem kV_MA_enter : Cond.instanceMethod y_MA_enter ∈ lw_g := in_c7 106 rfl rfl
theorem kS_MA_enter : Cond.selects R_MA y_MA_enter y_MA_enter ∈ lw_g := in_s 100 (by decide +kernel) rfl
theorem kM_MA_159 : Cond.methodLink R_MA 159 y_MA_branch ∈ lw_g := in_c7 143 rfl rfl
theorem kV_MA_branch : Cond.instanceMethod y_MA_branch ∈ lw_g := in_c7 145 rfl rfl
theorem kS_MA_branch : Cond.selects R_MA y_MA_branch y_MA_branch ∈ lw_g := in_s 109 (by decide +kernel) rfl
theorem kM_MA_156 : Cond.methodLink R_MA 156 y_MA_performIf ∈ lw_g := in_c7 139 rfl rfl
theorem kV_MA_performIf : Cond.instanceMethod y_MA_performIf ∈ lw_g := in_c7 141 rfl rfl
theorem kS_MA_performIf : Cond.selects R_MA y_MA_performIf y_MA_performIf ∈ lw_g := in_s 108 (by decide +kernel) rfl
theorem kF_MA_164 : Cond.fieldLink R_MA 164 "WaferForge$Codes" "labels" "[I" ∈ lw_g := in_c1 115 rfl rfl
abbrev at_MA_perform (dC : Nat → ClassId) (dI : Nat → Nat → Nat) (h0 gl aw ac ce sk fb fs ff fl lb lh wat wag waf cfi clk ac_localTypes_r cop cva cpt cel cla : Nat) (csk cfb cfs cff cfl clb clh cwaf cwat cwag ccfi cclk ccop ccva ccpt ccel ccla : ClassId) (h0_pages : Int32) (h0_steps : Int32) (law : List Value) (ac_length : Int32) (ac_labelCount : Int32) (gwaf : Nat → Int32) (gwat : Nat → Int32) (gwag : Nat → Int32) (gcfi : Nat → Int32) (gclk : Nat → Int32) (gcop : Nat → Int32) (gcva : Nat → Int64) (gcpt : Nat → Int32) (gcel : Nat → Int32) (gcla : Nat → Int32) (A : Nat → Prop) (u : (Nat → Int32) × (Nat → Int32) × (Nat → Int32) × (Nat → Int32) × (Nat → Int32) × (Nat → Int32) × (Nat → Int64) × Int32 × Int32 × Int32 × Int32 × Int32) (t : State) : Prop := match u with | (gfb, gff, gfl, gfs, glb, glh, gsk, h0_at, h0_frameCount, h0_height, h0_labelCount, h0_reason) => va_P (dC, dI) cls (wz_36 h0 h0_pages h0_steps h0_reason gl aw ac ce sk h0_height fb fs ff fl h0_frameCount lb lh h0_labelCount h0_at aw law ac cfi clk ac_localTypes_r ac_length cop cva cpt cel ac_labelCount cla sk csk gsk fb cfb gfb fs cfs gfs ff cff gff fl cfl gfl lb clb glb lh clh glh waf cwaf gwaf wat cwat gwat wag cwag gwag cfi ccfi gcfi clk cclk gclk cop ccop gcop cva ccva gcva cpt ccpt gcpt cel ccel gcel cla ccla gcla) t.heap ∧ va_K (dC, dI) cls [(csk, .long), (cfb, .int), (cfs, .int), (cff, .int), (cfl, .int), (clb, .int), (clh, .int), (cwaf, .int), (cwat, .int), (cwag, .int), (ccfi, .int), (cclk, .int), (ccop, .int), (ccva, .long), (ccpt, .int), (ccel, .int), (ccla, .int)] t ∧ va_D A (wz_36 h0 h0_pages h0_steps h0_reason gl aw ac ce sk h0_height fb fs ff fl h0_frameCount lb lh h0_labelCount h0_at aw law ac cfi clk ac_localTypes_r ac_length cop cva cpt cel ac_labelCount cla sk csk gsk fb cfb gfb fs cfs gfs ff cff gff fl cfl gfl lb clb glb lh clh glh waf cwaf gwaf wat cwat gwat wag cwag gwag cfi ccfi gcfi clk cclk gclk cop ccop gcop cva ccva gcva cpt ccpt gcpt cel ccel gcel cla ccla gcla)
set_option maxHeartbeats 4000000 in
set_option maxRecDepth 100000 in
theorem c_MA_perform (l : Launch) (dC : Nat → ClassId) (dI : Nat → Nat → Nat) (sz : Nat) (h0 gl aw ac ce sk fb fs ff fl lb lh wat wag waf cfi clk ac_localTypes_r cop cva cpt cel cla : Nat) (csk cfb cfs cff cfl clb clh cwaf cwat cwag ccfi cclk ccop ccva ccpt ccel ccla : ClassId) (h0_pages : Int32) (h0_steps : Int32) (h0_reason : Int32) (h0_height : Int32) (h0_frameCount : Int32) (h0_labelCount : Int32) (h0_at : Int32) (law : List Value) (ac_length : Int32) (ac_labelCount : Int32) (gsk : Nat → Int64) (gfb : Nat → Int32) (gfs : Nat → Int32) (gff : Nat → Int32) (gfl : Nat → Int32) (glb : Nat → Int32) (glh : Nat → Int32) (gwaf : Nat → Int32) (gwat : Nat → Int32) (gwag : Nat → Int32) (gcfi : Nat → Int32) (gclk : Nat → Int32) (gcop : Nat → Int32) (gcva : Nat → Int64) (gcpt : Nat → Int32) (gcel : Nat → Int32) (gcla : Nat → Int32) (an : mc_A) (nl : Nat → Int) (gv : Nat → Int) (fc : Int) (f : Nat) (bs : List (Nat × Int)) (h : Int) (tk : Nat → Int) (gc : Int) (paw_1 : law[1]? = some (.ref ac)) (paw_3 : law[3]? = some (.ref wat)) (paw_5 : law[5]? = some (.ref wag)) (paw_7 : law[7]? = some (.ref waf)) (plaw : law.length = 21) (b_h0_reason : 0 ≤ h0_reason.toInt ∧ h0_reason.toInt ≤ 14) (b_h0_height : 0 ≤ h0_height.toInt ∧ h0_height.toInt ≤ 12096) (b_h0_frameCount : 0 ≤ h0_frameCount.toInt ∧ h0_frameCount.toInt ≤ 100) (b_h0_labelCount : 0 ≤ h0_labelCount.toInt ∧ h0_labelCount.toInt ≤ 10000) (p0 : Int32) (p1 : Int32) (ba1 : 0 ≤ p1.toInt ∧ p1.toInt ≤ 4999) (hr0 : h0_reason.toInt = 0) (hk1 : 1 ≤ h0_frameCount.toInt) (hT : mc_tp an nl gv gfb gfs gff gfl glb glh (h0_frameCount.toInt - 1).toNat f bs h0_labelCount.toInt) (hf : (f : Int) < fc) (hfn : ∀ f : Nat, (f : Int) < fc → f < 30 ∧ 0 ≤ (gwaf f).toInt ∧ (gwaf f).toInt < 20) (hgv : ∀ f : Nat, (f : Int) < fc → gv f = if (gwag (gwaf f).toNatClampNeg).toInt = 64 then 0 else 1) (hnl : ∀ f : Nat, (f : Int) < fc → nl f = (gwat (gwaf f).toNatClampNeg).toInt + (gclk f).toInt ∧ 0 ≤ (gwat (gwaf f).toNatClampNeg).toInt ∧ (gwat (gwaf f).toNatClampNeg).toInt ≤ 8 ∧ 0 ≤ (gclk f).toInt ∧ (gclk f).toInt ≤ 60) (hH : h0_height.toInt = (gfs (h0_frameCount.toInt - 1).toNat).toInt + nl f + h) (hh0 : 0 ≤ h) (htk : ∀ f : Nat, (f : Int) < fc → tk f = (gwat (gwaf f).toNatClampNeg).toInt) (hfs : ∀ f : Nat, (f : Int) < fc → 0 ≤ (gcfi f).toInt ∧ an (gcfi f).toInt.toNat = some (f, [], 0)) (hat : h0_at.toInt = p1.toInt + 1) (ho : p0 = gcop p1.toNatClampNeg) (hop : p0.toInt ≤ 16 ∧ p0.toInt ≠ 5 ∧ p0.toInt ≠ 11) (hQ : mc_at an nl gv tk fc gc gcop gcpt gcel gcla gcva p1.toNatClampNeg f bs h) : Met l y_MA_perform w_MA_perform ({ frames := 4, cells := 0, slots := 0, locals := 89 }) (va_Pc [.ref h0, .int p0, .int p1] (fun U => U.heap.size = sz ∧ va_P (dC, dI) cls (wz_36 h0 h0_pages h0_steps h0_reason gl aw ac ce sk h0_height fb fs ff fl h0_frameCount lb lh h0_labelCount h0_at aw law ac cfi clk ac_localTypes_r ac_length cop cva cpt cel ac_labelCount cla sk csk gsk fb cfb gfb fs cfs gfs ff cff gff fl cfl gfl lb clb glb lh clh glh waf cwaf gwaf wat cwat gwat wag cwag gwag cfi ccfi gcfi clk cclk gclk cop ccop gcop cva ccva gcva cpt ccpt gcpt cel ccel gcel cla ccla gcla) U.heap ∧ va_K (dC, dI) cls [(csk, .long), (cfb, .int), (cfs, .int), (cff, .int), (cfl, .int), (clb, .int), (clh, .int), (cwaf, .int), (cwat, .int), (cwag, .int), (ccfi, .int), (cclk, .int), (ccop, .int), (ccva, .long), (ccpt, .int), (ccel, .int), (ccla, .int)] U ∧ va_D (fun _ => True) (wz_36 h0 h0_pages h0_steps h0_reason gl aw ac ce sk h0_height fb fs ff fl h0_frameCount lb lh h0_labelCount h0_at aw law ac cfi clk ac_localTypes_r ac_length cop cva cpt cel ac_labelCount cla sk csk gsk fb cfb gfb fs cfs gfs ff cff gff fl cfl gfl lb clb glb lh clh glh waf cwaf gwaf wat cwat gwat wag cwag gwag cfi ccfi gcfi clk cclk gclk cop ccop gcop cva ccva gcva cpt ccpt gcpt cel ccel gcel cla ccla gcla))) (va_Qv (fun (u : (Nat → Int32) × (Nat → Int32) × (Nat → Int32) × (Nat → Int32) × (Nat → Int32) × (Nat → Int32) × (Nat → Int64) × Int32 × Int32 × Int32 × Int32 × Int32) => match u with | (gfb2, gff2, gfl2, gfs2, glb2, glh2, gsk2, h0_at2, h0_frameCount2, h0_height2, h0_labelCount2, h0_reason2) => (0 ≤ h0_frameCount2.toInt ∧ h0_frameCount2.toInt ≤ 100) ∧ (0 ≤ h0_height2.toInt ∧ h0_height2.toInt ≤ 12096) ∧ (0 ≤ h0_labelCount2.toInt ∧ h0_labelCount2.toInt ≤ 10000) ∧ (0 ≤ h0_reason2.toInt ∧ h0_reason2.toInt ≤ 14) ∧ (mc_after an nl gv gfb2 gfs2 gff2 gfl2 glb2 glh2 h0_reason2 h0_frameCount2 h0_at2 h0_height2 h0_labelCount2)) (at_MA_perform dC dI h0 gl aw ac ce sk fb fs ff fl lb lh wat wag waf cfi clk ac_localTypes_r cop cva cpt cel cla csk cfb cfs cff cfl clb clh cwaf cwat cwag ccfi cclk ccop ccva ccpt ccel ccla h0_pages h0_steps law ac_length ac_labelCount gwaf gwat gwag gcfi gclk gcop gcva gcpt gcel gcla (va_A (wz_36 h0 h0_pages h0_steps h0_reason gl aw ac ce sk h0_height fb fs ff fl h0_frameCount lb lh h0_labelCount h0_at aw law ac cfi clk ac_localTypes_r ac_length cop cva cpt cel ac_labelCount cla sk csk gsk fb cfb gfb fs cfs gfs ff cff gff fl cfl gfl lb clb glb lh clh glh waf cwaf gwaf wat cwat gwat wag cwag gwag cfi ccfi gcfi clk cclk gclk cop ccop gcop cva ccva gcva cpt ccpt gcpt cel ccel gcel cla ccla gcla) sz)) (va_A (wz_36 h0 h0_pages h0_steps h0_reason gl aw ac ce sk h0_height fb fs ff fl h0_frameCount lb lh h0_labelCount h0_at aw law ac cfi clk ac_localTypes_r ac_length cop cva cpt cel ac_labelCount cla sk csk gsk fb cfb gfb fs cfs gfs ff cff gff fl cfl gfl lb clb glb lh clh glh waf cwaf gwaf wat cwat gwat wag cwag gwag cfi ccfi gcfi clk cclk gclk cop ccop gcop cva ccva gcva cpt ccpt gcpt cel ccel gcel cla ccla gcla) sz)) 0 0 (va_A (wz_36 h0 h0_pages h0_steps h0_reason gl aw ac ce sk h0_height fb fs ff fl h0_frameCount lb lh h0_labelCount h0_at aw law ac cfi clk ac_localTypes_r ac_length cop cva cpt cel ac_labelCount cla sk csk gsk fb cfb gfb fs cfs gfs ff cff gff fl cfl gfl lb clb glb lh clh glh waf cwaf gwaf wat cwat gwat wag cwag gwag cfi ccfi gcfi clk cclk gclk cop ccop gcop cva ccva gcva cpt ccpt gcpt cel ccel gcel cla ccla gcla) sz) := by
  refine Met.ofW (cc := b_MA_perform) (maxL := 6) (ret := none) (by decide) rfl ?_
  intro p e s m args below meth c s₁ B hml hv
  obtain ⟨rfl, hsz, hP, hK, hD0⟩ := hv
  have hx := B.exec
  have hb := B.bytes
  have hr := B.returns
  have hts0 := atoms_spec (ws := w_MA_perform) B.pre
  have hts : ∀ w ∈ lw_g, w.before _ s = true := fun w h => hts0 w (List.mem_cons_of_mem _ h)
  have hown : s.vm.findClass R_MA = some m.cls := findClass_of_methodNamed B.named
  have hlocks := B.notSynchronized
  clear hts0
  subst hsz
  have hD := hD0.self (sz := s.heap.size)
  generalize hAe : va_A (wz_36 h0 h0_pages h0_steps h0_reason gl aw ac ce sk h0_height fb fs ff fl h0_frameCount lb lh h0_labelCount h0_at aw law ac cfi clk ac_localTypes_r ac_length cop cva cpt cel ac_labelCount cla sk csk gsk fb cfb gfb fs cfs gfs ff cff gff fl cfl gfl lb clb glb lh clh glh waf cwaf gwaf wat cwat gwat wag cwag gwag cfi ccfi gcfi clk cclk gclk cop ccop gcop cva ccva gcva cpt ccpt gcpt cel ccel gcel cla ccla gcla) s.heap.size = A at hD ⊢
  have hA : ∀ q : Nat, s.heap.size ≤ q → A q := fun q h => by rw [← hAe]; exact Or.inr h
  clear hAe
  have hP : va_P (dC, dI) cls (wz_36 h0 h0_pages h0_steps h0_reason gl aw ac ce sk h0_height fb fs ff fl h0_frameCount lb lh h0_labelCount h0_at aw law ac cfi clk ac_localTypes_r ac_length cop cva cpt cel ac_labelCount cla sk csk gsk fb cfb gfb fs cfs gfs ff cff gff fl cfl gfl lb clb glb lh clh glh waf cwaf gwaf wat cwat gwat wag cwag gwag cfi ccfi gcfi clk cclk gclk cop ccop gcop cva ccva gcva cpt ccpt gcpt cel ccel gcel cla ccla gcla) s.heap := hP
  have hl := lv_entry ([.ref h0, .int p0, .int p1]) (n := 6) (Nat.le_of_ble_eq_true rfl)
  rw [lg_entry_eq]
  generalize (lg_sl ([.ref h0, .int p0, .int p1]) ++ List.replicate (6 - (lg_sl ([.ref h0, .int p0, .int p1])).length) Slot.unset).toArray = ls at hl ⊢
  have hl : lv_has ls 6 [(0, .ref h0), (1, .int p0), (2, .int p1)] := hl
  have k0 : (0 : Int32).toInt = 0 := by decide
  refine w_gen (A := A) hP (fun H locs hP hS => ?_)
  have k9 : (9 : Int32).toInt = 9 := by decide
  have lo_p0 := i32_lo p0
  have hi_p0 := i32_hi p0
  have lo_p1 := i32_lo p1
  have hi_p1 := i32_hi p1
  obtain ⟨o1, o2, o3, o4, o5, o6, o7, o8⟩ := hT.1
  have hk9 : (((h0_frameCount.toInt - 1).toNat : Nat) : Int) = h0_frameCount.toInt - 1 := by (first | (apply Int.le_antisymm <;> omega) | omega)
  have hfn9 := hfn f hf
  have hp9 := i32_clamp (x := p1) (by (first | (apply Int.le_antisymm <;> omega) | omega))
  have ho9 : (gcop p1.toNatClampNeg).toInt = p0.toInt := by rw [← ho]
  have hat9 : h0_at.toInt.toNat = p1.toNatClampNeg + 1 := by (first | (apply Int.le_antisymm <;> omega) | omega)
  have hops := hQ.2.2.2.2.2.2.2.2.2.2.2.2.2.2.2.2.2.2.2.2.2.2.2.2
  have hnl9 := hnl f hf
  refine lv_aload_n hx hb d_MA_perform_0 rfl (lv_at hl 0 rfl) ?_
  refine va_get (D := (dC, dI)) (ci := 4) (v := .ref ac) (C := R_MA) (T := F_MA) (N := 18) hx hb hts i_MA hown hK hP 0 rfl rfl 5 (by decide) (hts _ kF_MA_50) (fun _ h9 => h9) rfl d_MA_perform_1 ?_
  refine va_get (D := (dC, dI)) (ci := 3) (v := .ref cva) (C := R_CD) (T := F_CD) (N := 10) hx hb hts i_CD hown hK hP 2 rfl rfl 5 (by decide) (hts _ kF_MA_128) (fun _ h9 => h9) rfl d_MA_perform_4 ?_
  refine lv_iload_n hx hb d_MA_perform_7 rfl (lv_at hl 2 rfl) ?_
  have g8 : vp_in p1 5000 := vp_in_iff.mpr ⟨by (first | (apply Int.le_antisymm <;> omega) | omega), by (first | (apply Int.le_antisymm <;> omega) | omega)⟩
  refine va_lald hx hb hK hP 16 13 rfl rfl g8 d_MA_perform_8 ?_
  refine lv_topl (fun x1 ex1 => ?_)
  refine lv_l2i hx hb d_MA_perform_9 rfl ?_
  refine lv_topi (fun x2 ex2 => ?_)
  obtain ⟨x3v, e3v⟩ : ∃ z, z = x2 := ⟨_, rfl⟩
  have v8e := ex1
  have v9 : 0 ≤ (gcva p1.toNatClampNeg).toInt ∧ (gcva p1.toNatClampNeg).toInt ≤ 2147483647 → x2.toInt = (gcva p1.toNatClampNeg).toInt := fun z => by have y := l2i_t ex2 (by rw [ex1]; (first | (apply Int.le_antisymm <;> omega) | omega)) (by rw [ex1]; (first | (apply Int.le_antisymm <;> omega) | omega)); rw [y, ex1]
  rw [← e3v] at v9
  refine lv_istore_n (lv' := [(3, .int x2), (0, .ref h0), (1, .int p0), (2, .int p1)]) hx hb d_MA_perform_10 rfl hl (by decide) rfl (fun ls hl => ?_)
  refine lv_iload_n hx hb d_MA_perform_11 rfl (lv_at hl 2 rfl) ?_
  by_cases g12_96 : p0.toInt = 0
  · have ho12 : tab_off 192 0 16 #[84, 192, 93, 93, 101, 192, 192, 192, 192, 192, 192, 192, 109, 117, 134, 177, 184] p0.toInt = 84 := by rw [g12_96]; rfl
    refine lv_tab (tgt := 96) hx hb d_MA_perform_12 (by decide) ho12 (by decide) ?_
    clear ho12
    refine lv_aload_n hx hb d_MA_perform_96 rfl (lv_at hl 1 rfl) ?_
    refine lv_bipush (v := 9) hx hb d_MA_perform_97 (by decide) ?_
    refine va_put (D := (dC, dI)) (ci := 4) (v := .int 9) (ty := .int) (C := R_MA) (T := F_MA) (N := 18) hx hb hts i_MA t_MA t_MA_ok n_MA hown hK hP hD hS 0 rfl rfl 2 (by decide) (hts _ kF_MA_71) (fun _ h9 => h9) rfl (by decide +kernel) rfl rfl (Nat.le_of_ble_eq_true rfl) d_MA_perform_99 (fun H locs hP hD hS => ?_)
    refine lv_goto (tgt := 204) hx hb d_MA_perform_102 (by decide) ?_
    have hP9 := hP.sb (wq := (wz_36 h0 h0_pages h0_steps 9 gl aw ac ce sk h0_height fb fs ff fl h0_frameCount lb lh h0_labelCount h0_at aw law ac cfi clk ac_localTypes_r ac_length cop cva cpt cel ac_labelCount cla sk csk gsk fb cfb gfb fs cfs gfs ff cff gff fl cfl gfl lb clb glb lh clh glh waf cwaf gwaf wat cwat gwat wag cwag gwag cfi ccfi gcfi clk cclk gclk cop ccop gcop cva ccva gcva cpt ccpt gcpt cel ccel gcel cla ccla gcla)) [0, 1, 2, 3, 4, 5, 6, 7, 8, 9, 10, 11, 12, 13, 14, 15, 16, 17, 18, 19] rfl
    have hD9 := hD.sb (wq := (wz_36 h0 h0_pages h0_steps 9 gl aw ac ce sk h0_height fb fs ff fl h0_frameCount lb lh h0_labelCount h0_at aw law ac cfi clk ac_localTypes_r ac_length cop cva cpt cel ac_labelCount cla sk csk gsk fb cfb gfb fs cfs gfs ff cff gff fl cfl gfl lb clb glb lh clh glh waf cwaf gwaf wat cwat gwat wag cwag gwag cfi ccfi gcfi clk cclk gclk cop ccop gcop cva ccva gcva cpt ccpt gcpt cel ccel gcel cla ccla gcla)) [0, 1, 2, 3, 4, 5, 6, 7, 8, 9, 10, 11, 12, 13, 14, 15, 16, 17, 18, 19] (by decide) rfl
    exact W.vret hx hb hr (fun t ht hW => ⟨⟨(gfb, gff, gfl, gfs, glb, glh, gsk, h0_at, h0_frameCount, h0_height, h0_labelCount, 9), rfl, ⟨b_h0_frameCount, b_h0_height, b_h0_labelCount, by (try dsimp only); (first | (apply Int.le_antisymm <;> omega) | omega), Or.inl (by (try dsimp only); decide)⟩, va_P.he ht.symm hP9, va_K.moved hW.alike hK, hD9⟩, hS.F ht⟩) hS.2.2 d_MA_perform_204
  · skip
    by_cases g12_105 : p0.toInt = 2 ∨ p0.toInt = 3
    · have ho12 : tab_off 192 0 16 #[84, 192, 93, 93, 101, 192, 192, 192, 192, 192, 192, 192, 109, 117, 134, 177, 184] p0.toInt = 93 := by rcases g12_105 with z | z <;> (rw [z]; rfl)
      refine lv_tab (tgt := 105) hx hb d_MA_perform_12 (by decide) ho12 (by decide) ?_
      clear ho12
      have a1 := (hQ.2.1 (by (first | (apply Int.le_antisymm <;> omega) | omega))).1
      refine lv_aload_n hx hb d_MA_perform_105 rfl (lv_at hl 1 rfl) ?_
      refine lv_iload_n hx hb d_MA_perform_106 rfl (lv_at hl 3 rfl) ?_
      have hPc := hP.sb (wq := (wz_18 h0 h0_pages h0_steps h0_reason gl aw ac ce sk h0_height fb fs ff fl h0_frameCount lb lh h0_labelCount h0_at lb clb glb lh clh glh)) [0, 8, 9] rfl
      have hDc := hD.sb (wq := (wz_18 h0 h0_pages h0_steps h0_reason gl aw ac ce sk h0_height fb fs ff fl h0_frameCount lb lh h0_labelCount h0_at lb clb glb lh clh glh)) [0, 8, 9] (by decide) rfl
      have hKc := hK.sb (tyq := [(clb, .int), (clh, .int)]) [5, 6] rfl
      have hFc := va_free (wc := (wz_18 h0 h0_pages h0_steps h0_reason gl aw ac ce sk h0_height fb fs ff fl h0_frameCount lb lh h0_labelCount h0_at lb clb glb lh clh glh)) hD hS hA [0, 8, 9] rfl
      refine va_callv (va_runV (As := [.int p1]) (rest := []) ⟨hx, hb, hml, hown, hts⟩ (c_MA_enterBlock l dC dI H.size h0 gl aw ac ce sk fb fs ff fl lb lh clb clh h0_pages h0_steps h0_reason h0_height h0_frameCount h0_labelCount h0_at glb glh (b_h0_height) (b_h0_labelCount) p1) (cwV 1 hts (gV kM_MA_153 kV_MA_enterBlock kS_MA_enterBlock kI_MA kC_MA_enterBlock) rfl rfl rfl (by decide +kernel) ⟨Nat.le_of_ble_eq_true rfl, Nat.le_of_ble_eq_true rfl⟩) ⟨fun a U g mk z => by obtain ⟨z0, z1, zP, zK, zD⟩ := z; exact ⟨z0, z1, zP, va_K.moved (u := U) (U := U.calling g mk a) (Vm.Alike.refl U.vm) zK, zD⟩, va_recv hKc hPc (ci := 4) (q0 := 0) rfl rfl, fun U hU hW => ⟨rfl, by rw [hU], va_P.he hU.symm hPc, va_K.moved hW.alike hKc, hDc.weaken (fun _ _ _ _ => trivial)⟩⟩ rfl rfl hl.1 rfl (lv_room (Nat.le_of_ble_eq_true rfl)) d_MA_perform_107 ⟨(Nat.zero_le _), (Nat.zero_le _)⟩) hS (fun q _ h => hFc q h) hFc (fun u t H1 locs ht hvm hw hB hz1 hk1 hS => ?_)
      obtain ⟨n4, n5, n6⟩ := u
      try dsimp only at hw
      obtain ⟨bn6, xr3⟩ := hw
      try clear hw
      obtain ⟨u1, u2, u3⟩ := xr3.resolve_right (fun z => absurd z.1 (by (first | (apply Int.le_antisymm <;> omega) | omega)))
      rw [i32_natI (x := h0_labelCount) rfl] at u2 u3
      obtain ⟨hP1, hK1, hD1⟩ := hB
      replace hP1 := va_P.he ht hP1
      obtain ⟨hP, hD⟩ := va_join (wr := [(aw, .inr (10, law)), (ac, .inr (3, [.ref cfi, .ref clk, .ref ac_localTypes_r, .int ac_length, .ref cop, .ref cva, .ref cpt, .ref cel, .int ac_labelCount, .ref cla])), (sk, .inl (csk, 12096, .inr (.inl gsk))), (fb, .inl (cfb, 100, .inl gfb)), (fs, .inl (cfs, 100, .inl gfs)), (ff, .inl (cff, 100, .inl gff)), (fl, .inl (cfl, 100, .inl gfl)), (waf, .inl (cwaf, 30, .inl gwaf)), (wat, .inl (cwat, 20, .inl gwat)), (wag, .inl (cwag, 20, .inl gwag)), (cfi, .inl (ccfi, 31, .inl gcfi)), (clk, .inl (cclk, 30, .inl gclk)), (cop, .inl (ccop, 5000, .inl gcop)), (cva, .inl (ccva, 5000, .inr (.inl gcva))), (cpt, .inl (ccpt, 5000, .inl gcpt)), (cel, .inl (ccel, 5000, .inl gcel)), (cla, .inl (ccla, 2000, .inl gcla))]) (w1 := (wz_18 h0 h0_pages h0_steps h0_reason gl aw ac ce sk h0_height fb fs ff fl h0_frameCount lb lh n6 h0_at lb clb n4 lh clh n5)) hP hD [0, 8, 9] [1, 2, 3, 4, 5, 6, 7, 10, 11, 12, 13, 14, 15, 16, 17, 18, 19] rfl rfl (by decide) (by decide) hk1 hFc hP1 hD1
      clear hPc hDc hKc hFc hz1 hk1 hP1 hK1 hD1
      rename Heap => H
      have hP : va_P (dC, dI) cls [(aw, .inr (10, law)), (ac, .inr (3, [.ref cfi, .ref clk, .ref ac_localTypes_r, .int ac_length, .ref cop, .ref cva, .ref cpt, .ref cel, .int ac_labelCount, .ref cla])), (sk, .inl (csk, 12096, .inr (.inl gsk))), (fb, .inl (cfb, 100, .inl gfb)), (fs, .inl (cfs, 100, .inl gfs)), (ff, .inl (cff, 100, .inl gff)), (fl, .inl (cfl, 100, .inl gfl)), (waf, .inl (cwaf, 30, .inl gwaf)), (wat, .inl (cwat, 20, .inl gwat)), (wag, .inl (cwag, 20, .inl gwag)), (cfi, .inl (ccfi, 31, .inl gcfi)), (clk, .inl (cclk, 30, .inl gclk)), (cop, .inl (ccop, 5000, .inl gcop)), (cva, .inl (ccva, 5000, .inr (.inl gcva))), (cpt, .inl (ccpt, 5000, .inl gcpt)), (cel, .inl (ccel, 5000, .inl gcel)), (cla, .inl (ccla, 2000, .inl gcla)), (h0, .inr (4, [.int h0_pages, .int h0_steps, .int h0_reason, .ref gl, .ref aw, .ref ac, .ref ce, .ref sk, .int h0_height, .ref fb, .ref fs, .ref ff, .ref fl, .int h0_frameCount, .ref lb, .ref lh, .int n6, .int h0_at])), (lb, .inl (clb, 10000, .inl n4)), (lh, .inl (clh, 10000, .inl n5))] H := hP
      have hD : va_D A [(aw, .inr (10, law)), (ac, .inr (3, [.ref cfi, .ref clk, .ref ac_localTypes_r, .int ac_length, .ref cop, .ref cva, .ref cpt, .ref cel, .int ac_labelCount, .ref cla])), (sk, .inl (csk, 12096, .inr (.inl gsk))), (fb, .inl (cfb, 100, .inl gfb)), (fs, .inl (cfs, 100, .inl gfs)), (ff, .inl (cff, 100, .inl gff)), (fl, .inl (cfl, 100, .inl gfl)), (waf, .inl (cwaf, 30, .inl gwaf)), (wat, .inl (cwat, 20, .inl gwat)), (wag, .inl (cwag, 20, .inl gwag)), (cfi, .inl (ccfi, 31, .inl gcfi)), (clk, .inl (cclk, 30, .inl gclk)), (cop, .inl (ccop, 5000, .inl gcop)), (cva, .inl (ccva, 5000, .inr (.inl gcva))), (cpt, .inl (ccpt, 5000, .inl gcpt)), (cel, .inl (ccel, 5000, .inl gcel)), (cla, .inl (ccla, 2000, .inl gcla)), (h0, .inr (4, [.int h0_pages, .int h0_steps, .int h0_reason, .ref gl, .ref aw, .ref ac, .ref ce, .ref sk, .int h0_height, .ref fb, .ref fs, .ref ff, .ref fl, .int h0_frameCount, .ref lb, .ref lh, .int n6, .int h0_at])), (lb, .inl (clb, 10000, .inl n4)), (lh, .inl (clh, 10000, .inl n5))] := hD
      refine lv_goto (tgt := 204) hx hb d_MA_perform_110 (by decide) ?_
      have hP9 := hP.sb (wq := (wz_36 h0 h0_pages h0_steps h0_reason gl aw ac ce sk h0_height fb fs ff fl h0_frameCount lb lh n6 h0_at aw law ac cfi clk ac_localTypes_r ac_length cop cva cpt cel ac_labelCount cla sk csk gsk fb cfb gfb fs cfs gfs ff cff gff fl cfl gfl lb clb n4 lh clh n5 waf cwaf gwaf wat cwat gwat wag cwag gwag cfi ccfi gcfi clk cclk gclk cop ccop gcop cva ccva gcva cpt ccpt gcpt cel ccel gcel cla ccla gcla)) [17, 0, 1, 2, 3, 4, 5, 6, 18, 19, 7, 8, 9, 10, 11, 12, 13, 14, 15, 16] rfl
      have hD9 := hD.sb (wq := (wz_36 h0 h0_pages h0_steps h0_reason gl aw ac ce sk h0_height fb fs ff fl h0_frameCount lb lh n6 h0_at aw law ac cfi clk ac_localTypes_r ac_length cop cva cpt cel ac_labelCount cla sk csk gsk fb cfb gfb fs cfs gfs ff cff gff fl cfl gfl lb clb n4 lh clh n5 waf cwaf gwaf wat cwat gwat wag cwag gwag cfi ccfi gcfi clk cclk gclk cop ccop gcop cva ccva gcva cpt ccpt gcpt cel ccel gcel cla ccla gcla)) [17, 0, 1, 2, 3, 4, 5, 6, 18, 19, 7, 8, 9, 10, 11, 12, 13, 14, 15, 16] (by decide) rfl
      exact W.vret hx hb hr (fun t ht hW => ⟨⟨(gfb, gff, gfl, gfs, n4, n5, gsk, h0_at, h0_frameCount, h0_height, n6, h0_reason), rfl, ⟨b_h0_frameCount, b_h0_height, bn6, b_h0_reason, by (try dsimp only); rw [u2, u3]; exact mc_go (hT.enter (i := p1.toNatClampNeg) (h := h) (by (first | (apply Int.le_antisymm <;> omega) | omega)) (by (first | (apply Int.le_antisymm <;> omega) | omega)) (by (first | (apply Int.le_antisymm <;> omega) | omega)) (by (first | (apply Int.le_antisymm <;> omega) | omega)) (by (first | (apply Int.le_antisymm <;> omega) | omega)) (by (first | (apply Int.le_antisymm <;> omega) | omega))) (by (first | (apply Int.le_antisymm <;> omega) | omega)) (by (first | (apply Int.le_antisymm <;> omega) | omega)) (by rw [hat9]; exact (hQ.2.1 (by (first | (apply Int.le_antisymm <;> omega) | omega))).2) (fun _ => by (first | (apply Int.le_antisymm <;> omega) | omega)) (by (first | (apply Int.le_antisymm <;> omega) | omega))⟩, va_P.he ht.symm hP9, va_K.moved hW.alike hK, hD9⟩, hS.F ht⟩) hS.2.2 d_MA_perform_204
    · skip
      by_cases g12_113 : p0.toInt = 4
      · have ho12 : tab_off 192 0 16 #[84, 192, 93, 93, 101, 192, 192, 192, 192, 192, 192, 192, 109, 117, 134, 177, 184] p0.toInt = 101 := by rw [g12_113]; rfl
        refine lv_tab (tgt := 113) hx hb d_MA_perform_12 (by decide) ho12 (by decide) ?_
        clear ho12
        refine lv_aload_n hx hb d_MA_perform_113 rfl (lv_at hl 1 rfl) ?_
        refine lv_iload_n hx hb d_MA_perform_114 rfl (lv_at hl 3 rfl) ?_
        have hPc := hP.sb (wq := (wz_30 h0 h0_pages h0_steps h0_reason gl aw ac ce sk h0_height fb fs ff fl h0_frameCount lb lh h0_labelCount h0_at ac cfi clk ac_localTypes_r ac_length cop cva cpt cel ac_labelCount cla sk csk gsk fb cfb gfb fs cfs gfs ff cff gff fl cfl gfl lb clb glb lh clh glh cpt ccpt gcpt cel ccel gcel)) [0, 2, 3, 4, 5, 6, 7, 8, 9, 17, 18] rfl
        have hDc := hD.sb (wq := (wz_30 h0 h0_pages h0_steps h0_reason gl aw ac ce sk h0_height fb fs ff fl h0_frameCount lb lh h0_labelCount h0_at ac cfi clk ac_localTypes_r ac_length cop cva cpt cel ac_labelCount cla sk csk gsk fb cfb gfb fs cfs gfs ff cff gff fl cfl gfl lb clb glb lh clh glh cpt ccpt gcpt cel ccel gcel)) [0, 2, 3, 4, 5, 6, 7, 8, 9, 17, 18] (by decide) rfl
        have hKc := hK.sb (tyq := [(csk, .long), (cfb, .int), (cfs, .int), (cff, .int), (cfl, .int), (clb, .int), (clh, .int), (ccpt, .int), (ccel, .int)]) [0, 1, 2, 3, 4, 5, 6, 14, 15] rfl
        have hFc := va_free (wc := (wz_30 h0 h0_pages h0_steps h0_reason gl aw ac ce sk h0_height fb fs ff fl h0_frameCount lb lh h0_labelCount h0_at ac cfi clk ac_localTypes_r ac_length cop cva cpt cel ac_labelCount cla sk csk gsk fb cfb gfb fs cfs gfs ff cff gff fl cfl gfl lb clb glb lh clh glh cpt ccpt gcpt cel ccel gcel)) hD hS hA [0, 2, 3, 4, 5, 6, 7, 8, 9, 17, 18] rfl
        refine va_callv (va_runV (As := [.int p1]) (rest := []) ⟨hx, hb, hml, hown, hts⟩ (c_MA_performIf l dC dI H.size h0 gl aw ac ce sk fb fs ff fl lb lh cfi clk ac_localTypes_r cop cva cpt cel cla csk cfb cfs cff cfl clb clh ccpt ccel h0_pages h0_steps h0_reason h0_height h0_frameCount h0_labelCount h0_at ac_length ac_labelCount gsk gfb gfs gff gfl glb glh gcpt gcel an nl gv fc f bs h (b_h0_height) (b_h0_frameCount) (b_h0_labelCount) p1 (ba1) (hr0) (hk1) (hT) (hH) (by (first | (apply Int.le_antisymm <;> omega) | omega)) ((hQ.2.2.1 (by (first | (apply Int.le_antisymm <;> omega) | omega))).1) (hat) ((hQ.2.2.1 (by (first | (apply Int.le_antisymm <;> omega) | omega))).2)) (cwV 1 hts (gV kM_MA_156 kV_MA_performIf kS_MA_performIf kI_MA kC_MA_performIf) rfl rfl rfl (by decide +kernel) ⟨Nat.le_of_ble_eq_true rfl, Nat.le_of_ble_eq_true rfl⟩) ⟨fun a U g mk z => by obtain ⟨z0, z1, zP, zK, zD⟩ := z; exact ⟨z0, z1, zP, va_K.moved (u := U) (U := U.calling g mk a) (Vm.Alike.refl U.vm) zK, zD⟩, va_recv hKc hPc (ci := 4) (q0 := 0) rfl rfl, fun U hU hW => ⟨rfl, by rw [hU], va_P.he hU.symm hPc, va_K.moved hW.alike hKc, hDc.weaken (fun _ _ _ _ => trivial)⟩⟩ rfl rfl hl.1 rfl (lv_room (Nat.le_of_ble_eq_true rfl)) d_MA_perform_115 ⟨(Nat.zero_le _), (Nat.zero_le _)⟩) hS (fun q _ h => hFc q h) hFc (fun u t H1 locs ht hvm hw hB hz1 hk1 hS => ?_)
        obtain ⟨n8, n9, n10, n11, n12⟩ := u
        try dsimp only at hw
        obtain ⟨bn11, bn12, xr7⟩ := hw
        try clear hw
        obtain ⟨hP1, hK1, hD1⟩ := hB
        replace hP1 := va_P.he ht hP1
        obtain ⟨hP, hD⟩ := va_join (wr := [(aw, .inr (10, law)), (waf, .inl (cwaf, 30, .inl gwaf)), (wat, .inl (cwat, 20, .inl gwat)), (wag, .inl (cwag, 20, .inl gwag)), (cfi, .inl (ccfi, 31, .inl gcfi)), (clk, .inl (cclk, 30, .inl gclk)), (cop, .inl (ccop, 5000, .inl gcop)), (cva, .inl (ccva, 5000, .inr (.inl gcva))), (cla, .inl (ccla, 2000, .inl gcla))]) (w1 := (wz_30 h0 h0_pages h0_steps h0_reason gl aw ac ce sk n11 fb fs ff fl h0_frameCount lb lh n12 n10 ac cfi clk ac_localTypes_r ac_length cop cva cpt cel ac_labelCount cla sk csk gsk fb cfb gfb fs cfs gfs ff cff gff fl cfl gfl lb clb n8 lh clh n9 cpt ccpt gcpt cel ccel gcel)) hP hD [0, 2, 3, 4, 5, 6, 7, 8, 9, 17, 18] [1, 10, 11, 12, 13, 14, 15, 16, 19] rfl rfl (by decide) (by decide) hk1 hFc hP1 hD1
        clear hPc hDc hKc hFc hz1 hk1 hP1 hK1 hD1
        rename Heap => H
        have hP : va_P (dC, dI) cls [(aw, .inr (10, law)), (waf, .inl (cwaf, 30, .inl gwaf)), (wat, .inl (cwat, 20, .inl gwat)), (wag, .inl (cwag, 20, .inl gwag)), (cfi, .inl (ccfi, 31, .inl gcfi)), (clk, .inl (cclk, 30, .inl gclk)), (cop, .inl (ccop, 5000, .inl gcop)), (cva, .inl (ccva, 5000, .inr (.inl gcva))), (cla, .inl (ccla, 2000, .inl gcla)), (h0, .inr (4, [.int h0_pages, .int h0_steps, .int h0_reason, .ref gl, .ref aw, .ref ac, .ref ce, .ref sk, .int n11, .ref fb, .ref fs, .ref ff, .ref fl, .int h0_frameCount, .ref lb, .ref lh, .int n12, .int n10])), (ac, .inr (3, [.ref cfi, .ref clk, .ref ac_localTypes_r, .int ac_length, .ref cop, .ref cva, .ref cpt, .ref cel, .int ac_labelCount, .ref cla])), (sk, .inl (csk, 12096, .inr (.inl gsk))), (fb, .inl (cfb, 100, .inl gfb)), (fs, .inl (cfs, 100, .inl gfs)), (ff, .inl (cff, 100, .inl gff)), (fl, .inl (cfl, 100, .inl gfl)), (lb, .inl (clb, 10000, .inl n8)), (lh, .inl (clh, 10000, .inl n9)), (cpt, .inl (ccpt, 5000, .inl gcpt)), (cel, .inl (ccel, 5000, .inl gcel))] H := hP
        have hD : va_D A [(aw, .inr (10, law)), (waf, .inl (cwaf, 30, .inl gwaf)), (wat, .inl (cwat, 20, .inl gwat)), (wag, .inl (cwag, 20, .inl gwag)), (cfi, .inl (ccfi, 31, .inl gcfi)), (clk, .inl (cclk, 30, .inl gclk)), (cop, .inl (ccop, 5000, .inl gcop)), (cva, .inl (ccva, 5000, .inr (.inl gcva))), (cla, .inl (ccla, 2000, .inl gcla)), (h0, .inr (4, [.int h0_pages, .int h0_steps, .int h0_reason, .ref gl, .ref aw, .ref ac, .ref ce, .ref sk, .int n11, .ref fb, .ref fs, .ref ff, .ref fl, .int h0_frameCount, .ref lb, .ref lh, .int n12, .int n10])), (ac, .inr (3, [.ref cfi, .ref clk, .ref ac_localTypes_r, .int ac_length, .ref cop, .ref cva, .ref cpt, .ref cel, .int ac_labelCount, .ref cla])), (sk, .inl (csk, 12096, .inr (.inl gsk))), (fb, .inl (cfb, 100, .inl gfb)), (fs, .inl (cfs, 100, .inl gfs)), (ff, .inl (cff, 100, .inl gff)), (fl, .inl (cfl, 100, .inl gfl)), (lb, .inl (clb, 10000, .inl n8)), (lh, .inl (clh, 10000, .inl n9)), (cpt, .inl (ccpt, 5000, .inl gcpt)), (cel, .inl (ccel, 5000, .inl gcel))] := hD
        refine lv_goto (tgt := 204) hx hb d_MA_perform_118 (by decide) ?_
        have hP9 := hP.sb (wq := (wz_36 h0 h0_pages h0_steps h0_reason gl aw ac ce sk n11 fb fs ff fl h0_frameCount lb lh n12 n10 aw law ac cfi clk ac_localTypes_r ac_length cop cva cpt cel ac_labelCount cla sk csk gsk fb cfb gfb fs cfs gfs ff cff gff fl cfl gfl lb clb n8 lh clh n9 waf cwaf gwaf wat cwat gwat wag cwag gwag cfi ccfi gcfi clk cclk gclk cop ccop gcop cva ccva gcva cpt ccpt gcpt cel ccel gcel cla ccla gcla)) [9, 0, 10, 11, 12, 13, 14, 15, 16, 17, 1, 2, 3, 4, 5, 6, 7, 18, 19, 8] rfl
        have hD9 := hD.sb (wq := (wz_36 h0 h0_pages h0_steps h0_reason gl aw ac ce sk n11 fb fs ff fl h0_frameCount lb lh n12 n10 aw law ac cfi clk ac_localTypes_r ac_length cop cva cpt cel ac_labelCount cla sk csk gsk fb cfb gfb fs cfs gfs ff cff gff fl cfl gfl lb clb n8 lh clh n9 waf cwaf gwaf wat cwat gwat wag cwag gwag cfi ccfi gcfi clk cclk gclk cop ccop gcop cva ccva gcva cpt ccpt gcpt cel ccel gcel cla ccla gcla)) [9, 0, 10, 11, 12, 13, 14, 15, 16, 17, 1, 2, 3, 4, 5, 6, 7, 18, 19, 8] (by decide) rfl
        exact W.vret hx hb hr (fun t ht hW => ⟨⟨(gfb, gff, gfl, gfs, n8, n9, gsk, n10, h0_frameCount, n11, n12, h0_reason), rfl, ⟨b_h0_frameCount, bn11, bn12, b_h0_reason, xr7⟩, va_P.he ht.symm hP9, va_K.moved hW.alike hK, hD9⟩, hS.F ht⟩) hS.2.2 d_MA_perform_204
      · skip
        by_cases g12_121 : p0.toInt = 12
        · have ho12 : tab_off 192 0 16 #[84, 192, 93, 93, 101, 192, 192, 192, 192, 192, 192, 192, 109, 117, 134, 177, 184] p0.toInt = 109 := by rw [g12_121]; rfl
          refine lv_tab (tgt := 121) hx hb d_MA_perform_12 (by decide) ho12 (by decide) ?_
          clear ho12
          obtain ⟨l1, l2⟩ := hQ.2.2.2.2.2.1 (by (first | (apply Int.le_antisymm <;> omega) | omega))
          have l3 := l2.1
          have tv3 := v9 ⟨by (first | (apply Int.le_antisymm <;> omega) | omega), by (first | (apply Int.le_antisymm <;> omega) | omega)⟩
          have tv4 := tv3
          rw [e3v] at tv4
          refine lv_aload_n hx hb d_MA_perform_121 rfl (lv_at hl 1 rfl) ?_
          refine lv_iload_n hx hb d_MA_perform_122 rfl (lv_at hl 0 rfl) ?_
          have hPc := hP.sb (wq := (wz_29 h0 h0_pages h0_steps h0_reason gl aw ac ce sk h0_height fb fs ff fl h0_frameCount lb lh h0_labelCount h0_at aw law ac cfi clk ac_localTypes_r ac_length cop cva cpt cel ac_labelCount cla sk csk gsk fb cfb gfb fs cfs gfs ff cff gff fl cfl gfl lb clb glb lh clh glh waf cwaf gwaf wag cwag gwag cop ccop gcop cva ccva gcva cpt ccpt gcpt)) [0, 1, 2, 3, 4, 5, 6, 7, 8, 9, 10, 12, 15, 16, 17] rfl
          have hDc := hD.sb (wq := (wz_29 h0 h0_pages h0_steps h0_reason gl aw ac ce sk h0_height fb fs ff fl h0_frameCount lb lh h0_labelCount h0_at aw law ac cfi clk ac_localTypes_r ac_length cop cva cpt cel ac_labelCount cla sk csk gsk fb cfb gfb fs cfs gfs ff cff gff fl cfl gfl lb clb glb lh clh glh waf cwaf gwaf wag cwag gwag cop ccop gcop cva ccva gcva cpt ccpt gcpt)) [0, 1, 2, 3, 4, 5, 6, 7, 8, 9, 10, 12, 15, 16, 17] (by decide) rfl
          have hKc := hK.sb (tyq := [(csk, .long), (cfb, .int), (cfs, .int), (cff, .int), (cfl, .int), (clb, .int), (clh, .int), (cwaf, .int), (cwag, .int), (ccop, .int), (ccva, .long), (ccpt, .int)]) [0, 1, 2, 3, 4, 5, 6, 7, 9, 12, 13, 14] rfl
          have hFc := va_free (wc := (wz_29 h0 h0_pages h0_steps h0_reason gl aw ac ce sk h0_height fb fs ff fl h0_frameCount lb lh h0_labelCount h0_at aw law ac cfi clk ac_localTypes_r ac_length cop cva cpt cel ac_labelCount cla sk csk gsk fb cfb gfb fs cfs gfs ff cff gff fl cfl gfl lb clb glb lh clh glh waf cwaf gwaf wag cwag gwag cop ccop gcop cva ccva gcva cpt ccpt gcpt)) hD hS hA [0, 1, 2, 3, 4, 5, 6, 7, 8, 9, 10, 12, 15, 16, 17] rfl
          refine va_callv (va_runV (As := [.int x2]) (rest := []) ⟨hx, hb, hml, hown, hts⟩ (c_MA_branch l dC dI H.size h0 gl aw ac ce sk fb fs ff fl lb lh wag waf cfi clk ac_localTypes_r cop cva cpt cel cla csk cfb cfs cff cfl clb clh cwaf cwag ccop ccva ccpt h0_pages h0_steps h0_reason h0_height h0_frameCount h0_labelCount h0_at law ac_length ac_labelCount gsk gfb gfs gff gfl glb glh gwaf gwag gcop gcva gcpt an nl gv fc f bs paw_5 paw_7 plaw (b_h0_reason) (b_h0_height) (b_h0_frameCount) (b_h0_labelCount) x2 (by (try dsimp only); (first | (apply Int.le_antisymm <;> omega) | omega)) (hr0) (hk1) (hT) (hf) (hfn) (hgv) (by rw [← e3v, tv3]; exact l2)) (cwV 1 hts (gV kM_MA_159 kV_MA_branch kS_MA_branch kI_MA kC_MA_branch) rfl rfl rfl (by decide +kernel) ⟨Nat.le_of_ble_eq_true rfl, Nat.le_of_ble_eq_true rfl⟩) ⟨fun a U g mk z => by obtain ⟨z0, z1, zP, zK, zD⟩ := z; exact ⟨z0, z1, zP, va_K.moved (u := U) (U := U.calling g mk a) (Vm.Alike.refl U.vm) zK, zD⟩, va_recv hKc hPc (ci := 4) (q0 := 0) rfl rfl, fun U hU hW => ⟨rfl, by rw [hU], va_P.he hU.symm hPc, va_K.moved hW.alike hKc, hDc.weaken (fun _ _ _ _ => trivial)⟩⟩ rfl rfl hl.1 rfl (lv_room (Nat.le_of_ble_eq_true rfl)) d_MA_perform_123 ⟨(Nat.zero_le _), (Nat.zero_le _)⟩) hS (fun q _ h => hFc q h) hFc (fun u t H1 locs ht hvm hw hB hz1 hk1 hS => ?_)
          obtain ⟨n14, n15, n16, n17, n18, n19⟩ := u
          try dsimp only at hw
          obtain ⟨bn16, bn17, bn18, bn19, xr13⟩ := hw
          try clear hw
          obtain ⟨hP1, hK1, hD1⟩ := hB
          replace hP1 := va_P.he ht hP1
          obtain ⟨hP, hD⟩ := va_join (wr := (wz_37 wat cwat gwat cfi ccfi gcfi clk cclk gclk cel ccel gcel cla ccla gcla)) (w1 := (wz_29 h0 h0_pages h0_steps n19 gl aw ac ce sk n17 fb fs ff fl n16 lb lh n18 n15 aw law ac cfi clk ac_localTypes_r ac_length cop cva cpt cel ac_labelCount cla sk csk n14 fb cfb gfb fs cfs gfs ff cff gff fl cfl gfl lb clb glb lh clh glh waf cwaf gwaf wag cwag gwag cop ccop gcop cva ccva gcva cpt ccpt gcpt)) hP hD [0, 1, 2, 3, 4, 5, 6, 7, 8, 9, 10, 12, 15, 16, 17] [11, 13, 14, 18, 19] rfl rfl (by decide) (by decide) hk1 hFc hP1 hD1
          clear hPc hDc hKc hFc hz1 hk1 hP1 hK1 hD1
          rename Heap => H
          have hP : va_P (dC, dI) cls (wz_38 wat cwat gwat cfi ccfi gcfi clk cclk gclk cel ccel gcel cla ccla gcla h0 h0_pages h0_steps n19 gl aw ac ce sk n17 fb fs ff fl n16 lb lh n18 n15 aw law ac cfi clk ac_localTypes_r ac_length cop cva cpt cel ac_labelCount cla sk csk n14 fb cfb gfb fs cfs gfs ff cff gff fl cfl gfl lb clb glb lh clh glh waf cwaf gwaf wag cwag gwag cop ccop gcop cva ccva gcva cpt ccpt gcpt) H := hP
          have hD : va_D A (wz_38 wat cwat gwat cfi ccfi gcfi clk cclk gclk cel ccel gcel cla ccla gcla h0 h0_pages h0_steps n19 gl aw ac ce sk n17 fb fs ff fl n16 lb lh n18 n15 aw law ac cfi clk ac_localTypes_r ac_length cop cva cpt cel ac_labelCount cla sk csk n14 fb cfb gfb fs cfs gfs ff cff gff fl cfl gfl lb clb glb lh clh glh waf cwaf gwaf wag cwag gwag cop ccop gcop cva ccva gcva cpt ccpt gcpt) := hD
          refine lv_goto (tgt := 204) hx hb d_MA_perform_126 (by decide) ?_
          have hP9 := hP.sb (wq := (wz_36 h0 h0_pages h0_steps n19 gl aw ac ce sk n17 fb fs ff fl n16 lb lh n18 n15 aw law ac cfi clk ac_localTypes_r ac_length cop cva cpt cel ac_labelCount cla sk csk n14 fb cfb gfb fs cfs gfs ff cff gff fl cfl gfl lb clb glb lh clh glh waf cwaf gwaf wat cwat gwat wag cwag gwag cfi ccfi gcfi clk cclk gclk cop ccop gcop cva ccva gcva cpt ccpt gcpt cel ccel gcel cla ccla gcla)) [5, 6, 7, 8, 9, 10, 11, 12, 13, 14, 15, 0, 16, 1, 2, 17, 18, 19, 3, 4] rfl
          have hD9 := hD.sb (wq := (wz_36 h0 h0_pages h0_steps n19 gl aw ac ce sk n17 fb fs ff fl n16 lb lh n18 n15 aw law ac cfi clk ac_localTypes_r ac_length cop cva cpt cel ac_labelCount cla sk csk n14 fb cfb gfb fs cfs gfs ff cff gff fl cfl gfl lb clb glb lh clh glh waf cwaf gwaf wat cwat gwat wag cwag gwag cfi ccfi gcfi clk cclk gclk cop ccop gcop cva ccva gcva cpt ccpt gcpt cel ccel gcel cla ccla gcla)) [5, 6, 7, 8, 9, 10, 11, 12, 13, 14, 15, 0, 16, 1, 2, 17, 18, 19, 3, 4] (by decide) rfl
          exact W.vret hx hb hr (fun t ht hW => ⟨⟨(gfb, gff, gfl, gfs, glb, glh, n14, n15, n16, n17, n18, n19), rfl, ⟨bn16, bn17, bn18, bn19, xr13⟩, va_P.he ht.symm hP9, va_K.moved hW.alike hK, hD9⟩, hS.F ht⟩) hS.2.2 d_MA_perform_204
        · skip
          by_cases g12_129 : p0.toInt = 13
          · have ho12 : tab_off 192 0 16 #[84, 192, 93, 93, 101, 192, 192, 192, 192, 192, 192, 192, 109, 117, 134, 177, 184] p0.toInt = 117 := by rw [g12_129]; rfl
            refine lv_tab (tgt := 129) hx hb d_MA_perform_12 (by decide) ho12 (by decide) ?_
            clear ho12
            obtain ⟨l0, l1, l2, l4⟩ := hQ.2.2.2.2.2.2.1 (by (first | (apply Int.le_antisymm <;> omega) | omega))
            have l3 := l2.1
            have tv3 := v9 ⟨by (first | (apply Int.le_antisymm <;> omega) | omega), by (first | (apply Int.le_antisymm <;> omega) | omega)⟩
            have tv4 := tv3
            rw [e3v] at tv4
            refine lv_aload_n hx hb d_MA_perform_129 rfl (lv_at hl 1 rfl) ?_
            have hPc := hP.sb (wq := (wz_17 h0 h0_pages h0_steps h0_reason gl aw ac ce sk h0_height fb fs ff fl h0_frameCount lb lh h0_labelCount h0_at sk csk gsk)) [0, 3] rfl
            have hDc := hD.sb (wq := (wz_17 h0 h0_pages h0_steps h0_reason gl aw ac ce sk h0_height fb fs ff fl h0_frameCount lb lh h0_labelCount h0_at sk csk gsk)) [0, 3] (by decide) rfl
            have hKc := hK.sb (tyq := [(csk, .long)]) [0] rfl
            have hFc := va_free (wc := (wz_17 h0 h0_pages h0_steps h0_reason gl aw ac ce sk h0_height fb fs ff fl h0_frameCount lb lh h0_labelCount h0_at sk csk gsk)) hD hS hA [0, 3] rfl
            refine va_calll (va_runV (As := []) (rest := []) ⟨hx, hb, hml, hown, hts⟩ (c_MA_pop l dC dI H.size h0 gl aw ac ce sk fb fs ff fl lb lh csk h0_pages h0_steps h0_reason h0_height h0_frameCount h0_labelCount h0_at gsk (b_h0_height)) (cwV 0 hts (gV kM_MA_142 kV_MA_pop kS_MA_pop kI_MA kC_MA_pop) rfl rfl rfl (by decide +kernel) ⟨Nat.le_of_ble_eq_true rfl, Nat.le_of_ble_eq_true rfl⟩) ⟨fun a U g mk z => by obtain ⟨z0, z1, zP, zK, zD⟩ := z; exact ⟨z0, z1, zP, va_K.moved (u := U) (U := U.calling g mk a) (Vm.Alike.refl U.vm) zK, zD⟩, va_recv hKc hPc (ci := 4) (q0 := 0) rfl rfl, fun U hU hW => ⟨rfl, by rw [hU], va_P.he hU.symm hPc, va_K.moved hW.alike hKc, hDc.weaken (fun _ _ _ _ => trivial)⟩⟩ rfl rfl hl.1 rfl (lv_room (Nat.le_of_ble_eq_true rfl)) d_MA_perform_130 ⟨(Nat.zero_le _), (Nat.zero_le _)⟩) hS (fun q _ h => hFc q h) hFc (fun r20 u t H1 locs ht hvm hw hB hz1 hk1 hS => ?_)
            obtain ⟨n21, rfl⟩ : ∃ z, z = u := ⟨_, rfl⟩
            try dsimp only at hw
            obtain ⟨bn21, xr20⟩ := hw
            try clear hw
            obtain ⟨hP1, hK1, hD1⟩ := hB
            replace hP1 := va_P.he ht hP1
            obtain ⟨hP, hD⟩ := va_join (wr := [(aw, .inr (10, law)), (ac, .inr (3, [.ref cfi, .ref clk, .ref ac_localTypes_r, .int ac_length, .ref cop, .ref cva, .ref cpt, .ref cel, .int ac_labelCount, .ref cla])), (fb, .inl (cfb, 100, .inl gfb)), (fs, .inl (cfs, 100, .inl gfs)), (ff, .inl (cff, 100, .inl gff)), (fl, .inl (cfl, 100, .inl gfl)), (lb, .inl (clb, 10000, .inl glb)), (lh, .inl (clh, 10000, .inl glh)), (waf, .inl (cwaf, 30, .inl gwaf)), (wat, .inl (cwat, 20, .inl gwat)), (wag, .inl (cwag, 20, .inl gwag)), (cfi, .inl (ccfi, 31, .inl gcfi)), (clk, .inl (cclk, 30, .inl gclk)), (cop, .inl (ccop, 5000, .inl gcop)), (cva, .inl (ccva, 5000, .inr (.inl gcva))), (cpt, .inl (ccpt, 5000, .inl gcpt)), (cel, .inl (ccel, 5000, .inl gcel)), (cla, .inl (ccla, 2000, .inl gcla))]) (w1 := (wz_17 h0 h0_pages h0_steps h0_reason gl aw ac ce sk n21 fb fs ff fl h0_frameCount lb lh h0_labelCount h0_at sk csk gsk)) hP hD [0, 3] [1, 2, 4, 5, 6, 7, 8, 9, 10, 11, 12, 13, 14, 15, 16, 17, 18, 19] rfl rfl (by decide) (by decide) hk1 hFc hP1 hD1
            clear hPc hDc hKc hFc hz1 hk1 hP1 hK1 hD1
            rename Heap => H
            have hP : va_P (dC, dI) cls (wz_39 aw law ac cfi clk ac_localTypes_r ac_length cop cva cpt cel ac_labelCount cla fb cfb gfb fs cfs gfs ff cff gff fl cfl gfl lb clb glb lh clh glh waf cwaf gwaf wat cwat gwat wag cwag gwag cfi ccfi gcfi clk cclk gclk cop ccop gcop cva ccva gcva cpt ccpt gcpt cel ccel gcel cla ccla gcla h0 h0_pages h0_steps h0_reason gl aw ac ce sk n21 fb fs ff fl h0_frameCount lb lh h0_labelCount h0_at sk csk gsk) H := hP
            have hD : va_D A (wz_39 aw law ac cfi clk ac_localTypes_r ac_length cop cva cpt cel ac_labelCount cla fb cfb gfb fs cfs gfs ff cff gff fl cfl gfl lb clb glb lh clh glh waf cwaf gwaf wat cwat gwat wag cwag gwag cfi ccfi gcfi clk cclk gclk cop ccop gcop cva ccva gcva cpt ccpt gcpt cel ccel gcel cla ccla gcla h0 h0_pages h0_steps h0_reason gl aw ac ce sk n21 fb fs ff fl h0_frameCount lb lh h0_labelCount h0_at sk csk gsk) := hD
            refine lv_lconst (v := 0) hx hb d_MA_perform_133 (by decide) ?_
            have kl0 : (0 : Int64).toInt = 0 := by decide
            refine W.lcmp hx hb d_MA_perform_134 ?_
            refine lv_topi (fun x22 ex22 => ?_)
            have tx22 := lgc ex22
            refine lv_if_eq (tgt := 204) hx hb d_MA_perform_135 (by decide) (fun c135 => ?_) (fun c135 => ?_)
            · have q135 := eqI c135
              have hP9 := hP.sb (wq := (wz_36 h0 h0_pages h0_steps h0_reason gl aw ac ce sk n21 fb fs ff fl h0_frameCount lb lh h0_labelCount h0_at aw law ac cfi clk ac_localTypes_r ac_length cop cva cpt cel ac_labelCount cla sk csk gsk fb cfb gfb fs cfs gfs ff cff gff fl cfl gfl lb clb glb lh clh glh waf cwaf gwaf wat cwat gwat wag cwag gwag cfi ccfi gcfi clk cclk gclk cop ccop gcop cva ccva gcva cpt ccpt gcpt cel ccel gcel cla ccla gcla)) [18, 0, 1, 19, 2, 3, 4, 5, 6, 7, 8, 9, 10, 11, 12, 13, 14, 15, 16, 17] rfl
              have hD9 := hD.sb (wq := (wz_36 h0 h0_pages h0_steps h0_reason gl aw ac ce sk n21 fb fs ff fl h0_frameCount lb lh h0_labelCount h0_at aw law ac cfi clk ac_localTypes_r ac_length cop cva cpt cel ac_labelCount cla sk csk gsk fb cfb gfb fs cfs gfs ff cff gff fl cfl gfl lb clb glb lh clh glh waf cwaf gwaf wat cwat gwat wag cwag gwag cfi ccfi gcfi clk cclk gclk cop ccop gcop cva ccva gcva cpt ccpt gcpt cel ccel gcel cla ccla gcla)) [18, 0, 1, 19, 2, 3, 4, 5, 6, 7, 8, 9, 10, 11, 12, 13, 14, 15, 16, 17] (by decide) rfl
              exact W.vret hx hb hr (fun t ht hW => ⟨⟨(gfb, gff, gfl, gfs, glb, glh, gsk, h0_at, h0_frameCount, n21, h0_labelCount, h0_reason), rfl, ⟨b_h0_frameCount, bn21, b_h0_labelCount, b_h0_reason, mc_go hT (by (try dsimp only); (first | (apply Int.le_antisymm <;> omega) | omega)) (by (first | (apply Int.le_antisymm <;> omega) | omega)) (by rw [hat9]; exact (hQ.2.2.2.2.2.2.1 (by (first | (apply Int.le_antisymm <;> omega) | omega))).2.2.2) (fun _ => by (try dsimp only); (first | (apply Int.le_antisymm <;> omega) | omega)) rfl⟩, va_P.he ht.symm hP9, va_K.moved hW.alike hK, hD9⟩, hS.F ht⟩) hS.2.2 d_MA_perform_204
            · have q135 := neI c135
              refine lv_aload_n hx hb d_MA_perform_138 rfl (lv_at hl 1 rfl) ?_
              refine lv_iload_n hx hb d_MA_perform_139 rfl (lv_at hl 0 rfl) ?_
              have hPc := hP.sb (wq := (wz_29 h0 h0_pages h0_steps h0_reason gl aw ac ce sk n21 fb fs ff fl h0_frameCount lb lh h0_labelCount h0_at aw law ac cfi clk ac_localTypes_r ac_length cop cva cpt cel ac_labelCount cla sk csk gsk fb cfb gfb fs cfs gfs ff cff gff fl cfl gfl lb clb glb lh clh glh waf cwaf gwaf wag cwag gwag cop ccop gcop cva ccva gcva cpt ccpt gcpt)) [18, 0, 1, 19, 2, 3, 4, 5, 6, 7, 8, 10, 13, 14, 15] rfl
              have hDc := hD.sb (wq := (wz_29 h0 h0_pages h0_steps h0_reason gl aw ac ce sk n21 fb fs ff fl h0_frameCount lb lh h0_labelCount h0_at aw law ac cfi clk ac_localTypes_r ac_length cop cva cpt cel ac_labelCount cla sk csk gsk fb cfb gfb fs cfs gfs ff cff gff fl cfl gfl lb clb glb lh clh glh waf cwaf gwaf wag cwag gwag cop ccop gcop cva ccva gcva cpt ccpt gcpt)) [18, 0, 1, 19, 2, 3, 4, 5, 6, 7, 8, 10, 13, 14, 15] (by decide) rfl
              have hKc := hK.sb (tyq := [(csk, .long), (cfb, .int), (cfs, .int), (cff, .int), (cfl, .int), (clb, .int), (clh, .int), (cwaf, .int), (cwag, .int), (ccop, .int), (ccva, .long), (ccpt, .int)]) [0, 1, 2, 3, 4, 5, 6, 7, 9, 12, 13, 14] rfl
              have hFc := va_free (wc := (wz_29 h0 h0_pages h0_steps h0_reason gl aw ac ce sk n21 fb fs ff fl h0_frameCount lb lh h0_labelCount h0_at aw law ac cfi clk ac_localTypes_r ac_length cop cva cpt cel ac_labelCount cla sk csk gsk fb cfb gfb fs cfs gfs ff cff gff fl cfl gfl lb clb glb lh clh glh waf cwaf gwaf wag cwag gwag cop ccop gcop cva ccva gcva cpt ccpt gcpt)) hD hS hA [18, 0, 1, 19, 2, 3, 4, 5, 6, 7, 8, 10, 13, 14, 15] rfl
              refine va_callv (va_runV (As := [.int x2]) (rest := []) ⟨hx, hb, hml, hown, hts⟩ (c_MA_branch l dC dI H.size h0 gl aw ac ce sk fb fs ff fl lb lh wag waf cfi clk ac_localTypes_r cop cva cpt cel cla csk cfb cfs cff cfl clb clh cwaf cwag ccop ccva ccpt h0_pages h0_steps h0_reason n21 h0_frameCount h0_labelCount h0_at law ac_length ac_labelCount gsk gfb gfs gff gfl glb glh gwaf gwag gcop gcva gcpt an nl gv fc f bs paw_5 paw_7 plaw (b_h0_reason) (bn21) (b_h0_frameCount) (b_h0_labelCount) x2 (by (try dsimp only); (first | (apply Int.le_antisymm <;> omega) | omega)) (hr0) (hk1) (hT) (hf) (hfn) (hgv) (by rw [← e3v, tv3]; exact l2)) (cwV 1 hts (gV kM_MA_159 kV_MA_branch kS_MA_branch kI_MA kC_MA_branch) rfl rfl rfl (by decide +kernel) ⟨Nat.le_of_ble_eq_true rfl, Nat.le_of_ble_eq_true rfl⟩) ⟨fun a U g mk z => by obtain ⟨z0, z1, zP, zK, zD⟩ := z; exact ⟨z0, z1, zP, va_K.moved (u := U) (U := U.calling g mk a) (Vm.Alike.refl U.vm) zK, zD⟩, va_recv hKc hPc (ci := 4) (q0 := 0) rfl rfl, fun U hU hW => ⟨rfl, by rw [hU], va_P.he hU.symm hPc, va_K.moved hW.alike hKc, hDc.weaken (fun _ _ _ _ => trivial)⟩⟩ rfl rfl hl.1 rfl (lv_room (Nat.le_of_ble_eq_true rfl)) d_MA_perform_140 ⟨(Nat.zero_le _), (Nat.zero_le _)⟩) hS (fun q _ h => hFc q h) hFc (fun u t H1 locs ht hvm hw hB hz1 hk1 hS => ?_)
              obtain ⟨n24, n25, n26, n27, n28, n29⟩ := u
              try dsimp only at hw
              obtain ⟨bn26, bn27, bn28, bn29, xr23⟩ := hw
              try clear hw
              obtain ⟨hP1, hK1, hD1⟩ := hB
              replace hP1 := va_P.he ht hP1
              obtain ⟨hP, hD⟩ := va_join (wr := (wz_37 wat cwat gwat cfi ccfi gcfi clk cclk gclk cel ccel gcel cla ccla gcla)) (w1 := (wz_29 h0 h0_pages h0_steps n29 gl aw ac ce sk n27 fb fs ff fl n26 lb lh n28 n25 aw law ac cfi clk ac_localTypes_r ac_length cop cva cpt cel ac_labelCount cla sk csk n24 fb cfb gfb fs cfs gfs ff cff gff fl cfl gfl lb clb glb lh clh glh waf cwaf gwaf wag cwag gwag cop ccop gcop cva ccva gcva cpt ccpt gcpt)) hP hD [18, 0, 1, 19, 2, 3, 4, 5, 6, 7, 8, 10, 13, 14, 15] [9, 11, 12, 16, 17] rfl rfl (by decide) (by decide) hk1 hFc hP1 hD1
              clear hPc hDc hKc hFc hz1 hk1 hP1 hK1 hD1
              rename Heap => H
              have hP : va_P (dC, dI) cls (wz_38 wat cwat gwat cfi ccfi gcfi clk cclk gclk cel ccel gcel cla ccla gcla h0 h0_pages h0_steps n29 gl aw ac ce sk n27 fb fs ff fl n26 lb lh n28 n25 aw law ac cfi clk ac_localTypes_r ac_length cop cva cpt cel ac_labelCount cla sk csk n24 fb cfb gfb fs cfs gfs ff cff gff fl cfl gfl lb clb glb lh clh glh waf cwaf gwaf wag cwag gwag cop ccop gcop cva ccva gcva cpt ccpt gcpt) H := hP
              have hD : va_D A (wz_38 wat cwat gwat cfi ccfi gcfi clk cclk gclk cel ccel gcel cla ccla gcla h0 h0_pages h0_steps n29 gl aw ac ce sk n27 fb fs ff fl n26 lb lh n28 n25 aw law ac cfi clk ac_localTypes_r ac_length cop cva cpt cel ac_labelCount cla sk csk n24 fb cfb gfb fs cfs gfs ff cff gff fl cfl gfl lb clb glb lh clh glh waf cwaf gwaf wag cwag gwag cop ccop gcop cva ccva gcva cpt ccpt gcpt) := hD
              refine lv_goto (tgt := 204) hx hb d_MA_perform_143 (by decide) ?_
              have hP9 := hP.sb (wq := (wz_36 h0 h0_pages h0_steps n29 gl aw ac ce sk n27 fb fs ff fl n26 lb lh n28 n25 aw law ac cfi clk ac_localTypes_r ac_length cop cva cpt cel ac_labelCount cla sk csk n24 fb cfb gfb fs cfs gfs ff cff gff fl cfl gfl lb clb glb lh clh glh waf cwaf gwaf wat cwat gwat wag cwag gwag cfi ccfi gcfi clk cclk gclk cop ccop gcop cva ccva gcva cpt ccpt gcpt cel ccel gcel cla ccla gcla)) [5, 6, 7, 8, 9, 10, 11, 12, 13, 14, 15, 0, 16, 1, 2, 17, 18, 19, 3, 4] rfl
              have hD9 := hD.sb (wq := (wz_36 h0 h0_pages h0_steps n29 gl aw ac ce sk n27 fb fs ff fl n26 lb lh n28 n25 aw law ac cfi clk ac_localTypes_r ac_length cop cva cpt cel ac_labelCount cla sk csk n24 fb cfb gfb fs cfs gfs ff cff gff fl cfl gfl lb clb glb lh clh glh waf cwaf gwaf wat cwat gwat wag cwag gwag cfi ccfi gcfi clk cclk gclk cop ccop gcop cva ccva gcva cpt ccpt gcpt cel ccel gcel cla ccla gcla)) [5, 6, 7, 8, 9, 10, 11, 12, 13, 14, 15, 0, 16, 1, 2, 17, 18, 19, 3, 4] (by decide) rfl
              exact W.vret hx hb hr (fun t ht hW => ⟨⟨(gfb, gff, gfl, gfs, glb, glh, n24, n25, n26, n27, n28, n29), rfl, ⟨bn26, bn27, bn28, bn29, xr23⟩, va_P.he ht.symm hP9, va_K.moved hW.alike hK, hD9⟩, hS.F ht⟩) hS.2.2 d_MA_perform_204
          · skip
            by_cases g12_146 : p0.toInt = 14
            · have ho12 : tab_off 192 0 16 #[84, 192, 93, 93, 101, 192, 192, 192, 192, 192, 192, 192, 109, 117, 134, 177, 184] p0.toInt = 134 := by rw [g12_146]; rfl
              refine lv_tab (tgt := 146) hx hb d_MA_perform_12 (by decide) ho12 (by decide) ?_
              clear ho12
              obtain ⟨l0, l1, l2, l3, -⟩ := hQ.2.2.2.2.2.2.2.1 (by (first | (apply Int.le_antisymm <;> omega) | omega))
              have tv3 := v9 ⟨by (first | (apply Int.le_antisymm <;> omega) | omega), by (first | (apply Int.le_antisymm <;> omega) | omega)⟩
              have tv4 := tv3
              rw [e3v] at tv4
              refine lv_aload_n hx hb d_MA_perform_146 rfl (lv_at hl 1 rfl) ?_
              have hPc := hP.sb (wq := (wz_17 h0 h0_pages h0_steps h0_reason gl aw ac ce sk h0_height fb fs ff fl h0_frameCount lb lh h0_labelCount h0_at sk csk gsk)) [0, 3] rfl
              have hDc := hD.sb (wq := (wz_17 h0 h0_pages h0_steps h0_reason gl aw ac ce sk h0_height fb fs ff fl h0_frameCount lb lh h0_labelCount h0_at sk csk gsk)) [0, 3] (by decide) rfl
              have hKc := hK.sb (tyq := [(csk, .long)]) [0] rfl
              have hFc := va_free (wc := (wz_17 h0 h0_pages h0_steps h0_reason gl aw ac ce sk h0_height fb fs ff fl h0_frameCount lb lh h0_labelCount h0_at sk csk gsk)) hD hS hA [0, 3] rfl
              refine va_calll (va_runV (As := []) (rest := []) ⟨hx, hb, hml, hown, hts⟩ (c_MA_pop l dC dI H.size h0 gl aw ac ce sk fb fs ff fl lb lh csk h0_pages h0_steps h0_reason h0_height h0_frameCount h0_labelCount h0_at gsk (b_h0_height)) (cwV 0 hts (gV kM_MA_142 kV_MA_pop kS_MA_pop kI_MA kC_MA_pop) rfl rfl rfl (by decide +kernel) ⟨Nat.le_of_ble_eq_true rfl, Nat.le_of_ble_eq_true rfl⟩) ⟨fun a U g mk z => by obtain ⟨z0, z1, zP, zK, zD⟩ := z; exact ⟨z0, z1, zP, va_K.moved (u := U) (U := U.calling g mk a) (Vm.Alike.refl U.vm) zK, zD⟩, va_recv hKc hPc (ci := 4) (q0 := 0) rfl rfl, fun U hU hW => ⟨rfl, by rw [hU], va_P.he hU.symm hPc, va_K.moved hW.alike hKc, hDc.weaken (fun _ _ _ _ => trivial)⟩⟩ rfl rfl hl.1 rfl (lv_room (Nat.le_of_ble_eq_true rfl)) d_MA_perform_147 ⟨(Nat.zero_le _), (Nat.zero_le _)⟩) hS (fun q _ h => hFc q h) hFc (fun r30 u t H1 locs ht hvm hw hB hz1 hk1 hS => ?_)
              obtain ⟨n31, rfl⟩ : ∃ z, z = u := ⟨_, rfl⟩
              try dsimp only at hw
              obtain ⟨bn31, xr30⟩ := hw
              try clear hw
              obtain ⟨hP1, hK1, hD1⟩ := hB
              replace hP1 := va_P.he ht hP1
              obtain ⟨hP, hD⟩ := va_join (wr := [(aw, .inr (10, law)), (ac, .inr (3, [.ref cfi, .ref clk, .ref ac_localTypes_r, .int ac_length, .ref cop, .ref cva, .ref cpt, .ref cel, .int ac_labelCount, .ref cla])), (fb, .inl (cfb, 100, .inl gfb)), (fs, .inl (cfs, 100, .inl gfs)), (ff, .inl (cff, 100, .inl gff)), (fl, .inl (cfl, 100, .inl gfl)), (lb, .inl (clb, 10000, .inl glb)), (lh, .inl (clh, 10000, .inl glh)), (waf, .inl (cwaf, 30, .inl gwaf)), (wat, .inl (cwat, 20, .inl gwat)), (wag, .inl (cwag, 20, .inl gwag)), (cfi, .inl (ccfi, 31, .inl gcfi)), (clk, .inl (cclk, 30, .inl gclk)), (cop, .inl (ccop, 5000, .inl gcop)), (cva, .inl (ccva, 5000, .inr (.inl gcva))), (cpt, .inl (ccpt, 5000, .inl gcpt)), (cel, .inl (ccel, 5000, .inl gcel)), (cla, .inl (ccla, 2000, .inl gcla))]) (w1 := (wz_17 h0 h0_pages h0_steps h0_reason gl aw ac ce sk n31 fb fs ff fl h0_frameCount lb lh h0_labelCount h0_at sk csk gsk)) hP hD [0, 3] [1, 2, 4, 5, 6, 7, 8, 9, 10, 11, 12, 13, 14, 15, 16, 17, 18, 19] rfl rfl (by decide) (by decide) hk1 hFc hP1 hD1
              clear hPc hDc hKc hFc hz1 hk1 hP1 hK1 hD1
              rename Heap => H
              have hP : va_P (dC, dI) cls (wz_39 aw law ac cfi clk ac_localTypes_r ac_length cop cva cpt cel ac_labelCount cla fb cfb gfb fs cfs gfs ff cff gff fl cfl gfl lb clb glb lh clh glh waf cwaf gwaf wat cwat gwat wag cwag gwag cfi ccfi gcfi clk cclk gclk cop ccop gcop cva ccva gcva cpt ccpt gcpt cel ccel gcel cla ccla gcla h0 h0_pages h0_steps h0_reason gl aw ac ce sk n31 fb fs ff fl h0_frameCount lb lh h0_labelCount h0_at sk csk gsk) H := hP
              have hD : va_D A (wz_39 aw law ac cfi clk ac_localTypes_r ac_length cop cva cpt cel ac_labelCount cla fb cfb gfb fs cfs gfs ff cff gff fl cfl gfl lb clb glb lh clh glh waf cwaf gwaf wat cwat gwat wag cwag gwag cfi ccfi gcfi clk cclk gclk cop ccop gcop cva ccva gcva cpt ccpt gcpt cel ccel gcel cla ccla gcla h0 h0_pages h0_steps h0_reason gl aw ac ce sk n31 fb fs ff fl h0_frameCount lb lh h0_labelCount h0_at sk csk gsk) := hD
              refine lv_ldc2 hx hb hown (hts _ kL_MA_162) d_MA_perform_150 ?_
              refine lv_topl (fun x32 ex32 => ?_)
              have tx32 : x32.toInt = 4294967295 := by rw [ex32]; decide
              refine lv_land hx hb d_MA_perform_153 ?_
              refine lv_topl (fun x33 ex33 => ?_)
              have tx33 := i64_and32 r30
              rw [show (4294967295 : Int64) = x32 from ex32.symm, ← ex33] at tx33
              refine lv_lstore (lv' := [(4, .long x33), (3, .int x2), (0, .ref h0), (1, .int p0), (2, .int p1)]) hx hb d_MA_perform_154 hl (by decide) rfl (fun ls hl => ?_)
              refine lv_aload_n hx hb d_MA_perform_156 rfl (lv_at hl 2 rfl) ?_
              refine lv_aload_n hx hb d_MA_perform_157 rfl (lv_at hl 2 rfl) ?_
              refine va_get (D := (dC, dI)) (ci := 4) (v := .ref ac) (C := R_MA) (T := F_MA) (N := 18) hx hb hts i_MA hown hK hP 18 rfl rfl 5 (by decide) (hts _ kF_MA_50) (fun _ h9 => h9) rfl d_MA_perform_158 ?_
              refine va_get (D := (dC, dI)) (ci := 3) (v := .ref cla) (C := R_CD) (T := F_CD) (N := 10) hx hb hts i_CD hown hK hP 1 rfl rfl 9 (by decide) (hts _ kF_MA_164) (fun _ h9 => h9) rfl d_MA_perform_161 ?_
              refine lv_iload_n hx hb d_MA_perform_164 rfl (lv_at hl 1 rfl) ?_
              refine lv_lload hx hb d_MA_perform_165 (lv_at hl 0 rfl) ?_
              refine lv_aload_n hx hb d_MA_perform_167 rfl (lv_at hl 2 rfl) ?_
              refine va_get (D := (dC, dI)) (ci := 4) (v := .ref ac) (C := R_MA) (T := F_MA) (N := 18) hx hb hts i_MA hown hK hP 18 rfl rfl 5 (by decide) (hts _ kF_MA_50) (fun _ h9 => h9) rfl d_MA_perform_168 ?_
              refine va_get (D := (dC, dI)) (ci := 3) (v := .ref cpt) (C := R_CD) (T := F_CD) (N := 10) hx hb hts i_CD hown hK hP 1 rfl rfl 6 (by decide) (hts _ kF_MA_120) (fun _ h9 => h9) rfl d_MA_perform_171 ?_
              refine lv_iload_n hx hb d_MA_perform_174 rfl (lv_at hl 4 rfl) ?_
              have g175 : vp_in p1 5000 := vp_in_iff.mpr ⟨by (first | (apply Int.le_antisymm <;> omega) | omega), by (first | (apply Int.le_antisymm <;> omega) | omega)⟩
              refine va_iald hx hb hK hP 15 14 rfl rfl g175 d_MA_perform_175 ?_
              refine lv_topi (fun x34 ex34 => ?_)
              have tx34 : x34.toInt = (gcpt p1.toNatClampNeg).toInt := by rw [ex34]
              refine lv_i2l hx hb d_MA_perform_176 rfl ?_
              refine lv_topl (fun x35 ex35 => ?_)
              have tx35 := i2l_t ex35
              refine va_mmin_long hx hb (hml.trans hl.1.symm) hown (hts _ kM_MA_167) (hts _ kT_JM_min1) (hts _ kI_JM) (hts _ kC_JM_min1) (Nat.le_of_ble_eq_true rfl) (Nat.le_of_ble_eq_true rfl) (Nat.zero_le _) (Nat.zero_le _) d_MA_perform_177 ?_
              refine lv_topl (fun x36 ex36 => ?_)
              have tx36 := min64 ex36
              refine lv_l2i hx hb d_MA_perform_180 rfl ?_
              refine lv_topi (fun x37 ex37 => ?_)
              have tx37 := l2i_t ex37 (by (first | (apply Int.le_antisymm <;> omega) | omega)) (by (first | (apply Int.le_antisymm <;> omega) | omega))
              refine lv_iadd hx hb d_MA_perform_181 ?_
              refine lv_topi (fun x38 ex38 => ?_)
              have tx38 : x38.toInt = x2.toInt + x37.toInt := by have z := i32_add ex38 (by (first | (apply Int.le_antisymm <;> omega) | omega)) (by (first | (apply Int.le_antisymm <;> omega) | omega)); first | exact z | (first | (apply Int.le_antisymm <;> omega) | omega)
              have g182 : vp_in x38 2000 := vp_in_iff.mpr ⟨by (first | (apply Int.le_antisymm <;> omega) | omega), by (first | (apply Int.le_antisymm <;> omega) | omega)⟩
              refine va_iald hx hb hK hP 17 16 rfl rfl g182 d_MA_perform_182 ?_
              refine lv_topi (fun x39 ex39 => ?_)
              have L9 := ((hQ.2.2.2.2.2.2.2.1 (by (first | (apply Int.le_antisymm <;> omega) | omega))).2.2.2.2) (x37.toInt.toNat) (by (first | (apply Int.le_antisymm <;> omega) | omega))
              have i9 : x38.toNatClampNeg = (gcva p1.toNatClampNeg).toInt.toNat + x37.toInt.toNat := by rw [i32_natI (x := x38) (n := (gcva p1.toNatClampNeg).toInt + x37.toInt) (by (first | (apply Int.le_antisymm <;> omega) | omega))]; (first | (apply Int.le_antisymm <;> omega) | omega)
              rw [i9] at ex39
              rw [← ex39] at L9
              have l9 := L9.1
              have hi9 := i32_hi x39
              have hPc := hP.sb (wq := (wz_29 h0 h0_pages h0_steps h0_reason gl aw ac ce sk n31 fb fs ff fl h0_frameCount lb lh h0_labelCount h0_at aw law ac cfi clk ac_localTypes_r ac_length cop cva cpt cel ac_labelCount cla sk csk gsk fb cfb gfb fs cfs gfs ff cff gff fl cfl gfl lb clb glb lh clh glh waf cwaf gwaf wag cwag gwag cop ccop gcop cva ccva gcva cpt ccpt gcpt)) [18, 0, 1, 19, 2, 3, 4, 5, 6, 7, 8, 10, 13, 14, 15] rfl
              have hDc := hD.sb (wq := (wz_29 h0 h0_pages h0_steps h0_reason gl aw ac ce sk n31 fb fs ff fl h0_frameCount lb lh h0_labelCount h0_at aw law ac cfi clk ac_localTypes_r ac_length cop cva cpt cel ac_labelCount cla sk csk gsk fb cfb gfb fs cfs gfs ff cff gff fl cfl gfl lb clb glb lh clh glh waf cwaf gwaf wag cwag gwag cop ccop gcop cva ccva gcva cpt ccpt gcpt)) [18, 0, 1, 19, 2, 3, 4, 5, 6, 7, 8, 10, 13, 14, 15] (by decide) rfl
              have hKc := hK.sb (tyq := [(csk, .long), (cfb, .int), (cfs, .int), (cff, .int), (cfl, .int), (clb, .int), (clh, .int), (cwaf, .int), (cwag, .int), (ccop, .int), (ccva, .long), (ccpt, .int)]) [0, 1, 2, 3, 4, 5, 6, 7, 9, 12, 13, 14] rfl
              have hFc := va_free (wc := (wz_29 h0 h0_pages h0_steps h0_reason gl aw ac ce sk n31 fb fs ff fl h0_frameCount lb lh h0_labelCount h0_at aw law ac cfi clk ac_localTypes_r ac_length cop cva cpt cel ac_labelCount cla sk csk gsk fb cfb gfb fs cfs gfs ff cff gff fl cfl gfl lb clb glb lh clh glh waf cwaf gwaf wag cwag gwag cop ccop gcop cva ccva gcva cpt ccpt gcpt)) hD hS hA [18, 0, 1, 19, 2, 3, 4, 5, 6, 7, 8, 10, 13, 14, 15] rfl
              refine va_callv (va_runV (As := [.int x39]) (rest := []) ⟨hx, hb, hml, hown, hts⟩ (c_MA_branch l dC dI H.size h0 gl aw ac ce sk fb fs ff fl lb lh wag waf cfi clk ac_localTypes_r cop cva cpt cel cla csk cfb cfs cff cfl clb clh cwaf cwag ccop ccva ccpt h0_pages h0_steps h0_reason n31 h0_frameCount h0_labelCount h0_at law ac_length ac_labelCount gsk gfb gfs gff gfl glb glh gwaf gwag gcop gcva gcpt an nl gv fc f bs paw_5 paw_7 plaw (b_h0_reason) (bn31) (b_h0_frameCount) (b_h0_labelCount) x39 (by (try dsimp only); (first | (apply Int.le_antisymm <;> omega) | omega)) (hr0) (hk1) (hT) (hf) (hfn) (hgv) (L9)) (cwV 1 hts (gV kM_MA_159 kV_MA_branch kS_MA_branch kI_MA kC_MA_branch) rfl rfl rfl (by decide +kernel) ⟨Nat.le_of_ble_eq_true rfl, Nat.le_of_ble_eq_true rfl⟩) ⟨fun a U g mk z => by obtain ⟨z0, z1, zP, zK, zD⟩ := z; exact ⟨z0, z1, zP, va_K.moved (u := U) (U := U.calling g mk a) (Vm.Alike.refl U.vm) zK, zD⟩, va_recv hKc hPc (ci := 4) (q0 := 0) rfl rfl, fun U hU hW => ⟨rfl, by rw [hU], va_P.he hU.symm hPc, va_K.moved hW.alike hKc, hDc.weaken (fun _ _ _ _ => trivial)⟩⟩ rfl rfl hl.1 rfl (lv_room (Nat.le_of_ble_eq_true rfl)) d_MA_perform_183 ⟨(Nat.zero_le _), (Nat.zero_le _)⟩) hS (fun q _ h => hFc q h) hFc (fun u t H1 locs ht hvm hw hB hz1 hk1 hS => ?_)
              obtain ⟨n41, n42, n43, n44, n45, n46⟩ := u
              try dsimp only at hw
              obtain ⟨bn43, bn44, bn45, bn46, xr40⟩ := hw
              try clear hw
              obtain ⟨hP1, hK1, hD1⟩ := hB
              replace hP1 := va_P.he ht hP1
              obtain ⟨hP, hD⟩ := va_join (wr := (wz_37 wat cwat gwat cfi ccfi gcfi clk cclk gclk cel ccel gcel cla ccla gcla)) (w1 := (wz_29 h0 h0_pages h0_steps n46 gl aw ac ce sk n44 fb fs ff fl n43 lb lh n45 n42 aw law ac cfi clk ac_localTypes_r ac_length cop cva cpt cel ac_labelCount cla sk csk n41 fb cfb gfb fs cfs gfs ff cff gff fl cfl gfl lb clb glb lh clh glh waf cwaf gwaf wag cwag gwag cop ccop gcop cva ccva gcva cpt ccpt gcpt)) hP hD [18, 0, 1, 19, 2, 3, 4, 5, 6, 7, 8, 10, 13, 14, 15] [9, 11, 12, 16, 17] rfl rfl (by decide) (by decide) hk1 hFc hP1 hD1
              clear hPc hDc hKc hFc hz1 hk1 hP1 hK1 hD1
              rename Heap => H
              have hP : va_P (dC, dI) cls (wz_38 wat cwat gwat cfi ccfi gcfi clk cclk gclk cel ccel gcel cla ccla gcla h0 h0_pages h0_steps n46 gl aw ac ce sk n44 fb fs ff fl n43 lb lh n45 n42 aw law ac cfi clk ac_localTypes_r ac_length cop cva cpt cel ac_labelCount cla sk csk n41 fb cfb gfb fs cfs gfs ff cff gff fl cfl gfl lb clb glb lh clh glh waf cwaf gwaf wag cwag gwag cop ccop gcop cva ccva gcva cpt ccpt gcpt) H := hP
              have hD : va_D A (wz_38 wat cwat gwat cfi ccfi gcfi clk cclk gclk cel ccel gcel cla ccla gcla h0 h0_pages h0_steps n46 gl aw ac ce sk n44 fb fs ff fl n43 lb lh n45 n42 aw law ac cfi clk ac_localTypes_r ac_length cop cva cpt cel ac_labelCount cla sk csk n41 fb cfb gfb fs cfs gfs ff cff gff fl cfl gfl lb clb glb lh clh glh waf cwaf gwaf wag cwag gwag cop ccop gcop cva ccva gcva cpt ccpt gcpt) := hD
              refine lv_goto (tgt := 204) hx hb d_MA_perform_186 (by decide) ?_
              have hP9 := hP.sb (wq := (wz_36 h0 h0_pages h0_steps n46 gl aw ac ce sk n44 fb fs ff fl n43 lb lh n45 n42 aw law ac cfi clk ac_localTypes_r ac_length cop cva cpt cel ac_labelCount cla sk csk n41 fb cfb gfb fs cfs gfs ff cff gff fl cfl gfl lb clb glb lh clh glh waf cwaf gwaf wat cwat gwat wag cwag gwag cfi ccfi gcfi clk cclk gclk cop ccop gcop cva ccva gcva cpt ccpt gcpt cel ccel gcel cla ccla gcla)) [5, 6, 7, 8, 9, 10, 11, 12, 13, 14, 15, 0, 16, 1, 2, 17, 18, 19, 3, 4] rfl
              have hD9 := hD.sb (wq := (wz_36 h0 h0_pages h0_steps n46 gl aw ac ce sk n44 fb fs ff fl n43 lb lh n45 n42 aw law ac cfi clk ac_localTypes_r ac_length cop cva cpt cel ac_labelCount cla sk csk n41 fb cfb gfb fs cfs gfs ff cff gff fl cfl gfl lb clb glb lh clh glh waf cwaf gwaf wat cwat gwat wag cwag gwag cfi ccfi gcfi clk cclk gclk cop ccop gcop cva ccva gcva cpt ccpt gcpt cel ccel gcel cla ccla gcla)) [5, 6, 7, 8, 9, 10, 11, 12, 13, 14, 15, 0, 16, 1, 2, 17, 18, 19, 3, 4] (by decide) rfl
              exact W.vret hx hb hr (fun t ht hW => ⟨⟨(gfb, gff, gfl, gfs, glb, glh, n41, n42, n43, n44, n45, n46), rfl, ⟨bn43, bn44, bn45, bn46, xr40⟩, va_P.he ht.symm hP9, va_K.moved hW.alike hK, hD9⟩, hS.F ht⟩) hS.2.2 d_MA_perform_204
            · skip
              by_cases g12_189 : p0.toInt = 15
              · have ho12 : tab_off 192 0 16 #[84, 192, 93, 93, 101, 192, 192, 192, 192, 192, 192, 192, 109, 117, 134, 177, 184] p0.toInt = 177 := by rw [g12_189]; rfl
                refine lv_tab (tgt := 189) hx hb d_MA_perform_12 (by decide) ho12 (by decide) ?_
                clear ho12
                refine lv_aload_n hx hb d_MA_perform_189 rfl (lv_at hl 1 rfl) ?_
                have hPc := hP.sb (wq := (wz_25 h0 h0_pages h0_steps h0_reason gl aw ac ce sk h0_height fb fs ff fl h0_frameCount lb lh h0_labelCount h0_at aw law sk csk gsk fb cfb gfb fs cfs gfs ff cff gff fl cfl gfl lb clb glb lh clh glh waf cwaf gwaf wag cwag gwag)) [0, 1, 3, 4, 5, 6, 7, 8, 9, 10, 12] rfl
                have hDc := hD.sb (wq := (wz_25 h0 h0_pages h0_steps h0_reason gl aw ac ce sk h0_height fb fs ff fl h0_frameCount lb lh h0_labelCount h0_at aw law sk csk gsk fb cfb gfb fs cfs gfs ff cff gff fl cfl gfl lb clb glb lh clh glh waf cwaf gwaf wag cwag gwag)) [0, 1, 3, 4, 5, 6, 7, 8, 9, 10, 12] (by decide) rfl
                have hKc := hK.sb (tyq := [(csk, .long), (cfb, .int), (cfs, .int), (cff, .int), (cfl, .int), (clb, .int), (clh, .int), (cwaf, .int), (cwag, .int)]) [0, 1, 2, 3, 4, 5, 6, 7, 9] rfl
                have hFc := va_free (wc := (wz_25 h0 h0_pages h0_steps h0_reason gl aw ac ce sk h0_height fb fs ff fl h0_frameCount lb lh h0_labelCount h0_at aw law sk csk gsk fb cfb gfb fs cfs gfs ff cff gff fl cfl gfl lb clb glb lh clh glh waf cwaf gwaf wag cwag gwag)) hD hS hA [0, 1, 3, 4, 5, 6, 7, 8, 9, 10, 12] rfl
                refine va_callv (va_runV (As := []) (rest := []) ⟨hx, hb, hml, hown, hts⟩ (c_MA_leaveFunction l dC dI H.size h0 gl aw ac ce sk fb fs ff fl lb lh wag waf csk cfb cfs cff cfl clb clh cwaf cwag h0_pages h0_steps h0_reason h0_height h0_frameCount h0_labelCount h0_at law gsk gfb gfs gff gfl glb glh gwaf gwag an nl gv fc f bs paw_5 paw_7 plaw (b_h0_reason) (b_h0_height) (b_h0_frameCount) (b_h0_labelCount) (hr0) (hk1) (hT) (hf) (hfn) (hgv)) (cwV 0 hts (gV kM_MA_173 kV_MA_leaveFunction kS_MA_leaveFunction kI_MA kC_MA_leaveFunction) rfl rfl rfl (by decide +kernel) ⟨Nat.le_of_ble_eq_true rfl, Nat.le_of_ble_eq_true rfl⟩) ⟨fun a U g mk z => by obtain ⟨z0, z1, zP, zK, zD⟩ := z; exact ⟨z0, z1, zP, va_K.moved (u := U) (U := U.calling g mk a) (Vm.Alike.refl U.vm) zK, zD⟩, va_recv hKc hPc (ci := 4) (q0 := 0) rfl rfl, fun U hU hW => ⟨rfl, by rw [hU], va_P.he hU.symm hPc, va_K.moved hW.alike hKc, hDc.weaken (fun _ _ _ _ => trivial)⟩⟩ rfl rfl hl.1 rfl (lv_room (Nat.le_of_ble_eq_true rfl)) d_MA_perform_190 ⟨(Nat.zero_le _), (Nat.zero_le _)⟩) hS (fun q _ h => hFc q h) hFc (fun u t H1 locs ht hvm hw hB hz1 hk1 hS => ?_)
                obtain ⟨n48, n49, n50, n51, n52, n53⟩ := u
                try dsimp only at hw
                obtain ⟨bn50, bn51, bn52, bn53, xr47⟩ := hw
                try clear hw
                obtain ⟨hP1, hK1, hD1⟩ := hB
                replace hP1 := va_P.he ht hP1
                obtain ⟨hP, hD⟩ := va_join (wr := [(ac, .inr (3, [.ref cfi, .ref clk, .ref ac_localTypes_r, .int ac_length, .ref cop, .ref cva, .ref cpt, .ref cel, .int ac_labelCount, .ref cla])), (wat, .inl (cwat, 20, .inl gwat)), (cfi, .inl (ccfi, 31, .inl gcfi)), (clk, .inl (cclk, 30, .inl gclk)), (cop, .inl (ccop, 5000, .inl gcop)), (cva, .inl (ccva, 5000, .inr (.inl gcva))), (cpt, .inl (ccpt, 5000, .inl gcpt)), (cel, .inl (ccel, 5000, .inl gcel)), (cla, .inl (ccla, 2000, .inl gcla))]) (w1 := (wz_25 h0 h0_pages h0_steps n53 gl aw ac ce sk n51 fb fs ff fl n50 lb lh n52 n49 aw law sk csk n48 fb cfb gfb fs cfs gfs ff cff gff fl cfl gfl lb clb glb lh clh glh waf cwaf gwaf wag cwag gwag)) hP hD [0, 1, 3, 4, 5, 6, 7, 8, 9, 10, 12] [2, 11, 13, 14, 15, 16, 17, 18, 19] rfl rfl (by decide) (by decide) hk1 hFc hP1 hD1
                clear hPc hDc hKc hFc hz1 hk1 hP1 hK1 hD1
                rename Heap => H
                have hP : va_P (dC, dI) cls [(ac, .inr (3, [.ref cfi, .ref clk, .ref ac_localTypes_r, .int ac_length, .ref cop, .ref cva, .ref cpt, .ref cel, .int ac_labelCount, .ref cla])), (wat, .inl (cwat, 20, .inl gwat)), (cfi, .inl (ccfi, 31, .inl gcfi)), (clk, .inl (cclk, 30, .inl gclk)), (cop, .inl (ccop, 5000, .inl gcop)), (cva, .inl (ccva, 5000, .inr (.inl gcva))), (cpt, .inl (ccpt, 5000, .inl gcpt)), (cel, .inl (ccel, 5000, .inl gcel)), (cla, .inl (ccla, 2000, .inl gcla)), (h0, .inr (4, [.int h0_pages, .int h0_steps, .int n53, .ref gl, .ref aw, .ref ac, .ref ce, .ref sk, .int n51, .ref fb, .ref fs, .ref ff, .ref fl, .int n50, .ref lb, .ref lh, .int n52, .int n49])), (aw, .inr (10, law)), (sk, .inl (csk, 12096, .inr (.inl n48))), (fb, .inl (cfb, 100, .inl gfb)), (fs, .inl (cfs, 100, .inl gfs)), (ff, .inl (cff, 100, .inl gff)), (fl, .inl (cfl, 100, .inl gfl)), (lb, .inl (clb, 10000, .inl glb)), (lh, .inl (clh, 10000, .inl glh)), (waf, .inl (cwaf, 30, .inl gwaf)), (wag, .inl (cwag, 20, .inl gwag))] H := hP
                have hD : va_D A [(ac, .inr (3, [.ref cfi, .ref clk, .ref ac_localTypes_r, .int ac_length, .ref cop, .ref cva, .ref cpt, .ref cel, .int ac_labelCount, .ref cla])), (wat, .inl (cwat, 20, .inl gwat)), (cfi, .inl (ccfi, 31, .inl gcfi)), (clk, .inl (cclk, 30, .inl gclk)), (cop, .inl (ccop, 5000, .inl gcop)), (cva, .inl (ccva, 5000, .inr (.inl gcva))), (cpt, .inl (ccpt, 5000, .inl gcpt)), (cel, .inl (ccel, 5000, .inl gcel)), (cla, .inl (ccla, 2000, .inl gcla)), (h0, .inr (4, [.int h0_pages, .int h0_steps, .int n53, .ref gl, .ref aw, .ref ac, .ref ce, .ref sk, .int n51, .ref fb, .ref fs, .ref ff, .ref fl, .int n50, .ref lb, .ref lh, .int n52, .int n49])), (aw, .inr (10, law)), (sk, .inl (csk, 12096, .inr (.inl n48))), (fb, .inl (cfb, 100, .inl gfb)), (fs, .inl (cfs, 100, .inl gfs)), (ff, .inl (cff, 100, .inl gff)), (fl, .inl (cfl, 100, .inl gfl)), (lb, .inl (clb, 10000, .inl glb)), (lh, .inl (clh, 10000, .inl glh)), (waf, .inl (cwaf, 30, .inl gwaf)), (wag, .inl (cwag, 20, .inl gwag))] := hD
                refine lv_goto (tgt := 204) hx hb d_MA_perform_193 (by decide) ?_
                have hP9 := hP.sb (wq := (wz_36 h0 h0_pages h0_steps n53 gl aw ac ce sk n51 fb fs ff fl n50 lb lh n52 n49 aw law ac cfi clk ac_localTypes_r ac_length cop cva cpt cel ac_labelCount cla sk csk n48 fb cfb gfb fs cfs gfs ff cff gff fl cfl gfl lb clb glb lh clh glh waf cwaf gwaf wat cwat gwat wag cwag gwag cfi ccfi gcfi clk cclk gclk cop ccop gcop cva ccva gcva cpt ccpt gcpt cel ccel gcel cla ccla gcla)) [9, 10, 0, 11, 12, 13, 14, 15, 16, 17, 18, 1, 19, 2, 3, 4, 5, 6, 7, 8] rfl
                have hD9 := hD.sb (wq := (wz_36 h0 h0_pages h0_steps n53 gl aw ac ce sk n51 fb fs ff fl n50 lb lh n52 n49 aw law ac cfi clk ac_localTypes_r ac_length cop cva cpt cel ac_labelCount cla sk csk n48 fb cfb gfb fs cfs gfs ff cff gff fl cfl gfl lb clb glb lh clh glh waf cwaf gwaf wat cwat gwat wag cwag gwag cfi ccfi gcfi clk cclk gclk cop ccop gcop cva ccva gcva cpt ccpt gcpt cel ccel gcel cla ccla gcla)) [9, 10, 0, 11, 12, 13, 14, 15, 16, 17, 18, 1, 19, 2, 3, 4, 5, 6, 7, 8] (by decide) rfl
                exact W.vret hx hb hr (fun t ht hW => ⟨⟨(gfb, gff, gfl, gfs, glb, glh, n48, n49, n50, n51, n52, n53), rfl, ⟨bn50, bn51, bn52, bn53, xr47⟩, va_P.he ht.symm hP9, va_K.moved hW.alike hK, hD9⟩, hS.F ht⟩) hS.2.2 d_MA_perform_204
              · skip
                by_cases g12_196 : p0.toInt = 16
                · have ho12 : tab_off 192 0 16 #[84, 192, 93, 93, 101, 192, 192, 192, 192, 192, 192, 192, 109, 117, 134, 177, 184] p0.toInt = 184 := by rw [g12_196]; rfl
                  refine lv_tab (tgt := 196) hx hb d_MA_perform_12 (by decide) ho12 (by decide) ?_
                  clear ho12
                  have c9 := hQ.2.2.2.2.2.2.2.2.1 (by (first | (apply Int.le_antisymm <;> omega) | omega))
                  have tv3 := v9 ⟨by (first | (apply Int.le_antisymm <;> omega) | omega), by have z := hfn (gcva p1.toNatClampNeg).toInt.toNat (by (first | (apply Int.le_antisymm <;> omega) | omega)); (first | (apply Int.le_antisymm <;> omega) | omega)⟩
                  have tv4 := tv3
                  rw [e3v] at tv4
                  refine lv_aload_n hx hb d_MA_perform_196 rfl (lv_at hl 1 rfl) ?_
                  refine lv_iload_n hx hb d_MA_perform_197 rfl (lv_at hl 0 rfl) ?_
                  have hPc := hP.sb (wq := (wz_27 h0 h0_pages h0_steps h0_reason gl aw ac ce sk h0_height fb fs ff fl h0_frameCount lb lh h0_labelCount h0_at aw law ac cfi clk ac_localTypes_r ac_length cop cva cpt cel ac_labelCount cla sk csk gsk fb cfb gfb fs cfs gfs ff cff gff fl cfl gfl waf cwaf gwaf wat cwat gwat cfi ccfi gcfi clk cclk gclk)) [0, 1, 2, 3, 4, 5, 6, 7, 10, 11, 13, 14] rfl
                  have hDc := hD.sb (wq := (wz_27 h0 h0_pages h0_steps h0_reason gl aw ac ce sk h0_height fb fs ff fl h0_frameCount lb lh h0_labelCount h0_at aw law ac cfi clk ac_localTypes_r ac_length cop cva cpt cel ac_labelCount cla sk csk gsk fb cfb gfb fs cfs gfs ff cff gff fl cfl gfl waf cwaf gwaf wat cwat gwat cfi ccfi gcfi clk cclk gclk)) [0, 1, 2, 3, 4, 5, 6, 7, 10, 11, 13, 14] (by decide) rfl
                  have hKc := hK.sb (tyq := [(csk, .long), (cfb, .int), (cfs, .int), (cff, .int), (cfl, .int), (cwaf, .int), (cwat, .int), (ccfi, .int), (cclk, .int)]) [0, 1, 2, 3, 4, 7, 8, 10, 11] rfl
                  have hFc := va_free (wc := (wz_27 h0 h0_pages h0_steps h0_reason gl aw ac ce sk h0_height fb fs ff fl h0_frameCount lb lh h0_labelCount h0_at aw law ac cfi clk ac_localTypes_r ac_length cop cva cpt cel ac_labelCount cla sk csk gsk fb cfb gfb fs cfs gfs ff cff gff fl cfl gfl waf cwaf gwaf wat cwat gwat cfi ccfi gcfi clk cclk gclk)) hD hS hA [0, 1, 2, 3, 4, 5, 6, 7, 10, 11, 13, 14] rfl
                  refine va_callv (va_runV (As := [.int x2]) (rest := []) ⟨hx, hb, hml, hown, hts⟩ (c_MA_enter l dC dI H.size h0 gl aw ac ce sk fb fs ff fl lb lh wat waf cfi clk ac_localTypes_r cop cva cpt cel cla csk cfb cfs cff cfl cwaf cwat ccfi cclk h0_pages h0_steps h0_reason h0_height h0_frameCount h0_labelCount h0_at law ac_length ac_labelCount gsk gfb gfs gff gfl gwaf gwat gcfi gclk fc nl paw_1 paw_3 paw_7 plaw (b_h0_reason) (b_h0_height) (b_h0_frameCount) (b_h0_labelCount) x2 (hr0) (by (first | (apply Int.le_antisymm <;> omega) | omega)) (hfn) (hnl)) (cwV 1 hts (gV kM_MA_98 kV_MA_enter kS_MA_enter kI_MA kC_MA_enter) rfl rfl rfl (by decide +kernel) ⟨Nat.le_of_ble_eq_true rfl, Nat.le_of_ble_eq_true rfl⟩) ⟨fun a U g mk z => by obtain ⟨z0, z1, zP, zK, zD⟩ := z; exact ⟨z0, z1, zP, va_K.moved (u := U) (U := U.calling g mk a) (Vm.Alike.refl U.vm) zK, zD⟩, va_recv hKc hPc (ci := 4) (q0 := 0) rfl rfl, fun U hU hW => ⟨rfl, by rw [hU], va_P.he hU.symm hPc, va_K.moved hW.alike hKc, hDc.weaken (fun _ _ _ _ => trivial)⟩⟩ rfl rfl hl.1 rfl (lv_room (Nat.le_of_ble_eq_true rfl)) d_MA_perform_198 ⟨(Nat.zero_le _), (Nat.zero_le _)⟩) hS (fun q _ h => hFc q h) hFc (fun u t H1 locs ht hvm hw hB hz1 hk1 hS => ?_)
                  obtain ⟨n55, n56, n57, n58, n59, n60, n61, n62, n63⟩ := u
                  try dsimp only at hw
                  obtain ⟨bn61, bn62, bn63, xr54⟩ := hw
                  try clear hw
                  have pf_call : mc_after an nl gv n55 n58 n56 n57 glb glh n63 n61 n60 n62 h0_labelCount := by
                    by_cases z : n63.toInt = 0
                    · obtain ⟨w1, w2, w3, w4, w5, w6, w7, w8, w9⟩ := xr54 z
                      rw [← e3v] at w2 w3 w5 w8
                      have kk : h0_frameCount.toNatClampNeg = (h0_frameCount.toInt - 1).toNat + 1 := by rw [i32_natI (x := h0_frameCount) rfl]; (first | (apply Int.le_antisymm <;> omega) | omega)
                      rw [kk] at w4 w5 w6 w9
                      have vn := i32_natI (x := x3v) (n := (gcva p1.toNatClampNeg).toInt) tv3
                      obtain ⟨c1, c2, c3, c4⟩ := hQ.2.2.2.2.2.2.2.2.1 (by (first | (apply Int.le_antisymm <;> omega) | omega))
                      have n9 := hnl (gcva p1.toNatClampNeg).toInt.toNat (by (first | (apply Int.le_antisymm <;> omega) | omega))
                      have tk9 := htk (gcva p1.toNatClampNeg).toInt.toNat (by (first | (apply Int.le_antisymm <;> omega) | omega))
                      have fs9 := hfs (gcva p1.toNatClampNeg).toInt.toNat (by (first | (apply Int.le_antisymm <;> omega) | omega))
                      rw [vn] at w2 w3 w8
                      have T9 := hT.call (f2 := (gcva p1.toNatClampNeg).toInt.toNat) (vp := h0_at) (vb := w7) (vf := x3v) (vl := h0_labelCount) (h := h - tk (gcva p1.toNatClampNeg).toInt.toNat + gv (gcva p1.toNatClampNeg).toInt.toNat) (base := w7.toInt) (by (first | (apply Int.le_antisymm <;> omega) | omega)) (by rw [hat9]; exact c4) rfl (by (first | (apply Int.le_antisymm <;> omega) | omega)) (by (first | (apply Int.le_antisymm <;> omega) | omega)) (by (first | (apply Int.le_antisymm <;> omega) | omega)) (by (first | (apply Int.le_antisymm <;> omega) | omega)) rfl
                      rw [← w4, ← w5, ← w6, ← w9] at T9
                      refine mc_go T9 (h := 0) (by (first | (apply Int.le_antisymm <;> omega) | omega)) (by rw [w3]; exact fs9.1) (by rw [w3]; exact fs9.2) (fun _ => ?_) rfl
                      rw [w9, pk_us]
                      (first | (apply Int.le_antisymm <;> omega) | omega)
                    · exact Or.inl z
                  obtain ⟨hP1, hK1, hD1⟩ := hB
                  replace hP1 := va_P.he ht hP1
                  obtain ⟨hP, hD⟩ := va_join (wr := [(lb, .inl (clb, 10000, .inl glb)), (lh, .inl (clh, 10000, .inl glh)), (wag, .inl (cwag, 20, .inl gwag)), (cop, .inl (ccop, 5000, .inl gcop)), (cva, .inl (ccva, 5000, .inr (.inl gcva))), (cpt, .inl (ccpt, 5000, .inl gcpt)), (cel, .inl (ccel, 5000, .inl gcel)), (cla, .inl (ccla, 2000, .inl gcla))]) (w1 := (wz_27 h0 h0_pages h0_steps n63 gl aw ac ce sk n62 fb fs ff fl n61 lb lh h0_labelCount n60 aw law ac cfi clk ac_localTypes_r ac_length cop cva cpt cel ac_labelCount cla sk csk n59 fb cfb n55 fs cfs n58 ff cff n56 fl cfl n57 waf cwaf gwaf wat cwat gwat cfi ccfi gcfi clk cclk gclk)) hP hD [0, 1, 2, 3, 4, 5, 6, 7, 10, 11, 13, 14] [8, 9, 12, 15, 16, 17, 18, 19] rfl rfl (by decide) (by decide) hk1 hFc hP1 hD1
                  clear hPc hDc hKc hFc hz1 hk1 hP1 hK1 hD1
                  rename Heap => H
                  have hP : va_P (dC, dI) cls [(lb, .inl (clb, 10000, .inl glb)), (lh, .inl (clh, 10000, .inl glh)), (wag, .inl (cwag, 20, .inl gwag)), (cop, .inl (ccop, 5000, .inl gcop)), (cva, .inl (ccva, 5000, .inr (.inl gcva))), (cpt, .inl (ccpt, 5000, .inl gcpt)), (cel, .inl (ccel, 5000, .inl gcel)), (cla, .inl (ccla, 2000, .inl gcla)), (h0, .inr (4, [.int h0_pages, .int h0_steps, .int n63, .ref gl, .ref aw, .ref ac, .ref ce, .ref sk, .int n62, .ref fb, .ref fs, .ref ff, .ref fl, .int n61, .ref lb, .ref lh, .int h0_labelCount, .int n60])), (aw, .inr (10, law)), (ac, .inr (3, [.ref cfi, .ref clk, .ref ac_localTypes_r, .int ac_length, .ref cop, .ref cva, .ref cpt, .ref cel, .int ac_labelCount, .ref cla])), (sk, .inl (csk, 12096, .inr (.inl n59))), (fb, .inl (cfb, 100, .inl n55)), (fs, .inl (cfs, 100, .inl n58)), (ff, .inl (cff, 100, .inl n56)), (fl, .inl (cfl, 100, .inl n57)), (waf, .inl (cwaf, 30, .inl gwaf)), (wat, .inl (cwat, 20, .inl gwat)), (cfi, .inl (ccfi, 31, .inl gcfi)), (clk, .inl (cclk, 30, .inl gclk))] H := hP
                  have hD : va_D A [(lb, .inl (clb, 10000, .inl glb)), (lh, .inl (clh, 10000, .inl glh)), (wag, .inl (cwag, 20, .inl gwag)), (cop, .inl (ccop, 5000, .inl gcop)), (cva, .inl (ccva, 5000, .inr (.inl gcva))), (cpt, .inl (ccpt, 5000, .inl gcpt)), (cel, .inl (ccel, 5000, .inl gcel)), (cla, .inl (ccla, 2000, .inl gcla)), (h0, .inr (4, [.int h0_pages, .int h0_steps, .int n63, .ref gl, .ref aw, .ref ac, .ref ce, .ref sk, .int n62, .ref fb, .ref fs, .ref ff, .ref fl, .int n61, .ref lb, .ref lh, .int h0_labelCount, .int n60])), (aw, .inr (10, law)), (ac, .inr (3, [.ref cfi, .ref clk, .ref ac_localTypes_r, .int ac_length, .ref cop, .ref cva, .ref cpt, .ref cel, .int ac_labelCount, .ref cla])), (sk, .inl (csk, 12096, .inr (.inl n59))), (fb, .inl (cfb, 100, .inl n55)), (fs, .inl (cfs, 100, .inl n58)), (ff, .inl (cff, 100, .inl n56)), (fl, .inl (cfl, 100, .inl n57)), (waf, .inl (cwaf, 30, .inl gwaf)), (wat, .inl (cwat, 20, .inl gwat)), (cfi, .inl (ccfi, 31, .inl gcfi)), (clk, .inl (cclk, 30, .inl gclk))] := hD
                  refine lv_goto (tgt := 204) hx hb d_MA_perform_201 (by decide) ?_
                  have hP9 := hP.sb (wq := (wz_36 h0 h0_pages h0_steps n63 gl aw ac ce sk n62 fb fs ff fl n61 lb lh h0_labelCount n60 aw law ac cfi clk ac_localTypes_r ac_length cop cva cpt cel ac_labelCount cla sk csk n59 fb cfb n55 fs cfs n58 ff cff n56 fl cfl n57 lb clb glb lh clh glh waf cwaf gwaf wat cwat gwat wag cwag gwag cfi ccfi gcfi clk cclk gclk cop ccop gcop cva ccva gcva cpt ccpt gcpt cel ccel gcel cla ccla gcla)) [8, 9, 10, 11, 12, 13, 14, 15, 0, 1, 16, 17, 2, 18, 19, 3, 4, 5, 6, 7] rfl
                  have hD9 := hD.sb (wq := (wz_36 h0 h0_pages h0_steps n63 gl aw ac ce sk n62 fb fs ff fl n61 lb lh h0_labelCount n60 aw law ac cfi clk ac_localTypes_r ac_length cop cva cpt cel ac_labelCount cla sk csk n59 fb cfb n55 fs cfs n58 ff cff n56 fl cfl n57 lb clb glb lh clh glh waf cwaf gwaf wat cwat gwat wag cwag gwag cfi ccfi gcfi clk cclk gclk cop ccop gcop cva ccva gcva cpt ccpt gcpt cel ccel gcel cla ccla gcla)) [8, 9, 10, 11, 12, 13, 14, 15, 0, 1, 16, 17, 2, 18, 19, 3, 4, 5, 6, 7] (by decide) rfl
                  exact W.vret hx hb hr (fun t ht hW => ⟨⟨(n55, n56, n57, n58, glb, glh, n59, n60, n61, n62, h0_labelCount, n63), rfl, ⟨bn61, bn62, b_h0_labelCount, bn63, by exact pf_call⟩, va_P.he ht.symm hP9, va_K.moved hW.alike hK, hD9⟩, hS.F ht⟩) hS.2.2 d_MA_perform_204
                · skip
                  have ho12 : tab_off 192 0 16 #[84, 192, 93, 93, 101, 192, 192, 192, 192, 192, 192, 192, 109, 117, 134, 177, 184] p0.toInt = 192 := by
                    unfold tab_off
                    split
                    · rfl
                    · rcases (by (first | (apply Int.le_antisymm <;> omega) | omega) : p0.toInt = 1 ∨ p0.toInt = 5 ∨ p0.toInt = 6 ∨ p0.toInt = 7 ∨ p0.toInt = 8 ∨ p0.toInt = 9 ∨ p0.toInt = 10 ∨ p0.toInt = 11) with z | z | z | z | z | z | z | z <;> (rw [z]; rfl)
                  refine lv_tab (tgt := 204) hx hb d_MA_perform_12 (by decide) ho12 (by decide) ?_
                  clear ho12
                  have hP9 := hP.sb (wq := (wz_36 h0 h0_pages h0_steps h0_reason gl aw ac ce sk h0_height fb fs ff fl h0_frameCount lb lh h0_labelCount h0_at aw law ac cfi clk ac_localTypes_r ac_length cop cva cpt cel ac_labelCount cla sk csk gsk fb cfb gfb fs cfs gfs ff cff gff fl cfl gfl lb clb glb lh clh glh waf cwaf gwaf wat cwat gwat wag cwag gwag cfi ccfi gcfi clk cclk gclk cop ccop gcop cva ccva gcva cpt ccpt gcpt cel ccel gcel cla ccla gcla)) [0, 1, 2, 3, 4, 5, 6, 7, 8, 9, 10, 11, 12, 13, 14, 15, 16, 17, 18, 19] rfl
                  have hD9 := hD.sb (wq := (wz_36 h0 h0_pages h0_steps h0_reason gl aw ac ce sk h0_height fb fs ff fl h0_frameCount lb lh h0_labelCount h0_at aw law ac cfi clk ac_localTypes_r ac_length cop cva cpt cel ac_labelCount cla sk csk gsk fb cfb gfb fs cfs gfs ff cff gff fl cfl gfl lb clb glb lh clh glh waf cwaf gwaf wat cwat gwat wag cwag gwag cfi ccfi gcfi clk cclk gclk cop ccop gcop cva ccva gcva cpt ccpt gcpt cel ccel gcel cla ccla gcla)) [0, 1, 2, 3, 4, 5, 6, 7, 8, 9, 10, 11, 12, 13, 14, 15, 16, 17, 18, 19] (by decide) rfl
                  exact W.vret hx hb hr (fun t ht hW => ⟨⟨(gfb, gff, gfl, gfs, glb, glh, gsk, h0_at, h0_frameCount, h0_height, h0_labelCount, h0_reason), rfl, ⟨b_h0_frameCount, b_h0_height, b_h0_labelCount, b_h0_reason, mc_go hT (by (first | (apply Int.le_antisymm <;> omega) | omega)) (by (first | (apply Int.le_antisymm <;> omega) | omega)) (by rw [hat9]; exact hQ.1 (by (first | (apply Int.le_antisymm <;> omega) | omega))) (fun _ => hH) rfl⟩, va_P.he ht.symm hP9, va_K.moved hW.alike hK, hD9⟩, hS.F ht⟩) hS.2.2 d_MA_perform_204
end q_14
section q_14a
/-! which instruction it is -/
theorem op_var {o : Int} (h : (0 ≤ o ∧ o ≤ 5) ∨ (11 ≤ o ∧ o ≤ 16) ∨ o = 26 ∨ o = 27 ∨ (32 ≤ o ∧ o ≤ 36) ∨ o = 40 ∨ o = 41 ∨ o = 44 ∨ o = 45 ∨ o = 54 ∨ o = 55 ∨ o = 58 ∨ (63 ≤ o ∧ o ≤ 66) ∨ (69 ≤ o ∧ o ≤ 90) ∨ (103 ≤ o ∧ o ≤ 138) ∨ o = 167 ∨ o = 172 ∨ o = 173) (h1 : 16 < o) (h2 : o ≤ 36) : o = 26 ∨ o = 27 ∨ o = 32 ∨ o = 33 ∨ o = 34 ∨ o = 35 ∨ o = 36 := by (first | (apply Int.le_antisymm <;> omega) | omega)
theorem op_mem {o : Int} (h : (0 ≤ o ∧ o ≤ 5) ∨ (11 ≤ o ∧ o ≤ 16) ∨ o = 26 ∨ o = 27 ∨ (32 ≤ o ∧ o ≤ 36) ∨ o = 40 ∨ o = 41 ∨ o = 44 ∨ o = 45 ∨ o = 54 ∨ o = 55 ∨ o = 58 ∨ (63 ≤ o ∧ o ≤ 66) ∨ (69 ≤ o ∧ o ≤ 90) ∨ (103 ≤ o ∧ o ≤ 138) ∨ o = 167 ∨ o = 172 ∨ o = 173) (h1 : 36 < o) (h2 : o ≤ 64) : o = 63 ∨ o = 64 ∨ (o = 54 ∨ o = 55 ∨ o = 58) ∨ (o = 40 ∨ o = 41 ∨ o = 44 ∨ o = 45) := by (first | (apply Int.le_antisymm <;> omega) | omega)
theorem op_two {o : Int} (h : (0 ≤ o ∧ o ≤ 5) ∨ (11 ≤ o ∧ o ≤ 16) ∨ o = 26 ∨ o = 27 ∨ (32 ≤ o ∧ o ≤ 36) ∨ o = 40 ∨ o = 41 ∨ o = 44 ∨ o = 45 ∨ o = 54 ∨ o = 55 ∨ o = 58 ∨ (63 ≤ o ∧ o ≤ 66) ∨ (69 ≤ o ∧ o ≤ 90) ∨ (103 ≤ o ∧ o ≤ 138) ∨ o = 167 ∨ o = 172 ∨ o = 173) (h1 : 66 < o) (h2 : ¬ (o = 69 ∨ o = 80 ∨ (103 ≤ o ∧ o < 106) ∨ (121 ≤ o ∧ o < 124) ∨ 138 < o)) : (69 < o ∧ o < 80) ∨ (80 < o ∧ o ≤ 90) ∨ (106 ≤ o ∧ o < 121) ∨ (124 ≤ o ∧ o ≤ 138) := by (first | (apply Int.le_antisymm <;> omega) | omega)
theorem op_byte {o : Int} (h : (0 ≤ o ∧ o ≤ 5) ∨ (11 ≤ o ∧ o ≤ 16) ∨ o = 26 ∨ o = 27 ∨ (32 ≤ o ∧ o ≤ 36) ∨ o = 40 ∨ o = 41 ∨ o = 44 ∨ o = 45 ∨ o = 54 ∨ o = 55 ∨ o = 58 ∨ (63 ≤ o ∧ o ≤ 66) ∨ (69 ≤ o ∧ o ≤ 90) ∨ (103 ≤ o ∧ o ≤ 138) ∨ o = 167 ∨ o = 172 ∨ o = 173) : 0 ≤ o ∧ o ≤ 255 := by (first | (apply Int.le_antisymm <;> omega) | omega)
theorem op_nop {o : Int} (h : (0 ≤ o ∧ o ≤ 5) ∨ (11 ≤ o ∧ o ≤ 16) ∨ o = 26 ∨ o = 27 ∨ (32 ≤ o ∧ o ≤ 36) ∨ o = 40 ∨ o = 41 ∨ o = 44 ∨ o = 45 ∨ o = 54 ∨ o = 55 ∨ o = 58 ∨ (63 ≤ o ∧ o ≤ 66) ∨ (69 ≤ o ∧ o ≤ 90) ∨ (103 ≤ o ∧ o ≤ 138) ∨ o = 167 ∨ o = 172 ∨ o = 173) (h1 : o ≤ 16) (h2 : ¬ o = 0) (h3 : ¬ (o = 2 ∨ o = 3)) (h4 : ¬ o = 4) (h5 : o ≠ 5 ∧ o ≠ 11) (h6 : ¬ o = 12) (h7 : ¬ o = 13) (h8 : ¬ o = 14) (h9 : ¬ o = 15) (h10 : ¬ o = 16) : o = 1 := by (first | (apply Int.le_antisymm <;> omega) | omega)
end q_14a
section q_15
/-! Machine: step, run -/
abbrev b_MA_step : ByteArray := prog_6_method_5_code
def y_MA_step : MethodName := ⟨R_MA, "step", "()V"⟩
abbrev w_MA_step : List Cond := .code y_MA_step b_MA_step 3 none :: lw_g
theorem kC_MA_step : Cond.code y_MA_step b_MA_step 3 none ∈ lw_g := in_c7 112 rfl rfl
theorem d_MA_step_0 : decode b_MA_step 0 = .ok (.aload_n 0, 1) := bz_c42 (by decide +kernel)
theorem d_MA_step_1 : decode b_MA_step 1 = .ok (.getfield 106, 3) := bz_c180 (by decide +kernel)
theorem d_MA_step_4 : decode b_MA_step 4 = .ok (.istore_n 1, 1) := bz_c60 (by decide +kernel)
theorem d_MA_step_5 : decode b_MA_step 5 = .ok (.iload_n 1, 1) := bz_c27 (by decide +kernel)
theorem d_MA_step_6 : decode b_MA_step 6 = .ok (.ifCond .lt 14, 3) := bz_c155 (by decide +kernel)
theorem d_MA_step_9 : decode b_MA_step 9 = .ok (.iload_n 1, 1) := bz_c27 (by decide +kernel)
theorem d_MA_step_10 : decode b_MA_step 10 = .ok (.aload_n 0, 1) := bz_c42 (by decide +kernel)
theorem d_MA_step_11 : decode b_MA_step 11 = .ok (.getfield 50, 3) := bz_c180 (by decide +kernel)
theorem d_MA_step_14 : decode b_MA_step 14 = .ok (.getfield 109, 3) := bz_c180 (by decide +kernel)
theorem d_MA_step_17 : decode b_MA_step 17 = .ok (.if_icmp .lt 9, 3) := bz_c161 (by decide +kernel)
theorem d_MA_step_20 : decode b_MA_step 20 = .ok (.aload_n 0, 1) := bz_c42 (by decide +kernel)
theorem d_MA_step_21 : decode b_MA_step 21 = .ok (.iconst 0, 1) := bz_c3 (by decide +kernel)
theorem d_MA_step_22 : decode b_MA_step 22 = .ok (.putfield 80, 3) := bz_c181 (by decide +kernel)
theorem d_MA_step_25 : decode b_MA_step 25 = .ok (.return_, 1) := bz_c177 (by decide +kernel)
theorem d_MA_step_26 : decode b_MA_step 26 = .ok (.aload_n 0, 1) := bz_c42 (by decide +kernel)
theorem d_MA_step_27 : decode b_MA_step 27 = .ok (.getfield 50, 3) := bz_c180 (by decide +kernel)
theorem d_MA_step_30 : decode b_MA_step 30 = .ok (.getfield 114, 3) := bz_c180 (by decide +kernel)
theorem d_MA_step_33 : decode b_MA_step 33 = .ok (.iload_n 1, 1) := bz_c27 (by decide +kernel)
theorem d_MA_step_34 : decode b_MA_step 34 = .ok (.iaload, 1) := bz_c46 (by decide +kernel)
theorem d_MA_step_35 : decode b_MA_step 35 = .ok (.istore_n 2, 1) := bz_c61 (by decide +kernel)
theorem d_MA_step_36 : decode b_MA_step 36 = .ok (.aload_n 0, 1) := bz_c42 (by decide +kernel)
theorem d_MA_step_37 : decode b_MA_step 37 = .ok (.dup, 1) := bz_c89 (by decide +kernel)
theorem d_MA_step_38 : decode b_MA_step 38 = .ok (.getfield 106, 3) := bz_c180 (by decide +kernel)
theorem d_MA_step_41 : decode b_MA_step 41 = .ok (.iconst 1, 1) := bz_c4 (by decide +kernel)
theorem d_MA_step_42 : decode b_MA_step 42 = .ok (.iadd, 1) := bz_c96 (by decide +kernel)
theorem d_MA_step_43 : decode b_MA_step 43 = .ok (.putfield 106, 3) := bz_c181 (by decide +kernel)
theorem d_MA_step_46 : decode b_MA_step 46 = .ok (.iload_n 2, 1) := bz_c28 (by decide +kernel)
theorem d_MA_step_47 : decode b_MA_step 47 = .ok (.bipush 11, 2) := bz_c16 (by decide +kernel)
theorem d_MA_step_49 : decode b_MA_step 49 = .ok (.if_icmp .ne 8, 3) := bz_c160 (by decide +kernel)
theorem d_MA_step_52 : decode b_MA_step 52 = .ok (.aload_n 0, 1) := bz_c42 (by decide +kernel)
theorem d_MA_step_53 : decode b_MA_step 53 = .ok (.invokevirtual 117, 3) := bz_c182 (by decide +kernel)
theorem d_MA_step_56 : decode b_MA_step 56 = .ok (.return_, 1) := bz_c177 (by decide +kernel)
theorem d_MA_step_57 : decode b_MA_step 57 = .ok (.iload_n 2, 1) := bz_c28 (by decide +kernel)
theorem d_MA_step_58 : decode b_MA_step 58 = .ok (.iconst 5, 1) := bz_c8 (by decide +kernel)
theorem d_MA_step_59 : decode b_MA_step 59 = .ok (.if_icmp .ne 17, 3) := bz_c160 (by decide +kernel)
theorem d_MA_step_62 : decode b_MA_step 62 = .ok (.aload_n 0, 1) := bz_c42 (by decide +kernel)
theorem d_MA_step_63 : decode b_MA_step 63 = .ok (.aload_n 0, 1) := bz_c42 (by decide +kernel)
theorem d_MA_step_64 : decode b_MA_step 64 = .ok (.getfield 50, 3) := bz_c180 (by decide +kernel)
theorem d_MA_step_67 : decode b_MA_step 67 = .ok (.getfield 120, 3) := bz_c180 (by decide +kernel)
theorem d_MA_step_70 : decode b_MA_step 70 = .ok (.iload_n 1, 1) := bz_c27 (by decide +kernel)
theorem d_MA_step_71 : decode b_MA_step 71 = .ok (.iaload, 1) := bz_c46 (by decide +kernel)
theorem d_MA_step_72 : decode b_MA_step 72 = .ok (.putfield 106, 3) := bz_c181 (by decide +kernel)
theorem d_MA_step_75 : decode b_MA_step 75 = .ok (.return_, 1) := bz_c177 (by decide +kernel)
theorem d_MA_step_76 : decode b_MA_step 76 = .ok (.aload_n 0, 1) := bz_c42 (by decide +kernel)
theorem d_MA_step_77 : decode b_MA_step 77 = .ok (.dup, 1) := bz_c89 (by decide +kernel)
theorem d_MA_step_78 : decode b_MA_step 78 = .ok (.getfield 74, 3) := bz_c180 (by decide +kernel)
theorem d_MA_step_81 : decode b_MA_step 81 = .ok (.iconst 1, 1) := bz_c4 (by decide +kernel)
theorem d_MA_step_82 : decode b_MA_step 82 = .ok (.iadd, 1) := bz_c96 (by decide +kernel)
theorem d_MA_step_83 : decode b_MA_step 83 = .ok (.putfield 74, 3) := bz_c181 (by decide +kernel)
theorem d_MA_step_86 : decode b_MA_step 86 = .ok (.aload_n 0, 1) := bz_c42 (by decide +kernel)
theorem d_MA_step_87 : decode b_MA_step 87 = .ok (.getfield 74, 3) := bz_c180 (by decide +kernel)
theorem d_MA_step_90 : decode b_MA_step 90 = .ok (.ldc 123, 2) := bz_c18 (by decide +kernel)
theorem d_MA_step_92 : decode b_MA_step 92 = .ok (.if_icmp .le 12, 3) := bz_c164 (by decide +kernel)
theorem d_MA_step_95 : decode b_MA_step 95 = .ok (.aload_n 0, 1) := bz_c42 (by decide +kernel)
theorem d_MA_step_96 : decode b_MA_step 96 = .ok (.bipush 14, 2) := bz_c16 (by decide +kernel)
theorem d_MA_step_98 : decode b_MA_step 98 = .ok (.putfield 71, 3) := bz_c181 (by decide +kernel)
theorem d_MA_step_101 : decode b_MA_step 101 = .ok (.goto 114, 3) := bz_c167 (by decide +kernel)
theorem d_MA_step_104 : decode b_MA_step 104 = .ok (.iload_n 2, 1) := bz_c28 (by decide +kernel)
theorem d_MA_step_105 : decode b_MA_step 105 = .ok (.bipush 16, 2) := bz_c16 (by decide +kernel)
theorem d_MA_step_107 : decode b_MA_step 107 = .ok (.if_icmp .gt 12, 3) := bz_c163 (by decide +kernel)
theorem d_MA_step_110 : decode b_MA_step 110 = .ok (.aload_n 0, 1) := bz_c42 (by decide +kernel)
theorem d_MA_step_111 : decode b_MA_step 111 = .ok (.iload_n 2, 1) := bz_c28 (by decide +kernel)
theorem d_MA_step_112 : decode b_MA_step 112 = .ok (.iload_n 1, 1) := bz_c27 (by decide +kernel)
theorem d_MA_step_113 : decode b_MA_step 113 = .ok (.invokevirtual 124, 3) := bz_c182 (by decide +kernel)
theorem d_MA_step_116 : decode b_MA_step 116 = .ok (.goto 99, 3) := bz_c167 (by decide +kernel)
theorem d_MA_step_119 : decode b_MA_step 119 = .ok (.iload_n 2, 1) := bz_c28 (by decide +kernel)
theorem d_MA_step_120 : decode b_MA_step 120 = .ok (.bipush 36, 2) := bz_c16 (by decide +kernel)
theorem d_MA_step_122 : decode b_MA_step 122 = .ok (.if_icmp .gt 21, 3) := bz_c163 (by decide +kernel)
theorem d_MA_step_125 : decode b_MA_step 125 = .ok (.aload_n 0, 1) := bz_c42 (by decide +kernel)
theorem d_MA_step_126 : decode b_MA_step 126 = .ok (.iload_n 2, 1) := bz_c28 (by decide +kernel)
theorem d_MA_step_127 : decode b_MA_step 127 = .ok (.aload_n 0, 1) := bz_c42 (by decide +kernel)
theorem d_MA_step_128 : decode b_MA_step 128 = .ok (.getfield 50, 3) := bz_c180 (by decide +kernel)
theorem d_MA_step_131 : decode b_MA_step 131 = .ok (.getfield 128, 3) := bz_c180 (by decide +kernel)
theorem d_MA_step_134 : decode b_MA_step 134 = .ok (.iload_n 1, 1) := bz_c27 (by decide +kernel)
theorem d_MA_step_135 : decode b_MA_step 135 = .ok (.laload, 1) := bz_c47 (by decide +kernel)
theorem d_MA_step_136 : decode b_MA_step 136 = .ok (.l2i, 1) := bz_c136 (by decide +kernel)
theorem d_MA_step_137 : decode b_MA_step 137 = .ok (.invokevirtual 131, 3) := bz_c182 (by decide +kernel)
theorem d_MA_step_140 : decode b_MA_step 140 = .ok (.goto 75, 3) := bz_c167 (by decide +kernel)
theorem d_MA_step_143 : decode b_MA_step 143 = .ok (.iload_n 2, 1) := bz_c28 (by decide +kernel)
theorem d_MA_step_144 : decode b_MA_step 144 = .ok (.bipush 64, 2) := bz_c16 (by decide +kernel)
theorem d_MA_step_146 : decode b_MA_step 146 = .ok (.if_icmp .gt 20, 3) := bz_c163 (by decide +kernel)
theorem d_MA_step_149 : decode b_MA_step 149 = .ok (.aload_n 0, 1) := bz_c42 (by decide +kernel)
theorem d_MA_step_150 : decode b_MA_step 150 = .ok (.iload_n 2, 1) := bz_c28 (by decide +kernel)
theorem d_MA_step_151 : decode b_MA_step 151 = .ok (.aload_n 0, 1) := bz_c42 (by decide +kernel)
theorem d_MA_step_152 : decode b_MA_step 152 = .ok (.getfield 50, 3) := bz_c180 (by decide +kernel)
theorem d_MA_step_155 : decode b_MA_step 155 = .ok (.getfield 128, 3) := bz_c180 (by decide +kernel)
theorem d_MA_step_158 : decode b_MA_step 158 = .ok (.iload_n 1, 1) := bz_c27 (by decide +kernel)
theorem d_MA_step_159 : decode b_MA_step 159 = .ok (.laload, 1) := bz_c47 (by decide +kernel)
theorem d_MA_step_160 : decode b_MA_step 160 = .ok (.invokevirtual 134, 3) := bz_c182 (by decide +kernel)
theorem d_MA_step_163 : decode b_MA_step 163 = .ok (.goto 52, 3) := bz_c167 (by decide +kernel)
theorem d_MA_step_166 : decode b_MA_step 166 = .ok (.iload_n 2, 1) := bz_c28 (by decide +kernel)
theorem d_MA_step_167 : decode b_MA_step 167 = .ok (.bipush 66, 2) := bz_c16 (by decide +kernel)
theorem d_MA_step_169 : decode b_MA_step 169 = .ok (.if_icmp .gt 19, 3) := bz_c163 (by decide +kernel)
theorem d_MA_step_172 : decode b_MA_step 172 = .ok (.aload_n 0, 1) := bz_c42 (by decide +kernel)
theorem d_MA_step_173 : decode b_MA_step 173 = .ok (.aload_n 0, 1) := bz_c42 (by decide +kernel)
theorem d_MA_step_174 : decode b_MA_step 174 = .ok (.getfield 50, 3) := bz_c180 (by decide +kernel)
theorem d_MA_step_177 : decode b_MA_step 177 = .ok (.getfield 128, 3) := bz_c180 (by decide +kernel)
theorem d_MA_step_180 : decode b_MA_step 180 = .ok (.iload_n 1, 1) := bz_c27 (by decide +kernel)
theorem d_MA_step_181 : decode b_MA_step 181 = .ok (.laload, 1) := bz_c47 (by decide +kernel)
theorem d_MA_step_182 : decode b_MA_step 182 = .ok (.invokevirtual 94, 3) := bz_c182 (by decide +kernel)
theorem d_MA_step_185 : decode b_MA_step 185 = .ok (.goto 30, 3) := bz_c167 (by decide +kernel)
theorem d_MA_step_188 : decode b_MA_step 188 = .ok (.iload_n 2, 1) := bz_c28 (by decide +kernel)
theorem d_MA_step_189 : decode b_MA_step 189 = .ok (.invokestatic 138, 3) := bz_c184 (by decide +kernel)
theorem d_MA_step_192 : decode b_MA_step 192 = .ok (.ifCond .eq 18, 3) := bz_c153 (by decide +kernel)
theorem d_MA_step_195 : decode b_MA_step 195 = .ok (.aload_n 0, 1) := bz_c42 (by decide +kernel)
theorem d_MA_step_196 : decode b_MA_step 196 = .ok (.iload_n 2, 1) := bz_c28 (by decide +kernel)
theorem d_MA_step_197 : decode b_MA_step 197 = .ok (.aload_n 0, 1) := bz_c42 (by decide +kernel)
theorem d_MA_step_198 : decode b_MA_step 198 = .ok (.invokevirtual 142, 3) := bz_c182 (by decide +kernel)
theorem d_MA_step_201 : decode b_MA_step 201 = .ok (.invokestatic 146, 3) := bz_c184 (by decide +kernel)
theorem d_MA_step_204 : decode b_MA_step 204 = .ok (.invokevirtual 94, 3) := bz_c182 (by decide +kernel)
theorem d_MA_step_207 : decode b_MA_step 207 = .ok (.goto 8, 3) := bz_c167 (by decide +kernel)
theorem d_MA_step_210 : decode b_MA_step 210 = .ok (.aload_n 0, 1) := bz_c42 (by decide +kernel)
theorem d_MA_step_211 : decode b_MA_step 211 = .ok (.iload_n 2, 1) := bz_c28 (by decide +kernel)
theorem d_MA_step_212 : decode b_MA_step 212 = .ok (.invokevirtual 150, 3) := bz_c182 (by decide +kernel)
theorem d_MA_step_215 : decode b_MA_step 215 = .ok (.return_, 1) := bz_c177 (by decide +kernel)
theorem kM_MA_117 : Cond.methodLink R_MA 117 y_MA_leaveBlock ∈ lw_g := in_c7 113 rfl rfl
theorem kV_MA_leaveBlock : Cond.instanceMethod y_MA_leaveBlock ∈ lw_g := in_c7 115 rfl rfl
theorem kS_MA_leaveBlock : Cond.selects R_MA y_MA_leaveBlock y_MA_leaveBlock ∈ lw_g := in_s 102 (by decide +kernel) rfl
theorem kM_MA_124 : Cond.methodLink R_MA 124 y_MA_perform ∈ lw_g := in_c7 131 rfl rfl
theorem kV_MA_perform : Cond.instanceMethod y_MA_perform ∈ lw_g := in_c7 133 rfl rfl
theorem kS_MA_perform : Cond.selects R_MA y_MA_perform y_MA_perform ∈ lw_g := in_s 106 (by decide +kernel) rfl
theorem kM_MA_131 : Cond.methodLink R_MA 131 y_MA_performVariable ∈ lw_g := in_c7 152 rfl rfl
theorem kV_MA_performVariable : Cond.instanceMethod y_MA_performVariable ∈ lw_g := in_c7 154 rfl rfl
theorem kS_MA_performVariable : Cond.selects R_MA y_MA_performVariable y_MA_performVariable ∈ lw_g := in_s 110 (by decide +kernel) rfl
theorem kM_MA_134 : Cond.methodLink R_MA 134 y_MA_performMemory ∈ lw_g := in_c7 156 rfl rfl
theorem kV_MA_performMemory : Cond.instanceMethod y_MA_performMemory ∈ lw_g := in_c7 158 rfl rfl
theorem kS_MA_performMemory : Cond.selects R_MA y_MA_performMemory y_MA_performMemory ∈ lw_g := in_s 111 (by decide +kernel) rfl
theorem kM_MA_138 : Cond.methodLink R_MA 138 y_CD_takesOne ∈ lw_g := in_c7 182 rfl rfl
theorem kT_CD_takesOne : Cond.static y_CD_takesOne ∈ lw_g := in_c7 50 rfl rfl
theorem kM_MA_146 : Cond.methodLink R_MA 146 y_MA_ofOne ∈ lw_g := in_c7 183 rfl rfl
theorem kT_MA_ofOne : Cond.static y_MA_ofOne ∈ lw_g := in_c7 184 rfl rfl
theorem kM_MA_150 : Cond.methodLink R_MA 150 y_MA_performTwo ∈ lw_g := in_c7 210 rfl rfl
theorem kV_MA_performTwo : Cond.instanceMethod y_MA_performTwo ∈ lw_g := in_c7 212 rfl rfl
theorem kS_MA_performTwo : Cond.selects R_MA y_MA_performTwo y_MA_performTwo ∈ lw_g := in_s 115 (by decide +kernel) rfl
theorem kF_MA_109 : Cond.fieldLink R_MA 109 "WaferForge$Codes" "length" "I" ∈ lw_g := in_c1 95 rfl rfl
theorem kF_MA_74 : Cond.fieldLink R_MA 74 "WaferForge$Machine" "steps" "I" ∈ lw_g := in_c3 59 rfl rfl
theorem kJ_MA_123 : Cond.constant R_MA 123 (100000) ∈ lw_g := in_c7 130 rfl rfl
abbrev at_MA_step (dC : Nat → ClassId) (dI : Nat → Nat → Nat) (h0 gl aw ac ce sk fb fs ff fl lb lh wat wag waf cfi clk ac_localTypes_r cop cva cpt cel cla : Nat) (csk cce cgl cfb cfs cff cfl clb clh cwaf cwat cwag ccfi cclk ccop ccva ccpt ccel ccla : ClassId) (law : List Value) (aw_pagesMost : Int64) (ac_length : Int32) (ac_labelCount : Int32) (gwaf : Nat → Int32) (gwat : Nat → Int32) (gwag : Nat → Int32) (gcfi : Nat → Int32) (gclk : Nat → Int32) (gcop : Nat → Int32) (gcva : Nat → Int64) (gcpt : Nat → Int32) (gcel : Nat → Int32) (gcla : Nat → Int32) (A : Nat → Prop) (u : (Nat → Int64) × (Nat → Int32) × (Nat → Int32) × (Nat → Int32) × (Nat → Int32) × (Nat → Int64) × (Nat → Int32) × (Nat → Int32) × (Nat → Int64) × Int32 × Int32 × Int32 × Int32 × Int32 × Int32 × Int32) (t : State) : Prop := match u with | (gce, gfb, gff, gfl, gfs, ggl, glb, glh, gsk, h0_at, h0_frameCount, h0_height, h0_labelCount, h0_pages, h0_reason, h0_steps) => va_P (dC, dI) cls (wz_40 h0 h0_pages h0_steps h0_reason gl aw ac ce sk h0_height fb fs ff fl h0_frameCount lb lh h0_labelCount h0_at aw law ac cfi clk ac_localTypes_r ac_length cop cva cpt cel ac_labelCount cla sk csk gsk ce cce gce gl cgl ggl fb cfb gfb fs cfs gfs ff cff gff fl cfl gfl lb clb glb lh clh glh waf cwaf gwaf wat cwat gwat wag cwag gwag cfi ccfi gcfi clk cclk gclk cop ccop gcop cva ccva gcva cpt ccpt gcpt cel ccel gcel cla ccla gcla) t.heap ∧ va_K (dC, dI) cls [(csk, .long), (cce, .long), (cgl, .long), (cfb, .int), (cfs, .int), (cff, .int), (cfl, .int), (clb, .int), (clh, .int), (cwaf, .int), (cwat, .int), (cwag, .int), (ccfi, .int), (cclk, .int), (ccop, .int), (ccva, .long), (ccpt, .int), (ccel, .int), (ccla, .int)] t ∧ va_D A (wz_40 h0 h0_pages h0_steps h0_reason gl aw ac ce sk h0_height fb fs ff fl h0_frameCount lb lh h0_labelCount h0_at aw law ac cfi clk ac_localTypes_r ac_length cop cva cpt cel ac_labelCount cla sk csk gsk ce cce gce gl cgl ggl fb cfb gfb fs cfs gfs ff cff gff fl cfl gfl lb clb glb lh clh glh waf cwaf gwaf wat cwat gwat wag cwag gwag cfi ccfi gcfi clk cclk gclk cop ccop gcop cva ccva gcva cpt ccpt gcpt cel ccel gcel cla ccla gcla)
set_option maxHeartbeats 4000000 in
set_option maxRecDepth 100000 in
theorem c_MA_step (l : Launch) (dC : Nat → ClassId) (dI : Nat → Nat → Nat) (sz : Nat) (h0 gl aw ac ce sk fb fs ff fl lb lh wat wag waf cfi clk ac_localTypes_r cop cva cpt cel cla : Nat) (csk cce cgl cfb cfs cff cfl clb clh cwaf cwat cwag ccfi cclk ccop ccva ccpt ccel ccla : ClassId) (h0_pages : Int32) (h0_steps : Int32) (h0_reason : Int32) (h0_height : Int32) (h0_frameCount : Int32) (h0_labelCount : Int32) (h0_at : Int32) (law : List Value) (aw_pagesMost : Int64) (ac_length : Int32) (ac_labelCount : Int32) (gsk : Nat → Int64) (gce : Nat → Int64) (ggl : Nat → Int64) (gfb : Nat → Int32) (gfs : Nat → Int32) (gff : Nat → Int32) (gfl : Nat → Int32) (glb : Nat → Int32) (glh : Nat → Int32) (gwaf : Nat → Int32) (gwat : Nat → Int32) (gwag : Nat → Int32) (gcfi : Nat → Int32) (gclk : Nat → Int32) (gcop : Nat → Int32) (gcva : Nat → Int64) (gcpt : Nat → Int32) (gcel : Nat → Int32) (gcla : Nat → Int32) (an : mc_A) (nl : Nat → Int) (gv : Nat → Int) (fc : Int) (tk : Nat → Int) (gc : Int) (paw_1 : law[1]? = some (.ref ac)) (paw_3 : law[3]? = some (.ref wat)) (paw_5 : law[5]? = some (.ref wag)) (paw_7 : law[7]? = some (.ref waf)) (paw_10 : law[10]? = some (.long aw_pagesMost)) (plaw : law.length = 21) (b_h0_pages : 0 ≤ h0_pages.toInt ∧ h0_pages.toInt ≤ 2) (b_h0_steps : 0 ≤ h0_steps.toInt ∧ h0_steps.toInt ≤ 100001) (b_h0_reason : 0 ≤ h0_reason.toInt ∧ h0_reason.toInt ≤ 14) (b_h0_height : 0 ≤ h0_height.toInt ∧ h0_height.toInt ≤ 12096) (b_h0_frameCount : 0 ≤ h0_frameCount.toInt ∧ h0_frameCount.toInt ≤ 100) (b_h0_labelCount : 0 ≤ h0_labelCount.toInt ∧ h0_labelCount.toInt ≤ 10000) (b_ac_length : 0 ≤ ac_length.toInt ∧ ac_length.toInt ≤ 5000)   (hr0 : h0_reason.toInt = 0) (hk1 : 1 ≤ h0_frameCount.toInt) (hF : mc_fr an nl gv gfb gfs gff gfl glb glh (h0_frameCount.toInt - 1).toNat h0_at.toInt h0_height.toInt h0_labelCount.toInt) (hfn : ∀ f : Nat, (f : Int) < fc → f < 30 ∧ 0 ≤ (gwaf f).toInt ∧ (gwaf f).toInt < 20) (hgv : ∀ f : Nat, (f : Int) < fc → gv f = if (gwag (gwaf f).toNatClampNeg).toInt = 64 then 0 else 1) (hnl : ∀ f : Nat, (f : Int) < fc → nl f = (gwat (gwaf f).toNatClampNeg).toInt + (gclk f).toInt ∧ 0 ≤ (gwat (gwaf f).toNatClampNeg).toInt ∧ (gwat (gwaf f).toNatClampNeg).toInt ≤ 8 ∧ 0 ≤ (gclk f).toInt ∧ (gclk f).toInt ≤ 60) (htk : ∀ f : Nat, (f : Int) < fc → tk f = (gwat (gwaf f).toNatClampNeg).toInt) (hfs : ∀ f : Nat, (f : Int) < fc → 0 ≤ (gcfi f).toInt ∧ an (gcfi f).toInt.toNat = some (f, [], 0)) (hgc : gc ≤ 20) (hst : h0_steps.toInt ≤ 100000) (hok : ∀ (i f : Nat) (bs : List (Nat × Int)) (h : Int), an i = some (f, bs, h) → (f : Int) < fc ∧ 0 ≤ h ∧ mc_at an nl gv tk fc gc gcop gcpt gcel gcla gcva i f bs h) : Met l y_MA_step w_MA_step ({ frames := 5, cells := 0, slots := 0, locals := 132 }) (va_Pc [.ref h0] (fun U => U.heap.size = sz ∧ va_P (dC, dI) cls (wz_40 h0 h0_pages h0_steps h0_reason gl aw ac ce sk h0_height fb fs ff fl h0_frameCount lb lh h0_labelCount h0_at aw law ac cfi clk ac_localTypes_r ac_length cop cva cpt cel ac_labelCount cla sk csk gsk ce cce gce gl cgl ggl fb cfb gfb fs cfs gfs ff cff gff fl cfl gfl lb clb glb lh clh glh waf cwaf gwaf wat cwat gwat wag cwag gwag cfi ccfi gcfi clk cclk gclk cop ccop gcop cva ccva gcva cpt ccpt gcpt cel ccel gcel cla ccla gcla) U.heap ∧ va_K (dC, dI) cls [(csk, .long), (cce, .long), (cgl, .long), (cfb, .int), (cfs, .int), (cff, .int), (cfl, .int), (clb, .int), (clh, .int), (cwaf, .int), (cwat, .int), (cwag, .int), (ccfi, .int), (cclk, .int), (ccop, .int), (ccva, .long), (ccpt, .int), (ccel, .int), (ccla, .int)] U ∧ va_D (fun _ => True) (wz_40 h0 h0_pages h0_steps h0_reason gl aw ac ce sk h0_height fb fs ff fl h0_frameCount lb lh h0_labelCount h0_at aw law ac cfi clk ac_localTypes_r ac_length cop cva cpt cel ac_labelCount cla sk csk gsk ce cce gce gl cgl ggl fb cfb gfb fs cfs gfs ff cff gff fl cfl gfl lb clb glb lh clh glh waf cwaf gwaf wat cwat gwat wag cwag gwag cfi ccfi gcfi clk cclk gclk cop ccop gcop cva ccva gcva cpt ccpt gcpt cel ccel gcel cla ccla gcla))) (va_Qv (fun (u : (Nat → Int64) × (Nat → Int32) × (Nat → Int32) × (Nat → Int32) × (Nat → Int32) × (Nat → Int64) × (Nat → Int32) × (Nat → Int32) × (Nat → Int64) × Int32 × Int32 × Int32 × Int32 × Int32 × Int32 × Int32) => match u with | (gce2, gfb2, gff2, gfl2, gfs2, ggl2, glb2, glh2, gsk2, h0_at2, h0_frameCount2, h0_height2, h0_labelCount2, h0_pages2, h0_reason2, h0_steps2) => (0 ≤ h0_frameCount2.toInt ∧ h0_frameCount2.toInt ≤ 100) ∧ (0 ≤ h0_height2.toInt ∧ h0_height2.toInt ≤ 12096) ∧ (0 ≤ h0_labelCount2.toInt ∧ h0_labelCount2.toInt ≤ 10000) ∧ (0 ≤ h0_pages2.toInt ∧ h0_pages2.toInt ≤ 2) ∧ (0 ≤ h0_reason2.toInt ∧ h0_reason2.toInt ≤ 14) ∧ (0 ≤ h0_steps2.toInt ∧ h0_steps2.toInt ≤ 100001) ∧ (mc_after an nl gv gfb2 gfs2 gff2 gfl2 glb2 glh2 h0_reason2 h0_frameCount2 h0_at2 h0_height2 h0_labelCount2 ∧ (h0_reason2.toInt = 0 → h0_steps2.toInt ≤ 100000))) (at_MA_step dC dI h0 gl aw ac ce sk fb fs ff fl lb lh wat wag waf cfi clk ac_localTypes_r cop cva cpt cel cla csk cce cgl cfb cfs cff cfl clb clh cwaf cwat cwag ccfi cclk ccop ccva ccpt ccel ccla law aw_pagesMost ac_length ac_labelCount gwaf gwat gwag gcfi gclk gcop gcva gcpt gcel gcla (va_A (wz_40 h0 h0_pages h0_steps h0_reason gl aw ac ce sk h0_height fb fs ff fl h0_frameCount lb lh h0_labelCount h0_at aw law ac cfi clk ac_localTypes_r ac_length cop cva cpt cel ac_labelCount cla sk csk gsk ce cce gce gl cgl ggl fb cfb gfb fs cfs gfs ff cff gff fl cfl gfl lb clb glb lh clh glh waf cwaf gwaf wat cwat gwat wag cwag gwag cfi ccfi gcfi clk cclk gclk cop ccop gcop cva ccva gcva cpt ccpt gcpt cel ccel gcel cla ccla gcla) sz)) (va_A (wz_40 h0 h0_pages h0_steps h0_reason gl aw ac ce sk h0_height fb fs ff fl h0_frameCount lb lh h0_labelCount h0_at aw law ac cfi clk ac_localTypes_r ac_length cop cva cpt cel ac_labelCount cla sk csk gsk ce cce gce gl cgl ggl fb cfb gfb fs cfs gfs ff cff gff fl cfl gfl lb clb glb lh clh glh waf cwaf gwaf wat cwat gwat wag cwag gwag cfi ccfi gcfi clk cclk gclk cop ccop gcop cva ccva gcva cpt ccpt gcpt cel ccel gcel cla ccla gcla) sz)) 0 0 (va_A (wz_40 h0 h0_pages h0_steps h0_reason gl aw ac ce sk h0_height fb fs ff fl h0_frameCount lb lh h0_labelCount h0_at aw law ac cfi clk ac_localTypes_r ac_length cop cva cpt cel ac_labelCount cla sk csk gsk ce cce gce gl cgl ggl fb cfb gfb fs cfs gfs ff cff gff fl cfl gfl lb clb glb lh clh glh waf cwaf gwaf wat cwat gwat wag cwag gwag cfi ccfi gcfi clk cclk gclk cop ccop gcop cva ccva gcva cpt ccpt gcpt cel ccel gcel cla ccla gcla) sz) := by
  refine Met.ofW (cc := b_MA_step) (maxL := 3) (ret := none) (by decide) rfl ?_
  intro p e s m args below meth c s₁ B hml hv
  obtain ⟨rfl, hsz, hP, hK, hD0⟩ := hv
  have hx := B.exec
  have hb := B.bytes
  have hr := B.returns
  have hts0 := atoms_spec (ws := w_MA_step) B.pre
  have hts : ∀ w ∈ lw_g, w.before _ s = true := fun w h => hts0 w (List.mem_cons_of_mem _ h)
  have hown : s.vm.findClass R_MA = some m.cls := findClass_of_methodNamed B.named
  have hlocks := B.notSynchronized
  clear hts0
  subst hsz
  have hD := hD0.self (sz := s.heap.size)
  generalize hAe : va_A (wz_40 h0 h0_pages h0_steps h0_reason gl aw ac ce sk h0_height fb fs ff fl h0_frameCount lb lh h0_labelCount h0_at aw law ac cfi clk ac_localTypes_r ac_length cop cva cpt cel ac_labelCount cla sk csk gsk ce cce gce gl cgl ggl fb cfb gfb fs cfs gfs ff cff gff fl cfl gfl lb clb glb lh clh glh waf cwaf gwaf wat cwat gwat wag cwag gwag cfi ccfi gcfi clk cclk gclk cop ccop gcop cva ccva gcva cpt ccpt gcpt cel ccel gcel cla ccla gcla) s.heap.size = A at hD ⊢
  have hA : ∀ q : Nat, s.heap.size ≤ q → A q := fun q h => by rw [← hAe]; exact Or.inr h
  clear hAe
  have hP : va_P (dC, dI) cls (wz_40 h0 h0_pages h0_steps h0_reason gl aw ac ce sk h0_height fb fs ff fl h0_frameCount lb lh h0_labelCount h0_at aw law ac cfi clk ac_localTypes_r ac_length cop cva cpt cel ac_labelCount cla sk csk gsk ce cce gce gl cgl ggl fb cfb gfb fs cfs gfs ff cff gff fl cfl gfl lb clb glb lh clh glh waf cwaf gwaf wat cwat gwat wag cwag gwag cfi ccfi gcfi clk cclk gclk cop ccop gcop cva ccva gcva cpt ccpt gcpt cel ccel gcel cla ccla gcla) s.heap := hP
  have hl := lv_entry ([.ref h0]) (n := 3) (Nat.le_of_ble_eq_true rfl)
  rw [lg_entry_eq]
  generalize (lg_sl ([.ref h0]) ++ List.replicate (3 - (lg_sl ([.ref h0])).length) Slot.unset).toArray = ls at hl ⊢
  have hl : lv_has ls 3 [(0, .ref h0)] := hl
  have k0 : (0 : Int32).toInt = 0 := by decide
  refine w_gen (A := A) hP (fun H locs hP hS => ?_)
  have k1 : (1 : Int32).toInt = 1 := by decide
  have k5 : (5 : Int32).toInt = 5 := by decide
  have k11 : (11 : Int32).toInt = 11 := by decide
  have k14 : (14 : Int32).toInt = 14 := by decide
  have k16 : (16 : Int32).toInt = 16 := by decide
  have k36 : (36 : Int32).toInt = 36 := by decide
  have k64 : (64 : Int32).toInt = 64 := by decide
  have k66 : (66 : Int32).toInt = 66 := by decide
  obtain ⟨f, bs, h, hp0, ha, hH, hT⟩ := mc_fr_to hF
  have e9 : h0_at.toInt.toNat = h0_at.toNatClampNeg := (i32_natI rfl).symm
  rw [e9] at ha
  obtain ⟨hf, hh0, hQ⟩ := hok _ f bs h ha
  obtain ⟨o1, o2, o3, o4, o5, o6, o7, o8⟩ := hT.1
  have hk9 : (((h0_frameCount.toInt - 1).toNat : Nat) : Int) = h0_frameCount.toInt - 1 := by (first | (apply Int.le_antisymm <;> omega) | omega)
  have hp9 := i32_clamp (x := h0_at) hp0
  have hby := op_byte (hQ.2.2.2.2.2.2.2.2.2.2.2.2.2.2.2.2.2.2.2.2.2.2.2.2)
  have hnl9 := hnl f hf
  refine lv_aload_n hx hb d_MA_step_0 rfl (lv_at hl 0 rfl) ?_
  refine va_get (D := (dC, dI)) (ci := 4) (v := .int h0_at) (C := R_MA) (T := F_MA) (N := 18) hx hb hts i_MA hown hK hP 0 rfl rfl 17 (by decide) (hts _ kF_MA_106) (fun _ h9 => h9) rfl d_MA_step_1 ?_
  refine lv_istore_n (lv' := [(1, .int h0_at), (0, .ref h0)]) hx hb d_MA_step_4 rfl hl (by decide) rfl (fun ls hl => ?_)
  refine lv_iload_n hx hb d_MA_step_5 rfl (lv_at hl 0 rfl) ?_
  refine w_cut (pc2 := 20) (σ := Unit) (fun u H locs ls => match u with | _ => va_P (dC, dI) cls (wz_40 h0 h0_pages h0_steps h0_reason gl aw ac ce sk h0_height fb fs ff fl h0_frameCount lb lh h0_labelCount h0_at aw law ac cfi clk ac_localTypes_r ac_length cop cva cpt cel ac_labelCount cla sk csk gsk ce cce gce gl cgl ggl fb cfb gfb fs cfs gfs ff cff gff fl cfl gfl lb clb glb lh clh glh waf cwaf gwaf wat cwat gwat wag cwag gwag cfi ccfi gcfi clk cclk gclk cop ccop gcop cva ccva gcva cpt ccpt gcpt cel ccel gcel cla ccla gcla) H ∧ va_D A (wz_40 h0 h0_pages h0_steps h0_reason gl aw ac ce sk h0_height fb fs ff fl h0_frameCount lb lh h0_labelCount h0_at aw law ac cfi clk ac_localTypes_r ac_length cop cva cpt cel ac_labelCount cla sk csk gsk ce cce gce gl cgl ggl fb cfb gfb fs cfs gfs ff cff gff fl cfl gfl lb clb glb lh clh glh waf cwaf gwaf wat cwat gwat wag cwag gwag cfi ccfi gcfi clk cclk gclk cop ccop gcop cva ccva gcva cpt ccpt gcpt cel ccel gcel cla ccla gcla) ∧ va_S A s.heap H locs ∧ lv_has ls 3 [(0, .ref h0)]) (fun u => match u with | _ => []) ?_ (fun jn20 => ?_)
  · intro u H locs ls hI
    obtain ⟨hP, hD, hS, hl⟩ := hI
    refine lv_aload_n hx hb d_MA_step_20 rfl (lv_at hl 0 rfl) ?_
    refine lv_iconst (v := 0) hx hb d_MA_step_21 (by decide) ?_
    refine va_put (D := (dC, dI)) (ci := 4) (v := .int 0) (ty := .int) (C := R_MA) (T := F_MA) (N := 18) hx hb hts i_MA t_MA t_MA_ok n_MA hown hK hP hD hS 0 rfl rfl 13 (by decide) (hts _ kF_MA_80) (fun _ h9 => h9) rfl (by decide +kernel) rfl rfl (Nat.le_of_ble_eq_true rfl) d_MA_step_22 (fun H locs hP hD hS => ?_)
    have hP9 := hP.sb (wq := (wz_40 h0 h0_pages h0_steps h0_reason gl aw ac ce sk h0_height fb fs ff fl 0 lb lh h0_labelCount h0_at aw law ac cfi clk ac_localTypes_r ac_length cop cva cpt cel ac_labelCount cla sk csk gsk ce cce gce gl cgl ggl fb cfb gfb fs cfs gfs ff cff gff fl cfl gfl lb clb glb lh clh glh waf cwaf gwaf wat cwat gwat wag cwag gwag cfi ccfi gcfi clk cclk gclk cop ccop gcop cva ccva gcva cpt ccpt gcpt cel ccel gcel cla ccla gcla)) [0, 1, 2, 3, 4, 5, 6, 7, 8, 9, 10, 11, 12, 13, 14, 15, 16, 17, 18, 19, 20, 21] rfl
    have hD9 := hD.sb (wq := (wz_40 h0 h0_pages h0_steps h0_reason gl aw ac ce sk h0_height fb fs ff fl 0 lb lh h0_labelCount h0_at aw law ac cfi clk ac_localTypes_r ac_length cop cva cpt cel ac_labelCount cla sk csk gsk ce cce gce gl cgl ggl fb cfb gfb fs cfs gfs ff cff gff fl cfl gfl lb clb glb lh clh glh waf cwaf gwaf wat cwat gwat wag cwag gwag cfi ccfi gcfi clk cclk gclk cop ccop gcop cva ccva gcva cpt ccpt gcpt cel ccel gcel cla ccla gcla)) [0, 1, 2, 3, 4, 5, 6, 7, 8, 9, 10, 11, 12, 13, 14, 15, 16, 17, 18, 19, 20, 21] (by decide) rfl
    exact W.vret hx hb hr (fun t ht hW => ⟨⟨(gce, gfb, gff, gfl, gfs, ggl, glb, glh, gsk, h0_at, 0, h0_height, h0_labelCount, h0_pages, h0_reason, h0_steps), rfl, ⟨by (try dsimp only); (first | (apply Int.le_antisymm <;> omega) | omega), b_h0_height, b_h0_labelCount, b_h0_pages, b_h0_reason, b_h0_steps, ⟨Or.inr (Or.inl (by (try dsimp only); decide)), fun y => hst⟩⟩, va_P.he ht.symm hP9, va_K.moved hW.alike hK, hD9⟩, hS.F ht⟩) hS.2.2 d_MA_step_25
  · skip
    refine lv_if_lt (tgt := 20) hx hb d_MA_step_6 (by decide) (fun c6 => absurd (ltI c6) (by (first | (apply Int.le_antisymm <;> omega) | omega))) (fun c6 => ?_)
    have q6 := nltI c6
    refine lv_iload_n hx hb d_MA_step_9 rfl (lv_at hl 0 rfl) ?_
    refine lv_aload_n hx hb d_MA_step_10 rfl (lv_at hl 1 rfl) ?_
    refine va_get (D := (dC, dI)) (ci := 4) (v := .ref ac) (C := R_MA) (T := F_MA) (N := 18) hx hb hts i_MA hown hK hP 0 rfl rfl 5 (by decide) (hts _ kF_MA_50) (fun _ h9 => h9) rfl d_MA_step_11 ?_
    refine va_get (D := (dC, dI)) (ci := 3) (v := .int ac_length) (C := R_CD) (T := F_CD) (N := 10) hx hb hts i_CD hown hK hP 2 rfl rfl 3 (by decide) (hts _ kF_MA_109) (fun _ h9 => h9) rfl d_MA_step_14 ?_
    refine lv_icmp_lt (tgt := 26) hx hb d_MA_step_17 (by decide) (fun c17 => ?_) (fun c17 => ?_)
    · have q17 := ltI c17
      refine lv_aload_n hx hb d_MA_step_26 rfl (lv_at hl 1 rfl) ?_
      refine va_get (D := (dC, dI)) (ci := 4) (v := .ref ac) (C := R_MA) (T := F_MA) (N := 18) hx hb hts i_MA hown hK hP 0 rfl rfl 5 (by decide) (hts _ kF_MA_50) (fun _ h9 => h9) rfl d_MA_step_27 ?_
      refine va_get (D := (dC, dI)) (ci := 3) (v := .ref cop) (C := R_CD) (T := F_CD) (N := 10) hx hb hts i_CD hown hK hP 2 rfl rfl 4 (by decide) (hts _ kF_MA_114) (fun _ h9 => h9) rfl d_MA_step_30 ?_
      refine lv_iload_n hx hb d_MA_step_33 rfl (lv_at hl 0 rfl) ?_
      have g34 : vp_in h0_at 5000 := vp_in_iff.mpr ⟨by (first | (apply Int.le_antisymm <;> omega) | omega), by (first | (apply Int.le_antisymm <;> omega) | omega)⟩
      refine va_iald hx hb hK hP 17 14 rfl rfl g34 d_MA_step_34 ?_
      refine lv_topi (fun x1 ex1 => ?_)
      have t34 : x1.toInt = (gcop h0_at.toNatClampNeg).toInt := by rw [ex1]
      have b34 := ex1
      refine lv_istore_n (lv' := [(2, .int x1), (1, .int h0_at), (0, .ref h0)]) hx hb d_MA_step_35 rfl hl (by decide) rfl (fun ls hl => ?_)
      refine lv_aload_n hx hb d_MA_step_36 rfl (lv_at hl 2 rfl) ?_
      refine lv_dup hx hb d_MA_step_37 rfl ?_
      refine va_get (D := (dC, dI)) (ci := 4) (v := .int h0_at) (C := R_MA) (T := F_MA) (N := 18) hx hb hts i_MA hown hK hP 0 rfl rfl 17 (by decide) (hts _ kF_MA_106) (fun _ h9 => h9) rfl d_MA_step_38 ?_
      refine lv_iconst (v := 1) hx hb d_MA_step_41 (by decide) ?_
      refine lv_iadd hx hb d_MA_step_42 ?_
      refine lv_topi (fun x2 ex2 => ?_)
      have tx2 : x2.toInt = h0_at.toInt + 1 := by have z := i32_add ex2 (by (first | (apply Int.le_antisymm <;> omega) | omega)) (by (first | (apply Int.le_antisymm <;> omega) | omega)); first | exact z | (first | (apply Int.le_antisymm <;> omega) | omega)
      refine va_put (D := (dC, dI)) (ci := 4) (v := .int x2) (ty := .int) (C := R_MA) (T := F_MA) (N := 18) hx hb hts i_MA t_MA t_MA_ok n_MA hown hK hP hD hS 0 rfl rfl 17 (by decide) (hts _ kF_MA_106) (fun _ h9 => h9) rfl (by decide +kernel) rfl rfl (Nat.le_of_ble_eq_true rfl) d_MA_step_43 (fun H locs hP hD hS => ?_)
      refine lv_iload_n hx hb d_MA_step_46 rfl (lv_at hl 0 rfl) ?_
      refine lv_bipush (v := 11) hx hb d_MA_step_47 (by decide) ?_
      refine lv_icmp_ne (tgt := 57) hx hb d_MA_step_49 (by decide) (fun c49 => ?_) (fun c49 => ?_)
      · have q49 := neI c49
        refine lv_iload_n hx hb d_MA_step_57 rfl (lv_at hl 0 rfl) ?_
        refine lv_iconst (v := 5) hx hb d_MA_step_58 (by decide) ?_
        refine lv_icmp_ne (tgt := 76) hx hb d_MA_step_59 (by decide) (fun c59 => ?_) (fun c59 => ?_)
        · have q59 := neI c59
          refine lv_aload_n hx hb d_MA_step_76 rfl (lv_at hl 2 rfl) ?_
          refine lv_dup hx hb d_MA_step_77 rfl ?_
          refine va_get (D := (dC, dI)) (ci := 4) (v := .int h0_steps) (C := R_MA) (T := F_MA) (N := 18) hx hb hts i_MA hown hK hP 0 rfl rfl 1 (by decide) (hts _ kF_MA_74) (fun _ h9 => h9) rfl d_MA_step_78 ?_
          refine lv_iconst (v := 1) hx hb d_MA_step_81 (by decide) ?_
          refine lv_iadd hx hb d_MA_step_82 ?_
          refine lv_topi (fun x3 ex3 => ?_)
          have tx3 : x3.toInt = h0_steps.toInt + 1 := by have z := i32_add ex3 (by (first | (apply Int.le_antisymm <;> omega) | omega)) (by (first | (apply Int.le_antisymm <;> omega) | omega)); first | exact z | (first | (apply Int.le_antisymm <;> omega) | omega)
          refine va_put (D := (dC, dI)) (ci := 4) (v := .int x3) (ty := .int) (C := R_MA) (T := F_MA) (N := 18) hx hb hts i_MA t_MA t_MA_ok n_MA hown hK hP hD hS 0 rfl rfl 1 (by decide) (hts _ kF_MA_74) (fun _ h9 => h9) rfl (by decide +kernel) rfl rfl (Nat.le_of_ble_eq_true rfl) d_MA_step_83 (fun H locs hP hD hS => ?_)
          refine lv_aload_n hx hb d_MA_step_86 rfl (lv_at hl 2 rfl) ?_
          refine va_get (D := (dC, dI)) (ci := 4) (v := .int x3) (C := R_MA) (T := F_MA) (N := 18) hx hb hts i_MA hown hK hP 0 rfl rfl 1 (by decide) (hts _ kF_MA_74) (fun _ h9 => h9) rfl d_MA_step_87 ?_
          refine lv_ldc hx hb hown (hts _ kJ_MA_123) d_MA_step_90 ?_
          refine lv_topi (fun x4 ex4 => ?_)
          have tx4 : x4.toInt = 100000 := by rw [ex4]; decide
          refine lv_icmp_le (tgt := 104) hx hb d_MA_step_92 (by decide) (fun c92 => ?_) (fun c92 => ?_)
          · have q92 := leI c92
            refine lv_iload_n hx hb d_MA_step_104 rfl (lv_at hl 0 rfl) ?_
            refine lv_bipush (v := 16) hx hb d_MA_step_105 (by decide) ?_
            refine lv_icmp_gt (tgt := 119) hx hb d_MA_step_107 (by decide) (fun c107 => ?_) (fun c107 => ?_)
            · have q107 := ltI c107
              refine lv_iload_n hx hb d_MA_step_119 rfl (lv_at hl 0 rfl) ?_
              refine lv_bipush (v := 36) hx hb d_MA_step_120 (by decide) ?_
              refine lv_icmp_gt (tgt := 143) hx hb d_MA_step_122 (by decide) (fun c122 => ?_) (fun c122 => ?_)
              · have q122 := ltI c122
                refine lv_iload_n hx hb d_MA_step_143 rfl (lv_at hl 0 rfl) ?_
                refine lv_bipush (v := 64) hx hb d_MA_step_144 (by decide) ?_
                refine lv_icmp_gt (tgt := 166) hx hb d_MA_step_146 (by decide) (fun c146 => ?_) (fun c146 => ?_)
                · have q146 := ltI c146
                  refine lv_iload_n hx hb d_MA_step_166 rfl (lv_at hl 0 rfl) ?_
                  refine lv_bipush (v := 66) hx hb d_MA_step_167 (by decide) ?_
                  refine lv_icmp_gt (tgt := 188) hx hb d_MA_step_169 (by decide) (fun c169 => ?_) (fun c169 => ?_)
                  · have q169 := ltI c169
                    refine lv_iload_n hx hb d_MA_step_188 rfl (lv_at hl 0 rfl) ?_
                    have hPc := hP.sb (wq := []) [] rfl
                    have hDc := hD.sb (wq := []) [] (by decide) rfl
                    have hKc := hK.sb (tyq := []) [] rfl
                    have hFc := va_free (wc := []) hD hS hA [] rfl
                    refine va_calli (va_runS (As := [.int x1]) (rest := []) ⟨hx, hb, hml, hown, hts⟩ (c_CD_takesOne l dC dI H.size x1) ⟨callB_of 1 hts (gW kC_CD_takesOne) rfl rfl rfl (hts _ kI_CD) (hts _ kM_MA_138) (by decide +kernel) ⟨Nat.le_of_ble_eq_true rfl, Nat.le_of_ble_eq_true rfl⟩, hts _ kT_CD_takesOne⟩ ⟨fun a U g mk z => by obtain ⟨z0, z1, zP, zK, zD⟩ := z; exact ⟨z0, z1, zP, va_K.moved (u := U) (U := U.calling g mk a) (Vm.Alike.refl U.vm) zK, zD⟩, fun U hU hW => ⟨rfl, by rw [hU], va_P.he hU.symm hPc, va_K.moved hW.alike hKc, hDc.weaken (fun _ _ _ _ => trivial)⟩⟩ rfl rfl hl.1 rfl (lv_room (Nat.le_of_ble_eq_true rfl)) d_MA_step_189 ⟨(Nat.zero_le _), (Nat.zero_le _)⟩) hS (fun q _ h => hFc q h) hFc (fun r5 u t H1 locs ht hvm hw hB hz1 hk1 hS => ?_)
                    try dsimp only at hw
                    have tr5 := hw
                    obtain ⟨hP1, hK1, hD1⟩ := hB
                    replace hP1 := va_P.he ht hP1
                    obtain ⟨hP, hD⟩ := va_join (wr := (wz_40 h0 h0_pages x3 h0_reason gl aw ac ce sk h0_height fb fs ff fl h0_frameCount lb lh h0_labelCount x2 aw law ac cfi clk ac_localTypes_r ac_length cop cva cpt cel ac_labelCount cla sk csk gsk ce cce gce gl cgl ggl fb cfb gfb fs cfs gfs ff cff gff fl cfl gfl lb clb glb lh clh glh waf cwaf gwaf wat cwat gwat wag cwag gwag cfi ccfi gcfi clk cclk gclk cop ccop gcop cva ccva gcva cpt ccpt gcpt cel ccel gcel cla ccla gcla)) (w1 := []) hP hD [] [0, 1, 2, 3, 4, 5, 6, 7, 8, 9, 10, 11, 12, 13, 14, 15, 16, 17, 18, 19, 20, 21] rfl rfl (by decide) (by decide) hk1 hFc hP1 hD1
                    clear hPc hDc hKc hFc hz1 hk1 hP1 hK1 hD1
                    rename Heap => H
                    have hP : va_P (dC, dI) cls (wz_40 h0 h0_pages x3 h0_reason gl aw ac ce sk h0_height fb fs ff fl h0_frameCount lb lh h0_labelCount x2 aw law ac cfi clk ac_localTypes_r ac_length cop cva cpt cel ac_labelCount cla sk csk gsk ce cce gce gl cgl ggl fb cfb gfb fs cfs gfs ff cff gff fl cfl gfl lb clb glb lh clh glh waf cwaf gwaf wat cwat gwat wag cwag gwag cfi ccfi gcfi clk cclk gclk cop ccop gcop cva ccva gcva cpt ccpt gcpt cel ccel gcel cla ccla gcla) H := hP
                    have hD : va_D A (wz_40 h0 h0_pages x3 h0_reason gl aw ac ce sk h0_height fb fs ff fl h0_frameCount lb lh h0_labelCount x2 aw law ac cfi clk ac_localTypes_r ac_length cop cva cpt cel ac_labelCount cla sk csk gsk ce cce gce gl cgl ggl fb cfb gfb fs cfs gfs ff cff gff fl cfl gfl lb clb glb lh clh glh waf cwaf gwaf wat cwat gwat wag cwag gwag cfi ccfi gcfi clk cclk gclk cop ccop gcop cva ccva gcva cpt ccpt gcpt cel ccel gcel cla ccla gcla) := hD
                    refine lv_if_eq (tgt := 210) hx hb d_MA_step_192 (by decide) (fun c192 => ?_) (fun c192 => ?_)
                    · have q192 := eqI c192
                      have A0 := hQ.2.2.2.2.2.2.2.2.2.2.2.2.2.2.2.2.2.2.2.2.2.2.2.1 (op_two (hQ.2.2.2.2.2.2.2.2.2.2.2.2.2.2.2.2.2.2.2.2.2.2.2.2) (by (first | (apply Int.le_antisymm <;> omega) | omega)) (by (first | (apply Int.le_antisymm <;> omega) | omega)))
                      have A1 := A0.1
                      refine lv_aload_n hx hb d_MA_step_210 rfl (lv_at hl 2 rfl) ?_
                      refine lv_iload_n hx hb d_MA_step_211 rfl (lv_at hl 0 rfl) ?_
                      have hPc := hP.sb (wq := (wz_17 h0 h0_pages x3 h0_reason gl aw ac ce sk h0_height fb fs ff fl h0_frameCount lb lh h0_labelCount x2 sk csk gsk)) [0, 3] rfl
                      have hDc := hD.sb (wq := (wz_17 h0 h0_pages x3 h0_reason gl aw ac ce sk h0_height fb fs ff fl h0_frameCount lb lh h0_labelCount x2 sk csk gsk)) [0, 3] (by decide) rfl
                      have hKc := hK.sb (tyq := [(csk, .long)]) [0] rfl
                      have hFc := va_free (wc := (wz_17 h0 h0_pages x3 h0_reason gl aw ac ce sk h0_height fb fs ff fl h0_frameCount lb lh h0_labelCount x2 sk csk gsk)) hD hS hA [0, 3] rfl
                      refine va_callv (va_runV (As := [.int x1]) (rest := []) ⟨hx, hb, hml, hown, hts⟩ (c_MA_performTwo l dC dI H.size h0 gl aw ac ce sk fb fs ff fl lb lh csk h0_pages x3 h0_reason h0_height h0_frameCount h0_labelCount x2 gsk (b_h0_reason) (b_h0_height) x1 (by (try dsimp only); (first | (apply Int.le_antisymm <;> omega) | omega)) (hr0) (by (first | (apply Int.le_antisymm <;> omega) | omega))) (cwV 1 hts (gV kM_MA_150 kV_MA_performTwo kS_MA_performTwo kI_MA kC_MA_performTwo) rfl rfl rfl (by decide +kernel) ⟨Nat.le_of_ble_eq_true rfl, Nat.le_of_ble_eq_true rfl⟩) ⟨fun a U g mk z => by obtain ⟨z0, z1, zP, zK, zD⟩ := z; exact ⟨z0, z1, zP, va_K.moved (u := U) (U := U.calling g mk a) (Vm.Alike.refl U.vm) zK, zD⟩, va_recv hKc hPc (ci := 4) (q0 := 0) rfl rfl, fun U hU hW => ⟨rfl, by rw [hU], va_P.he hU.symm hPc, va_K.moved hW.alike hKc, hDc.weaken (fun _ _ _ _ => trivial)⟩⟩ rfl rfl hl.1 rfl (lv_room (Nat.le_of_ble_eq_true rfl)) d_MA_step_212 ⟨(Nat.zero_le _), (Nat.zero_le _)⟩) hS (fun q _ h => hFc q h) hFc (fun u t H1 locs ht hvm hw hB hz1 hk1 hS => ?_)
                      obtain ⟨n7, n8, n9⟩ := u
                      try dsimp only at hw
                      obtain ⟨bn8, bn9, xr6⟩ := hw
                      try clear hw
                      obtain ⟨hP1, hK1, hD1⟩ := hB
                      replace hP1 := va_P.he ht hP1
                      obtain ⟨hP, hD⟩ := va_join (wr := (wz_41 aw law ac cfi clk ac_localTypes_r ac_length cop cva cpt cel ac_labelCount cla ce cce gce gl cgl ggl fb cfb gfb fs cfs gfs ff cff gff fl cfl gfl lb clb glb lh clh glh waf cwaf gwaf wat cwat gwat wag cwag gwag cfi ccfi gcfi clk cclk gclk cop ccop gcop cva ccva gcva cpt ccpt gcpt cel ccel gcel cla ccla gcla)) (w1 := (wz_17 h0 h0_pages x3 n9 gl aw ac ce sk n8 fb fs ff fl h0_frameCount lb lh h0_labelCount x2 sk csk n7)) hP hD [0, 3] [1, 2, 4, 5, 6, 7, 8, 9, 10, 11, 12, 13, 14, 15, 16, 17, 18, 19, 20, 21] rfl rfl (by decide) (by decide) hk1 hFc hP1 hD1
                      clear hPc hDc hKc hFc hz1 hk1 hP1 hK1 hD1
                      rename Heap => H
                      have hP : va_P (dC, dI) cls (wz_42 aw law ac cfi clk ac_localTypes_r ac_length cop cva cpt cel ac_labelCount cla ce cce gce gl cgl ggl fb cfb gfb fs cfs gfs ff cff gff fl cfl gfl lb clb glb lh clh glh waf cwaf gwaf wat cwat gwat wag cwag gwag cfi ccfi gcfi clk cclk gclk cop ccop gcop cva ccva gcva cpt ccpt gcpt cel ccel gcel cla ccla gcla h0 h0_pages x3 n9 gl aw ac ce sk n8 fb fs ff fl h0_frameCount lb lh h0_labelCount x2 sk csk n7) H := hP
                      have hD : va_D A (wz_42 aw law ac cfi clk ac_localTypes_r ac_length cop cva cpt cel ac_labelCount cla ce cce gce gl cgl ggl fb cfb gfb fs cfs gfs ff cff gff fl cfl gfl lb clb glb lh clh glh waf cwaf gwaf wat cwat gwat wag cwag gwag cfi ccfi gcfi clk cclk gclk cop ccop gcop cva ccva gcva cpt ccpt gcpt cel ccel gcel cla ccla gcla h0 h0_pages x3 n9 gl aw ac ce sk n8 fb fs ff fl h0_frameCount lb lh h0_labelCount x2 sk csk n7) := hD
                      have hP9 := hP.sb (wq := (wz_40 h0 h0_pages x3 n9 gl aw ac ce sk n8 fb fs ff fl h0_frameCount lb lh h0_labelCount x2 aw law ac cfi clk ac_localTypes_r ac_length cop cva cpt cel ac_labelCount cla sk csk n7 ce cce gce gl cgl ggl fb cfb gfb fs cfs gfs ff cff gff fl cfl gfl lb clb glb lh clh glh waf cwaf gwaf wat cwat gwat wag cwag gwag cfi ccfi gcfi clk cclk gclk cop ccop gcop cva ccva gcva cpt ccpt gcpt cel ccel gcel cla ccla gcla)) [20, 0, 1, 21, 2, 3, 4, 5, 6, 7, 8, 9, 10, 11, 12, 13, 14, 15, 16, 17, 18, 19] rfl
                      have hD9 := hD.sb (wq := (wz_40 h0 h0_pages x3 n9 gl aw ac ce sk n8 fb fs ff fl h0_frameCount lb lh h0_labelCount x2 aw law ac cfi clk ac_localTypes_r ac_length cop cva cpt cel ac_labelCount cla sk csk n7 ce cce gce gl cgl ggl fb cfb gfb fs cfs gfs ff cff gff fl cfl gfl lb clb glb lh clh glh waf cwaf gwaf wat cwat gwat wag cwag gwag cfi ccfi gcfi clk cclk gclk cop ccop gcop cva ccva gcva cpt ccpt gcpt cel ccel gcel cla ccla gcla)) [20, 0, 1, 21, 2, 3, 4, 5, 6, 7, 8, 9, 10, 11, 12, 13, 14, 15, 16, 17, 18, 19] (by decide) rfl
                      exact W.vret hx hb hr (fun t ht hW => ⟨⟨(gce, gfb, gff, gfl, gfs, ggl, glb, glh, n7, x2, h0_frameCount, n8, h0_labelCount, h0_pages, n9, x3), rfl, ⟨b_h0_frameCount, bn8, b_h0_labelCount, b_h0_pages, bn9, by (try dsimp only); (first | (apply Int.le_antisymm <;> omega) | omega), ⟨mc_go (h := h - 1) hT (by (try dsimp only); (first | (apply Int.le_antisymm <;> omega) | omega)) (by (try dsimp only); (first | (apply Int.le_antisymm <;> omega) | omega)) (by (try dsimp only); rw [show x2.toInt.toNat = h0_at.toNatClampNeg + 1 from by (first | (apply Int.le_antisymm <;> omega) | omega)]; exact A0.2) (fun y => by (try dsimp only at y); (try dsimp only); (first | (apply Int.le_antisymm <;> omega) | omega)) rfl, fun y => by (try dsimp only at y); (try dsimp only); (first | (apply Int.le_antisymm <;> omega) | omega)⟩⟩, va_P.he ht.symm hP9, va_K.moved hW.alike hK, hD9⟩, hS.F ht⟩) hS.2.2 d_MA_step_215
                    · have q192 := neI c192
                      have A0 := hQ.2.2.2.2.2.2.2.2.2.2.2.2.2.2.2.2.2.2.2.2.2.2.1 (by (first | (apply Int.le_antisymm <;> omega) | omega))
                      have A1 := A0.1
                      refine lv_aload_n hx hb d_MA_step_195 rfl (lv_at hl 2 rfl) ?_
                      refine lv_iload_n hx hb d_MA_step_196 rfl (lv_at hl 0 rfl) ?_
                      refine lv_aload_n hx hb d_MA_step_197 rfl (lv_at hl 2 rfl) ?_
                      have hPc := hP.sb (wq := (wz_17 h0 h0_pages x3 h0_reason gl aw ac ce sk h0_height fb fs ff fl h0_frameCount lb lh h0_labelCount x2 sk csk gsk)) [0, 3] rfl
                      have hDc := hD.sb (wq := (wz_17 h0 h0_pages x3 h0_reason gl aw ac ce sk h0_height fb fs ff fl h0_frameCount lb lh h0_labelCount x2 sk csk gsk)) [0, 3] (by decide) rfl
                      have hKc := hK.sb (tyq := [(csk, .long)]) [0] rfl
                      have hFc := va_free (wc := (wz_17 h0 h0_pages x3 h0_reason gl aw ac ce sk h0_height fb fs ff fl h0_frameCount lb lh h0_labelCount x2 sk csk gsk)) hD hS hA [0, 3] rfl
                      refine va_calll (va_runV (As := []) (rest := [.int x1, .ref h0]) ⟨hx, hb, hml, hown, hts⟩ (c_MA_pop l dC dI H.size h0 gl aw ac ce sk fb fs ff fl lb lh csk h0_pages x3 h0_reason h0_height h0_frameCount h0_labelCount x2 gsk (b_h0_height)) (cwV 0 hts (gV kM_MA_142 kV_MA_pop kS_MA_pop kI_MA kC_MA_pop) rfl rfl rfl (by decide +kernel) ⟨Nat.le_of_ble_eq_true rfl, Nat.le_of_ble_eq_true rfl⟩) ⟨fun a U g mk z => by obtain ⟨z0, z1, zP, zK, zD⟩ := z; exact ⟨z0, z1, zP, va_K.moved (u := U) (U := U.calling g mk a) (Vm.Alike.refl U.vm) zK, zD⟩, va_recv hKc hPc (ci := 4) (q0 := 0) rfl rfl, fun U hU hW => ⟨rfl, by rw [hU], va_P.he hU.symm hPc, va_K.moved hW.alike hKc, hDc.weaken (fun _ _ _ _ => trivial)⟩⟩ rfl rfl hl.1 rfl (lv_room (Nat.le_of_ble_eq_true rfl)) d_MA_step_198 ⟨(Nat.zero_le _), (Nat.zero_le _)⟩) hS (fun q _ h => hFc q h) hFc (fun r10 u t H1 locs ht hvm hw hB hz1 hk1 hS => ?_)
                      obtain ⟨n11, rfl⟩ : ∃ z, z = u := ⟨_, rfl⟩
                      try dsimp only at hw
                      obtain ⟨bn11, xr10⟩ := hw
                      try clear hw
                      obtain ⟨hP1, hK1, hD1⟩ := hB
                      replace hP1 := va_P.he ht hP1
                      obtain ⟨hP, hD⟩ := va_join (wr := (wz_41 aw law ac cfi clk ac_localTypes_r ac_length cop cva cpt cel ac_labelCount cla ce cce gce gl cgl ggl fb cfb gfb fs cfs gfs ff cff gff fl cfl gfl lb clb glb lh clh glh waf cwaf gwaf wat cwat gwat wag cwag gwag cfi ccfi gcfi clk cclk gclk cop ccop gcop cva ccva gcva cpt ccpt gcpt cel ccel gcel cla ccla gcla)) (w1 := (wz_17 h0 h0_pages x3 h0_reason gl aw ac ce sk n11 fb fs ff fl h0_frameCount lb lh h0_labelCount x2 sk csk gsk)) hP hD [0, 3] [1, 2, 4, 5, 6, 7, 8, 9, 10, 11, 12, 13, 14, 15, 16, 17, 18, 19, 20, 21] rfl rfl (by decide) (by decide) hk1 hFc hP1 hD1
                      clear hPc hDc hKc hFc hz1 hk1 hP1 hK1 hD1
                      rename Heap => H
                      have hP : va_P (dC, dI) cls (wz_42 aw law ac cfi clk ac_localTypes_r ac_length cop cva cpt cel ac_labelCount cla ce cce gce gl cgl ggl fb cfb gfb fs cfs gfs ff cff gff fl cfl gfl lb clb glb lh clh glh waf cwaf gwaf wat cwat gwat wag cwag gwag cfi ccfi gcfi clk cclk gclk cop ccop gcop cva ccva gcva cpt ccpt gcpt cel ccel gcel cla ccla gcla h0 h0_pages x3 h0_reason gl aw ac ce sk n11 fb fs ff fl h0_frameCount lb lh h0_labelCount x2 sk csk gsk) H := hP
                      have hD : va_D A (wz_42 aw law ac cfi clk ac_localTypes_r ac_length cop cva cpt cel ac_labelCount cla ce cce gce gl cgl ggl fb cfb gfb fs cfs gfs ff cff gff fl cfl gfl lb clb glb lh clh glh waf cwaf gwaf wat cwat gwat wag cwag gwag cfi ccfi gcfi clk cclk gclk cop ccop gcop cva ccva gcva cpt ccpt gcpt cel ccel gcel cla ccla gcla h0 h0_pages x3 h0_reason gl aw ac ce sk n11 fb fs ff fl h0_frameCount lb lh h0_labelCount x2 sk csk gsk) := hD
                      have hPc := hP.sb (wq := []) [] rfl
                      have hDc := hD.sb (wq := []) [] (by decide) rfl
                      have hKc := hK.sb (tyq := []) [] rfl
                      have hFc := va_free (wc := []) hD hS hA [] rfl
                      refine va_calll (va_runS (As := [.int x1, .long r10]) (rest := [.ref h0]) ⟨hx, hb, hml, hown, hts⟩ (c_MA_ofOne l dC dI H.size x1 r10) ⟨callB_of 2 hts (gW kC_MA_ofOne) rfl rfl rfl (hts _ kI_MA) (hts _ kM_MA_146) (by decide +kernel) ⟨Nat.le_of_ble_eq_true rfl, Nat.le_of_ble_eq_true rfl⟩, hts _ kT_MA_ofOne⟩ ⟨fun a U g mk z => by obtain ⟨z0, z1, zP, zK, zD⟩ := z; exact ⟨z0, z1, zP, va_K.moved (u := U) (U := U.calling g mk a) (Vm.Alike.refl U.vm) zK, zD⟩, fun U hU hW => ⟨rfl, by rw [hU], va_P.he hU.symm hPc, va_K.moved hW.alike hKc, hDc.weaken (fun _ _ _ _ => trivial)⟩⟩ rfl rfl hl.1 rfl (lv_room (Nat.le_of_ble_eq_true rfl)) d_MA_step_201 ⟨(Nat.zero_le _), (Nat.zero_le _)⟩) hS (fun q _ h => hFc q h) hFc (fun r12 u t H1 locs ht hvm hw hB hz1 hk1 hS => ?_)
                      try dsimp only at hw
                      try clear hw
                      obtain ⟨hP1, hK1, hD1⟩ := hB
                      replace hP1 := va_P.he ht hP1
                      obtain ⟨hP, hD⟩ := va_join (wr := (wz_42 aw law ac cfi clk ac_localTypes_r ac_length cop cva cpt cel ac_labelCount cla ce cce gce gl cgl ggl fb cfb gfb fs cfs gfs ff cff gff fl cfl gfl lb clb glb lh clh glh waf cwaf gwaf wat cwat gwat wag cwag gwag cfi ccfi gcfi clk cclk gclk cop ccop gcop cva ccva gcva cpt ccpt gcpt cel ccel gcel cla ccla gcla h0 h0_pages x3 h0_reason gl aw ac ce sk n11 fb fs ff fl h0_frameCount lb lh h0_labelCount x2 sk csk gsk)) (w1 := []) hP hD [] [0, 1, 2, 3, 4, 5, 6, 7, 8, 9, 10, 11, 12, 13, 14, 15, 16, 17, 18, 19, 20, 21] rfl rfl (by decide) (by decide) hk1 hFc hP1 hD1
                      clear hPc hDc hKc hFc hz1 hk1 hP1 hK1 hD1
                      rename Heap => H
                      have hP : va_P (dC, dI) cls (wz_42 aw law ac cfi clk ac_localTypes_r ac_length cop cva cpt cel ac_labelCount cla ce cce gce gl cgl ggl fb cfb gfb fs cfs gfs ff cff gff fl cfl gfl lb clb glb lh clh glh waf cwaf gwaf wat cwat gwat wag cwag gwag cfi ccfi gcfi clk cclk gclk cop ccop gcop cva ccva gcva cpt ccpt gcpt cel ccel gcel cla ccla gcla h0 h0_pages x3 h0_reason gl aw ac ce sk n11 fb fs ff fl h0_frameCount lb lh h0_labelCount x2 sk csk gsk) H := hP
                      have hD : va_D A (wz_42 aw law ac cfi clk ac_localTypes_r ac_length cop cva cpt cel ac_labelCount cla ce cce gce gl cgl ggl fb cfb gfb fs cfs gfs ff cff gff fl cfl gfl lb clb glb lh clh glh waf cwaf gwaf wat cwat gwat wag cwag gwag cfi ccfi gcfi clk cclk gclk cop ccop gcop cva ccva gcva cpt ccpt gcpt cel ccel gcel cla ccla gcla h0 h0_pages x3 h0_reason gl aw ac ce sk n11 fb fs ff fl h0_frameCount lb lh h0_labelCount x2 sk csk gsk) := hD
                      have hPc := hP.sb (wq := (wz_17 h0 h0_pages x3 h0_reason gl aw ac ce sk n11 fb fs ff fl h0_frameCount lb lh h0_labelCount x2 sk csk gsk)) [20, 21] rfl
                      have hDc := hD.sb (wq := (wz_17 h0 h0_pages x3 h0_reason gl aw ac ce sk n11 fb fs ff fl h0_frameCount lb lh h0_labelCount x2 sk csk gsk)) [20, 21] (by decide) rfl
                      have hKc := hK.sb (tyq := [(csk, .long)]) [0] rfl
                      have hFc := va_free (wc := (wz_17 h0 h0_pages x3 h0_reason gl aw ac ce sk n11 fb fs ff fl h0_frameCount lb lh h0_labelCount x2 sk csk gsk)) hD hS hA [20, 21] rfl
                      refine va_callv (va_runV (As := [.long r12]) (rest := []) ⟨hx, hb, hml, hown, hts⟩ (c_MA_push l dC dI H.size h0 gl aw ac ce sk fb fs ff fl lb lh csk h0_pages x3 h0_reason n11 h0_frameCount h0_labelCount x2 gsk (b_h0_reason) (bn11) r12) (cwV 1 hts (gV kM_MA_94 kV_MA_push kS_MA_push kI_MA kC_MA_push) rfl rfl rfl (by decide +kernel) ⟨Nat.le_of_ble_eq_true rfl, Nat.le_of_ble_eq_true rfl⟩) ⟨fun a U g mk z => by obtain ⟨z0, z1, zP, zK, zD⟩ := z; exact ⟨z0, z1, zP, va_K.moved (u := U) (U := U.calling g mk a) (Vm.Alike.refl U.vm) zK, zD⟩, va_recv hKc hPc (ci := 4) (q0 := 0) rfl rfl, fun U hU hW => ⟨rfl, by rw [hU], va_P.he hU.symm hPc, va_K.moved hW.alike hKc, hDc.weaken (fun _ _ _ _ => trivial)⟩⟩ rfl rfl hl.1 rfl (lv_room (Nat.le_of_ble_eq_true rfl)) d_MA_step_204 ⟨(Nat.zero_le _), (Nat.zero_le _)⟩) hS (fun q _ h => hFc q h) hFc (fun u t H1 locs ht hvm hw hB hz1 hk1 hS => ?_)
                      obtain ⟨n14, n15, n16⟩ := u
                      try dsimp only at hw
                      obtain ⟨bn15, bn16, xr13⟩ := hw
                      try clear hw
                      obtain ⟨hP1, hK1, hD1⟩ := hB
                      replace hP1 := va_P.he ht hP1
                      obtain ⟨hP, hD⟩ := va_join (wr := (wz_41 aw law ac cfi clk ac_localTypes_r ac_length cop cva cpt cel ac_labelCount cla ce cce gce gl cgl ggl fb cfb gfb fs cfs gfs ff cff gff fl cfl gfl lb clb glb lh clh glh waf cwaf gwaf wat cwat gwat wag cwag gwag cfi ccfi gcfi clk cclk gclk cop ccop gcop cva ccva gcva cpt ccpt gcpt cel ccel gcel cla ccla gcla)) (w1 := (wz_17 h0 h0_pages x3 n16 gl aw ac ce sk n15 fb fs ff fl h0_frameCount lb lh h0_labelCount x2 sk csk n14)) hP hD [20, 21] [0, 1, 2, 3, 4, 5, 6, 7, 8, 9, 10, 11, 12, 13, 14, 15, 16, 17, 18, 19] rfl rfl (by decide) (by decide) hk1 hFc hP1 hD1
                      clear hPc hDc hKc hFc hz1 hk1 hP1 hK1 hD1
                      rename Heap => H
                      have hP : va_P (dC, dI) cls (wz_42 aw law ac cfi clk ac_localTypes_r ac_length cop cva cpt cel ac_labelCount cla ce cce gce gl cgl ggl fb cfb gfb fs cfs gfs ff cff gff fl cfl gfl lb clb glb lh clh glh waf cwaf gwaf wat cwat gwat wag cwag gwag cfi ccfi gcfi clk cclk gclk cop ccop gcop cva ccva gcva cpt ccpt gcpt cel ccel gcel cla ccla gcla h0 h0_pages x3 n16 gl aw ac ce sk n15 fb fs ff fl h0_frameCount lb lh h0_labelCount x2 sk csk n14) H := hP
                      have hD : va_D A (wz_42 aw law ac cfi clk ac_localTypes_r ac_length cop cva cpt cel ac_labelCount cla ce cce gce gl cgl ggl fb cfb gfb fs cfs gfs ff cff gff fl cfl gfl lb clb glb lh clh glh waf cwaf gwaf wat cwat gwat wag cwag gwag cfi ccfi gcfi clk cclk gclk cop ccop gcop cva ccva gcva cpt ccpt gcpt cel ccel gcel cla ccla gcla h0 h0_pages x3 n16 gl aw ac ce sk n15 fb fs ff fl h0_frameCount lb lh h0_labelCount x2 sk csk n14) := hD
                      refine lv_goto (tgt := 215) hx hb d_MA_step_207 (by decide) ?_
                      have hP9 := hP.sb (wq := (wz_40 h0 h0_pages x3 n16 gl aw ac ce sk n15 fb fs ff fl h0_frameCount lb lh h0_labelCount x2 aw law ac cfi clk ac_localTypes_r ac_length cop cva cpt cel ac_labelCount cla sk csk n14 ce cce gce gl cgl ggl fb cfb gfb fs cfs gfs ff cff gff fl cfl gfl lb clb glb lh clh glh waf cwaf gwaf wat cwat gwat wag cwag gwag cfi ccfi gcfi clk cclk gclk cop ccop gcop cva ccva gcva cpt ccpt gcpt cel ccel gcel cla ccla gcla)) [20, 0, 1, 21, 2, 3, 4, 5, 6, 7, 8, 9, 10, 11, 12, 13, 14, 15, 16, 17, 18, 19] rfl
                      have hD9 := hD.sb (wq := (wz_40 h0 h0_pages x3 n16 gl aw ac ce sk n15 fb fs ff fl h0_frameCount lb lh h0_labelCount x2 aw law ac cfi clk ac_localTypes_r ac_length cop cva cpt cel ac_labelCount cla sk csk n14 ce cce gce gl cgl ggl fb cfb gfb fs cfs gfs ff cff gff fl cfl gfl lb clb glb lh clh glh waf cwaf gwaf wat cwat gwat wag cwag gwag cfi ccfi gcfi clk cclk gclk cop ccop gcop cva ccva gcva cpt ccpt gcpt cel ccel gcel cla ccla gcla)) [20, 0, 1, 21, 2, 3, 4, 5, 6, 7, 8, 9, 10, 11, 12, 13, 14, 15, 16, 17, 18, 19] (by decide) rfl
                      exact W.vret hx hb hr (fun t ht hW => ⟨⟨(gce, gfb, gff, gfl, gfs, ggl, glb, glh, n14, x2, h0_frameCount, n15, h0_labelCount, h0_pages, n16, x3), rfl, ⟨b_h0_frameCount, bn15, b_h0_labelCount, b_h0_pages, bn16, by (try dsimp only); (first | (apply Int.le_antisymm <;> omega) | omega), ⟨mc_go (h := h) hT (by (try dsimp only); (first | (apply Int.le_antisymm <;> omega) | omega)) (by (try dsimp only); (first | (apply Int.le_antisymm <;> omega) | omega)) (by (try dsimp only); rw [show x2.toInt.toNat = h0_at.toNatClampNeg + 1 from by (first | (apply Int.le_antisymm <;> omega) | omega)]; exact A0.2) (fun y => by (try dsimp only at y); (try dsimp only); (first | (apply Int.le_antisymm <;> omega) | omega)) rfl, fun y => by (try dsimp only at y); (try dsimp only); (first | (apply Int.le_antisymm <;> omega) | omega)⟩⟩, va_P.he ht.symm hP9, va_K.moved hW.alike hK, hD9⟩, hS.F ht⟩) hS.2.2 d_MA_step_215
                  · have q169 := nltI c169
                    refine lv_aload_n hx hb d_MA_step_172 rfl (lv_at hl 2 rfl) ?_
                    refine lv_aload_n hx hb d_MA_step_173 rfl (lv_at hl 2 rfl) ?_
                    refine va_get (D := (dC, dI)) (ci := 4) (v := .ref ac) (C := R_MA) (T := F_MA) (N := 18) hx hb hts i_MA hown hK hP 0 rfl rfl 5 (by decide) (hts _ kF_MA_50) (fun _ h9 => h9) rfl d_MA_step_174 ?_
                    refine va_get (D := (dC, dI)) (ci := 3) (v := .ref cva) (C := R_CD) (T := F_CD) (N := 10) hx hb hts i_CD hown hK hP 2 rfl rfl 5 (by decide) (hts _ kF_MA_128) (fun _ h9 => h9) rfl d_MA_step_177 ?_
                    refine lv_iload_n hx hb d_MA_step_180 rfl (lv_at hl 1 rfl) ?_
                    have g181 : vp_in h0_at 5000 := vp_in_iff.mpr ⟨by (first | (apply Int.le_antisymm <;> omega) | omega), by (first | (apply Int.le_antisymm <;> omega) | omega)⟩
                    refine va_lald hx hb hK hP 18 15 rfl rfl g181 d_MA_step_181 ?_
                    refine lv_topl (fun x17 ex17 => ?_)
                    have hPc := hP.sb (wq := (wz_17 h0 h0_pages x3 h0_reason gl aw ac ce sk h0_height fb fs ff fl h0_frameCount lb lh h0_labelCount x2 sk csk gsk)) [0, 3] rfl
                    have hDc := hD.sb (wq := (wz_17 h0 h0_pages x3 h0_reason gl aw ac ce sk h0_height fb fs ff fl h0_frameCount lb lh h0_labelCount x2 sk csk gsk)) [0, 3] (by decide) rfl
                    have hKc := hK.sb (tyq := [(csk, .long)]) [0] rfl
                    have hFc := va_free (wc := (wz_17 h0 h0_pages x3 h0_reason gl aw ac ce sk h0_height fb fs ff fl h0_frameCount lb lh h0_labelCount x2 sk csk gsk)) hD hS hA [0, 3] rfl
                    refine va_callv (va_runV (As := [.long x17]) (rest := []) ⟨hx, hb, hml, hown, hts⟩ (c_MA_push l dC dI H.size h0 gl aw ac ce sk fb fs ff fl lb lh csk h0_pages x3 h0_reason h0_height h0_frameCount h0_labelCount x2 gsk (b_h0_reason) (b_h0_height) x17) (cwV 1 hts (gV kM_MA_94 kV_MA_push kS_MA_push kI_MA kC_MA_push) rfl rfl rfl (by decide +kernel) ⟨Nat.le_of_ble_eq_true rfl, Nat.le_of_ble_eq_true rfl⟩) ⟨fun a U g mk z => by obtain ⟨z0, z1, zP, zK, zD⟩ := z; exact ⟨z0, z1, zP, va_K.moved (u := U) (U := U.calling g mk a) (Vm.Alike.refl U.vm) zK, zD⟩, va_recv hKc hPc (ci := 4) (q0 := 0) rfl rfl, fun U hU hW => ⟨rfl, by rw [hU], va_P.he hU.symm hPc, va_K.moved hW.alike hKc, hDc.weaken (fun _ _ _ _ => trivial)⟩⟩ rfl rfl hl.1 rfl (lv_room (Nat.le_of_ble_eq_true rfl)) d_MA_step_182 ⟨(Nat.zero_le _), (Nat.zero_le _)⟩) hS (fun q _ h => hFc q h) hFc (fun u t H1 locs ht hvm hw hB hz1 hk1 hS => ?_)
                    obtain ⟨n19, n20, n21⟩ := u
                    try dsimp only at hw
                    obtain ⟨bn20, bn21, xr18⟩ := hw
                    try clear hw
                    obtain ⟨hP1, hK1, hD1⟩ := hB
                    replace hP1 := va_P.he ht hP1
                    obtain ⟨hP, hD⟩ := va_join (wr := (wz_41 aw law ac cfi clk ac_localTypes_r ac_length cop cva cpt cel ac_labelCount cla ce cce gce gl cgl ggl fb cfb gfb fs cfs gfs ff cff gff fl cfl gfl lb clb glb lh clh glh waf cwaf gwaf wat cwat gwat wag cwag gwag cfi ccfi gcfi clk cclk gclk cop ccop gcop cva ccva gcva cpt ccpt gcpt cel ccel gcel cla ccla gcla)) (w1 := (wz_17 h0 h0_pages x3 n21 gl aw ac ce sk n20 fb fs ff fl h0_frameCount lb lh h0_labelCount x2 sk csk n19)) hP hD [0, 3] [1, 2, 4, 5, 6, 7, 8, 9, 10, 11, 12, 13, 14, 15, 16, 17, 18, 19, 20, 21] rfl rfl (by decide) (by decide) hk1 hFc hP1 hD1
                    clear hPc hDc hKc hFc hz1 hk1 hP1 hK1 hD1
                    rename Heap => H
                    have hP : va_P (dC, dI) cls (wz_42 aw law ac cfi clk ac_localTypes_r ac_length cop cva cpt cel ac_labelCount cla ce cce gce gl cgl ggl fb cfb gfb fs cfs gfs ff cff gff fl cfl gfl lb clb glb lh clh glh waf cwaf gwaf wat cwat gwat wag cwag gwag cfi ccfi gcfi clk cclk gclk cop ccop gcop cva ccva gcva cpt ccpt gcpt cel ccel gcel cla ccla gcla h0 h0_pages x3 n21 gl aw ac ce sk n20 fb fs ff fl h0_frameCount lb lh h0_labelCount x2 sk csk n19) H := hP
                    have hD : va_D A (wz_42 aw law ac cfi clk ac_localTypes_r ac_length cop cva cpt cel ac_labelCount cla ce cce gce gl cgl ggl fb cfb gfb fs cfs gfs ff cff gff fl cfl gfl lb clb glb lh clh glh waf cwaf gwaf wat cwat gwat wag cwag gwag cfi ccfi gcfi clk cclk gclk cop ccop gcop cva ccva gcva cpt ccpt gcpt cel ccel gcel cla ccla gcla h0 h0_pages x3 n21 gl aw ac ce sk n20 fb fs ff fl h0_frameCount lb lh h0_labelCount x2 sk csk n19) := hD
                    refine lv_goto (tgt := 215) hx hb d_MA_step_185 (by decide) ?_
                    have hP9 := hP.sb (wq := (wz_40 h0 h0_pages x3 n21 gl aw ac ce sk n20 fb fs ff fl h0_frameCount lb lh h0_labelCount x2 aw law ac cfi clk ac_localTypes_r ac_length cop cva cpt cel ac_labelCount cla sk csk n19 ce cce gce gl cgl ggl fb cfb gfb fs cfs gfs ff cff gff fl cfl gfl lb clb glb lh clh glh waf cwaf gwaf wat cwat gwat wag cwag gwag cfi ccfi gcfi clk cclk gclk cop ccop gcop cva ccva gcva cpt ccpt gcpt cel ccel gcel cla ccla gcla)) [20, 0, 1, 21, 2, 3, 4, 5, 6, 7, 8, 9, 10, 11, 12, 13, 14, 15, 16, 17, 18, 19] rfl
                    have hD9 := hD.sb (wq := (wz_40 h0 h0_pages x3 n21 gl aw ac ce sk n20 fb fs ff fl h0_frameCount lb lh h0_labelCount x2 aw law ac cfi clk ac_localTypes_r ac_length cop cva cpt cel ac_labelCount cla sk csk n19 ce cce gce gl cgl ggl fb cfb gfb fs cfs gfs ff cff gff fl cfl gfl lb clb glb lh clh glh waf cwaf gwaf wat cwat gwat wag cwag gwag cfi ccfi gcfi clk cclk gclk cop ccop gcop cva ccva gcva cpt ccpt gcpt cel ccel gcel cla ccla gcla)) [20, 0, 1, 21, 2, 3, 4, 5, 6, 7, 8, 9, 10, 11, 12, 13, 14, 15, 16, 17, 18, 19] (by decide) rfl
                    exact W.vret hx hb hr (fun t ht hW => ⟨⟨(gce, gfb, gff, gfl, gfs, ggl, glb, glh, n19, x2, h0_frameCount, n20, h0_labelCount, h0_pages, n21, x3), rfl, ⟨b_h0_frameCount, bn20, b_h0_labelCount, b_h0_pages, bn21, by (try dsimp only); (first | (apply Int.le_antisymm <;> omega) | omega), ⟨mc_go (h := h + 1) hT (by (try dsimp only); (first | (apply Int.le_antisymm <;> omega) | omega)) (by (try dsimp only); (first | (apply Int.le_antisymm <;> omega) | omega)) (by (try dsimp only); rw [show x2.toInt.toNat = h0_at.toNatClampNeg + 1 from by (first | (apply Int.le_antisymm <;> omega) | omega)]; exact hQ.2.2.2.2.2.2.2.2.2.2.2.2.2.2.2.2.2.2.2.2.2.1 (by (first | (apply Int.le_antisymm <;> omega) | omega))) (fun y => by (try dsimp only at y); (try dsimp only); (first | (apply Int.le_antisymm <;> omega) | omega)) rfl, fun y => by (try dsimp only at y); (try dsimp only); (first | (apply Int.le_antisymm <;> omega) | omega)⟩⟩, va_P.he ht.symm hP9, va_K.moved hW.alike hK, hD9⟩, hS.F ht⟩) hS.2.2 d_MA_step_215
                · have q146 := nltI c146
                  have cs9 := op_mem (hQ.2.2.2.2.2.2.2.2.2.2.2.2.2.2.2.2.2.2.2.2.2.2.2.2) (by (first | (apply Int.le_antisymm <;> omega) | omega)) (by (first | (apply Int.le_antisymm <;> omega) | omega))
                  have A1 : (gcop h0_at.toNatClampNeg).toInt = 64 → 1 ≤ h := fun z => (hQ.2.2.2.2.2.2.2.2.2.2.2.2.2.2.2.2.2.2.1 z).1
                  have A2 : ((gcop h0_at.toNatClampNeg).toInt = 54 ∨ (gcop h0_at.toNatClampNeg).toInt = 55 ∨ (gcop h0_at.toNatClampNeg).toInt = 58) → 2 ≤ h := fun z => (hQ.2.2.2.2.2.2.2.2.2.2.2.2.2.2.2.2.2.2.2.1 z).1
                  have A3 : ((gcop h0_at.toNatClampNeg).toInt = 40 ∨ (gcop h0_at.toNatClampNeg).toInt = 41 ∨ (gcop h0_at.toNatClampNeg).toInt = 44 ∨ (gcop h0_at.toNatClampNeg).toInt = 45) → 1 ≤ h := fun z => (hQ.2.2.2.2.2.2.2.2.2.2.2.2.2.2.2.2.2.2.2.2.1 z).1
                  refine lv_aload_n hx hb d_MA_step_149 rfl (lv_at hl 2 rfl) ?_
                  refine lv_iload_n hx hb d_MA_step_150 rfl (lv_at hl 0 rfl) ?_
                  refine lv_aload_n hx hb d_MA_step_151 rfl (lv_at hl 2 rfl) ?_
                  refine va_get (D := (dC, dI)) (ci := 4) (v := .ref ac) (C := R_MA) (T := F_MA) (N := 18) hx hb hts i_MA hown hK hP 0 rfl rfl 5 (by decide) (hts _ kF_MA_50) (fun _ h9 => h9) rfl d_MA_step_152 ?_
                  refine va_get (D := (dC, dI)) (ci := 3) (v := .ref cva) (C := R_CD) (T := F_CD) (N := 10) hx hb hts i_CD hown hK hP 2 rfl rfl 5 (by decide) (hts _ kF_MA_128) (fun _ h9 => h9) rfl d_MA_step_155 ?_
                  refine lv_iload_n hx hb d_MA_step_158 rfl (lv_at hl 1 rfl) ?_
                  have g159 : vp_in h0_at 5000 := vp_in_iff.mpr ⟨by (first | (apply Int.le_antisymm <;> omega) | omega), by (first | (apply Int.le_antisymm <;> omega) | omega)⟩
                  refine va_lald hx hb hK hP 18 15 rfl rfl g159 d_MA_step_159 ?_
                  refine lv_topl (fun x22 ex22 => ?_)
                  have hPc := hP.sb (wq := (wz_22 h0 h0_pages x3 h0_reason gl aw ac ce sk h0_height fb fs ff fl h0_frameCount lb lh h0_labelCount x2 aw law sk csk gsk ce cce gce)) [0, 1, 3, 4] rfl
                  have hDc := hD.sb (wq := (wz_22 h0 h0_pages x3 h0_reason gl aw ac ce sk h0_height fb fs ff fl h0_frameCount lb lh h0_labelCount x2 aw law sk csk gsk ce cce gce)) [0, 1, 3, 4] (by decide) rfl
                  have hKc := hK.sb (tyq := [(csk, .long), (cce, .long)]) [0, 1] rfl
                  have hFc := va_free (wc := (wz_22 h0 h0_pages x3 h0_reason gl aw ac ce sk h0_height fb fs ff fl h0_frameCount lb lh h0_labelCount x2 aw law sk csk gsk ce cce gce)) hD hS hA [0, 1, 3, 4] rfl
                  refine va_callv (va_runV (As := [.int x1, .long x22]) (rest := []) ⟨hx, hb, hml, hown, hts⟩ (c_MA_performMemory l dC dI H.size h0 gl aw ac ce sk fb fs ff fl lb lh csk cce h0_pages x3 h0_reason h0_height h0_frameCount h0_labelCount x2 law aw_pagesMost gsk gce paw_10 plaw (b_h0_pages) (b_h0_reason) (b_h0_height) x1 x22 (hr0) (by rw [t34]; exact ⟨fun z => by have q := A2 z; clear cs9 A1 A2 A3; (first | (apply Int.le_antisymm <;> omega) | omega), fun z => by rcases cs9 with q | q | q | q; (exact absurd q z); (have q1 := A1 q; clear A1 A2 A3; (first | (apply Int.le_antisymm <;> omega) | omega)); (have q1 := A2 q; clear A1 A2 A3; (first | (apply Int.le_antisymm <;> omega) | omega)); (have q1 := A3 q; clear A1 A2 A3; (first | (apply Int.le_antisymm <;> omega) | omega))⟩)) (cwV 2 hts (gV kM_MA_134 kV_MA_performMemory kS_MA_performMemory kI_MA kC_MA_performMemory) rfl rfl rfl (by decide +kernel) ⟨Nat.le_of_ble_eq_true rfl, Nat.le_of_ble_eq_true rfl⟩) ⟨fun a U g mk z => by obtain ⟨z0, z1, zP, zK, zD⟩ := z; exact ⟨z0, z1, zP, va_K.moved (u := U) (U := U.calling g mk a) (Vm.Alike.refl U.vm) zK, zD⟩, va_recv hKc hPc (ci := 4) (q0 := 0) rfl rfl, fun U hU hW => ⟨rfl, by rw [hU], va_P.he hU.symm hPc, va_K.moved hW.alike hKc, hDc.weaken (fun _ _ _ _ => trivial)⟩⟩ rfl rfl hl.1 rfl (lv_room (Nat.le_of_ble_eq_true rfl)) d_MA_step_160 ⟨(Nat.zero_le _), (Nat.zero_le _)⟩) hS (fun q _ h => hFc q h) hFc (fun u t H1 locs ht hvm hw hB hz1 hk1 hS => ?_)
                  obtain ⟨n24, n25, n26, n27, n28⟩ := u
                  try dsimp only at hw
                  obtain ⟨bn26, bn27, bn28, xr23⟩ := hw
                  try clear hw
                  obtain ⟨hP1, hK1, hD1⟩ := hB
                  replace hP1 := va_P.he ht hP1
                  obtain ⟨hP, hD⟩ := va_join (wr := [(ac, .inr (3, [.ref cfi, .ref clk, .ref ac_localTypes_r, .int ac_length, .ref cop, .ref cva, .ref cpt, .ref cel, .int ac_labelCount, .ref cla])), (gl, .inl (cgl, 20, .inr (.inl ggl))), (fb, .inl (cfb, 100, .inl gfb)), (fs, .inl (cfs, 100, .inl gfs)), (ff, .inl (cff, 100, .inl gff)), (fl, .inl (cfl, 100, .inl gfl)), (lb, .inl (clb, 10000, .inl glb)), (lh, .inl (clh, 10000, .inl glh)), (waf, .inl (cwaf, 30, .inl gwaf)), (wat, .inl (cwat, 20, .inl gwat)), (wag, .inl (cwag, 20, .inl gwag)), (cfi, .inl (ccfi, 31, .inl gcfi)), (clk, .inl (cclk, 30, .inl gclk)), (cop, .inl (ccop, 5000, .inl gcop)), (cva, .inl (ccva, 5000, .inr (.inl gcva))), (cpt, .inl (ccpt, 5000, .inl gcpt)), (cel, .inl (ccel, 5000, .inl gcel)), (cla, .inl (ccla, 2000, .inl gcla))]) (w1 := (wz_22 h0 n27 x3 n28 gl aw ac ce sk n26 fb fs ff fl h0_frameCount lb lh h0_labelCount x2 aw law sk csk n25 ce cce n24)) hP hD [0, 1, 3, 4] [2, 5, 6, 7, 8, 9, 10, 11, 12, 13, 14, 15, 16, 17, 18, 19, 20, 21] rfl rfl (by decide) (by decide) hk1 hFc hP1 hD1
                  clear hPc hDc hKc hFc hz1 hk1 hP1 hK1 hD1
                  rename Heap => H
                  have hP : va_P (dC, dI) cls [(ac, .inr (3, [.ref cfi, .ref clk, .ref ac_localTypes_r, .int ac_length, .ref cop, .ref cva, .ref cpt, .ref cel, .int ac_labelCount, .ref cla])), (gl, .inl (cgl, 20, .inr (.inl ggl))), (fb, .inl (cfb, 100, .inl gfb)), (fs, .inl (cfs, 100, .inl gfs)), (ff, .inl (cff, 100, .inl gff)), (fl, .inl (cfl, 100, .inl gfl)), (lb, .inl (clb, 10000, .inl glb)), (lh, .inl (clh, 10000, .inl glh)), (waf, .inl (cwaf, 30, .inl gwaf)), (wat, .inl (cwat, 20, .inl gwat)), (wag, .inl (cwag, 20, .inl gwag)), (cfi, .inl (ccfi, 31, .inl gcfi)), (clk, .inl (cclk, 30, .inl gclk)), (cop, .inl (ccop, 5000, .inl gcop)), (cva, .inl (ccva, 5000, .inr (.inl gcva))), (cpt, .inl (ccpt, 5000, .inl gcpt)), (cel, .inl (ccel, 5000, .inl gcel)), (cla, .inl (ccla, 2000, .inl gcla)), (h0, .inr (4, [.int n27, .int x3, .int n28, .ref gl, .ref aw, .ref ac, .ref ce, .ref sk, .int n26, .ref fb, .ref fs, .ref ff, .ref fl, .int h0_frameCount, .ref lb, .ref lh, .int h0_labelCount, .int x2])), (aw, .inr (10, law)), (sk, .inl (csk, 12096, .inr (.inl n25))), (ce, .inl (cce, 16384, .inr (.inl n24)))] H := hP
                  have hD : va_D A [(ac, .inr (3, [.ref cfi, .ref clk, .ref ac_localTypes_r, .int ac_length, .ref cop, .ref cva, .ref cpt, .ref cel, .int ac_labelCount, .ref cla])), (gl, .inl (cgl, 20, .inr (.inl ggl))), (fb, .inl (cfb, 100, .inl gfb)), (fs, .inl (cfs, 100, .inl gfs)), (ff, .inl (cff, 100, .inl gff)), (fl, .inl (cfl, 100, .inl gfl)), (lb, .inl (clb, 10000, .inl glb)), (lh, .inl (clh, 10000, .inl glh)), (waf, .inl (cwaf, 30, .inl gwaf)), (wat, .inl (cwat, 20, .inl gwat)), (wag, .inl (cwag, 20, .inl gwag)), (cfi, .inl (ccfi, 31, .inl gcfi)), (clk, .inl (cclk, 30, .inl gclk)), (cop, .inl (ccop, 5000, .inl gcop)), (cva, .inl (ccva, 5000, .inr (.inl gcva))), (cpt, .inl (ccpt, 5000, .inl gcpt)), (cel, .inl (ccel, 5000, .inl gcel)), (cla, .inl (ccla, 2000, .inl gcla)), (h0, .inr (4, [.int n27, .int x3, .int n28, .ref gl, .ref aw, .ref ac, .ref ce, .ref sk, .int n26, .ref fb, .ref fs, .ref ff, .ref fl, .int h0_frameCount, .ref lb, .ref lh, .int h0_labelCount, .int x2])), (aw, .inr (10, law)), (sk, .inl (csk, 12096, .inr (.inl n25))), (ce, .inl (cce, 16384, .inr (.inl n24)))] := hD
                  refine lv_goto (tgt := 215) hx hb d_MA_step_163 (by decide) ?_
                  have pf9 : mc_after an nl gv gfb gfs gff gfl glb glh n28 h0_frameCount x2 n26 h0_labelCount := by
                    rcases cs9 with zz | zz | zz | zz
                    · exact mc_go (h := h + 1) hT (by (try dsimp only); (first | (apply Int.le_antisymm <;> omega) | omega)) (by (try dsimp only); (first | (apply Int.le_antisymm <;> omega) | omega)) (by (try dsimp only); rw [show x2.toInt.toNat = h0_at.toNatClampNeg + 1 from by (first | (apply Int.le_antisymm <;> omega) | omega)]; exact hQ.2.2.2.2.2.2.2.2.2.2.2.2.2.2.2.2.2.1 zz) (fun y => ((xr23 y).1 (t34.trans zz)).trans (by rw [hH] <;> (first | (apply Int.le_antisymm <;> omega) | omega))) rfl
                    · exact mc_go (h := h) hT (by (try dsimp only); (first | (apply Int.le_antisymm <;> omega) | omega)) (by (try dsimp only); (first | (apply Int.le_antisymm <;> omega) | omega)) (by (try dsimp only); rw [show x2.toInt.toNat = h0_at.toNatClampNeg + 1 from by (first | (apply Int.le_antisymm <;> omega) | omega)]; exact (hQ.2.2.2.2.2.2.2.2.2.2.2.2.2.2.2.2.2.2.1 zz).2) (fun y => ((xr23 y).2.2 (by rw [t34, zz]; decide) (by rw [t34, zz]; decide)).trans (by rw [hH] <;> (first | (apply Int.le_antisymm <;> omega) | omega))) rfl
                    · exact mc_go (h := h - 2) hT (by (try dsimp only); (first | (apply Int.le_antisymm <;> omega) | omega)) (by (try dsimp only); (first | (apply Int.le_antisymm <;> omega) | omega)) (by (try dsimp only); rw [show x2.toInt.toNat = h0_at.toNatClampNeg + 1 from by (first | (apply Int.le_antisymm <;> omega) | omega)]; exact (hQ.2.2.2.2.2.2.2.2.2.2.2.2.2.2.2.2.2.2.2.1 zz).2) (fun y => ((xr23 y).2.1 (by rw [t34]; exact zz)).trans (by rw [hH] <;> (first | (apply Int.le_antisymm <;> omega) | omega))) rfl
                    · exact mc_go (h := h) hT (by (try dsimp only); (first | (apply Int.le_antisymm <;> omega) | omega)) (by (try dsimp only); (first | (apply Int.le_antisymm <;> omega) | omega)) (by (try dsimp only); rw [show x2.toInt.toNat = h0_at.toNatClampNeg + 1 from by (first | (apply Int.le_antisymm <;> omega) | omega)]; exact (hQ.2.2.2.2.2.2.2.2.2.2.2.2.2.2.2.2.2.2.2.2.1 zz).2) (fun y => ((xr23 y).2.2 (by rw [t34]; (first | (apply Int.le_antisymm <;> omega) | omega)) (by rw [t34]; (first | (apply Int.le_antisymm <;> omega) | omega))).trans (by rw [hH] <;> (first | (apply Int.le_antisymm <;> omega) | omega))) rfl
                  have hP9 := hP.sb (wq := (wz_40 h0 n27 x3 n28 gl aw ac ce sk n26 fb fs ff fl h0_frameCount lb lh h0_labelCount x2 aw law ac cfi clk ac_localTypes_r ac_length cop cva cpt cel ac_labelCount cla sk csk n25 ce cce n24 gl cgl ggl fb cfb gfb fs cfs gfs ff cff gff fl cfl gfl lb clb glb lh clh glh waf cwaf gwaf wat cwat gwat wag cwag gwag cfi ccfi gcfi clk cclk gclk cop ccop gcop cva ccva gcva cpt ccpt gcpt cel ccel gcel cla ccla gcla)) [18, 19, 0, 20, 21, 1, 2, 3, 4, 5, 6, 7, 8, 9, 10, 11, 12, 13, 14, 15, 16, 17] rfl
                  have hD9 := hD.sb (wq := (wz_40 h0 n27 x3 n28 gl aw ac ce sk n26 fb fs ff fl h0_frameCount lb lh h0_labelCount x2 aw law ac cfi clk ac_localTypes_r ac_length cop cva cpt cel ac_labelCount cla sk csk n25 ce cce n24 gl cgl ggl fb cfb gfb fs cfs gfs ff cff gff fl cfl gfl lb clb glb lh clh glh waf cwaf gwaf wat cwat gwat wag cwag gwag cfi ccfi gcfi clk cclk gclk cop ccop gcop cva ccva gcva cpt ccpt gcpt cel ccel gcel cla ccla gcla)) [18, 19, 0, 20, 21, 1, 2, 3, 4, 5, 6, 7, 8, 9, 10, 11, 12, 13, 14, 15, 16, 17] (by decide) rfl
                  exact W.vret hx hb hr (fun t ht hW => ⟨⟨(n24, gfb, gff, gfl, gfs, ggl, glb, glh, n25, x2, h0_frameCount, n26, h0_labelCount, n27, n28, x3), rfl, ⟨b_h0_frameCount, bn26, b_h0_labelCount, bn27, bn28, by (try dsimp only); (first | (apply Int.le_antisymm <;> omega) | omega), ⟨pf9, fun y => by (try dsimp only at y); (try dsimp only); (first | (apply Int.le_antisymm <;> omega) | omega)⟩⟩, va_P.he ht.symm hP9, va_K.moved hW.alike hK, hD9⟩, hS.F ht⟩) hS.2.2 d_MA_step_215
              · have q122 := nltI c122
                have cs9 := op_var (hQ.2.2.2.2.2.2.2.2.2.2.2.2.2.2.2.2.2.2.2.2.2.2.2.2) (by (first | (apply Int.le_antisymm <;> omega) | omega)) (by (first | (apply Int.le_antisymm <;> omega) | omega))
                have A1 : (gcop h0_at.toNatClampNeg).toInt = 26 → 1 ≤ h := fun z => (hQ.2.2.2.2.2.2.2.2.2.1 z).1
                have A2 : (gcop h0_at.toNatClampNeg).toInt = 27 → 3 ≤ h := fun z => (hQ.2.2.2.2.2.2.2.2.2.2.1 z).1
                have A3 : (32 ≤ (gcop h0_at.toNatClampNeg).toInt ∧ (gcop h0_at.toNatClampNeg).toInt ≤ 34) → 0 ≤ (gcva h0_at.toNatClampNeg).toInt ∧ (gcva h0_at.toNatClampNeg).toInt < nl f ∧ nl f ≤ 68 := fun z => hQ.2.2.2.2.2.2.2.2.2.2.2.1 z
                have A4 : (gcop h0_at.toNatClampNeg).toInt = 33 → 1 ≤ h := fun z => (hQ.2.2.2.2.2.2.2.2.2.2.2.2.2.1 z).1
                have A5 : (gcop h0_at.toNatClampNeg).toInt = 34 → 1 ≤ h := fun z => (hQ.2.2.2.2.2.2.2.2.2.2.2.2.2.2.1 z).1
                have A6 : (gcop h0_at.toNatClampNeg).toInt = 35 → 0 ≤ (gcva h0_at.toNatClampNeg).toInt ∧ (gcva h0_at.toNatClampNeg).toInt < gc := fun z => ⟨(hQ.2.2.2.2.2.2.2.2.2.2.2.2.2.2.2.1 z).1, (hQ.2.2.2.2.2.2.2.2.2.2.2.2.2.2.2.1 z).2.1⟩
                have A7 : (gcop h0_at.toNatClampNeg).toInt = 36 → 0 ≤ (gcva h0_at.toNatClampNeg).toInt ∧ (gcva h0_at.toNatClampNeg).toInt < gc ∧ 1 ≤ h := fun z => ⟨(hQ.2.2.2.2.2.2.2.2.2.2.2.2.2.2.2.2.1 z).1, (hQ.2.2.2.2.2.2.2.2.2.2.2.2.2.2.2.2.1 z).2.1, (hQ.2.2.2.2.2.2.2.2.2.2.2.2.2.2.2.2.1 z).2.2.1⟩
                refine lv_aload_n hx hb d_MA_step_125 rfl (lv_at hl 2 rfl) ?_
                refine lv_iload_n hx hb d_MA_step_126 rfl (lv_at hl 0 rfl) ?_
                refine lv_aload_n hx hb d_MA_step_127 rfl (lv_at hl 2 rfl) ?_
                refine va_get (D := (dC, dI)) (ci := 4) (v := .ref ac) (C := R_MA) (T := F_MA) (N := 18) hx hb hts i_MA hown hK hP 0 rfl rfl 5 (by decide) (hts _ kF_MA_50) (fun _ h9 => h9) rfl d_MA_step_128 ?_
                refine va_get (D := (dC, dI)) (ci := 3) (v := .ref cva) (C := R_CD) (T := F_CD) (N := 10) hx hb hts i_CD hown hK hP 2 rfl rfl 5 (by decide) (hts _ kF_MA_128) (fun _ h9 => h9) rfl d_MA_step_131 ?_
                refine lv_iload_n hx hb d_MA_step_134 rfl (lv_at hl 1 rfl) ?_
                have g135 : vp_in h0_at 5000 := vp_in_iff.mpr ⟨by (first | (apply Int.le_antisymm <;> omega) | omega), by (first | (apply Int.le_antisymm <;> omega) | omega)⟩
                refine va_lald hx hb hK hP 18 15 rfl rfl g135 d_MA_step_135 ?_
                refine lv_topl (fun x29 ex29 => ?_)
                refine lv_l2i hx hb d_MA_step_136 rfl ?_
                refine lv_topi (fun x30 ex30 => ?_)
                have v9 : 0 ≤ (gcva h0_at.toNatClampNeg).toInt ∧ (gcva h0_at.toNatClampNeg).toInt ≤ 2147483647 → x30.toInt = (gcva h0_at.toNatClampNeg).toInt := fun z => by have y := l2i_t ex30 (by rw [ex29]; (first | (apply Int.le_antisymm <;> omega) | omega)) (by rw [ex29]; (first | (apply Int.le_antisymm <;> omega) | omega)); rw [y, ex29]
                have hPc := hP.sb (wq := (wz_34 h0 h0_pages x3 h0_reason gl aw ac ce sk h0_height fb fs ff fl h0_frameCount lb lh h0_labelCount x2 sk csk gsk gl cgl ggl fs cfs gfs)) [0, 3, 5, 7] rfl
                have hDc := hD.sb (wq := (wz_34 h0 h0_pages x3 h0_reason gl aw ac ce sk h0_height fb fs ff fl h0_frameCount lb lh h0_labelCount x2 sk csk gsk gl cgl ggl fs cfs gfs)) [0, 3, 5, 7] (by decide) rfl
                have hKc := hK.sb (tyq := [(csk, .long), (cgl, .long), (cfs, .int)]) [0, 2, 4] rfl
                have hFc := va_free (wc := (wz_34 h0 h0_pages x3 h0_reason gl aw ac ce sk h0_height fb fs ff fl h0_frameCount lb lh h0_labelCount x2 sk csk gsk gl cgl ggl fs cfs gfs)) hD hS hA [0, 3, 5, 7] rfl
                refine va_callv (va_runV (As := [.int x1, .int x30]) (rest := []) ⟨hx, hb, hml, hown, hts⟩ (c_MA_performVariable l dC dI H.size h0 gl aw ac ce sk fb fs ff fl lb lh csk cgl cfs h0_pages x3 h0_reason h0_height h0_frameCount h0_labelCount x2 gsk ggl gfs nl f h (b_h0_reason) (b_h0_height) (b_h0_frameCount) x1 x30 (hr0) (hk1) (hH) (by (first | (apply Int.le_antisymm <;> omega) | omega)) (by rw [t34]; exact ⟨by clear A1 A2 A3 A4 A5 A6 A7 v9; (first | (apply Int.le_antisymm <;> omega) | omega), A1, A2, fun z => by have q1 := A3 z; have q2 := v9 ⟨by (first | (apply Int.le_antisymm <;> omega) | omega), by (first | (apply Int.le_antisymm <;> omega) | omega)⟩; (first | (apply Int.le_antisymm <;> omega) | omega), fun z => by rcases z with z | z | z; exact A4 z; exact A5 z; exact (A7 z).2.2, fun z => by rcases cs9 with q | q | q | q | q | q | q; (exfalso; (first | (apply Int.le_antisymm <;> omega) | omega)); (exfalso; (first | (apply Int.le_antisymm <;> omega) | omega)); (exfalso; (first | (apply Int.le_antisymm <;> omega) | omega)); (exfalso; (first | (apply Int.le_antisymm <;> omega) | omega)); (exfalso; (first | (apply Int.le_antisymm <;> omega) | omega)); (have q1 := A6 q; have q2 := v9 ⟨by (first | (apply Int.le_antisymm <;> omega) | omega), by (first | (apply Int.le_antisymm <;> omega) | omega)⟩; (first | (apply Int.le_antisymm <;> omega) | omega)); (have q1 := A7 q; have q2 := v9 ⟨by (first | (apply Int.le_antisymm <;> omega) | omega), by (first | (apply Int.le_antisymm <;> omega) | omega)⟩; (first | (apply Int.le_antisymm <;> omega) | omega))⟩)) (cwV 2 hts (gV kM_MA_131 kV_MA_performVariable kS_MA_performVariable kI_MA kC_MA_performVariable) rfl rfl rfl (by decide +kernel) ⟨Nat.le_of_ble_eq_true rfl, Nat.le_of_ble_eq_true rfl⟩) ⟨fun a U g mk z => by obtain ⟨z0, z1, zP, zK, zD⟩ := z; exact ⟨z0, z1, zP, va_K.moved (u := U) (U := U.calling g mk a) (Vm.Alike.refl U.vm) zK, zD⟩, va_recv hKc hPc (ci := 4) (q0 := 0) rfl rfl, fun U hU hW => ⟨rfl, by rw [hU], va_P.he hU.symm hPc, va_K.moved hW.alike hKc, hDc.weaken (fun _ _ _ _ => trivial)⟩⟩ rfl rfl hl.1 rfl (lv_room (Nat.le_of_ble_eq_true rfl)) d_MA_step_137 ⟨(Nat.zero_le _), (Nat.zero_le _)⟩) hS (fun q _ h => hFc q h) hFc (fun u t H1 locs ht hvm hw hB hz1 hk1 hS => ?_)
                obtain ⟨n32, n33, n34, n35⟩ := u
                try dsimp only at hw
                obtain ⟨bn34, bn35, xr31⟩ := hw
                try clear hw
                obtain ⟨hP1, hK1, hD1⟩ := hB
                replace hP1 := va_P.he ht hP1
                obtain ⟨hP, hD⟩ := va_join (wr := [(aw, .inr (10, law)), (ac, .inr (3, [.ref cfi, .ref clk, .ref ac_localTypes_r, .int ac_length, .ref cop, .ref cva, .ref cpt, .ref cel, .int ac_labelCount, .ref cla])), (ce, .inl (cce, 16384, .inr (.inl gce))), (fb, .inl (cfb, 100, .inl gfb)), (ff, .inl (cff, 100, .inl gff)), (fl, .inl (cfl, 100, .inl gfl)), (lb, .inl (clb, 10000, .inl glb)), (lh, .inl (clh, 10000, .inl glh)), (waf, .inl (cwaf, 30, .inl gwaf)), (wat, .inl (cwat, 20, .inl gwat)), (wag, .inl (cwag, 20, .inl gwag)), (cfi, .inl (ccfi, 31, .inl gcfi)), (clk, .inl (cclk, 30, .inl gclk)), (cop, .inl (ccop, 5000, .inl gcop)), (cva, .inl (ccva, 5000, .inr (.inl gcva))), (cpt, .inl (ccpt, 5000, .inl gcpt)), (cel, .inl (ccel, 5000, .inl gcel)), (cla, .inl (ccla, 2000, .inl gcla))]) (w1 := (wz_34 h0 h0_pages x3 n35 gl aw ac ce sk n34 fb fs ff fl h0_frameCount lb lh h0_labelCount x2 sk csk n33 gl cgl n32 fs cfs gfs)) hP hD [0, 3, 5, 7] [1, 2, 4, 6, 8, 9, 10, 11, 12, 13, 14, 15, 16, 17, 18, 19, 20, 21] rfl rfl (by decide) (by decide) hk1 hFc hP1 hD1
                clear hPc hDc hKc hFc hz1 hk1 hP1 hK1 hD1
                rename Heap => H
                have hP : va_P (dC, dI) cls [(aw, .inr (10, law)), (ac, .inr (3, [.ref cfi, .ref clk, .ref ac_localTypes_r, .int ac_length, .ref cop, .ref cva, .ref cpt, .ref cel, .int ac_labelCount, .ref cla])), (ce, .inl (cce, 16384, .inr (.inl gce))), (fb, .inl (cfb, 100, .inl gfb)), (ff, .inl (cff, 100, .inl gff)), (fl, .inl (cfl, 100, .inl gfl)), (lb, .inl (clb, 10000, .inl glb)), (lh, .inl (clh, 10000, .inl glh)), (waf, .inl (cwaf, 30, .inl gwaf)), (wat, .inl (cwat, 20, .inl gwat)), (wag, .inl (cwag, 20, .inl gwag)), (cfi, .inl (ccfi, 31, .inl gcfi)), (clk, .inl (cclk, 30, .inl gclk)), (cop, .inl (ccop, 5000, .inl gcop)), (cva, .inl (ccva, 5000, .inr (.inl gcva))), (cpt, .inl (ccpt, 5000, .inl gcpt)), (cel, .inl (ccel, 5000, .inl gcel)), (cla, .inl (ccla, 2000, .inl gcla)), (h0, .inr (4, [.int h0_pages, .int x3, .int n35, .ref gl, .ref aw, .ref ac, .ref ce, .ref sk, .int n34, .ref fb, .ref fs, .ref ff, .ref fl, .int h0_frameCount, .ref lb, .ref lh, .int h0_labelCount, .int x2])), (sk, .inl (csk, 12096, .inr (.inl n33))), (gl, .inl (cgl, 20, .inr (.inl n32))), (fs, .inl (cfs, 100, .inl gfs))] H := hP
                have hD : va_D A [(aw, .inr (10, law)), (ac, .inr (3, [.ref cfi, .ref clk, .ref ac_localTypes_r, .int ac_length, .ref cop, .ref cva, .ref cpt, .ref cel, .int ac_labelCount, .ref cla])), (ce, .inl (cce, 16384, .inr (.inl gce))), (fb, .inl (cfb, 100, .inl gfb)), (ff, .inl (cff, 100, .inl gff)), (fl, .inl (cfl, 100, .inl gfl)), (lb, .inl (clb, 10000, .inl glb)), (lh, .inl (clh, 10000, .inl glh)), (waf, .inl (cwaf, 30, .inl gwaf)), (wat, .inl (cwat, 20, .inl gwat)), (wag, .inl (cwag, 20, .inl gwag)), (cfi, .inl (ccfi, 31, .inl gcfi)), (clk, .inl (cclk, 30, .inl gclk)), (cop, .inl (ccop, 5000, .inl gcop)), (cva, .inl (ccva, 5000, .inr (.inl gcva))), (cpt, .inl (ccpt, 5000, .inl gcpt)), (cel, .inl (ccel, 5000, .inl gcel)), (cla, .inl (ccla, 2000, .inl gcla)), (h0, .inr (4, [.int h0_pages, .int x3, .int n35, .ref gl, .ref aw, .ref ac, .ref ce, .ref sk, .int n34, .ref fb, .ref fs, .ref ff, .ref fl, .int h0_frameCount, .ref lb, .ref lh, .int h0_labelCount, .int x2])), (sk, .inl (csk, 12096, .inr (.inl n33))), (gl, .inl (cgl, 20, .inr (.inl n32))), (fs, .inl (cfs, 100, .inl gfs))] := hD
                refine lv_goto (tgt := 215) hx hb d_MA_step_140 (by decide) ?_
                have pf9 : mc_after an nl gv gfb gfs gff gfl glb glh n35 h0_frameCount x2 n34 h0_labelCount := by
                  rcases cs9 with zz | zz | zz | zz | zz | zz | zz
                  · exact mc_go (h := h - 1) hT (by (try dsimp only); (first | (apply Int.le_antisymm <;> omega) | omega)) (by (try dsimp only); (first | (apply Int.le_antisymm <;> omega) | omega)) (by (try dsimp only); rw [show x2.toInt.toNat = h0_at.toNatClampNeg + 1 from by (first | (apply Int.le_antisymm <;> omega) | omega)]; exact (hQ.2.2.2.2.2.2.2.2.2.1 zz).2) (fun y => ((xr31 y).1 (Or.inl (t34.trans zz))).trans (by rw [hH] <;> (first | (apply Int.le_antisymm <;> omega) | omega))) rfl
                  · exact mc_go (h := h - 2) hT (by (try dsimp only); (first | (apply Int.le_antisymm <;> omega) | omega)) (by (try dsimp only); (first | (apply Int.le_antisymm <;> omega) | omega)) (by (try dsimp only); rw [show x2.toInt.toNat = h0_at.toNatClampNeg + 1 from by (first | (apply Int.le_antisymm <;> omega) | omega)]; exact (hQ.2.2.2.2.2.2.2.2.2.2.1 zz).2) (fun y => ((xr31 y).2.1 (t34.trans zz)).trans (by rw [hH] <;> (first | (apply Int.le_antisymm <;> omega) | omega))) rfl
                  · exact mc_go (h := h + 1) hT (by (try dsimp only); (first | (apply Int.le_antisymm <;> omega) | omega)) (by (try dsimp only); (first | (apply Int.le_antisymm <;> omega) | omega)) (by (try dsimp only); rw [show x2.toInt.toNat = h0_at.toNatClampNeg + 1 from by (first | (apply Int.le_antisymm <;> omega) | omega)]; exact hQ.2.2.2.2.2.2.2.2.2.2.2.2.1 zz) (fun y => ((xr31 y).2.2.1 (Or.inl (t34.trans zz))).trans (by rw [hH] <;> (first | (apply Int.le_antisymm <;> omega) | omega))) rfl
                  · exact mc_go (h := h - 1) hT (by (try dsimp only); (first | (apply Int.le_antisymm <;> omega) | omega)) (by (try dsimp only); (first | (apply Int.le_antisymm <;> omega) | omega)) (by (try dsimp only); rw [show x2.toInt.toNat = h0_at.toNatClampNeg + 1 from by (first | (apply Int.le_antisymm <;> omega) | omega)]; exact (hQ.2.2.2.2.2.2.2.2.2.2.2.2.2.1 zz).2) (fun y => ((xr31 y).1 (Or.inr (Or.inl (t34.trans zz)))).trans (by rw [hH] <;> (first | (apply Int.le_antisymm <;> omega) | omega))) rfl
                  · exact mc_go (h := h) hT (by (try dsimp only); (first | (apply Int.le_antisymm <;> omega) | omega)) (by (try dsimp only); (first | (apply Int.le_antisymm <;> omega) | omega)) (by (try dsimp only); rw [show x2.toInt.toNat = h0_at.toNatClampNeg + 1 from by (first | (apply Int.le_antisymm <;> omega) | omega)]; exact (hQ.2.2.2.2.2.2.2.2.2.2.2.2.2.2.1 zz).2) (fun y => ((xr31 y).2.2.2 (t34.trans zz)).trans (by rw [hH] <;> (first | (apply Int.le_antisymm <;> omega) | omega))) rfl
                  · exact mc_go (h := h + 1) hT (by (try dsimp only); (first | (apply Int.le_antisymm <;> omega) | omega)) (by (try dsimp only); (first | (apply Int.le_antisymm <;> omega) | omega)) (by (try dsimp only); rw [show x2.toInt.toNat = h0_at.toNatClampNeg + 1 from by (first | (apply Int.le_antisymm <;> omega) | omega)]; exact (hQ.2.2.2.2.2.2.2.2.2.2.2.2.2.2.2.1 zz).2.2) (fun y => ((xr31 y).2.2.1 (Or.inr (t34.trans zz))).trans (by rw [hH] <;> (first | (apply Int.le_antisymm <;> omega) | omega))) rfl
                  · exact mc_go (h := h - 1) hT (by (try dsimp only); (first | (apply Int.le_antisymm <;> omega) | omega)) (by (try dsimp only); (first | (apply Int.le_antisymm <;> omega) | omega)) (by (try dsimp only); rw [show x2.toInt.toNat = h0_at.toNatClampNeg + 1 from by (first | (apply Int.le_antisymm <;> omega) | omega)]; exact (hQ.2.2.2.2.2.2.2.2.2.2.2.2.2.2.2.2.1 zz).2.2.2) (fun y => ((xr31 y).1 (Or.inr (Or.inr (t34.trans zz)))).trans (by rw [hH] <;> (first | (apply Int.le_antisymm <;> omega) | omega))) rfl
                have hP9 := hP.sb (wq := (wz_40 h0 h0_pages x3 n35 gl aw ac ce sk n34 fb fs ff fl h0_frameCount lb lh h0_labelCount x2 aw law ac cfi clk ac_localTypes_r ac_length cop cva cpt cel ac_labelCount cla sk csk n33 ce cce gce gl cgl n32 fb cfb gfb fs cfs gfs ff cff gff fl cfl gfl lb clb glb lh clh glh waf cwaf gwaf wat cwat gwat wag cwag gwag cfi ccfi gcfi clk cclk gclk cop ccop gcop cva ccva gcva cpt ccpt gcpt cel ccel gcel cla ccla gcla)) [18, 0, 1, 19, 2, 20, 3, 21, 4, 5, 6, 7, 8, 9, 10, 11, 12, 13, 14, 15, 16, 17] rfl
                have hD9 := hD.sb (wq := (wz_40 h0 h0_pages x3 n35 gl aw ac ce sk n34 fb fs ff fl h0_frameCount lb lh h0_labelCount x2 aw law ac cfi clk ac_localTypes_r ac_length cop cva cpt cel ac_labelCount cla sk csk n33 ce cce gce gl cgl n32 fb cfb gfb fs cfs gfs ff cff gff fl cfl gfl lb clb glb lh clh glh waf cwaf gwaf wat cwat gwat wag cwag gwag cfi ccfi gcfi clk cclk gclk cop ccop gcop cva ccva gcva cpt ccpt gcpt cel ccel gcel cla ccla gcla)) [18, 0, 1, 19, 2, 20, 3, 21, 4, 5, 6, 7, 8, 9, 10, 11, 12, 13, 14, 15, 16, 17] (by decide) rfl
                exact W.vret hx hb hr (fun t ht hW => ⟨⟨(gce, gfb, gff, gfl, gfs, n32, glb, glh, n33, x2, h0_frameCount, n34, h0_labelCount, h0_pages, n35, x3), rfl, ⟨b_h0_frameCount, bn34, b_h0_labelCount, b_h0_pages, bn35, by (try dsimp only); (first | (apply Int.le_antisymm <;> omega) | omega), ⟨pf9, fun y => by (try dsimp only at y); (try dsimp only); (first | (apply Int.le_antisymm <;> omega) | omega)⟩⟩, va_P.he ht.symm hP9, va_K.moved hW.alike hK, hD9⟩, hS.F ht⟩) hS.2.2 d_MA_step_215
            · have q107 := nltI c107
              refine lv_aload_n hx hb d_MA_step_110 rfl (lv_at hl 2 rfl) ?_
              refine lv_iload_n hx hb d_MA_step_111 rfl (lv_at hl 0 rfl) ?_
              refine lv_iload_n hx hb d_MA_step_112 rfl (lv_at hl 1 rfl) ?_
              have hPc := hP.sb (wq := (wz_36 h0 h0_pages x3 h0_reason gl aw ac ce sk h0_height fb fs ff fl h0_frameCount lb lh h0_labelCount x2 aw law ac cfi clk ac_localTypes_r ac_length cop cva cpt cel ac_labelCount cla sk csk gsk fb cfb gfb fs cfs gfs ff cff gff fl cfl gfl lb clb glb lh clh glh waf cwaf gwaf wat cwat gwat wag cwag gwag cfi ccfi gcfi clk cclk gclk cop ccop gcop cva ccva gcva cpt ccpt gcpt cel ccel gcel cla ccla gcla)) [0, 1, 2, 3, 6, 7, 8, 9, 10, 11, 12, 13, 14, 15, 16, 17, 18, 19, 20, 21] rfl
              have hDc := hD.sb (wq := (wz_36 h0 h0_pages x3 h0_reason gl aw ac ce sk h0_height fb fs ff fl h0_frameCount lb lh h0_labelCount x2 aw law ac cfi clk ac_localTypes_r ac_length cop cva cpt cel ac_labelCount cla sk csk gsk fb cfb gfb fs cfs gfs ff cff gff fl cfl gfl lb clb glb lh clh glh waf cwaf gwaf wat cwat gwat wag cwag gwag cfi ccfi gcfi clk cclk gclk cop ccop gcop cva ccva gcva cpt ccpt gcpt cel ccel gcel cla ccla gcla)) [0, 1, 2, 3, 6, 7, 8, 9, 10, 11, 12, 13, 14, 15, 16, 17, 18, 19, 20, 21] (by decide) rfl
              have hKc := hK.sb (tyq := [(csk, .long), (cfb, .int), (cfs, .int), (cff, .int), (cfl, .int), (clb, .int), (clh, .int), (cwaf, .int), (cwat, .int), (cwag, .int), (ccfi, .int), (cclk, .int), (ccop, .int), (ccva, .long), (ccpt, .int), (ccel, .int), (ccla, .int)]) [0, 3, 4, 5, 6, 7, 8, 9, 10, 11, 12, 13, 14, 15, 16, 17, 18] rfl
              have hFc := va_free (wc := (wz_36 h0 h0_pages x3 h0_reason gl aw ac ce sk h0_height fb fs ff fl h0_frameCount lb lh h0_labelCount x2 aw law ac cfi clk ac_localTypes_r ac_length cop cva cpt cel ac_labelCount cla sk csk gsk fb cfb gfb fs cfs gfs ff cff gff fl cfl gfl lb clb glb lh clh glh waf cwaf gwaf wat cwat gwat wag cwag gwag cfi ccfi gcfi clk cclk gclk cop ccop gcop cva ccva gcva cpt ccpt gcpt cel ccel gcel cla ccla gcla)) hD hS hA [0, 1, 2, 3, 6, 7, 8, 9, 10, 11, 12, 13, 14, 15, 16, 17, 18, 19, 20, 21] rfl
              refine va_callv (va_runV (As := [.int x1, .int h0_at]) (rest := []) ⟨hx, hb, hml, hown, hts⟩ (c_MA_perform l dC dI H.size h0 gl aw ac ce sk fb fs ff fl lb lh wat wag waf cfi clk ac_localTypes_r cop cva cpt cel cla csk cfb cfs cff cfl clb clh cwaf cwat cwag ccfi cclk ccop ccva ccpt ccel ccla h0_pages x3 h0_reason h0_height h0_frameCount h0_labelCount x2 law ac_length ac_labelCount gsk gfb gfs gff gfl glb glh gwaf gwat gwag gcfi gclk gcop gcva gcpt gcel gcla an nl gv fc f bs h tk gc paw_1 paw_3 paw_5 paw_7 plaw (b_h0_reason) (b_h0_height) (b_h0_frameCount) (b_h0_labelCount) x1 h0_at (by (try dsimp only); (first | (apply Int.le_antisymm <;> omega) | omega)) (hr0) (hk1) (hT) (hf) (hfn) (hgv) (hnl) (hH) (hh0) (htk) (hfs) (by (first | (apply Int.le_antisymm <;> omega) | omega)) (b34) (by (first | (apply Int.le_antisymm <;> omega) | omega)) (hQ)) (cwV 2 hts (gV kM_MA_124 kV_MA_perform kS_MA_perform kI_MA kC_MA_perform) rfl rfl rfl (by decide +kernel) ⟨Nat.le_of_ble_eq_true rfl, Nat.le_of_ble_eq_true rfl⟩) ⟨fun a U g mk z => by obtain ⟨z0, z1, zP, zK, zD⟩ := z; exact ⟨z0, z1, zP, va_K.moved (u := U) (U := U.calling g mk a) (Vm.Alike.refl U.vm) zK, zD⟩, va_recv hKc hPc (ci := 4) (q0 := 0) rfl rfl, fun U hU hW => ⟨rfl, by rw [hU], va_P.he hU.symm hPc, va_K.moved hW.alike hKc, hDc.weaken (fun _ _ _ _ => trivial)⟩⟩ rfl rfl hl.1 rfl (lv_room (Nat.le_of_ble_eq_true rfl)) d_MA_step_113 ⟨(Nat.zero_le _), (Nat.zero_le _)⟩) hS (fun q _ h => hFc q h) hFc (fun u t H1 locs ht hvm hw hB hz1 hk1 hS => ?_)
              obtain ⟨n37, n38, n39, n40, n41, n42, n43, n44, n45, n46, n47, n48⟩ := u
              try dsimp only at hw
              obtain ⟨bn45, bn46, bn47, bn48, xr36⟩ := hw
              try clear hw
              obtain ⟨hP1, hK1, hD1⟩ := hB
              replace hP1 := va_P.he ht hP1
              obtain ⟨hP, hD⟩ := va_join (wr := [(ce, .inl (cce, 16384, .inr (.inl gce))), (gl, .inl (cgl, 20, .inr (.inl ggl)))]) (w1 := (wz_36 h0 h0_pages x3 n48 gl aw ac ce sk n46 fb fs ff fl n45 lb lh n47 n44 aw law ac cfi clk ac_localTypes_r ac_length cop cva cpt cel ac_labelCount cla sk csk n43 fb cfb n37 fs cfs n40 ff cff n38 fl cfl n39 lb clb n41 lh clh n42 waf cwaf gwaf wat cwat gwat wag cwag gwag cfi ccfi gcfi clk cclk gclk cop ccop gcop cva ccva gcva cpt ccpt gcpt cel ccel gcel cla ccla gcla)) hP hD [0, 1, 2, 3, 6, 7, 8, 9, 10, 11, 12, 13, 14, 15, 16, 17, 18, 19, 20, 21] [4, 5] rfl rfl (by decide) (by decide) hk1 hFc hP1 hD1
              clear hPc hDc hKc hFc hz1 hk1 hP1 hK1 hD1
              rename Heap => H
              have hP : va_P (dC, dI) cls [(ce, .inl (cce, 16384, .inr (.inl gce))), (gl, .inl (cgl, 20, .inr (.inl ggl))), (h0, .inr (4, [.int h0_pages, .int x3, .int n48, .ref gl, .ref aw, .ref ac, .ref ce, .ref sk, .int n46, .ref fb, .ref fs, .ref ff, .ref fl, .int n45, .ref lb, .ref lh, .int n47, .int n44])), (aw, .inr (10, law)), (ac, .inr (3, [.ref cfi, .ref clk, .ref ac_localTypes_r, .int ac_length, .ref cop, .ref cva, .ref cpt, .ref cel, .int ac_labelCount, .ref cla])), (sk, .inl (csk, 12096, .inr (.inl n43))), (fb, .inl (cfb, 100, .inl n37)), (fs, .inl (cfs, 100, .inl n40)), (ff, .inl (cff, 100, .inl n38)), (fl, .inl (cfl, 100, .inl n39)), (lb, .inl (clb, 10000, .inl n41)), (lh, .inl (clh, 10000, .inl n42)), (waf, .inl (cwaf, 30, .inl gwaf)), (wat, .inl (cwat, 20, .inl gwat)), (wag, .inl (cwag, 20, .inl gwag)), (cfi, .inl (ccfi, 31, .inl gcfi)), (clk, .inl (cclk, 30, .inl gclk)), (cop, .inl (ccop, 5000, .inl gcop)), (cva, .inl (ccva, 5000, .inr (.inl gcva))), (cpt, .inl (ccpt, 5000, .inl gcpt)), (cel, .inl (ccel, 5000, .inl gcel)), (cla, .inl (ccla, 2000, .inl gcla))] H := hP
              have hD : va_D A [(ce, .inl (cce, 16384, .inr (.inl gce))), (gl, .inl (cgl, 20, .inr (.inl ggl))), (h0, .inr (4, [.int h0_pages, .int x3, .int n48, .ref gl, .ref aw, .ref ac, .ref ce, .ref sk, .int n46, .ref fb, .ref fs, .ref ff, .ref fl, .int n45, .ref lb, .ref lh, .int n47, .int n44])), (aw, .inr (10, law)), (ac, .inr (3, [.ref cfi, .ref clk, .ref ac_localTypes_r, .int ac_length, .ref cop, .ref cva, .ref cpt, .ref cel, .int ac_labelCount, .ref cla])), (sk, .inl (csk, 12096, .inr (.inl n43))), (fb, .inl (cfb, 100, .inl n37)), (fs, .inl (cfs, 100, .inl n40)), (ff, .inl (cff, 100, .inl n38)), (fl, .inl (cfl, 100, .inl n39)), (lb, .inl (clb, 10000, .inl n41)), (lh, .inl (clh, 10000, .inl n42)), (waf, .inl (cwaf, 30, .inl gwaf)), (wat, .inl (cwat, 20, .inl gwat)), (wag, .inl (cwag, 20, .inl gwag)), (cfi, .inl (ccfi, 31, .inl gcfi)), (clk, .inl (cclk, 30, .inl gclk)), (cop, .inl (ccop, 5000, .inl gcop)), (cva, .inl (ccva, 5000, .inr (.inl gcva))), (cpt, .inl (ccpt, 5000, .inl gcpt)), (cel, .inl (ccel, 5000, .inl gcel)), (cla, .inl (ccla, 2000, .inl gcla))] := hD
              refine lv_goto (tgt := 215) hx hb d_MA_step_116 (by decide) ?_
              have hP9 := hP.sb (wq := (wz_40 h0 h0_pages x3 n48 gl aw ac ce sk n46 fb fs ff fl n45 lb lh n47 n44 aw law ac cfi clk ac_localTypes_r ac_length cop cva cpt cel ac_labelCount cla sk csk n43 ce cce gce gl cgl ggl fb cfb n37 fs cfs n40 ff cff n38 fl cfl n39 lb clb n41 lh clh n42 waf cwaf gwaf wat cwat gwat wag cwag gwag cfi ccfi gcfi clk cclk gclk cop ccop gcop cva ccva gcva cpt ccpt gcpt cel ccel gcel cla ccla gcla)) [2, 3, 4, 5, 0, 1, 6, 7, 8, 9, 10, 11, 12, 13, 14, 15, 16, 17, 18, 19, 20, 21] rfl
              have hD9 := hD.sb (wq := (wz_40 h0 h0_pages x3 n48 gl aw ac ce sk n46 fb fs ff fl n45 lb lh n47 n44 aw law ac cfi clk ac_localTypes_r ac_length cop cva cpt cel ac_labelCount cla sk csk n43 ce cce gce gl cgl ggl fb cfb n37 fs cfs n40 ff cff n38 fl cfl n39 lb clb n41 lh clh n42 waf cwaf gwaf wat cwat gwat wag cwag gwag cfi ccfi gcfi clk cclk gclk cop ccop gcop cva ccva gcva cpt ccpt gcpt cel ccel gcel cla ccla gcla)) [2, 3, 4, 5, 0, 1, 6, 7, 8, 9, 10, 11, 12, 13, 14, 15, 16, 17, 18, 19, 20, 21] (by decide) rfl
              exact W.vret hx hb hr (fun t ht hW => ⟨⟨(gce, n37, n38, n39, n40, ggl, n41, n42, n43, n44, n45, n46, n47, h0_pages, n48, x3), rfl, ⟨bn45, bn46, bn47, b_h0_pages, bn48, by (try dsimp only); (first | (apply Int.le_antisymm <;> omega) | omega), ⟨xr36, fun y => by (try dsimp only at y); (try dsimp only); (first | (apply Int.le_antisymm <;> omega) | omega)⟩⟩, va_P.he ht.symm hP9, va_K.moved hW.alike hK, hD9⟩, hS.F ht⟩) hS.2.2 d_MA_step_215
          · have q92 := nleI c92
            refine lv_aload_n hx hb d_MA_step_95 rfl (lv_at hl 2 rfl) ?_
            refine lv_bipush (v := 14) hx hb d_MA_step_96 (by decide) ?_
            refine va_put (D := (dC, dI)) (ci := 4) (v := .int 14) (ty := .int) (C := R_MA) (T := F_MA) (N := 18) hx hb hts i_MA t_MA t_MA_ok n_MA hown hK hP hD hS 0 rfl rfl 2 (by decide) (hts _ kF_MA_71) (fun _ h9 => h9) rfl (by decide +kernel) rfl rfl (Nat.le_of_ble_eq_true rfl) d_MA_step_98 (fun H locs hP hD hS => ?_)
            refine lv_goto (tgt := 215) hx hb d_MA_step_101 (by decide) ?_
            have hP9 := hP.sb (wq := (wz_40 h0 h0_pages x3 14 gl aw ac ce sk h0_height fb fs ff fl h0_frameCount lb lh h0_labelCount x2 aw law ac cfi clk ac_localTypes_r ac_length cop cva cpt cel ac_labelCount cla sk csk gsk ce cce gce gl cgl ggl fb cfb gfb fs cfs gfs ff cff gff fl cfl gfl lb clb glb lh clh glh waf cwaf gwaf wat cwat gwat wag cwag gwag cfi ccfi gcfi clk cclk gclk cop ccop gcop cva ccva gcva cpt ccpt gcpt cel ccel gcel cla ccla gcla)) [0, 1, 2, 3, 4, 5, 6, 7, 8, 9, 10, 11, 12, 13, 14, 15, 16, 17, 18, 19, 20, 21] rfl
            have hD9 := hD.sb (wq := (wz_40 h0 h0_pages x3 14 gl aw ac ce sk h0_height fb fs ff fl h0_frameCount lb lh h0_labelCount x2 aw law ac cfi clk ac_localTypes_r ac_length cop cva cpt cel ac_labelCount cla sk csk gsk ce cce gce gl cgl ggl fb cfb gfb fs cfs gfs ff cff gff fl cfl gfl lb clb glb lh clh glh waf cwaf gwaf wat cwat gwat wag cwag gwag cfi ccfi gcfi clk cclk gclk cop ccop gcop cva ccva gcva cpt ccpt gcpt cel ccel gcel cla ccla gcla)) [0, 1, 2, 3, 4, 5, 6, 7, 8, 9, 10, 11, 12, 13, 14, 15, 16, 17, 18, 19, 20, 21] (by decide) rfl
            exact W.vret hx hb hr (fun t ht hW => ⟨⟨(gce, gfb, gff, gfl, gfs, ggl, glb, glh, gsk, x2, h0_frameCount, h0_height, h0_labelCount, h0_pages, 14, x3), rfl, ⟨b_h0_frameCount, b_h0_height, b_h0_labelCount, b_h0_pages, by (try dsimp only); (first | (apply Int.le_antisymm <;> omega) | omega), by (try dsimp only); (first | (apply Int.le_antisymm <;> omega) | omega), ⟨Or.inl (by (try dsimp only); decide), fun y => absurd y (by (try dsimp only); decide)⟩⟩, va_P.he ht.symm hP9, va_K.moved hW.alike hK, hD9⟩, hS.F ht⟩) hS.2.2 d_MA_step_215
        · have q59 := eqI c59
          refine lv_aload_n hx hb d_MA_step_62 rfl (lv_at hl 2 rfl) ?_
          refine lv_aload_n hx hb d_MA_step_63 rfl (lv_at hl 2 rfl) ?_
          refine va_get (D := (dC, dI)) (ci := 4) (v := .ref ac) (C := R_MA) (T := F_MA) (N := 18) hx hb hts i_MA hown hK hP 0 rfl rfl 5 (by decide) (hts _ kF_MA_50) (fun _ h9 => h9) rfl d_MA_step_64 ?_
          refine va_get (D := (dC, dI)) (ci := 3) (v := .ref cpt) (C := R_CD) (T := F_CD) (N := 10) hx hb hts i_CD hown hK hP 2 rfl rfl 6 (by decide) (hts _ kF_MA_120) (fun _ h9 => h9) rfl d_MA_step_67 ?_
          refine lv_iload_n hx hb d_MA_step_70 rfl (lv_at hl 1 rfl) ?_
          have g71 : vp_in h0_at 5000 := vp_in_iff.mpr ⟨by (first | (apply Int.le_antisymm <;> omega) | omega), by (first | (apply Int.le_antisymm <;> omega) | omega)⟩
          refine va_iald hx hb hK hP 19 16 rfl rfl g71 d_MA_step_71 ?_
          refine lv_topi (fun x49 ex49 => ?_)
          have b71 := ex49
          have c71 := (hQ.2.2.2.1 (by (first | (apply Int.le_antisymm <;> omega) | omega))).1
          have tx49 : x49.toInt = (gcpt h0_at.toNatClampNeg).toInt := by rw [ex49]
          refine va_put (D := (dC, dI)) (ci := 4) (v := .int x49) (ty := .int) (C := R_MA) (T := F_MA) (N := 18) hx hb hts i_MA t_MA t_MA_ok n_MA hown hK hP hD hS 0 rfl rfl 17 (by decide) (hts _ kF_MA_106) (fun _ h9 => h9) rfl (by decide +kernel) rfl rfl (Nat.le_of_ble_eq_true rfl) d_MA_step_72 (fun H locs hP hD hS => ?_)
          have hP9 := hP.sb (wq := (wz_40 h0 h0_pages h0_steps h0_reason gl aw ac ce sk h0_height fb fs ff fl h0_frameCount lb lh h0_labelCount x49 aw law ac cfi clk ac_localTypes_r ac_length cop cva cpt cel ac_labelCount cla sk csk gsk ce cce gce gl cgl ggl fb cfb gfb fs cfs gfs ff cff gff fl cfl gfl lb clb glb lh clh glh waf cwaf gwaf wat cwat gwat wag cwag gwag cfi ccfi gcfi clk cclk gclk cop ccop gcop cva ccva gcva cpt ccpt gcpt cel ccel gcel cla ccla gcla)) [0, 1, 2, 3, 4, 5, 6, 7, 8, 9, 10, 11, 12, 13, 14, 15, 16, 17, 18, 19, 20, 21] rfl
          have hD9 := hD.sb (wq := (wz_40 h0 h0_pages h0_steps h0_reason gl aw ac ce sk h0_height fb fs ff fl h0_frameCount lb lh h0_labelCount x49 aw law ac cfi clk ac_localTypes_r ac_length cop cva cpt cel ac_labelCount cla sk csk gsk ce cce gce gl cgl ggl fb cfb gfb fs cfs gfs ff cff gff fl cfl gfl lb clb glb lh clh glh waf cwaf gwaf wat cwat gwat wag cwag gwag cfi ccfi gcfi clk cclk gclk cop ccop gcop cva ccva gcva cpt ccpt gcpt cel ccel gcel cla ccla gcla)) [0, 1, 2, 3, 4, 5, 6, 7, 8, 9, 10, 11, 12, 13, 14, 15, 16, 17, 18, 19, 20, 21] (by decide) rfl
          exact W.vret hx hb hr (fun t ht hW => ⟨⟨(gce, gfb, gff, gfl, gfs, ggl, glb, glh, gsk, x49, h0_frameCount, h0_height, h0_labelCount, h0_pages, h0_reason, h0_steps), rfl, ⟨b_h0_frameCount, b_h0_height, b_h0_labelCount, b_h0_pages, b_h0_reason, b_h0_steps, ⟨mc_go hT (by (try dsimp only); (first | (apply Int.le_antisymm <;> omega) | omega)) (by (try dsimp only); (first | (apply Int.le_antisymm <;> omega) | omega)) (by (try dsimp only); rw [b71]; exact (hQ.2.2.2.1 (by (first | (apply Int.le_antisymm <;> omega) | omega))).2) (fun _ => hH) rfl, fun y => hst⟩⟩, va_P.he ht.symm hP9, va_K.moved hW.alike hK, hD9⟩, hS.F ht⟩) hS.2.2 d_MA_step_75
      · have q49 := eqI c49
        refine lv_aload_n hx hb d_MA_step_52 rfl (lv_at hl 2 rfl) ?_
        have hPc := hP.sb (wq := (wz_25 h0 h0_pages h0_steps h0_reason gl aw ac ce sk h0_height fb fs ff fl h0_frameCount lb lh h0_labelCount x2 aw law sk csk gsk fb cfb gfb fs cfs gfs ff cff gff fl cfl gfl lb clb glb lh clh glh waf cwaf gwaf wag cwag gwag)) [0, 1, 3, 6, 7, 8, 9, 10, 11, 12, 14] rfl
        have hDc := hD.sb (wq := (wz_25 h0 h0_pages h0_steps h0_reason gl aw ac ce sk h0_height fb fs ff fl h0_frameCount lb lh h0_labelCount x2 aw law sk csk gsk fb cfb gfb fs cfs gfs ff cff gff fl cfl gfl lb clb glb lh clh glh waf cwaf gwaf wag cwag gwag)) [0, 1, 3, 6, 7, 8, 9, 10, 11, 12, 14] (by decide) rfl
        have hKc := hK.sb (tyq := [(csk, .long), (cfb, .int), (cfs, .int), (cff, .int), (cfl, .int), (clb, .int), (clh, .int), (cwaf, .int), (cwag, .int)]) [0, 3, 4, 5, 6, 7, 8, 9, 11] rfl
        have hFc := va_free (wc := (wz_25 h0 h0_pages h0_steps h0_reason gl aw ac ce sk h0_height fb fs ff fl h0_frameCount lb lh h0_labelCount x2 aw law sk csk gsk fb cfb gfb fs cfs gfs ff cff gff fl cfl gfl lb clb glb lh clh glh waf cwaf gwaf wag cwag gwag)) hD hS hA [0, 1, 3, 6, 7, 8, 9, 10, 11, 12, 14] rfl
        refine va_callv (va_runV (As := []) (rest := []) ⟨hx, hb, hml, hown, hts⟩ (c_MA_leaveBlock l dC dI H.size h0 gl aw ac ce sk fb fs ff fl lb lh wag waf csk cfb cfs cff cfl clb clh cwaf cwag h0_pages h0_steps h0_reason h0_height h0_frameCount h0_labelCount x2 law gsk gfb gfs gff gfl glb glh gwaf gwag an nl gv fc f bs h paw_5 paw_7 plaw (b_h0_reason) (b_h0_height) (b_h0_frameCount) (b_h0_labelCount) (hr0) (hk1) (hT) (hf) (hfn) (hgv) (hH) (fun b r z => ⟨by (first | (apply Int.le_antisymm <;> omega) | omega), by rw [show x2.toInt.toNat = h0_at.toNatClampNeg + 1 from by (first | (apply Int.le_antisymm <;> omega) | omega)]; exact hQ.2.2.2.2.1 (by (first | (apply Int.le_antisymm <;> omega) | omega)) b r z⟩)) (cwV 0 hts (gV kM_MA_117 kV_MA_leaveBlock kS_MA_leaveBlock kI_MA kC_MA_leaveBlock) rfl rfl rfl (by decide +kernel) ⟨Nat.le_of_ble_eq_true rfl, Nat.le_of_ble_eq_true rfl⟩) ⟨fun a U g mk z => by obtain ⟨z0, z1, zP, zK, zD⟩ := z; exact ⟨z0, z1, zP, va_K.moved (u := U) (U := U.calling g mk a) (Vm.Alike.refl U.vm) zK, zD⟩, va_recv hKc hPc (ci := 4) (q0 := 0) rfl rfl, fun U hU hW => ⟨rfl, by rw [hU], va_P.he hU.symm hPc, va_K.moved hW.alike hKc, hDc.weaken (fun _ _ _ _ => trivial)⟩⟩ rfl rfl hl.1 rfl (lv_room (Nat.le_of_ble_eq_true rfl)) d_MA_step_53 ⟨(Nat.zero_le _), (Nat.zero_le _)⟩) hS (fun q _ h => hFc q h) hFc (fun u t H1 locs ht hvm hw hB hz1 hk1 hS => ?_)
        obtain ⟨n51, n52, n53, n54, n55, n56⟩ := u
        try dsimp only at hw
        obtain ⟨bn53, bn54, bn55, bn56, xr50⟩ := hw
        try clear hw
        obtain ⟨hP1, hK1, hD1⟩ := hB
        replace hP1 := va_P.he ht hP1
        obtain ⟨hP, hD⟩ := va_join (wr := [(ac, .inr (3, [.ref cfi, .ref clk, .ref ac_localTypes_r, .int ac_length, .ref cop, .ref cva, .ref cpt, .ref cel, .int ac_labelCount, .ref cla])), (ce, .inl (cce, 16384, .inr (.inl gce))), (gl, .inl (cgl, 20, .inr (.inl ggl))), (wat, .inl (cwat, 20, .inl gwat)), (cfi, .inl (ccfi, 31, .inl gcfi)), (clk, .inl (cclk, 30, .inl gclk)), (cop, .inl (ccop, 5000, .inl gcop)), (cva, .inl (ccva, 5000, .inr (.inl gcva))), (cpt, .inl (ccpt, 5000, .inl gcpt)), (cel, .inl (ccel, 5000, .inl gcel)), (cla, .inl (ccla, 2000, .inl gcla))]) (w1 := (wz_25 h0 h0_pages h0_steps n56 gl aw ac ce sk n54 fb fs ff fl n53 lb lh n55 n52 aw law sk csk n51 fb cfb gfb fs cfs gfs ff cff gff fl cfl gfl lb clb glb lh clh glh waf cwaf gwaf wag cwag gwag)) hP hD [0, 1, 3, 6, 7, 8, 9, 10, 11, 12, 14] [2, 4, 5, 13, 15, 16, 17, 18, 19, 20, 21] rfl rfl (by decide) (by decide) hk1 hFc hP1 hD1
        clear hPc hDc hKc hFc hz1 hk1 hP1 hK1 hD1
        rename Heap => H
        have hP : va_P (dC, dI) cls [(ac, .inr (3, [.ref cfi, .ref clk, .ref ac_localTypes_r, .int ac_length, .ref cop, .ref cva, .ref cpt, .ref cel, .int ac_labelCount, .ref cla])), (ce, .inl (cce, 16384, .inr (.inl gce))), (gl, .inl (cgl, 20, .inr (.inl ggl))), (wat, .inl (cwat, 20, .inl gwat)), (cfi, .inl (ccfi, 31, .inl gcfi)), (clk, .inl (cclk, 30, .inl gclk)), (cop, .inl (ccop, 5000, .inl gcop)), (cva, .inl (ccva, 5000, .inr (.inl gcva))), (cpt, .inl (ccpt, 5000, .inl gcpt)), (cel, .inl (ccel, 5000, .inl gcel)), (cla, .inl (ccla, 2000, .inl gcla)), (h0, .inr (4, [.int h0_pages, .int h0_steps, .int n56, .ref gl, .ref aw, .ref ac, .ref ce, .ref sk, .int n54, .ref fb, .ref fs, .ref ff, .ref fl, .int n53, .ref lb, .ref lh, .int n55, .int n52])), (aw, .inr (10, law)), (sk, .inl (csk, 12096, .inr (.inl n51))), (fb, .inl (cfb, 100, .inl gfb)), (fs, .inl (cfs, 100, .inl gfs)), (ff, .inl (cff, 100, .inl gff)), (fl, .inl (cfl, 100, .inl gfl)), (lb, .inl (clb, 10000, .inl glb)), (lh, .inl (clh, 10000, .inl glh)), (waf, .inl (cwaf, 30, .inl gwaf)), (wag, .inl (cwag, 20, .inl gwag))] H := hP
        have hD : va_D A [(ac, .inr (3, [.ref cfi, .ref clk, .ref ac_localTypes_r, .int ac_length, .ref cop, .ref cva, .ref cpt, .ref cel, .int ac_labelCount, .ref cla])), (ce, .inl (cce, 16384, .inr (.inl gce))), (gl, .inl (cgl, 20, .inr (.inl ggl))), (wat, .inl (cwat, 20, .inl gwat)), (cfi, .inl (ccfi, 31, .inl gcfi)), (clk, .inl (cclk, 30, .inl gclk)), (cop, .inl (ccop, 5000, .inl gcop)), (cva, .inl (ccva, 5000, .inr (.inl gcva))), (cpt, .inl (ccpt, 5000, .inl gcpt)), (cel, .inl (ccel, 5000, .inl gcel)), (cla, .inl (ccla, 2000, .inl gcla)), (h0, .inr (4, [.int h0_pages, .int h0_steps, .int n56, .ref gl, .ref aw, .ref ac, .ref ce, .ref sk, .int n54, .ref fb, .ref fs, .ref ff, .ref fl, .int n53, .ref lb, .ref lh, .int n55, .int n52])), (aw, .inr (10, law)), (sk, .inl (csk, 12096, .inr (.inl n51))), (fb, .inl (cfb, 100, .inl gfb)), (fs, .inl (cfs, 100, .inl gfs)), (ff, .inl (cff, 100, .inl gff)), (fl, .inl (cfl, 100, .inl gfl)), (lb, .inl (clb, 10000, .inl glb)), (lh, .inl (clh, 10000, .inl glh)), (waf, .inl (cwaf, 30, .inl gwaf)), (wag, .inl (cwag, 20, .inl gwag))] := hD
        have hP9 := hP.sb (wq := (wz_40 h0 h0_pages h0_steps n56 gl aw ac ce sk n54 fb fs ff fl n53 lb lh n55 n52 aw law ac cfi clk ac_localTypes_r ac_length cop cva cpt cel ac_labelCount cla sk csk n51 ce cce gce gl cgl ggl fb cfb gfb fs cfs gfs ff cff gff fl cfl gfl lb clb glb lh clh glh waf cwaf gwaf wat cwat gwat wag cwag gwag cfi ccfi gcfi clk cclk gclk cop ccop gcop cva ccva gcva cpt ccpt gcpt cel ccel gcel cla ccla gcla)) [11, 12, 0, 13, 1, 2, 14, 15, 16, 17, 18, 19, 20, 3, 21, 4, 5, 6, 7, 8, 9, 10] rfl
        have hD9 := hD.sb (wq := (wz_40 h0 h0_pages h0_steps n56 gl aw ac ce sk n54 fb fs ff fl n53 lb lh n55 n52 aw law ac cfi clk ac_localTypes_r ac_length cop cva cpt cel ac_labelCount cla sk csk n51 ce cce gce gl cgl ggl fb cfb gfb fs cfs gfs ff cff gff fl cfl gfl lb clb glb lh clh glh waf cwaf gwaf wat cwat gwat wag cwag gwag cfi ccfi gcfi clk cclk gclk cop ccop gcop cva ccva gcva cpt ccpt gcpt cel ccel gcel cla ccla gcla)) [11, 12, 0, 13, 1, 2, 14, 15, 16, 17, 18, 19, 20, 3, 21, 4, 5, 6, 7, 8, 9, 10] (by decide) rfl
        exact W.vret hx hb hr (fun t ht hW => ⟨⟨(gce, gfb, gff, gfl, gfs, ggl, glb, glh, n51, n52, n53, n54, n55, h0_pages, n56, h0_steps), rfl, ⟨bn53, bn54, bn55, b_h0_pages, bn56, b_h0_steps, ⟨xr50, fun y => hst⟩⟩, va_P.he ht.symm hP9, va_K.moved hW.alike hK, hD9⟩, hS.F ht⟩) hS.2.2 d_MA_step_56
    · have q17 := nltI c17
      exact jn20 () _ _ _ ⟨hP, hD, hS, lv_sub hl [1] rfl⟩
end q_15

section q_60
/-! Coder: locals -/
abbrev b_CO_addLocal : ByteArray := prog_4_method_5_code
def y_CO_addLocal : MethodName := ⟨R_CO, "addLocal", "(IIII)V"⟩
abbrev w_CO_addLocal : List Cond := .code y_CO_addLocal b_CO_addLocal 5 none :: lw_g
theorem kC_CO_addLocal : Cond.code y_CO_addLocal b_CO_addLocal 5 none ∈ lw_g := in_c5 142 rfl rfl
theorem d_CO_addLocal_0 : decode b_CO_addLocal 0 = .ok (.aload_n 0, 1) := bz_c42 (by decide +kernel)
theorem d_CO_addLocal_1 : decode b_CO_addLocal 1 = .ok (.getfield 54, 3) := bz_c180 (by decide +kernel)
theorem d_CO_addLocal_4 : decode b_CO_addLocal 4 = .ok (.iload_n 1, 1) := bz_c27 (by decide +kernel)
theorem d_CO_addLocal_5 : decode b_CO_addLocal 5 = .ok (.iload_n 2, 1) := bz_c28 (by decide +kernel)
theorem d_CO_addLocal_6 : decode b_CO_addLocal 6 = .ok (.invokevirtual 158, 3) := bz_c182 (by decide +kernel)
theorem d_CO_addLocal_9 : decode b_CO_addLocal 9 = .ok (.ifCond .lt 13, 3) := bz_c155 (by decide +kernel)
theorem d_CO_addLocal_12 : decode b_CO_addLocal 12 = .ok (.aload_n 0, 1) := bz_c42 (by decide +kernel)
theorem d_CO_addLocal_13 : decode b_CO_addLocal 13 = .ok (.getfield 36, 3) := bz_c180 (by decide +kernel)
theorem d_CO_addLocal_16 : decode b_CO_addLocal 16 = .ok (.iconst 4, 1) := bz_c7 (by decide +kernel)
theorem d_CO_addLocal_17 : decode b_CO_addLocal 17 = .ok (.iload 4, 2) := bz_c21 (by decide +kernel)
theorem d_CO_addLocal_19 : decode b_CO_addLocal 19 = .ok (.invokevirtual 105, 3) := bz_c182 (by decide +kernel)
theorem d_CO_addLocal_22 : decode b_CO_addLocal 22 = .ok (.aload_n 0, 1) := bz_c42 (by decide +kernel)
theorem d_CO_addLocal_23 : decode b_CO_addLocal 23 = .ok (.getfield 109, 3) := bz_c180 (by decide +kernel)
theorem d_CO_addLocal_26 : decode b_CO_addLocal 26 = .ok (.bipush 50, 2) := bz_c16 (by decide +kernel)
theorem d_CO_addLocal_28 : decode b_CO_addLocal 28 = .ok (.if_icmp .lt 14, 3) := bz_c161 (by decide +kernel)
theorem d_CO_addLocal_31 : decode b_CO_addLocal 31 = .ok (.aload_n 0, 1) := bz_c42 (by decide +kernel)
theorem d_CO_addLocal_32 : decode b_CO_addLocal 32 = .ok (.getfield 36, 3) := bz_c180 (by decide +kernel)
theorem d_CO_addLocal_35 : decode b_CO_addLocal 35 = .ok (.iconst 5, 1) := bz_c8 (by decide +kernel)
theorem d_CO_addLocal_36 : decode b_CO_addLocal 36 = .ok (.iload 4, 2) := bz_c21 (by decide +kernel)
theorem d_CO_addLocal_38 : decode b_CO_addLocal 38 = .ok (.invokevirtual 105, 3) := bz_c182 (by decide +kernel)
theorem d_CO_addLocal_41 : decode b_CO_addLocal 41 = .ok (.return_, 1) := bz_c177 (by decide +kernel)
theorem d_CO_addLocal_42 : decode b_CO_addLocal 42 = .ok (.aload_n 0, 1) := bz_c42 (by decide +kernel)
theorem d_CO_addLocal_43 : decode b_CO_addLocal 43 = .ok (.getfield 54, 3) := bz_c180 (by decide +kernel)
theorem d_CO_addLocal_46 : decode b_CO_addLocal 46 = .ok (.iload_n 1, 1) := bz_c27 (by decide +kernel)
theorem d_CO_addLocal_47 : decode b_CO_addLocal 47 = .ok (.iload_n 2, 1) := bz_c28 (by decide +kernel)
theorem d_CO_addLocal_48 : decode b_CO_addLocal 48 = .ok (.iload_n 3, 1) := bz_c29 (by decide +kernel)
theorem d_CO_addLocal_49 : decode b_CO_addLocal 49 = .ok (.aload_n 0, 1) := bz_c42 (by decide +kernel)
theorem d_CO_addLocal_50 : decode b_CO_addLocal 50 = .ok (.getfield 109, 3) := bz_c180 (by decide +kernel)
theorem d_CO_addLocal_53 : decode b_CO_addLocal 53 = .ok (.i2l, 1) := bz_c133 (by decide +kernel)
theorem d_CO_addLocal_54 : decode b_CO_addLocal 54 = .ok (.invokevirtual 162, 3) := bz_c182 (by decide +kernel)
theorem d_CO_addLocal_57 : decode b_CO_addLocal 57 = .ok (.aload_n 0, 1) := bz_c42 (by decide +kernel)
theorem d_CO_addLocal_58 : decode b_CO_addLocal 58 = .ok (.getfield 9, 3) := bz_c180 (by decide +kernel)
theorem d_CO_addLocal_61 : decode b_CO_addLocal 61 = .ok (.aload_n 0, 1) := bz_c42 (by decide +kernel)
theorem d_CO_addLocal_62 : decode b_CO_addLocal 62 = .ok (.getfield 109, 3) := bz_c180 (by decide +kernel)
theorem d_CO_addLocal_65 : decode b_CO_addLocal 65 = .ok (.iload_n 3, 1) := bz_c29 (by decide +kernel)
theorem d_CO_addLocal_66 : decode b_CO_addLocal 66 = .ok (.iastore, 1) := bz_c79 (by decide +kernel)
theorem d_CO_addLocal_67 : decode b_CO_addLocal 67 = .ok (.aload_n 0, 1) := bz_c42 (by decide +kernel)
theorem d_CO_addLocal_68 : decode b_CO_addLocal 68 = .ok (.dup, 1) := bz_c89 (by decide +kernel)
theorem d_CO_addLocal_69 : decode b_CO_addLocal 69 = .ok (.getfield 109, 3) := bz_c180 (by decide +kernel)
theorem d_CO_addLocal_72 : decode b_CO_addLocal 72 = .ok (.iconst 1, 1) := bz_c4 (by decide +kernel)
theorem d_CO_addLocal_73 : decode b_CO_addLocal 73 = .ok (.iadd, 1) := bz_c96 (by decide +kernel)
theorem d_CO_addLocal_74 : decode b_CO_addLocal 74 = .ok (.putfield 109, 3) := bz_c181 (by decide +kernel)
theorem d_CO_addLocal_77 : decode b_CO_addLocal 77 = .ok (.return_, 1) := bz_c177 (by decide +kernel)
theorem kM_CO_158 : Cond.methodLink R_CO 158 y_NA_indexOf ∈ lw_g := in_c5 143 rfl rfl
theorem kM_CO_105 : Cond.methodLink R_CO 105 y_PR_refuse ∈ lw_g := in_c5 134 rfl rfl
theorem kM_CO_162 : Cond.methodLink R_CO 162 y_NA_add ∈ lw_g := in_c5 144 rfl rfl
theorem kF_CO_54 : Cond.fieldLink R_CO 54 "WaferForge$Coder" "known" "LWaferForge$Names;" ∈ lw_g := in_c2 181 rfl rfl
theorem kF_CO_109 : Cond.fieldLink R_CO 109 "WaferForge$Coder" "localCount" "I" ∈ lw_g := in_c2 183 rfl rfl
theorem kF_CO_9 : Cond.fieldLink R_CO 9 "WaferForge$Coder" "localTypes" "[I" ∈ lw_g := in_c2 182 rfl rfl
theorem kF_CO_36 : Cond.fieldLink R_CO 36 "WaferForge$Coder" "program" "LWaferForge$Program;" ∈ lw_g := in_c2 180 rfl rfl
abbrev at_CO_addLocal (dC : Nat → ClassId) (dI : Nat → Nat → Nat) (sa : Nat → Nat) (h0 pr kn lt pe to bo cs se gl fu pa pf sf pk pg pp pz pv pr_scanner_r pr_waiting_r pr_waitingPlaces_r tr kns knz knt knv tx : Nat) (clt ckns cknz cknt cknv ctx : ClassId) (h0_pendingCount : Int32) (h0_gives : Int32) (h0_depth : Int32) (h0_loopDepth : Int32) (pr_stepCount : Int32) (pr_open : Int32) (pr_twoSides : Int32) (pr_waitingCount : Int32) (tr_length : Int32) (gtx : Nat → Int32) (A : Nat → Prop) (u : (Nat → Int32) × (Nat → Int32) × (Nat → Int64) × (Nat → Int32) × (Nat → Int32) × Int32 × Int32 × Int32 × Int32) (t : State) : Prop := match u with | (gkns, gknt, gknv, gknz, wlt, h0_localCount, kn_length, pr_place, pr_reason) => va_P (dC, dI) cls (wz_150 h0 pr kn lt h0_localCount pe h0_pendingCount h0_gives h0_depth h0_loopDepth to bo cs se pr gl fu pa pf sf pk pg pp pz pv pr_reason pr_place pr_scanner_r pr_stepCount pr_open pr_twoSides pr_waiting_r pr_waitingPlaces_r pr_waitingCount lt clt wlt kn tr kns knz knt knv kn_length kns ckns gkns knz cknz gknz knt cknt gknt knv cknv gknv tr tx tr_length tx ctx gtx) t.heap ∧ va_K (dC, dI) cls [(clt, .int), (ckns, .int), (cknz, .int), (cknt, .int), (cknv, .long), (ctx, .byte)] t ∧ va_D A (wz_150 h0 pr kn lt h0_localCount pe h0_pendingCount h0_gives h0_depth h0_loopDepth to bo cs se pr gl fu pa pf sf pk pg pp pz pv pr_reason pr_place pr_scanner_r pr_stepCount pr_open pr_twoSides pr_waiting_r pr_waitingPlaces_r pr_waitingCount lt clt wlt kn tr kns knz knt knv kn_length kns ckns gkns knz cknz gknz knt cknt gknt knv cknv gknv tr tx tr_length tx ctx gtx)
set_option maxHeartbeats 4000000 in
set_option maxRecDepth 100000 in
theorem c_CO_addLocal (l : Launch) (hlt : l.stackTraces = false) (dC : Nat → ClassId) (dI : Nat → Nat → Nat) (sz : Nat) (sa : Nat → Nat) (h0 pr kn lt pe to bo cs se gl fu pa pf sf pk pg pp pz pv pr_scanner_r pr_waiting_r pr_waitingPlaces_r tr kns knz knt knv tx : Nat) (clt ckns cknz cknt cknv ctx : ClassId) (h0_localCount : Int32) (h0_pendingCount : Int32) (h0_gives : Int32) (h0_depth : Int32) (h0_loopDepth : Int32) (pr_reason : Int32) (pr_place : Int32) (pr_stepCount : Int32) (pr_open : Int32) (pr_twoSides : Int32) (pr_waitingCount : Int32) (wlt : Nat → Int32) (kn_length : Int32) (gkns : Nat → Int32) (gknz : Nat → Int32) (gknt : Nat → Int32) (gknv : Nat → Int64) (tr_length : Int32) (gtx : Nat → Int32)  (b_h0_localCount : 0 ≤ h0_localCount.toInt ∧ h0_localCount.toInt ≤ 50) (b_kn_length : 0 ≤ kn_length.toInt ∧ kn_length.toInt ≤ 50) (b_tr_length : 0 ≤ tr_length.toInt ∧ tr_length.toInt ≤ 2000) (p0 : Int32) (p1 : Int32) (p2 : Int32) (p3 : Int32)  (hkl : kn_length.toInt ≤ h0_localCount.toInt) (hp : 0 ≤ p1.toInt) : tz_Met l y_CO_addLocal w_CO_addLocal ({ frames := 7, cells := 1, slots := 6, locals := 112 }) (va_Pc [.ref h0, .int p0, .int p1, .int p2, .int p3] (fun U => U.heap.size = sz ∧ va_P (dC, dI) cls (wz_150 h0 pr kn lt h0_localCount pe h0_pendingCount h0_gives h0_depth h0_loopDepth to bo cs se pr gl fu pa pf sf pk pg pp pz pv pr_reason pr_place pr_scanner_r pr_stepCount pr_open pr_twoSides pr_waiting_r pr_waitingPlaces_r pr_waitingCount lt clt wlt kn tr kns knz knt knv kn_length kns ckns gkns knz cknz gknz knt cknt gknt knv cknv gknv tr tx tr_length tx ctx gtx) U.heap ∧ va_K (dC, dI) cls [(clt, .int), (ckns, .int), (cknz, .int), (cknt, .int), (cknv, .long), (ctx, .byte)] U ∧ va_D (fun _ => True) (wz_150 h0 pr kn lt h0_localCount pe h0_pendingCount h0_gives h0_depth h0_loopDepth to bo cs se pr gl fu pa pf sf pk pg pp pz pv pr_reason pr_place pr_scanner_r pr_stepCount pr_open pr_twoSides pr_waiting_r pr_waitingPlaces_r pr_waitingCount lt clt wlt kn tr kns knz knt knv kn_length kns ckns gkns knz cknz gknz knt cknt gknt knv cknv gknv tr tx tr_length tx ctx gtx) ∧ sw sa (va_A (wz_150 h0 pr kn lt h0_localCount pe h0_pendingCount h0_gives h0_depth h0_loopDepth to bo cs se pr gl fu pa pf sf pk pg pp pz pv pr_reason pr_place pr_scanner_r pr_stepCount pr_open pr_twoSides pr_waiting_r pr_waitingPlaces_r pr_waitingCount lt clt wlt kn tr kns knz knt knv kn_length kns ckns gkns knz cknz gknz knt cknt gknt knv cknv gknv tr tx tr_length tx ctx gtx) sz) U U.heap)) (tq_Q (tq_v (fun (u : (Nat → Int32) × (Nat → Int32) × (Nat → Int64) × (Nat → Int32) × (Nat → Int32) × Int32 × Int32 × Int32 × Int32) => match u with | (gkns2, gknt2, gknv2, gknz2, wlt2, h0_localCount2, kn_length2, pr_place2, pr_reason2) => (0 ≤ h0_localCount2.toInt ∧ h0_localCount2.toInt ≤ 50) ∧ (0 ≤ kn_length2.toInt ∧ kn_length2.toInt ≤ 50) ∧ (h0_localCount2.toInt = h0_localCount.toInt + 1 ∧ (kn_length2.toInt = kn_length.toInt + 1 ∧ gkns2 = upd gkns kn_length.toNatClampNeg p0 ∧ gknz2 = upd gknz kn_length.toNatClampNeg p1 ∧ gknt2 = upd gknt kn_length.toNatClampNeg p2 ∧ gknv2 = vp_updL gknv kn_length.toNatClampNeg h0_localCount.toInt64) ∧ wlt2 = upd wlt h0_localCount.toNatClampNeg p2)) "java/lang/UnsupportedOperationException" (fun (u : (Nat → Int32) × (Nat → Int32) × (Nat → Int64) × (Nat → Int32) × (Nat → Int32) × Int32 × Int32 × Int32 × Int32) => match u with | (gkns2, gknt2, gknv2, gknz2, wlt2, h0_localCount2, kn_length2, pr_place2, pr_reason2) => (0 ≤ h0_localCount2.toInt ∧ h0_localCount2.toInt ≤ 50) ∧ (0 ≤ kn_length2.toInt ∧ kn_length2.toInt ≤ 50))) (at_CO_addLocal dC dI sa h0 pr kn lt pe to bo cs se gl fu pa pf sf pk pg pp pz pv pr_scanner_r pr_waiting_r pr_waitingPlaces_r tr kns knz knt knv tx clt ckns cknz cknt cknv ctx h0_pendingCount h0_gives h0_depth h0_loopDepth pr_stepCount pr_open pr_twoSides pr_waitingCount tr_length gtx (va_A (wz_150 h0 pr kn lt h0_localCount pe h0_pendingCount h0_gives h0_depth h0_loopDepth to bo cs se pr gl fu pa pf sf pk pg pp pz pv pr_reason pr_place pr_scanner_r pr_stepCount pr_open pr_twoSides pr_waiting_r pr_waitingPlaces_r pr_waitingCount lt clt wlt kn tr kns knz knt knv kn_length kns ckns gkns knz cknz gknz knt cknt gknt knv cknv gknv tr tx tr_length tx ctx gtx) sz)) (va_A (wz_150 h0 pr kn lt h0_localCount pe h0_pendingCount h0_gives h0_depth h0_loopDepth to bo cs se pr gl fu pa pf sf pk pg pp pz pv pr_reason pr_place pr_scanner_r pr_stepCount pr_open pr_twoSides pr_waiting_r pr_waitingPlaces_r pr_waitingCount lt clt wlt kn tr kns knz knt knv kn_length kns ckns gkns knz cknz gknz knt cknt gknt knv cknv gknv tr tx tr_length tx ctx gtx) sz)) (tz_k 0 0 1 6) (va_A (wz_150 h0 pr kn lt h0_localCount pe h0_pendingCount h0_gives h0_depth h0_loopDepth to bo cs se pr gl fu pa pf sf pk pg pp pz pv pr_reason pr_place pr_scanner_r pr_stepCount pr_open pr_twoSides pr_waiting_r pr_waitingPlaces_r pr_waitingCount lt clt wlt kn tr kns knz knt knv kn_length kns ckns gkns knz cknz gknz knt cknt gknt knv cknv gknv tr tx tr_length tx ctx gtx) sz) := by
  refine tz_ofW (cc := b_CO_addLocal) (maxL := 5) (ret := none) (by decide) rfl ?_
  intro p e s m args below meth c s₁ B hml hno hv
  obtain ⟨rfl, hsz, hP, hK, hD0, hSW⟩ := hv
  have hx := B.exec
  have hb := B.bytes
  have hr := B.returns
  have hts0 := atoms_spec (ws := w_CO_addLocal) B.pre
  have hts : ∀ w ∈ lw_g, w.before _ s = true := fun w h => hts0 w (List.mem_cons_of_mem _ h)
  have hown : s.vm.findClass R_CO = some m.cls := findClass_of_methodNamed B.named
  have hlocks := B.notSynchronized
  clear hts0
  subst hsz
  have hD := hD0.self (sz := s.heap.size)
  generalize hAe : va_A (wz_150 h0 pr kn lt h0_localCount pe h0_pendingCount h0_gives h0_depth h0_loopDepth to bo cs se pr gl fu pa pf sf pk pg pp pz pv pr_reason pr_place pr_scanner_r pr_stepCount pr_open pr_twoSides pr_waiting_r pr_waitingPlaces_r pr_waitingCount lt clt wlt kn tr kns knz knt knv kn_length kns ckns gkns knz cknz gknz knt cknt gknt knv cknv gknv tr tx tr_length tx ctx gtx) s.heap.size = A at hD hSW ⊢
  have hA : ∀ q : Nat, s.heap.size ≤ q → A q := fun q h => by rw [← hAe]; exact Or.inr h
  clear hAe
  have hP : va_P (dC, dI) cls (wz_150 h0 pr kn lt h0_localCount pe h0_pendingCount h0_gives h0_depth h0_loopDepth to bo cs se pr gl fu pa pf sf pk pg pp pz pv pr_reason pr_place pr_scanner_r pr_stepCount pr_open pr_twoSides pr_waiting_r pr_waitingPlaces_r pr_waitingCount lt clt wlt kn tr kns knz knt knv kn_length kns ckns gkns knz cknz gknz knt cknt gknt knv cknv gknv tr tx tr_length tx ctx gtx) s.heap := hP
  have hl := lv_entry ([.ref h0, .int p0, .int p1, .int p2, .int p3]) (n := 5) (Nat.le_of_ble_eq_true rfl)
  rw [lg_entry_eq]
  generalize (lg_sl ([.ref h0, .int p0, .int p1, .int p2, .int p3]) ++ List.replicate (5 - (lg_sl ([.ref h0, .int p0, .int p1, .int p2, .int p3])).length) Slot.unset).toArray = ls at hl ⊢
  have hl : lv_has ls 5 [(0, .ref h0), (1, .int p0), (2, .int p1), (3, .int p2), (4, .int p3)] := hl
  have k0 : (0 : Int32).toInt = 0 := by decide
  refine w_gen (A := A) hP (fun H locs hP hS => ?_)
  have k1 : (1 : Int32).toInt = 1 := by decide
  have k4 : (4 : Int32).toInt = 4 := by decide
  have k5 : (5 : Int32).toInt = 5 := by decide
  have k50 : (50 : Int32).toInt = 50 := by decide
  have lo_p0 := i32_lo p0
  have hi_p0 := i32_hi p0
  have lo_p1 := i32_lo p1
  have hi_p1 := i32_hi p1
  have lo_p2 := i32_lo p2
  have hi_p2 := i32_hi p2
  have lo_p3 := i32_lo p3
  have hi_p3 := i32_hi p3
  refine lv_aload_n hx hb d_CO_addLocal_0 rfl (lv_at hl 0 rfl) ?_
  refine va_get (D := (dC, dI)) (ci := 2) (v := .ref kn) (C := R_CO) (T := F_CO) (N := 13) hx hb hts i_CO hown hK hP 0 rfl rfl 1 (by decide) (hts _ kF_CO_54) (fun _ h9 => h9) rfl d_CO_addLocal_1 ?_
  refine lv_iload_n hx hb d_CO_addLocal_4 rfl (lv_at hl 1 rfl) ?_
  refine lv_iload_n hx hb d_CO_addLocal_5 rfl (lv_at hl 2 rfl) ?_
  have hPc := hP.sb (wq := (wz_151 kn tr kns knz knt knv kn_length tr tx tr_length tx ctx gtx kns ckns gkns knz cknz gknz)) [3, 8, 9, 4, 5] rfl
  have hDc := hD.sb (wq := (wz_151 kn tr kns knz knt knv kn_length tr tx tr_length tx ctx gtx kns ckns gkns knz cknz gknz)) [3, 8, 9, 4, 5] (by decide) rfl
  have hKc := hK.sb (tyq := [(ctx, .byte), (ckns, .int), (cknz, .int)]) [5, 1, 2] rfl
  have hFc := va_free (wc := (wz_151 kn tr kns knz knt knv kn_length tr tx tr_length tx ctx gtx kns ckns gkns knz cknz gknz)) hD hS hA [3, 8, 9, 4, 5] rfl
  refine va_calli (va_runV (As := [.int p0, .int p1]) (rest := []) ⟨hx, hb, hml, hown, hts⟩ (c_NA_indexOf l dC dI H.size kn tr kns knz knt knv tx ctx ckns cknz kn_length tr_length gtx 50 gkns gknz (b_tr_length) p0 p1 (by (first | (apply Int.le_antisymm <;> omega) | omega)) (hp)) (cwV 2 hts (gV kM_CO_158 kV_NA_indexOf kS_NA_indexOf kI_NA kC_NA_indexOf) rfl rfl rfl (by decide +kernel) ⟨Nat.le_of_ble_eq_true rfl, Nat.le_of_ble_eq_true rfl⟩) ⟨fun a U g mk z => by obtain ⟨z0, z1, zP, zK, zD⟩ := z; exact ⟨z0, z1, zP, va_K.moved (u := U) (U := U.calling g mk a) (Vm.Alike.refl U.vm) zK, zD⟩, va_recv hKc hPc (ci := 5) (q0 := 0) rfl rfl, fun U hU hW => ⟨rfl, by rw [hU], va_P.he hU.symm hPc, va_K.moved hW.alike hKc, hDc.weaken (fun _ _ _ _ => trivial)⟩⟩ rfl rfl hl.1 rfl (lv_room (Nat.le_of_ble_eq_true rfl)) d_CO_addLocal_6 ⟨(Nat.zero_le _), (Nat.zero_le _)⟩) hS (fun q _ h => hFc q h) hFc (fun r1 u t H1 locs ht hvm hw hB hz1 hk1 hS => ?_)
  try dsimp only at hw
  have xr1 := hw
  try clear hw
  obtain ⟨hP1, hK1, hD1⟩ := hB
  replace hP1 := va_P.he ht hP1
  obtain ⟨hP, hD⟩ := va_join (wr := [(h0, .inr (2, [.ref pr, .ref kn, .ref lt, .int h0_localCount, .ref pe, .int h0_pendingCount, .int h0_gives, .int h0_depth, .int h0_loopDepth, .ref to, .ref bo, .ref cs, .ref se])), (pr, .inr (6, [.ref gl, .ref fu, .ref pa, .ref pf, .ref sf, .ref pk, .ref pg, .ref pp, .ref pz, .ref pv, .int pr_reason, .int pr_place, .ref pr_scanner_r, .int pr_stepCount, .int pr_open, .int pr_twoSides, .ref pr_waiting_r, .ref pr_waitingPlaces_r, .int pr_waitingCount])), (lt, .inl (clt, 50, .inl wlt)), (knt, .inl (cknt, 50, .inl gknt)), (knv, .inl (cknv, 50, .inr (.inl gknv)))]) (w1 := (wz_151 kn tr kns knz knt knv kn_length tr tx tr_length tx ctx gtx kns ckns gkns knz cknz gknz)) hP hD [3, 8, 9, 4, 5] [0, 1, 2, 6, 7] rfl rfl (by decide) (by decide) hk1 hFc hP1 hD1
  clear hPc hDc hKc hFc hz1 hk1 hP1 hK1 hD1
  rename Heap => H
  have hP : va_P (dC, dI) cls [(h0, .inr (2, [.ref pr, .ref kn, .ref lt, .int h0_localCount, .ref pe, .int h0_pendingCount, .int h0_gives, .int h0_depth, .int h0_loopDepth, .ref to, .ref bo, .ref cs, .ref se])), (pr, .inr (6, [.ref gl, .ref fu, .ref pa, .ref pf, .ref sf, .ref pk, .ref pg, .ref pp, .ref pz, .ref pv, .int pr_reason, .int pr_place, .ref pr_scanner_r, .int pr_stepCount, .int pr_open, .int pr_twoSides, .ref pr_waiting_r, .ref pr_waitingPlaces_r, .int pr_waitingCount])), (lt, .inl (clt, 50, .inl wlt)), (knt, .inl (cknt, 50, .inl gknt)), (knv, .inl (cknv, 50, .inr (.inl gknv))), (kn, .inr (5, [.ref tr, .ref kns, .ref knz, .ref knt, .ref knv, .int kn_length])), (tr, .inr (1, [.ref tx, .int tr_length])), (tx, .inl (ctx, 2000, .inl gtx)), (kns, .inl (ckns, 50, .inl gkns)), (knz, .inl (cknz, 50, .inl gknz))] H := hP
  have hD : va_D A [(h0, .inr (2, [.ref pr, .ref kn, .ref lt, .int h0_localCount, .ref pe, .int h0_pendingCount, .int h0_gives, .int h0_depth, .int h0_loopDepth, .ref to, .ref bo, .ref cs, .ref se])), (pr, .inr (6, [.ref gl, .ref fu, .ref pa, .ref pf, .ref sf, .ref pk, .ref pg, .ref pp, .ref pz, .ref pv, .int pr_reason, .int pr_place, .ref pr_scanner_r, .int pr_stepCount, .int pr_open, .int pr_twoSides, .ref pr_waiting_r, .ref pr_waitingPlaces_r, .int pr_waitingCount])), (lt, .inl (clt, 50, .inl wlt)), (knt, .inl (cknt, 50, .inl gknt)), (knv, .inl (cknv, 50, .inr (.inl gknv))), (kn, .inr (5, [.ref tr, .ref kns, .ref knz, .ref knt, .ref knv, .int kn_length])), (tr, .inr (1, [.ref tx, .int tr_length])), (tx, .inl (ctx, 2000, .inl gtx)), (kns, .inl (ckns, 50, .inl gkns)), (knz, .inl (cknz, 50, .inl gknz))] := hD
  refine lv_if_lt (tgt := 22) hx hb d_CO_addLocal_9 (by decide) (fun c9 => ?_) (fun c9 => ?_)
  · have q9 := ltI c9
    refine lv_aload_n hx hb d_CO_addLocal_22 rfl (lv_at hl 0 rfl) ?_
    refine va_get (D := (dC, dI)) (ci := 2) (v := .int h0_localCount) (C := R_CO) (T := F_CO) (N := 13) hx hb hts i_CO hown hK hP 0 rfl rfl 3 (by decide) (hts _ kF_CO_109) (fun _ h9 => h9) rfl d_CO_addLocal_23 ?_
    refine lv_bipush (v := 50) hx hb d_CO_addLocal_26 (by decide) ?_
    refine lv_icmp_lt (tgt := 42) hx hb d_CO_addLocal_28 (by decide) (fun c28 => ?_) (fun c28 => ?_)
    · have q28 := ltI c28
      refine lv_aload_n hx hb d_CO_addLocal_42 rfl (lv_at hl 0 rfl) ?_
      refine va_get (D := (dC, dI)) (ci := 2) (v := .ref kn) (C := R_CO) (T := F_CO) (N := 13) hx hb hts i_CO hown hK hP 0 rfl rfl 1 (by decide) (hts _ kF_CO_54) (fun _ h9 => h9) rfl d_CO_addLocal_43 ?_
      refine lv_iload_n hx hb d_CO_addLocal_46 rfl (lv_at hl 1 rfl) ?_
      refine lv_iload_n hx hb d_CO_addLocal_47 rfl (lv_at hl 2 rfl) ?_
      refine lv_iload_n hx hb d_CO_addLocal_48 rfl (lv_at hl 3 rfl) ?_
      refine lv_aload_n hx hb d_CO_addLocal_49 rfl (lv_at hl 0 rfl) ?_
      refine va_get (D := (dC, dI)) (ci := 2) (v := .int h0_localCount) (C := R_CO) (T := F_CO) (N := 13) hx hb hts i_CO hown hK hP 0 rfl rfl 3 (by decide) (hts _ kF_CO_109) (fun _ h9 => h9) rfl d_CO_addLocal_50 ?_
      refine lv_i2l hx hb d_CO_addLocal_53 rfl ?_
      refine lv_topl (fun x2 ex2 => ?_)
      have tx2 := i2l_t ex2
      have hPc := hP.sb (wq := (wz_152 kn tr kns knz knt knv kn_length kns ckns gkns knz cknz gknz knt cknt gknt knv cknv gknv)) [5, 8, 9, 3, 4] rfl
      have hDc := hD.sb (wq := (wz_152 kn tr kns knz knt knv kn_length kns ckns gkns knz cknz gknz knt cknt gknt knv cknv gknv)) [5, 8, 9, 3, 4] (by decide) rfl
      have hKc := hK.sb (tyq := [(ckns, .int), (cknz, .int), (cknt, .int), (cknv, .long)]) [1, 2, 3, 4] rfl
      have hFc := va_free (wc := (wz_152 kn tr kns knz knt knv kn_length kns ckns gkns knz cknz gknz knt cknt gknt knv cknv gknv)) hD hS hA [5, 8, 9, 3, 4] rfl
      refine va_callv (va_runV (As := [.int p0, .int p1, .int p2, .long x2]) (rest := []) ⟨hx, hb, hml, hown, hts⟩ (c_NA_add l dC dI H.size kn tr kns knz knt knv ckns cknz cknt cknv kn_length 50 gkns gknz gknt gknv p0 p1 p2 x2 (by (first | (apply Int.le_antisymm <;> omega) | omega))) (cwV 4 hts (gV kM_CO_162 kV_NA_add kS_NA_add kI_NA kC_NA_add) rfl rfl rfl (by decide +kernel) ⟨Nat.le_of_ble_eq_true rfl, Nat.le_of_ble_eq_true rfl⟩) ⟨fun a U g mk z => by obtain ⟨z0, z1, zP, zK, zD⟩ := z; exact ⟨z0, z1, zP, va_K.moved (u := U) (U := U.calling g mk a) (Vm.Alike.refl U.vm) zK, zD⟩, va_recv hKc hPc (ci := 5) (q0 := 0) rfl rfl, fun U hU hW => ⟨rfl, by rw [hU], va_P.he hU.symm hPc, va_K.moved hW.alike hKc, hDc.weaken (fun _ _ _ _ => trivial)⟩⟩ rfl rfl hl.1 rfl (lv_room (Nat.le_of_ble_eq_true rfl)) d_CO_addLocal_54 ⟨(Nat.zero_le _), (Nat.zero_le _)⟩) hS (fun q _ h => hFc q h) hFc (fun u t H1 locs ht hvm hw hB hz1 hk1 hS => ?_)
      obtain ⟨n4, n5, n6, n7, n8⟩ := u
      try dsimp only at hw
      have xr3 := hw
      try clear hw
      have w_add := xr3.1 (by (first | (apply Int.le_antisymm <;> omega) | omega))
      clear xr3
      rw [ex2] at w_add
      obtain ⟨hP1, hK1, hD1⟩ := hB
      replace hP1 := va_P.he ht hP1
      obtain ⟨hP, hD⟩ := va_join (wr := [(h0, .inr (2, [.ref pr, .ref kn, .ref lt, .int h0_localCount, .ref pe, .int h0_pendingCount, .int h0_gives, .int h0_depth, .int h0_loopDepth, .ref to, .ref bo, .ref cs, .ref se])), (pr, .inr (6, [.ref gl, .ref fu, .ref pa, .ref pf, .ref sf, .ref pk, .ref pg, .ref pp, .ref pz, .ref pv, .int pr_reason, .int pr_place, .ref pr_scanner_r, .int pr_stepCount, .int pr_open, .int pr_twoSides, .ref pr_waiting_r, .ref pr_waitingPlaces_r, .int pr_waitingCount])), (lt, .inl (clt, 50, .inl wlt)), (tr, .inr (1, [.ref tx, .int tr_length])), (tx, .inl (ctx, 2000, .inl gtx))]) (w1 := (wz_152 kn tr kns knz knt knv n8 kns ckns n4 knz cknz n7 knt cknt n5 knv cknv n6)) hP hD [5, 8, 9, 3, 4] [0, 1, 2, 6, 7] rfl rfl (by decide) (by decide) hk1 hFc hP1 hD1
      clear hPc hDc hKc hFc hz1 hk1 hP1 hK1 hD1
      rename Heap => H
      have hP : va_P (dC, dI) cls [(h0, .inr (2, [.ref pr, .ref kn, .ref lt, .int h0_localCount, .ref pe, .int h0_pendingCount, .int h0_gives, .int h0_depth, .int h0_loopDepth, .ref to, .ref bo, .ref cs, .ref se])), (pr, .inr (6, [.ref gl, .ref fu, .ref pa, .ref pf, .ref sf, .ref pk, .ref pg, .ref pp, .ref pz, .ref pv, .int pr_reason, .int pr_place, .ref pr_scanner_r, .int pr_stepCount, .int pr_open, .int pr_twoSides, .ref pr_waiting_r, .ref pr_waitingPlaces_r, .int pr_waitingCount])), (lt, .inl (clt, 50, .inl wlt)), (tr, .inr (1, [.ref tx, .int tr_length])), (tx, .inl (ctx, 2000, .inl gtx)), (kn, .inr (5, [.ref tr, .ref kns, .ref knz, .ref knt, .ref knv, .int n8])), (kns, .inl (ckns, 50, .inl n4)), (knz, .inl (cknz, 50, .inl n7)), (knt, .inl (cknt, 50, .inl n5)), (knv, .inl (cknv, 50, .inr (.inl n6)))] H := hP
      have hD : va_D A [(h0, .inr (2, [.ref pr, .ref kn, .ref lt, .int h0_localCount, .ref pe, .int h0_pendingCount, .int h0_gives, .int h0_depth, .int h0_loopDepth, .ref to, .ref bo, .ref cs, .ref se])), (pr, .inr (6, [.ref gl, .ref fu, .ref pa, .ref pf, .ref sf, .ref pk, .ref pg, .ref pp, .ref pz, .ref pv, .int pr_reason, .int pr_place, .ref pr_scanner_r, .int pr_stepCount, .int pr_open, .int pr_twoSides, .ref pr_waiting_r, .ref pr_waitingPlaces_r, .int pr_waitingCount])), (lt, .inl (clt, 50, .inl wlt)), (tr, .inr (1, [.ref tx, .int tr_length])), (tx, .inl (ctx, 2000, .inl gtx)), (kn, .inr (5, [.ref tr, .ref kns, .ref knz, .ref knt, .ref knv, .int n8])), (kns, .inl (ckns, 50, .inl n4)), (knz, .inl (cknz, 50, .inl n7)), (knt, .inl (cknt, 50, .inl n5)), (knv, .inl (cknv, 50, .inr (.inl n6)))] := hD
      refine lv_aload_n hx hb d_CO_addLocal_57 rfl (lv_at hl 0 rfl) ?_
      refine va_get (D := (dC, dI)) (ci := 2) (v := .ref lt) (C := R_CO) (T := F_CO) (N := 13) hx hb hts i_CO hown hK hP 0 rfl rfl 2 (by decide) (hts _ kF_CO_9) (fun _ h9 => h9) rfl d_CO_addLocal_58 ?_
      refine lv_aload_n hx hb d_CO_addLocal_61 rfl (lv_at hl 0 rfl) ?_
      refine va_get (D := (dC, dI)) (ci := 2) (v := .int h0_localCount) (C := R_CO) (T := F_CO) (N := 13) hx hb hts i_CO hown hK hP 0 rfl rfl 3 (by decide) (hts _ kF_CO_109) (fun _ h9 => h9) rfl d_CO_addLocal_62 ?_
      refine lv_iload_n hx hb d_CO_addLocal_65 rfl (lv_at hl 3 rfl) ?_
      have g66 : vp_in h0_localCount 50 := vp_in_iff.mpr ⟨by (first | (apply Int.le_antisymm <;> omega) | omega), by (first | (apply Int.le_antisymm <;> omega) | omega)⟩
      refine va_iast hx hb hK hP hD hS 2 0 rfl rfl g66 d_CO_addLocal_66 (fun H locs hP hD hS => ?_)
      generalize ef9 : upd wlt h0_localCount.toNatClampNeg p2 = f9 at hP hD
      refine lv_aload_n hx hb d_CO_addLocal_67 rfl (lv_at hl 0 rfl) ?_
      refine lv_dup hx hb d_CO_addLocal_68 rfl ?_
      refine va_get (D := (dC, dI)) (ci := 2) (v := .int h0_localCount) (C := R_CO) (T := F_CO) (N := 13) hx hb hts i_CO hown hK hP 0 rfl rfl 3 (by decide) (hts _ kF_CO_109) (fun _ h9 => h9) rfl d_CO_addLocal_69 ?_
      refine lv_iconst (v := 1) hx hb d_CO_addLocal_72 (by decide) ?_
      refine lv_iadd hx hb d_CO_addLocal_73 ?_
      refine lv_topi (fun x10 ex10 => ?_)
      have tx10 : x10.toInt = h0_localCount.toInt + 1 := by have z := i32_add ex10 (by (first | (apply Int.le_antisymm <;> omega) | omega)) (by (first | (apply Int.le_antisymm <;> omega) | omega)); first | exact z | (first | (apply Int.le_antisymm <;> omega) | omega)
      refine va_put (D := (dC, dI)) (ci := 2) (v := .int x10) (ty := .int) (C := R_CO) (T := F_CO) (N := 13) hx hb hts i_CO t_CO t_CO_ok n_CO hown hK hP hD hS 0 rfl rfl 3 (by decide) (hts _ kF_CO_109) (fun _ h9 => h9) rfl (by decide +kernel) rfl rfl (Nat.le_of_ble_eq_true rfl) d_CO_addLocal_74 (fun H locs hP hD hS => ?_)
      have hP9 := hP.sb (wq := (wz_150 h0 pr kn lt x10 pe h0_pendingCount h0_gives h0_depth h0_loopDepth to bo cs se pr gl fu pa pf sf pk pg pp pz pv pr_reason pr_place pr_scanner_r pr_stepCount pr_open pr_twoSides pr_waiting_r pr_waitingPlaces_r pr_waitingCount lt clt f9 kn tr kns knz knt knv n8 kns ckns n4 knz cknz n7 knt cknt n5 knv cknv n6 tr tx tr_length tx ctx gtx)) [0, 1, 2, 5, 6, 7, 8, 9, 3, 4] rfl
      have hD9 := hD.sb (wq := (wz_150 h0 pr kn lt x10 pe h0_pendingCount h0_gives h0_depth h0_loopDepth to bo cs se pr gl fu pa pf sf pk pg pp pz pv pr_reason pr_place pr_scanner_r pr_stepCount pr_open pr_twoSides pr_waiting_r pr_waitingPlaces_r pr_waitingCount lt clt f9 kn tr kns knz knt knv n8 kns ckns n4 knz cknz n7 knt cknt n5 knv cknv n6 tr tx tr_length tx ctx gtx)) [0, 1, 2, 5, 6, 7, 8, 9, 3, 4] (by decide) rfl
      exact tz_up (fun _ => rfl) (W.vret hx hb hr (fun t ht hW => ⟨⟨(n4, n5, n6, n7, f9, x10, n8, pr_place, pr_reason), ⟨rfl, ⟨by (try dsimp only) <;> (first | (apply Int.le_antisymm <;> omega) | omega), by (try dsimp only) <;> (first | (apply Int.le_antisymm <;> omega) | omega), ⟨by (try dsimp only) <;> (first | (apply Int.le_antisymm <;> omega) | omega), w_add, by (try dsimp only) <;> exact ef9.symm⟩⟩⟩, va_P.he ht.symm hP9, va_K.moved hW.alike hK, hD9⟩, hS.F ht⟩) hS.2.2 d_CO_addLocal_77)
    · have q28 := nltI c28
      refine lv_aload_n hx hb d_CO_addLocal_31 rfl (lv_at hl 0 rfl) ?_
      refine va_get (D := (dC, dI)) (ci := 2) (v := .ref pr) (C := R_CO) (T := F_CO) (N := 13) hx hb hts i_CO hown hK hP 0 rfl rfl 0 (by decide) (hts _ kF_CO_36) (fun _ h9 => h9) rfl d_CO_addLocal_32 ?_
      refine lv_iconst (v := 5) hx hb d_CO_addLocal_35 (by decide) ?_
      refine lv_iload hx hb d_CO_addLocal_36 (lv_at hl 4 rfl) ?_
      have hPc := hP.sb (wq := (wz_110 pr gl fu pa pf sf pk pg pp pz pv pr_reason pr_place pr_scanner_r pr_stepCount pr_open pr_twoSides pr_waiting_r pr_waitingPlaces_r pr_waitingCount)) [1] rfl
      have hDc := hD.sb (wq := (wz_110 pr gl fu pa pf sf pk pg pp pz pv pr_reason pr_place pr_scanner_r pr_stepCount pr_open pr_twoSides pr_waiting_r pr_waitingPlaces_r pr_waitingCount)) [1] (by decide) rfl
      have hKc := hK.sb (tyq := []) [] rfl
      have hFc := va_free (wc := (wz_110 pr gl fu pa pf sf pk pg pp pz pv pr_reason pr_place pr_scanner_r pr_stepCount pr_open pr_twoSides pr_waiting_r pr_waitingPlaces_r pr_waitingCount)) hD hS hA [1] rfl
      refine tq_callv (tz_runV (As := [.int 5, .int p3]) (rest := []) ⟨hx, hb, hml, hown, hts⟩ (c_PR_refuse l hlt dC dI H.size sa pr gl fu pa pf sf pk pg pp pz pv pr_scanner_r pr_waiting_r pr_waitingPlaces_r pr_reason pr_place pr_stepCount pr_open pr_twoSides pr_waitingCount 5 p3) (cwV 2 hts (gV kM_CO_105 kV_PR_refuse kS_PR_refuse kI_PR kC_PR_refuse) rfl rfl rfl (by decide +kernel) ⟨Nat.le_of_ble_eq_true rfl, Nat.le_of_ble_eq_true rfl⟩) ⟨fun a U g mk z => by obtain ⟨z0, z1, zP, zK, zD, zS⟩ := z; exact ⟨z0, z1, zP, va_K.moved (u := U) (U := U.calling g mk a) (Vm.Alike.refl U.vm) zK, zD, sw.same (u := U) (U := U.calling g mk a) rfl zS⟩, va_recv hKc hPc (ci := 6) (q0 := 0) rfl rfl, fun U hU hW => ⟨rfl, by rw [hU], va_P.he hU.symm hPc, va_K.moved hW.alike hKc, hDc.weaken (fun _ _ _ _ => trivial), hSW.call hS hFc hW hU⟩⟩ rfl rfl hl.1 rfl (lv_room (Nat.le_of_ble_eq_true rfl)) d_CO_addLocal_38 ⟨Nat.le_of_ble_eq_true rfl, Nat.le_of_ble_eq_true rfl⟩) hS (fun q _ h => hFc q h) hFc (fun u t H1 locs ht hvm hw hB hz1 hk1 hS => ?_) (fun xx u t H1 locs ht hvm hw hXX hB hz1 hk1 hS => ?_)
      rotate_left
      · skip
        obtain ⟨n12, n13⟩ := u
        try dsimp only at hw
        obtain ⟨hP1, hK1, hD1⟩ := hB
        replace hP1 := va_P.he ht hP1
        obtain ⟨hP, hD⟩ := va_join (wr := [(h0, .inr (2, [.ref pr, .ref kn, .ref lt, .int h0_localCount, .ref pe, .int h0_pendingCount, .int h0_gives, .int h0_depth, .int h0_loopDepth, .ref to, .ref bo, .ref cs, .ref se])), (lt, .inl (clt, 50, .inl wlt)), (knt, .inl (cknt, 50, .inl gknt)), (knv, .inl (cknv, 50, .inr (.inl gknv))), (kn, .inr (5, [.ref tr, .ref kns, .ref knz, .ref knt, .ref knv, .int kn_length])), (tr, .inr (1, [.ref tx, .int tr_length])), (tx, .inl (ctx, 2000, .inl gtx)), (kns, .inl (ckns, 50, .inl gkns)), (knz, .inl (cknz, 50, .inl gknz))]) (w1 := (wz_110 pr gl fu pa pf sf pk pg pp pz pv n13 n12 pr_scanner_r pr_stepCount pr_open pr_twoSides pr_waiting_r pr_waitingPlaces_r pr_waitingCount)) hP hD [1] [0, 2, 3, 4, 5, 6, 7, 8, 9] rfl rfl (by decide) (by decide) hk1 hFc hP1 hD1
        have hP : va_P (dC, dI) cls (wz_153 h0 pr kn lt h0_localCount pe h0_pendingCount h0_gives h0_depth h0_loopDepth to bo cs se lt clt wlt knt cknt gknt knv cknv gknv kn tr kns knz knt knv kn_length tr tx tr_length tx ctx gtx kns ckns gkns knz cknz gknz pr gl fu pa pf sf pk pg pp pz pv n13 n12 pr_scanner_r pr_stepCount pr_open pr_twoSides pr_waiting_r pr_waitingPlaces_r pr_waitingCount) H1 := hP
        have hD : va_D A (wz_153 h0 pr kn lt h0_localCount pe h0_pendingCount h0_gives h0_depth h0_loopDepth to bo cs se lt clt wlt knt cknt gknt knv cknv gknv kn tr kns knz knt knv kn_length tr tx tr_length tx ctx gtx kns ckns gkns knz cknz gknz pr gl fu pa pf sf pk pg pp pz pv n13 n12 pr_scanner_r pr_stepCount pr_open pr_twoSides pr_waiting_r pr_waitingPlaces_r pr_waitingCount) := hD
        have hP9 := hP.sb (wq := (wz_150 h0 pr kn lt h0_localCount pe h0_pendingCount h0_gives h0_depth h0_loopDepth to bo cs se pr gl fu pa pf sf pk pg pp pz pv n13 n12 pr_scanner_r pr_stepCount pr_open pr_twoSides pr_waiting_r pr_waitingPlaces_r pr_waitingCount lt clt wlt kn tr kns knz knt knv kn_length kns ckns gkns knz cknz gknz knt cknt gknt knv cknv gknv tr tx tr_length tx ctx gtx)) [0, 9, 1, 4, 7, 8, 2, 3, 5, 6] rfl
        have hD9 := hD.sb (wq := (wz_150 h0 pr kn lt h0_localCount pe h0_pendingCount h0_gives h0_depth h0_loopDepth to bo cs se pr gl fu pa pf sf pk pg pp pz pv n13 n12 pr_scanner_r pr_stepCount pr_open pr_twoSides pr_waiting_r pr_waitingPlaces_r pr_waitingCount lt clt wlt kn tr kns knz knt knv kn_length kns ckns gkns knz cknz gknz knt cknt gknt knv cknv gknv tr tx tr_length tx ctx gtx)) [0, 9, 1, 4, 7, 8, 2, 3, 5, 6] (by decide) rfl
        exact tz_leave rfl hno hlocks (fun t ht hW => ⟨⟨(gkns, gknt, gknv, gknz, wlt, h0_localCount, kn_length, n12, n13), ⟨⟨b_h0_localCount, b_kn_length⟩, by rw [ht]; exact hXX.moved hW.alike⟩, va_P.he ht.symm hP9, va_K.moved hW.alike hK, hD9⟩, hS.F ht⟩) hS.2.2
      exact (show False from hw).elim
  · have q9 := nltI c9
    refine lv_aload_n hx hb d_CO_addLocal_12 rfl (lv_at hl 0 rfl) ?_
    refine va_get (D := (dC, dI)) (ci := 2) (v := .ref pr) (C := R_CO) (T := F_CO) (N := 13) hx hb hts i_CO hown hK hP 0 rfl rfl 0 (by decide) (hts _ kF_CO_36) (fun _ h9 => h9) rfl d_CO_addLocal_13 ?_
    refine lv_iconst (v := 4) hx hb d_CO_addLocal_16 (by decide) ?_
    refine lv_iload hx hb d_CO_addLocal_17 (lv_at hl 4 rfl) ?_
    have hPc := hP.sb (wq := (wz_110 pr gl fu pa pf sf pk pg pp pz pv pr_reason pr_place pr_scanner_r pr_stepCount pr_open pr_twoSides pr_waiting_r pr_waitingPlaces_r pr_waitingCount)) [1] rfl
    have hDc := hD.sb (wq := (wz_110 pr gl fu pa pf sf pk pg pp pz pv pr_reason pr_place pr_scanner_r pr_stepCount pr_open pr_twoSides pr_waiting_r pr_waitingPlaces_r pr_waitingCount)) [1] (by decide) rfl
    have hKc := hK.sb (tyq := []) [] rfl
    have hFc := va_free (wc := (wz_110 pr gl fu pa pf sf pk pg pp pz pv pr_reason pr_place pr_scanner_r pr_stepCount pr_open pr_twoSides pr_waiting_r pr_waitingPlaces_r pr_waitingCount)) hD hS hA [1] rfl
    refine tq_callv (tz_runV (As := [.int 4, .int p3]) (rest := []) ⟨hx, hb, hml, hown, hts⟩ (c_PR_refuse l hlt dC dI H.size sa pr gl fu pa pf sf pk pg pp pz pv pr_scanner_r pr_waiting_r pr_waitingPlaces_r pr_reason pr_place pr_stepCount pr_open pr_twoSides pr_waitingCount 4 p3) (cwV 2 hts (gV kM_CO_105 kV_PR_refuse kS_PR_refuse kI_PR kC_PR_refuse) rfl rfl rfl (by decide +kernel) ⟨Nat.le_of_ble_eq_true rfl, Nat.le_of_ble_eq_true rfl⟩) ⟨fun a U g mk z => by obtain ⟨z0, z1, zP, zK, zD, zS⟩ := z; exact ⟨z0, z1, zP, va_K.moved (u := U) (U := U.calling g mk a) (Vm.Alike.refl U.vm) zK, zD, sw.same (u := U) (U := U.calling g mk a) rfl zS⟩, va_recv hKc hPc (ci := 6) (q0 := 0) rfl rfl, fun U hU hW => ⟨rfl, by rw [hU], va_P.he hU.symm hPc, va_K.moved hW.alike hKc, hDc.weaken (fun _ _ _ _ => trivial), hSW.call hS hFc hW hU⟩⟩ rfl rfl hl.1 rfl (lv_room (Nat.le_of_ble_eq_true rfl)) d_CO_addLocal_19 ⟨Nat.le_of_ble_eq_true rfl, Nat.le_of_ble_eq_true rfl⟩) hS (fun q _ h => hFc q h) hFc (fun u t H1 locs ht hvm hw hB hz1 hk1 hS => ?_) (fun xx u t H1 locs ht hvm hw hXX hB hz1 hk1 hS => ?_)
    rotate_left
    · skip
      obtain ⟨n15, n16⟩ := u
      try dsimp only at hw
      obtain ⟨hP1, hK1, hD1⟩ := hB
      replace hP1 := va_P.he ht hP1
      obtain ⟨hP, hD⟩ := va_join (wr := [(h0, .inr (2, [.ref pr, .ref kn, .ref lt, .int h0_localCount, .ref pe, .int h0_pendingCount, .int h0_gives, .int h0_depth, .int h0_loopDepth, .ref to, .ref bo, .ref cs, .ref se])), (lt, .inl (clt, 50, .inl wlt)), (knt, .inl (cknt, 50, .inl gknt)), (knv, .inl (cknv, 50, .inr (.inl gknv))), (kn, .inr (5, [.ref tr, .ref kns, .ref knz, .ref knt, .ref knv, .int kn_length])), (tr, .inr (1, [.ref tx, .int tr_length])), (tx, .inl (ctx, 2000, .inl gtx)), (kns, .inl (ckns, 50, .inl gkns)), (knz, .inl (cknz, 50, .inl gknz))]) (w1 := (wz_110 pr gl fu pa pf sf pk pg pp pz pv n16 n15 pr_scanner_r pr_stepCount pr_open pr_twoSides pr_waiting_r pr_waitingPlaces_r pr_waitingCount)) hP hD [1] [0, 2, 3, 4, 5, 6, 7, 8, 9] rfl rfl (by decide) (by decide) hk1 hFc hP1 hD1
      have hP : va_P (dC, dI) cls (wz_153 h0 pr kn lt h0_localCount pe h0_pendingCount h0_gives h0_depth h0_loopDepth to bo cs se lt clt wlt knt cknt gknt knv cknv gknv kn tr kns knz knt knv kn_length tr tx tr_length tx ctx gtx kns ckns gkns knz cknz gknz pr gl fu pa pf sf pk pg pp pz pv n16 n15 pr_scanner_r pr_stepCount pr_open pr_twoSides pr_waiting_r pr_waitingPlaces_r pr_waitingCount) H1 := hP
      have hD : va_D A (wz_153 h0 pr kn lt h0_localCount pe h0_pendingCount h0_gives h0_depth h0_loopDepth to bo cs se lt clt wlt knt cknt gknt knv cknv gknv kn tr kns knz knt knv kn_length tr tx tr_length tx ctx gtx kns ckns gkns knz cknz gknz pr gl fu pa pf sf pk pg pp pz pv n16 n15 pr_scanner_r pr_stepCount pr_open pr_twoSides pr_waiting_r pr_waitingPlaces_r pr_waitingCount) := hD
      have hP9 := hP.sb (wq := (wz_150 h0 pr kn lt h0_localCount pe h0_pendingCount h0_gives h0_depth h0_loopDepth to bo cs se pr gl fu pa pf sf pk pg pp pz pv n16 n15 pr_scanner_r pr_stepCount pr_open pr_twoSides pr_waiting_r pr_waitingPlaces_r pr_waitingCount lt clt wlt kn tr kns knz knt knv kn_length kns ckns gkns knz cknz gknz knt cknt gknt knv cknv gknv tr tx tr_length tx ctx gtx)) [0, 9, 1, 4, 7, 8, 2, 3, 5, 6] rfl
      have hD9 := hD.sb (wq := (wz_150 h0 pr kn lt h0_localCount pe h0_pendingCount h0_gives h0_depth h0_loopDepth to bo cs se pr gl fu pa pf sf pk pg pp pz pv n16 n15 pr_scanner_r pr_stepCount pr_open pr_twoSides pr_waiting_r pr_waitingPlaces_r pr_waitingCount lt clt wlt kn tr kns knz knt knv kn_length kns ckns gkns knz cknz gknz knt cknt gknt knv cknv gknv tr tx tr_length tx ctx gtx)) [0, 9, 1, 4, 7, 8, 2, 3, 5, 6] (by decide) rfl
      exact tz_leave rfl hno hlocks (fun t ht hW => ⟨⟨(gkns, gknt, gknv, gknz, wlt, h0_localCount, kn_length, n15, n16), ⟨⟨b_h0_localCount, b_kn_length⟩, by rw [ht]; exact hXX.moved hW.alike⟩, va_P.he ht.symm hP9, va_K.moved hW.alike hK, hD9⟩, hS.F ht⟩) hS.2.2
    exact (show False from hw).elim
end q_60
section q_61
/-! Coder: loops, conditions -/
abbrev b_CO_takeCondition : ByteArray := prog_4_method_17_code
def y_CO_takeCondition : MethodName := ⟨R_CO, "takeCondition", "(I)V"⟩
abbrev w_CO_takeCondition : List Cond := .code y_CO_takeCondition b_CO_takeCondition 2 none :: lw_g
theorem kC_CO_takeCondition : Cond.code y_CO_takeCondition b_CO_takeCondition 2 none ∈ lw_g := in_c6 4 rfl rfl
theorem d_CO_takeCondition_0 : decode b_CO_takeCondition 0 = .ok (.aload_n 0, 1) := bz_c42 (by decide +kernel)
theorem d_CO_takeCondition_1 : decode b_CO_takeCondition 1 = .ok (.invokevirtual 224, 3) := bz_c182 (by decide +kernel)
theorem d_CO_takeCondition_4 : decode b_CO_takeCondition 4 = .ok (.bipush 127, 2) := bz_c16 (by decide +kernel)
theorem d_CO_takeCondition_6 : decode b_CO_takeCondition 6 = .ok (.if_icmp .eq 12, 3) := bz_c159 (by decide +kernel)
theorem d_CO_takeCondition_9 : decode b_CO_takeCondition 9 = .ok (.aload_n 0, 1) := bz_c42 (by decide +kernel)
theorem d_CO_takeCondition_10 : decode b_CO_takeCondition 10 = .ok (.getfield 36, 3) := bz_c180 (by decide +kernel)
theorem d_CO_takeCondition_13 : decode b_CO_takeCondition 13 = .ok (.iconst 3, 1) := bz_c6 (by decide +kernel)
theorem d_CO_takeCondition_14 : decode b_CO_takeCondition 14 = .ok (.iload_n 1, 1) := bz_c27 (by decide +kernel)
theorem d_CO_takeCondition_15 : decode b_CO_takeCondition 15 = .ok (.invokevirtual 105, 3) := bz_c182 (by decide +kernel)
theorem d_CO_takeCondition_18 : decode b_CO_takeCondition 18 = .ok (.return_, 1) := bz_c177 (by decide +kernel)
theorem kM_CO_224 : Cond.methodLink R_CO 224 y_CO_pop ∈ lw_g := in_c5 179 rfl rfl
theorem kV_CO_pop : Cond.instanceMethod y_CO_pop ∈ lw_g := in_c5 181 rfl rfl
theorem kS_CO_pop : Cond.selects R_CO y_CO_pop y_CO_pop ∈ lw_g := in_s 40 (by decide +kernel) rfl
abbrev at_CO_takeCondition (dC : Nat → ClassId) (dI : Nat → Nat → Nat) (sa : Nat → Nat) (h0 pr kn lt pe to bo cs se gl fu pa pf sf pk pg pp pz pv pr_scanner_r pr_waiting_r pr_waitingPlaces_r : Nat) (cpe : ClassId) (h0_localCount : Int32) (h0_gives : Int32) (h0_depth : Int32) (h0_loopDepth : Int32) (pr_stepCount : Int32) (pr_open : Int32) (pr_twoSides : Int32) (pr_waitingCount : Int32) (gpe : Nat → Int32) (A : Nat → Prop) (u : Int32 × Int32 × Int32) (t : State) : Prop := match u with | (h0_pendingCount, pr_place, pr_reason) => va_P (dC, dI) cls (wz_154 h0 pr kn lt h0_localCount pe h0_pendingCount h0_gives h0_depth h0_loopDepth to bo cs se pr gl fu pa pf sf pk pg pp pz pv pr_reason pr_place pr_scanner_r pr_stepCount pr_open pr_twoSides pr_waiting_r pr_waitingPlaces_r pr_waitingCount pe cpe gpe) t.heap ∧ va_K (dC, dI) cls [(cpe, .int)] t ∧ va_D A (wz_154 h0 pr kn lt h0_localCount pe h0_pendingCount h0_gives h0_depth h0_loopDepth to bo cs se pr gl fu pa pf sf pk pg pp pz pv pr_reason pr_place pr_scanner_r pr_stepCount pr_open pr_twoSides pr_waiting_r pr_waitingPlaces_r pr_waitingCount pe cpe gpe)
set_option maxHeartbeats 4000000 in
set_option maxRecDepth 100000 in
theorem c_CO_takeCondition (l : Launch) (hlt : l.stackTraces = false) (dC : Nat → ClassId) (dI : Nat → Nat → Nat) (sz : Nat) (sa : Nat → Nat) (h0 pr kn lt pe to bo cs se gl fu pa pf sf pk pg pp pz pv pr_scanner_r pr_waiting_r pr_waitingPlaces_r : Nat) (cpe : ClassId) (h0_localCount : Int32) (h0_pendingCount : Int32) (h0_gives : Int32) (h0_depth : Int32) (h0_loopDepth : Int32) (pr_reason : Int32) (pr_place : Int32) (pr_stepCount : Int32) (pr_open : Int32) (pr_twoSides : Int32) (pr_waitingCount : Int32) (gpe : Nat → Int32)  (b_h0_pendingCount : 0 ≤ h0_pendingCount.toInt ∧ h0_pendingCount.toInt ≤ 680) (p0 : Int32)  (hpc : 1 ≤ h0_pendingCount.toInt) : tz_Met l y_CO_takeCondition w_CO_takeCondition ({ frames := 7, cells := 1, slots := 6, locals := 112 }) (va_Pc [.ref h0, .int p0] (fun U => U.heap.size = sz ∧ va_P (dC, dI) cls (wz_154 h0 pr kn lt h0_localCount pe h0_pendingCount h0_gives h0_depth h0_loopDepth to bo cs se pr gl fu pa pf sf pk pg pp pz pv pr_reason pr_place pr_scanner_r pr_stepCount pr_open pr_twoSides pr_waiting_r pr_waitingPlaces_r pr_waitingCount pe cpe gpe) U.heap ∧ va_K (dC, dI) cls [(cpe, .int)] U ∧ va_D (fun _ => True) (wz_154 h0 pr kn lt h0_localCount pe h0_pendingCount h0_gives h0_depth h0_loopDepth to bo cs se pr gl fu pa pf sf pk pg pp pz pv pr_reason pr_place pr_scanner_r pr_stepCount pr_open pr_twoSides pr_waiting_r pr_waitingPlaces_r pr_waitingCount pe cpe gpe) ∧ sw sa (va_A (wz_154 h0 pr kn lt h0_localCount pe h0_pendingCount h0_gives h0_depth h0_loopDepth to bo cs se pr gl fu pa pf sf pk pg pp pz pv pr_reason pr_place pr_scanner_r pr_stepCount pr_open pr_twoSides pr_waiting_r pr_waitingPlaces_r pr_waitingCount pe cpe gpe) sz) U U.heap)) (tq_Q (tq_v (fun (u : Int32 × Int32 × Int32) => match u with | (h0_pendingCount2, pr_place2, pr_reason2) => (0 ≤ h0_pendingCount2.toInt ∧ h0_pendingCount2.toInt ≤ 680) ∧ (h0_pendingCount2.toInt = h0_pendingCount.toInt - 1 ∧ (gpe h0_pendingCount2.toNatClampNeg).toInt = 127)) "java/lang/UnsupportedOperationException" (fun (u : Int32 × Int32 × Int32) => match u with | (h0_pendingCount2, pr_place2, pr_reason2) => (0 ≤ h0_pendingCount2.toInt ∧ h0_pendingCount2.toInt ≤ 680))) (at_CO_takeCondition dC dI sa h0 pr kn lt pe to bo cs se gl fu pa pf sf pk pg pp pz pv pr_scanner_r pr_waiting_r pr_waitingPlaces_r cpe h0_localCount h0_gives h0_depth h0_loopDepth pr_stepCount pr_open pr_twoSides pr_waitingCount gpe (va_A (wz_154 h0 pr kn lt h0_localCount pe h0_pendingCount h0_gives h0_depth h0_loopDepth to bo cs se pr gl fu pa pf sf pk pg pp pz pv pr_reason pr_place pr_scanner_r pr_stepCount pr_open pr_twoSides pr_waiting_r pr_waitingPlaces_r pr_waitingCount pe cpe gpe) sz)) (va_A (wz_154 h0 pr kn lt h0_localCount pe h0_pendingCount h0_gives h0_depth h0_loopDepth to bo cs se pr gl fu pa pf sf pk pg pp pz pv pr_reason pr_place pr_scanner_r pr_stepCount pr_open pr_twoSides pr_waiting_r pr_waitingPlaces_r pr_waitingCount pe cpe gpe) sz)) (tz_k 0 0 1 6) (va_A (wz_154 h0 pr kn lt h0_localCount pe h0_pendingCount h0_gives h0_depth h0_loopDepth to bo cs se pr gl fu pa pf sf pk pg pp pz pv pr_reason pr_place pr_scanner_r pr_stepCount pr_open pr_twoSides pr_waiting_r pr_waitingPlaces_r pr_waitingCount pe cpe gpe) sz) := by
  refine tz_ofW (cc := b_CO_takeCondition) (maxL := 2) (ret := none) (by decide) rfl ?_
  intro p e s m args below meth c s₁ B hml hno hv
  obtain ⟨rfl, hsz, hP, hK, hD0, hSW⟩ := hv
  have hx := B.exec
  have hb := B.bytes
  have hr := B.returns
  have hts0 := atoms_spec (ws := w_CO_takeCondition) B.pre
  have hts : ∀ w ∈ lw_g, w.before _ s = true := fun w h => hts0 w (List.mem_cons_of_mem _ h)
  have hown : s.vm.findClass R_CO = some m.cls := findClass_of_methodNamed B.named
  have hlocks := B.notSynchronized
  clear hts0
  subst hsz
  have hD := hD0.self (sz := s.heap.size)
  generalize hAe : va_A (wz_154 h0 pr kn lt h0_localCount pe h0_pendingCount h0_gives h0_depth h0_loopDepth to bo cs se pr gl fu pa pf sf pk pg pp pz pv pr_reason pr_place pr_scanner_r pr_stepCount pr_open pr_twoSides pr_waiting_r pr_waitingPlaces_r pr_waitingCount pe cpe gpe) s.heap.size = A at hD hSW ⊢
  have hA : ∀ q : Nat, s.heap.size ≤ q → A q := fun q h => by rw [← hAe]; exact Or.inr h
  clear hAe
  have hP : va_P (dC, dI) cls (wz_154 h0 pr kn lt h0_localCount pe h0_pendingCount h0_gives h0_depth h0_loopDepth to bo cs se pr gl fu pa pf sf pk pg pp pz pv pr_reason pr_place pr_scanner_r pr_stepCount pr_open pr_twoSides pr_waiting_r pr_waitingPlaces_r pr_waitingCount pe cpe gpe) s.heap := hP
  have hl := lv_entry ([.ref h0, .int p0]) (n := 2) (Nat.le_of_ble_eq_true rfl)
  rw [lg_entry_eq]
  generalize (lg_sl ([.ref h0, .int p0]) ++ List.replicate (2 - (lg_sl ([.ref h0, .int p0])).length) Slot.unset).toArray = ls at hl ⊢
  have hl : lv_has ls 2 [(0, .ref h0), (1, .int p0)] := hl
  have k0 : (0 : Int32).toInt = 0 := by decide
  refine w_gen (A := A) hP (fun H locs hP hS => ?_)
  have k3 : (3 : Int32).toInt = 3 := by decide
  have k127 : (127 : Int32).toInt = 127 := by decide
  have lo_p0 := i32_lo p0
  have hi_p0 := i32_hi p0
  refine lv_aload_n hx hb d_CO_takeCondition_0 rfl (lv_at hl 0 rfl) ?_
  have hPc := hP.sb (wq := (wz_149 h0 pr kn lt h0_localCount pe h0_pendingCount h0_gives h0_depth h0_loopDepth to bo cs se pe cpe gpe)) [0, 2] rfl
  have hDc := hD.sb (wq := (wz_149 h0 pr kn lt h0_localCount pe h0_pendingCount h0_gives h0_depth h0_loopDepth to bo cs se pe cpe gpe)) [0, 2] (by decide) rfl
  have hKc := hK.sb (tyq := [(cpe, .int)]) [0] rfl
  have hFc := va_free (wc := (wz_149 h0 pr kn lt h0_localCount pe h0_pendingCount h0_gives h0_depth h0_loopDepth to bo cs se pe cpe gpe)) hD hS hA [0, 2] rfl
  refine va_calli (va_runV (As := []) (rest := []) ⟨hx, hb, hml, hown, hts⟩ (c_CO_pop l dC dI H.size h0 pr kn lt pe to bo cs se cpe h0_localCount h0_pendingCount h0_gives h0_depth h0_loopDepth gpe (b_h0_pendingCount) (by (try dsimp only) <;> (first | (apply Int.le_antisymm <;> omega) | omega))) (cwV 0 hts (gV kM_CO_224 kV_CO_pop kS_CO_pop kI_CO kC_CO_pop) rfl rfl rfl (by decide +kernel) ⟨Nat.le_of_ble_eq_true rfl, Nat.le_of_ble_eq_true rfl⟩) ⟨fun a U g mk z => by obtain ⟨z0, z1, zP, zK, zD⟩ := z; exact ⟨z0, z1, zP, va_K.moved (u := U) (U := U.calling g mk a) (Vm.Alike.refl U.vm) zK, zD⟩, va_recv hKc hPc (ci := 2) (q0 := 0) rfl rfl, fun U hU hW => ⟨rfl, by rw [hU], va_P.he hU.symm hPc, va_K.moved hW.alike hKc, hDc.weaken (fun _ _ _ _ => trivial)⟩⟩ rfl rfl hl.1 rfl (lv_room (Nat.le_of_ble_eq_true rfl)) d_CO_takeCondition_1 ⟨(Nat.zero_le _), (Nat.zero_le _)⟩) hS (fun q _ h => hFc q h) hFc (fun r1 u t H1 locs ht hvm hw hB hz1 hk1 hS => ?_)
  obtain ⟨n2, rfl⟩ : ∃ z, z = u := ⟨_, rfl⟩
  try dsimp only at hw
  obtain ⟨bn2, xr1⟩ := hw
  try clear hw
  obtain ⟨hP1, hK1, hD1⟩ := hB
  replace hP1 := va_P.he ht hP1
  obtain ⟨hP, hD⟩ := va_join (wr := (wz_110 pr gl fu pa pf sf pk pg pp pz pv pr_reason pr_place pr_scanner_r pr_stepCount pr_open pr_twoSides pr_waiting_r pr_waitingPlaces_r pr_waitingCount)) (w1 := (wz_149 h0 pr kn lt h0_localCount pe n2 h0_gives h0_depth h0_loopDepth to bo cs se pe cpe gpe)) hP hD [0, 2] [1] rfl rfl (by decide) (by decide) hk1 hFc hP1 hD1
  clear hPc hDc hKc hFc hz1 hk1 hP1 hK1 hD1
  rename Heap => H
  have hP : va_P (dC, dI) cls (wz_155 pr gl fu pa pf sf pk pg pp pz pv pr_reason pr_place pr_scanner_r pr_stepCount pr_open pr_twoSides pr_waiting_r pr_waitingPlaces_r pr_waitingCount h0 pr kn lt h0_localCount pe n2 h0_gives h0_depth h0_loopDepth to bo cs se pe cpe gpe) H := hP
  have hD : va_D A (wz_155 pr gl fu pa pf sf pk pg pp pz pv pr_reason pr_place pr_scanner_r pr_stepCount pr_open pr_twoSides pr_waiting_r pr_waitingPlaces_r pr_waitingCount h0 pr kn lt h0_localCount pe n2 h0_gives h0_depth h0_loopDepth to bo cs se pe cpe gpe) := hD
  refine lv_bipush (v := 127) hx hb d_CO_takeCondition_4 (by decide) ?_
  refine lv_icmp_eq (tgt := 18) hx hb d_CO_takeCondition_6 (by decide) (fun c6 => ?_) (fun c6 => ?_)
  · have q6 := eqI c6
    have hP9 := hP.sb (wq := (wz_154 h0 pr kn lt h0_localCount pe n2 h0_gives h0_depth h0_loopDepth to bo cs se pr gl fu pa pf sf pk pg pp pz pv pr_reason pr_place pr_scanner_r pr_stepCount pr_open pr_twoSides pr_waiting_r pr_waitingPlaces_r pr_waitingCount pe cpe gpe)) [1, 0, 2] rfl
    have hD9 := hD.sb (wq := (wz_154 h0 pr kn lt h0_localCount pe n2 h0_gives h0_depth h0_loopDepth to bo cs se pr gl fu pa pf sf pk pg pp pz pv pr_reason pr_place pr_scanner_r pr_stepCount pr_open pr_twoSides pr_waiting_r pr_waitingPlaces_r pr_waitingCount pe cpe gpe)) [1, 0, 2] (by decide) rfl
    exact tz_up (fun _ => rfl) (W.vret hx hb hr (fun t ht hW => ⟨⟨(n2, pr_place, pr_reason), ⟨rfl, ⟨bn2, ⟨by (try dsimp only) <;> (first | (apply Int.le_antisymm <;> omega) | omega), by (try dsimp only); rw [← xr1.2]; (first | (apply Int.le_antisymm <;> omega) | omega)⟩⟩⟩, va_P.he ht.symm hP9, va_K.moved hW.alike hK, hD9⟩, hS.F ht⟩) hS.2.2 d_CO_takeCondition_18)
  · have q6 := neI c6
    refine lv_aload_n hx hb d_CO_takeCondition_9 rfl (lv_at hl 0 rfl) ?_
    refine va_get (D := (dC, dI)) (ci := 2) (v := .ref pr) (C := R_CO) (T := F_CO) (N := 13) hx hb hts i_CO hown hK hP 1 rfl rfl 0 (by decide) (hts _ kF_CO_36) (fun _ h9 => h9) rfl d_CO_takeCondition_10 ?_
    refine lv_iconst (v := 3) hx hb d_CO_takeCondition_13 (by decide) ?_
    refine lv_iload_n hx hb d_CO_takeCondition_14 rfl (lv_at hl 1 rfl) ?_
    have hPc := hP.sb (wq := (wz_110 pr gl fu pa pf sf pk pg pp pz pv pr_reason pr_place pr_scanner_r pr_stepCount pr_open pr_twoSides pr_waiting_r pr_waitingPlaces_r pr_waitingCount)) [0] rfl
    have hDc := hD.sb (wq := (wz_110 pr gl fu pa pf sf pk pg pp pz pv pr_reason pr_place pr_scanner_r pr_stepCount pr_open pr_twoSides pr_waiting_r pr_waitingPlaces_r pr_waitingCount)) [0] (by decide) rfl
    have hKc := hK.sb (tyq := []) [] rfl
    have hFc := va_free (wc := (wz_110 pr gl fu pa pf sf pk pg pp pz pv pr_reason pr_place pr_scanner_r pr_stepCount pr_open pr_twoSides pr_waiting_r pr_waitingPlaces_r pr_waitingCount)) hD hS hA [0] rfl
    refine tq_callv (tz_runV (As := [.int 3, .int p0]) (rest := []) ⟨hx, hb, hml, hown, hts⟩ (c_PR_refuse l hlt dC dI H.size sa pr gl fu pa pf sf pk pg pp pz pv pr_scanner_r pr_waiting_r pr_waitingPlaces_r pr_reason pr_place pr_stepCount pr_open pr_twoSides pr_waitingCount 3 p0) (cwV 2 hts (gV kM_CO_105 kV_PR_refuse kS_PR_refuse kI_PR kC_PR_refuse) rfl rfl rfl (by decide +kernel) ⟨Nat.le_of_ble_eq_true rfl, Nat.le_of_ble_eq_true rfl⟩) ⟨fun a U g mk z => by obtain ⟨z0, z1, zP, zK, zD, zS⟩ := z; exact ⟨z0, z1, zP, va_K.moved (u := U) (U := U.calling g mk a) (Vm.Alike.refl U.vm) zK, zD, sw.same (u := U) (U := U.calling g mk a) rfl zS⟩, va_recv hKc hPc (ci := 6) (q0 := 0) rfl rfl, fun U hU hW => ⟨rfl, by rw [hU], va_P.he hU.symm hPc, va_K.moved hW.alike hKc, hDc.weaken (fun _ _ _ _ => trivial), hSW.call hS hFc hW hU⟩⟩ rfl rfl hl.1 rfl (lv_room (Nat.le_of_ble_eq_true rfl)) d_CO_takeCondition_15 ⟨Nat.le_of_ble_eq_true rfl, Nat.le_of_ble_eq_true rfl⟩) hS (fun q _ h => hFc q h) hFc (fun u t H1 locs ht hvm hw hB hz1 hk1 hS => ?_) (fun xx u t H1 locs ht hvm hw hXX hB hz1 hk1 hS => ?_)
    rotate_left
    · skip
      obtain ⟨n4, n5⟩ := u
      try dsimp only at hw
      obtain ⟨hP1, hK1, hD1⟩ := hB
      replace hP1 := va_P.he ht hP1
      obtain ⟨hP, hD⟩ := va_join (wr := (wz_149 h0 pr kn lt h0_localCount pe n2 h0_gives h0_depth h0_loopDepth to bo cs se pe cpe gpe)) (w1 := (wz_110 pr gl fu pa pf sf pk pg pp pz pv n5 n4 pr_scanner_r pr_stepCount pr_open pr_twoSides pr_waiting_r pr_waitingPlaces_r pr_waitingCount)) hP hD [0] [1, 2] rfl rfl (by decide) (by decide) hk1 hFc hP1 hD1
      have hP : va_P (dC, dI) cls [(h0, .inr (2, [.ref pr, .ref kn, .ref lt, .int h0_localCount, .ref pe, .int n2, .int h0_gives, .int h0_depth, .int h0_loopDepth, .ref to, .ref bo, .ref cs, .ref se])), (pe, .inl (cpe, 680, .inl gpe)), (pr, .inr (6, [.ref gl, .ref fu, .ref pa, .ref pf, .ref sf, .ref pk, .ref pg, .ref pp, .ref pz, .ref pv, .int n5, .int n4, .ref pr_scanner_r, .int pr_stepCount, .int pr_open, .int pr_twoSides, .ref pr_waiting_r, .ref pr_waitingPlaces_r, .int pr_waitingCount]))] H1 := hP
      have hD : va_D A [(h0, .inr (2, [.ref pr, .ref kn, .ref lt, .int h0_localCount, .ref pe, .int n2, .int h0_gives, .int h0_depth, .int h0_loopDepth, .ref to, .ref bo, .ref cs, .ref se])), (pe, .inl (cpe, 680, .inl gpe)), (pr, .inr (6, [.ref gl, .ref fu, .ref pa, .ref pf, .ref sf, .ref pk, .ref pg, .ref pp, .ref pz, .ref pv, .int n5, .int n4, .ref pr_scanner_r, .int pr_stepCount, .int pr_open, .int pr_twoSides, .ref pr_waiting_r, .ref pr_waitingPlaces_r, .int pr_waitingCount]))] := hD
      have hP9 := hP.sb (wq := (wz_154 h0 pr kn lt h0_localCount pe n2 h0_gives h0_depth h0_loopDepth to bo cs se pr gl fu pa pf sf pk pg pp pz pv n5 n4 pr_scanner_r pr_stepCount pr_open pr_twoSides pr_waiting_r pr_waitingPlaces_r pr_waitingCount pe cpe gpe)) [0, 2, 1] rfl
      have hD9 := hD.sb (wq := (wz_154 h0 pr kn lt h0_localCount pe n2 h0_gives h0_depth h0_loopDepth to bo cs se pr gl fu pa pf sf pk pg pp pz pv n5 n4 pr_scanner_r pr_stepCount pr_open pr_twoSides pr_waiting_r pr_waitingPlaces_r pr_waitingCount pe cpe gpe)) [0, 2, 1] (by decide) rfl
      exact tz_leave rfl hno hlocks (fun t ht hW => ⟨⟨(n2, n4, n5), ⟨(bn2), by rw [ht]; exact hXX.moved hW.alike⟩, va_P.he ht.symm hP9, va_K.moved hW.alike hK, hD9⟩, hS.F ht⟩) hS.2.2
    exact (show False from hw).elim
abbrev b_CO_beginLoop : ByteArray := prog_4_method_18_code
def y_CO_beginLoop : MethodName := ⟨R_CO, "beginLoop", "()V"⟩
abbrev w_CO_beginLoop : List Cond := .code y_CO_beginLoop b_CO_beginLoop 1 none :: lw_g
theorem kC_CO_beginLoop : Cond.code y_CO_beginLoop b_CO_beginLoop 1 none ∈ lw_g := in_c6 8 rfl rfl
theorem d_CO_beginLoop_0 : decode b_CO_beginLoop 0 = .ok (.aload_n 0, 1) := bz_c42 (by decide +kernel)
theorem d_CO_beginLoop_1 : decode b_CO_beginLoop 1 = .ok (.aload_n 0, 1) := bz_c42 (by decide +kernel)
theorem d_CO_beginLoop_2 : decode b_CO_beginLoop 2 = .ok (.getfield 118, 3) := bz_c180 (by decide +kernel)
theorem d_CO_beginLoop_5 : decode b_CO_beginLoop 5 = .ok (.invokevirtual 183, 3) := bz_c182 (by decide +kernel)
theorem d_CO_beginLoop_8 : decode b_CO_beginLoop 8 = .ok (.aload_n 0, 1) := bz_c42 (by decide +kernel)
theorem d_CO_beginLoop_9 : decode b_CO_beginLoop 9 = .ok (.getfield 26, 3) := bz_c180 (by decide +kernel)
theorem d_CO_beginLoop_12 : decode b_CO_beginLoop 12 = .ok (.iconst 2, 1) := bz_c5 (by decide +kernel)
theorem d_CO_beginLoop_13 : decode b_CO_beginLoop 13 = .ok (.invokevirtual 76, 3) := bz_c182 (by decide +kernel)
theorem d_CO_beginLoop_16 : decode b_CO_beginLoop 16 = .ok (.aload_n 0, 1) := bz_c42 (by decide +kernel)
theorem d_CO_beginLoop_17 : decode b_CO_beginLoop 17 = .ok (.getfield 26, 3) := bz_c180 (by decide +kernel)
theorem d_CO_beginLoop_20 : decode b_CO_beginLoop 20 = .ok (.bipush 64, 2) := bz_c16 (by decide +kernel)
theorem d_CO_beginLoop_22 : decode b_CO_beginLoop 22 = .ok (.invokevirtual 76, 3) := bz_c182 (by decide +kernel)
theorem d_CO_beginLoop_25 : decode b_CO_beginLoop 25 = .ok (.aload_n 0, 1) := bz_c42 (by decide +kernel)
theorem d_CO_beginLoop_26 : decode b_CO_beginLoop 26 = .ok (.getfield 26, 3) := bz_c180 (by decide +kernel)
theorem d_CO_beginLoop_29 : decode b_CO_beginLoop 29 = .ok (.iconst 3, 1) := bz_c6 (by decide +kernel)
theorem d_CO_beginLoop_30 : decode b_CO_beginLoop 30 = .ok (.invokevirtual 76, 3) := bz_c182 (by decide +kernel)
theorem d_CO_beginLoop_33 : decode b_CO_beginLoop 33 = .ok (.aload_n 0, 1) := bz_c42 (by decide +kernel)
theorem d_CO_beginLoop_34 : decode b_CO_beginLoop 34 = .ok (.getfield 26, 3) := bz_c180 (by decide +kernel)
theorem d_CO_beginLoop_37 : decode b_CO_beginLoop 37 = .ok (.bipush 64, 2) := bz_c16 (by decide +kernel)
theorem d_CO_beginLoop_39 : decode b_CO_beginLoop 39 = .ok (.invokevirtual 76, 3) := bz_c182 (by decide +kernel)
theorem d_CO_beginLoop_42 : decode b_CO_beginLoop 42 = .ok (.aload_n 0, 1) := bz_c42 (by decide +kernel)
theorem d_CO_beginLoop_43 : decode b_CO_beginLoop 43 = .ok (.dup, 1) := bz_c89 (by decide +kernel)
theorem d_CO_beginLoop_44 : decode b_CO_beginLoop 44 = .ok (.getfield 115, 3) := bz_c180 (by decide +kernel)
theorem d_CO_beginLoop_47 : decode b_CO_beginLoop 47 = .ok (.iconst 2, 1) := bz_c5 (by decide +kernel)
theorem d_CO_beginLoop_48 : decode b_CO_beginLoop 48 = .ok (.iadd, 1) := bz_c96 (by decide +kernel)
theorem d_CO_beginLoop_49 : decode b_CO_beginLoop 49 = .ok (.putfield 115, 3) := bz_c181 (by decide +kernel)
theorem d_CO_beginLoop_52 : decode b_CO_beginLoop 52 = .ok (.aload_n 0, 1) := bz_c42 (by decide +kernel)
theorem d_CO_beginLoop_53 : decode b_CO_beginLoop 53 = .ok (.aload_n 0, 1) := bz_c42 (by decide +kernel)
theorem d_CO_beginLoop_54 : decode b_CO_beginLoop 54 = .ok (.getfield 115, 3) := bz_c180 (by decide +kernel)
theorem d_CO_beginLoop_57 : decode b_CO_beginLoop 57 = .ok (.putfield 118, 3) := bz_c181 (by decide +kernel)
theorem d_CO_beginLoop_60 : decode b_CO_beginLoop 60 = .ok (.return_, 1) := bz_c177 (by decide +kernel)
theorem kM_CO_183 : Cond.methodLink R_CO 183 y_CO_push ∈ lw_g := in_c5 158 rfl rfl
theorem kV_CO_push : Cond.instanceMethod y_CO_push ∈ lw_g := in_c5 160 rfl rfl
theorem kS_CO_push : Cond.selects R_CO y_CO_push y_CO_push ∈ lw_g := in_s 36 (by decide +kernel) rfl
theorem kM_CO_76 : Cond.methodLink R_CO 76 y_BR_put ∈ lw_g := in_c5 150 rfl rfl
theorem kF_CO_118 : Cond.fieldLink R_CO 118 "WaferForge$Coder" "loopDepth" "I" ∈ lw_g := in_c2 188 rfl rfl
theorem kF_CO_26 : Cond.fieldLink R_CO 26 "WaferForge$Coder" "body" "LWaferForge$ByteRow;" ∈ lw_g := in_c2 190 rfl rfl
theorem kF_CO_115 : Cond.fieldLink R_CO 115 "WaferForge$Coder" "depth" "I" ∈ lw_g := in_c2 187 rfl rfl
abbrev at_CO_beginLoop (dC : Nat → ClassId) (dI : Nat → Nat → Nat) (h0 pr kn lt pe to bo cs se bob : Nat) (cpe cbob : ClassId) (h0_localCount : Int32) (h0_gives : Int32) (A : Nat → Prop) (u : (Nat → Int32) × (Nat → Int32) × Int32 × Int32 × Int32 × Int32) (t : State) : Prop := match u with | (gbob, gpe, bo_length, h0_depth, h0_loopDepth, h0_pendingCount) => va_P (dC, dI) cls (wz_156 h0 pr kn lt h0_localCount pe h0_pendingCount h0_gives h0_depth h0_loopDepth to bo cs se pe cpe gpe bo bob bo_length bob cbob gbob) t.heap ∧ va_K (dC, dI) cls [(cpe, .int), (cbob, .byte)] t ∧ va_D A (wz_156 h0 pr kn lt h0_localCount pe h0_pendingCount h0_gives h0_depth h0_loopDepth to bo cs se pe cpe gpe bo bob bo_length bob cbob gbob)
set_option maxHeartbeats 4000000 in
set_option maxRecDepth 100000 in
theorem c_CO_beginLoop (l : Launch) (dC : Nat → ClassId) (dI : Nat → Nat → Nat) (sz : Nat) (h0 pr kn lt pe to bo cs se bob : Nat) (cpe cbob : ClassId) (h0_localCount : Int32) (h0_pendingCount : Int32) (h0_gives : Int32) (h0_depth : Int32) (h0_loopDepth : Int32) (gpe : Nat → Int32) (bo_length : Int32) (gbob : Nat → Int32)  (b_h0_pendingCount : 0 ≤ h0_pendingCount.toInt ∧ h0_pendingCount.toInt ≤ 680) (b_bo_length : 0 ≤ bo_length.toInt ∧ bo_length.toInt ≤ 8192)   (hpc : h0_pendingCount.toInt < 680) (hde : 0 ≤ h0_depth.toInt ∧ h0_depth.toInt ≤ 100000) (hbo : bo_length.toInt + 4 ≤ 8192) : Met l y_CO_beginLoop w_CO_beginLoop ({ frames := 1, cells := 0, slots := 0, locals := 21 }) (va_Pc [.ref h0] (fun U => U.heap.size = sz ∧ va_P (dC, dI) cls (wz_156 h0 pr kn lt h0_localCount pe h0_pendingCount h0_gives h0_depth h0_loopDepth to bo cs se pe cpe gpe bo bob bo_length bob cbob gbob) U.heap ∧ va_K (dC, dI) cls [(cpe, .int), (cbob, .byte)] U ∧ va_D (fun _ => True) (wz_156 h0 pr kn lt h0_localCount pe h0_pendingCount h0_gives h0_depth h0_loopDepth to bo cs se pe cpe gpe bo bob bo_length bob cbob gbob))) (va_Qv (fun (u : (Nat → Int32) × (Nat → Int32) × Int32 × Int32 × Int32 × Int32) => match u with | (gbob2, gpe2, bo_length2, h0_depth2, h0_loopDepth2, h0_pendingCount2) => (0 ≤ bo_length2.toInt ∧ bo_length2.toInt ≤ 8192) ∧ (0 ≤ h0_pendingCount2.toInt ∧ h0_pendingCount2.toInt ≤ 680) ∧ ((h0_pendingCount2.toInt = h0_pendingCount.toInt + 1 ∧ gpe2 = upd gpe h0_pendingCount.toNatClampNeg h0_loopDepth) ∧ (h0_depth2.toInt = h0_depth.toInt + 2 ∧ h0_loopDepth2.toInt = h0_depth.toInt + 2) ∧ bo_length2.toInt = bo_length.toInt + 4 ∧ bl gbob2 bo_length2.toNatClampNeg = bl gbob bo_length.toNatClampNeg ++ [2, 64, 3, 64])) (at_CO_beginLoop dC dI h0 pr kn lt pe to bo cs se bob cpe cbob h0_localCount h0_gives (va_A (wz_156 h0 pr kn lt h0_localCount pe h0_pendingCount h0_gives h0_depth h0_loopDepth to bo cs se pe cpe gpe bo bob bo_length bob cbob gbob) sz)) (va_A (wz_156 h0 pr kn lt h0_localCount pe h0_pendingCount h0_gives h0_depth h0_loopDepth to bo cs se pe cpe gpe bo bob bo_length bob cbob gbob) sz)) 0 0 (va_A (wz_156 h0 pr kn lt h0_localCount pe h0_pendingCount h0_gives h0_depth h0_loopDepth to bo cs se pe cpe gpe bo bob bo_length bob cbob gbob) sz) := by
  refine Met.ofW (cc := b_CO_beginLoop) (maxL := 1) (ret := none) (by decide) rfl ?_
  intro p e s m args below meth c s₁ B hml hv
  obtain ⟨rfl, hsz, hP, hK, hD0⟩ := hv
  have hx := B.exec
  have hb := B.bytes
  have hr := B.returns
  have hts0 := atoms_spec (ws := w_CO_beginLoop) B.pre
  have hts : ∀ w ∈ lw_g, w.before _ s = true := fun w h => hts0 w (List.mem_cons_of_mem _ h)
  have hown : s.vm.findClass R_CO = some m.cls := findClass_of_methodNamed B.named
  have hlocks := B.notSynchronized
  clear hts0
  subst hsz
  have hD := hD0.self (sz := s.heap.size)
  generalize hAe : va_A (wz_156 h0 pr kn lt h0_localCount pe h0_pendingCount h0_gives h0_depth h0_loopDepth to bo cs se pe cpe gpe bo bob bo_length bob cbob gbob) s.heap.size = A at hD ⊢
  have hA : ∀ q : Nat, s.heap.size ≤ q → A q := fun q h => by rw [← hAe]; exact Or.inr h
  clear hAe
  have hP : va_P (dC, dI) cls (wz_156 h0 pr kn lt h0_localCount pe h0_pendingCount h0_gives h0_depth h0_loopDepth to bo cs se pe cpe gpe bo bob bo_length bob cbob gbob) s.heap := hP
  have hl := lv_entry ([.ref h0]) (n := 1) (Nat.le_of_ble_eq_true rfl)
  rw [lg_entry_eq]
  generalize (lg_sl ([.ref h0]) ++ List.replicate (1 - (lg_sl ([.ref h0])).length) Slot.unset).toArray = ls at hl ⊢
  have hl : lv_has ls 1 [(0, .ref h0)] := hl
  have k0 : (0 : Int32).toInt = 0 := by decide
  refine w_gen (A := A) hP (fun H locs hP hS => ?_)
  have k2 : (2 : Int32).toInt = 2 := by decide
  have k3 : (3 : Int32).toInt = 3 := by decide
  have k64 : (64 : Int32).toInt = 64 := by decide
  refine lv_aload_n hx hb d_CO_beginLoop_0 rfl (lv_at hl 0 rfl) ?_
  refine lv_aload_n hx hb d_CO_beginLoop_1 rfl (lv_at hl 0 rfl) ?_
  refine va_get (D := (dC, dI)) (ci := 2) (v := .int h0_loopDepth) (C := R_CO) (T := F_CO) (N := 13) hx hb hts i_CO hown hK hP 0 rfl rfl 8 (by decide) (hts _ kF_CO_118) (fun _ h9 => h9) rfl d_CO_beginLoop_2 ?_
  have hPc := hP.sb (wq := (wz_149 h0 pr kn lt h0_localCount pe h0_pendingCount h0_gives h0_depth h0_loopDepth to bo cs se pe cpe gpe)) [0, 1] rfl
  have hDc := hD.sb (wq := (wz_149 h0 pr kn lt h0_localCount pe h0_pendingCount h0_gives h0_depth h0_loopDepth to bo cs se pe cpe gpe)) [0, 1] (by decide) rfl
  have hKc := hK.sb (tyq := [(cpe, .int)]) [0] rfl
  have hFc := va_free (wc := (wz_149 h0 pr kn lt h0_localCount pe h0_pendingCount h0_gives h0_depth h0_loopDepth to bo cs se pe cpe gpe)) hD hS hA [0, 1] rfl
  refine va_callv (va_runV (As := [.int h0_loopDepth]) (rest := []) ⟨hx, hb, hml, hown, hts⟩ (c_CO_push l dC dI H.size h0 pr kn lt pe to bo cs se cpe h0_localCount h0_pendingCount h0_gives h0_depth h0_loopDepth gpe (b_h0_pendingCount) h0_loopDepth (by (try dsimp only) <;> (first | (apply Int.le_antisymm <;> omega) | omega))) (cwV 1 hts (gV kM_CO_183 kV_CO_push kS_CO_push kI_CO kC_CO_push) rfl rfl rfl (by decide +kernel) ⟨Nat.le_of_ble_eq_true rfl, Nat.le_of_ble_eq_true rfl⟩) ⟨fun a U g mk z => by obtain ⟨z0, z1, zP, zK, zD⟩ := z; exact ⟨z0, z1, zP, va_K.moved (u := U) (U := U.calling g mk a) (Vm.Alike.refl U.vm) zK, zD⟩, va_recv hKc hPc (ci := 2) (q0 := 0) rfl rfl, fun U hU hW => ⟨rfl, by rw [hU], va_P.he hU.symm hPc, va_K.moved hW.alike hKc, hDc.weaken (fun _ _ _ _ => trivial)⟩⟩ rfl rfl hl.1 rfl (lv_room (Nat.le_of_ble_eq_true rfl)) d_CO_beginLoop_5 ⟨(Nat.zero_le _), (Nat.zero_le _)⟩) hS (fun q _ h => hFc q h) hFc (fun u t H1 locs ht hvm hw hB hz1 hk1 hS => ?_)
  obtain ⟨n2, n3⟩ := u
  try dsimp only at hw
  obtain ⟨bn3, xr1⟩ := hw
  try clear hw
  obtain ⟨hP1, hK1, hD1⟩ := hB
  replace hP1 := va_P.he ht hP1
  obtain ⟨hP, hD⟩ := va_join (wr := (wz_94 bo bob bo_length bob cbob gbob)) (w1 := (wz_149 h0 pr kn lt h0_localCount pe n3 h0_gives h0_depth h0_loopDepth to bo cs se pe cpe n2)) hP hD [0, 1] [2, 3] rfl rfl (by decide) (by decide) hk1 hFc hP1 hD1
  clear hPc hDc hKc hFc hz1 hk1 hP1 hK1 hD1
  rename Heap => H
  have hP : va_P (dC, dI) cls (wz_157 bo bob bo_length bob cbob gbob h0 pr kn lt h0_localCount pe n3 h0_gives h0_depth h0_loopDepth to bo cs se pe cpe n2) H := hP
  have hD : va_D A (wz_157 bo bob bo_length bob cbob gbob h0 pr kn lt h0_localCount pe n3 h0_gives h0_depth h0_loopDepth to bo cs se pe cpe n2) := hD
  refine lv_aload_n hx hb d_CO_beginLoop_8 rfl (lv_at hl 0 rfl) ?_
  refine va_get (D := (dC, dI)) (ci := 2) (v := .ref bo) (C := R_CO) (T := F_CO) (N := 13) hx hb hts i_CO hown hK hP 2 rfl rfl 10 (by decide) (hts _ kF_CO_26) (fun _ h9 => h9) rfl d_CO_beginLoop_9 ?_
  refine lv_iconst (v := 2) hx hb d_CO_beginLoop_12 (by decide) ?_
  have hPc := hP.sb (wq := (wz_94 bo bob bo_length bob cbob gbob)) [0, 1] rfl
  have hDc := hD.sb (wq := (wz_94 bo bob bo_length bob cbob gbob)) [0, 1] (by decide) rfl
  have hKc := hK.sb (tyq := [(cbob, .byte)]) [1] rfl
  have hFc := va_free (wc := (wz_94 bo bob bo_length bob cbob gbob)) hD hS hA [0, 1] rfl
  refine va_callv (va_runV (As := [.int 2]) (rest := []) ⟨hx, hb, hml, hown, hts⟩ (c_BR_put l dC dI bo bob H.size cbob 8192 bo_length gbob (by (first | (apply Int.le_antisymm <;> omega) | omega)) (by (first | (apply Int.le_antisymm <;> omega) | omega)) (by (first | (apply Int.le_antisymm <;> omega) | omega)) 2) (cwV 1 hts (gV kM_CO_76 kV_BR_put kS_BR_put kI_BR kC_BR_put) rfl rfl rfl (by decide +kernel) ⟨Nat.le_of_ble_eq_true rfl, Nat.le_of_ble_eq_true rfl⟩) ⟨fun a U g mk z => by obtain ⟨z0, z1, zP, zK, zD⟩ := z; exact ⟨z0, z1, zP, va_K.moved (u := U) (U := U.calling g mk a) (Vm.Alike.refl U.vm) zK, zD⟩, va_recv hKc hPc (ci := 1) (q0 := 0) rfl rfl, fun U hU hW => ⟨rfl, by rw [hU], va_P.he hU.symm hPc, va_K.moved hW.alike hKc, hDc.weaken (fun _ _ _ _ => trivial)⟩⟩ rfl rfl hl.1 rfl (lv_room (Nat.le_of_ble_eq_true rfl)) d_CO_beginLoop_13 ⟨(Nat.zero_le _), (Nat.zero_le _)⟩) hS (fun q _ h => hFc q h) hFc (fun u t H1 locs ht hvm hw hB hz1 hk1 hS => ?_)
  obtain ⟨n5, f6⟩ := u
  try dsimp only at hw
  have tn5 := br_put_in (by (first | (apply Int.le_antisymm <;> omega) | omega)) (by (first | (apply Int.le_antisymm <;> omega) | omega)) (by (first | (apply Int.le_antisymm <;> omega) | omega)) hw
  have bn5 := br_put_bl (by (first | (apply Int.le_antisymm <;> omega) | omega)) (by (first | (apply Int.le_antisymm <;> omega) | omega)) (by (first | (apply Int.le_antisymm <;> omega) | omega)) hw
  obtain ⟨hP1, hK1, hD1⟩ := hB
  replace hP1 := va_P.he ht hP1
  obtain ⟨hP, hD⟩ := va_join (wr := (wz_149 h0 pr kn lt h0_localCount pe n3 h0_gives h0_depth h0_loopDepth to bo cs se pe cpe n2)) (w1 := (wz_94 bo bob n5 bob cbob f6)) hP hD [0, 1] [2, 3] rfl rfl (by decide) (by decide) hk1 hFc hP1 hD1
  clear hPc hDc hKc hFc hz1 hk1 hP1 hK1 hD1
  rename Heap => H
  have hP : va_P (dC, dI) cls (wz_156 h0 pr kn lt h0_localCount pe n3 h0_gives h0_depth h0_loopDepth to bo cs se pe cpe n2 bo bob n5 bob cbob f6) H := hP
  have hD : va_D A (wz_156 h0 pr kn lt h0_localCount pe n3 h0_gives h0_depth h0_loopDepth to bo cs se pe cpe n2 bo bob n5 bob cbob f6) := hD
  refine lv_aload_n hx hb d_CO_beginLoop_16 rfl (lv_at hl 0 rfl) ?_
  refine va_get (D := (dC, dI)) (ci := 2) (v := .ref bo) (C := R_CO) (T := F_CO) (N := 13) hx hb hts i_CO hown hK hP 0 rfl rfl 10 (by decide) (hts _ kF_CO_26) (fun _ h9 => h9) rfl d_CO_beginLoop_17 ?_
  refine lv_bipush (v := 64) hx hb d_CO_beginLoop_20 (by decide) ?_
  have hPc := hP.sb (wq := (wz_94 bo bob n5 bob cbob f6)) [2, 3] rfl
  have hDc := hD.sb (wq := (wz_94 bo bob n5 bob cbob f6)) [2, 3] (by decide) rfl
  have hKc := hK.sb (tyq := [(cbob, .byte)]) [1] rfl
  have hFc := va_free (wc := (wz_94 bo bob n5 bob cbob f6)) hD hS hA [2, 3] rfl
  refine va_callv (va_runV (As := [.int 64]) (rest := []) ⟨hx, hb, hml, hown, hts⟩ (c_BR_put l dC dI bo bob H.size cbob 8192 n5 f6 (by (first | (apply Int.le_antisymm <;> omega) | omega)) (by (first | (apply Int.le_antisymm <;> omega) | omega)) (by (first | (apply Int.le_antisymm <;> omega) | omega)) 64) (cwV 1 hts (gV kM_CO_76 kV_BR_put kS_BR_put kI_BR kC_BR_put) rfl rfl rfl (by decide +kernel) ⟨Nat.le_of_ble_eq_true rfl, Nat.le_of_ble_eq_true rfl⟩) ⟨fun a U g mk z => by obtain ⟨z0, z1, zP, zK, zD⟩ := z; exact ⟨z0, z1, zP, va_K.moved (u := U) (U := U.calling g mk a) (Vm.Alike.refl U.vm) zK, zD⟩, va_recv hKc hPc (ci := 1) (q0 := 0) rfl rfl, fun U hU hW => ⟨rfl, by rw [hU], va_P.he hU.symm hPc, va_K.moved hW.alike hKc, hDc.weaken (fun _ _ _ _ => trivial)⟩⟩ rfl rfl hl.1 rfl (lv_room (Nat.le_of_ble_eq_true rfl)) d_CO_beginLoop_22 ⟨(Nat.zero_le _), (Nat.zero_le _)⟩) hS (fun q _ h => hFc q h) hFc (fun u t H1 locs ht hvm hw hB hz1 hk1 hS => ?_)
  obtain ⟨n8, f9⟩ := u
  try dsimp only at hw
  have tn8 := br_put_in (by (first | (apply Int.le_antisymm <;> omega) | omega)) (by (first | (apply Int.le_antisymm <;> omega) | omega)) (by (first | (apply Int.le_antisymm <;> omega) | omega)) hw
  have bn8 := br_put_bl (by (first | (apply Int.le_antisymm <;> omega) | omega)) (by (first | (apply Int.le_antisymm <;> omega) | omega)) (by (first | (apply Int.le_antisymm <;> omega) | omega)) hw
  obtain ⟨hP1, hK1, hD1⟩ := hB
  replace hP1 := va_P.he ht hP1
  obtain ⟨hP, hD⟩ := va_join (wr := (wz_149 h0 pr kn lt h0_localCount pe n3 h0_gives h0_depth h0_loopDepth to bo cs se pe cpe n2)) (w1 := (wz_94 bo bob n8 bob cbob f9)) hP hD [2, 3] [0, 1] rfl rfl (by decide) (by decide) hk1 hFc hP1 hD1
  clear hPc hDc hKc hFc hz1 hk1 hP1 hK1 hD1
  rename Heap => H
  have hP : va_P (dC, dI) cls (wz_156 h0 pr kn lt h0_localCount pe n3 h0_gives h0_depth h0_loopDepth to bo cs se pe cpe n2 bo bob n8 bob cbob f9) H := hP
  have hD : va_D A (wz_156 h0 pr kn lt h0_localCount pe n3 h0_gives h0_depth h0_loopDepth to bo cs se pe cpe n2 bo bob n8 bob cbob f9) := hD
  refine lv_aload_n hx hb d_CO_beginLoop_25 rfl (lv_at hl 0 rfl) ?_
  refine va_get (D := (dC, dI)) (ci := 2) (v := .ref bo) (C := R_CO) (T := F_CO) (N := 13) hx hb hts i_CO hown hK hP 0 rfl rfl 10 (by decide) (hts _ kF_CO_26) (fun _ h9 => h9) rfl d_CO_beginLoop_26 ?_
  refine lv_iconst (v := 3) hx hb d_CO_beginLoop_29 (by decide) ?_
  have hPc := hP.sb (wq := (wz_94 bo bob n8 bob cbob f9)) [2, 3] rfl
  have hDc := hD.sb (wq := (wz_94 bo bob n8 bob cbob f9)) [2, 3] (by decide) rfl
  have hKc := hK.sb (tyq := [(cbob, .byte)]) [1] rfl
  have hFc := va_free (wc := (wz_94 bo bob n8 bob cbob f9)) hD hS hA [2, 3] rfl
  refine va_callv (va_runV (As := [.int 3]) (rest := []) ⟨hx, hb, hml, hown, hts⟩ (c_BR_put l dC dI bo bob H.size cbob 8192 n8 f9 (by (first | (apply Int.le_antisymm <;> omega) | omega)) (by (first | (apply Int.le_antisymm <;> omega) | omega)) (by (first | (apply Int.le_antisymm <;> omega) | omega)) 3) (cwV 1 hts (gV kM_CO_76 kV_BR_put kS_BR_put kI_BR kC_BR_put) rfl rfl rfl (by decide +kernel) ⟨Nat.le_of_ble_eq_true rfl, Nat.le_of_ble_eq_true rfl⟩) ⟨fun a U g mk z => by obtain ⟨z0, z1, zP, zK, zD⟩ := z; exact ⟨z0, z1, zP, va_K.moved (u := U) (U := U.calling g mk a) (Vm.Alike.refl U.vm) zK, zD⟩, va_recv hKc hPc (ci := 1) (q0 := 0) rfl rfl, fun U hU hW => ⟨rfl, by rw [hU], va_P.he hU.symm hPc, va_K.moved hW.alike hKc, hDc.weaken (fun _ _ _ _ => trivial)⟩⟩ rfl rfl hl.1 rfl (lv_room (Nat.le_of_ble_eq_true rfl)) d_CO_beginLoop_30 ⟨(Nat.zero_le _), (Nat.zero_le _)⟩) hS (fun q _ h => hFc q h) hFc (fun u t H1 locs ht hvm hw hB hz1 hk1 hS => ?_)
  obtain ⟨n11, f12⟩ := u
  try dsimp only at hw
  have tn11 := br_put_in (by (first | (apply Int.le_antisymm <;> omega) | omega)) (by (first | (apply Int.le_antisymm <;> omega) | omega)) (by (first | (apply Int.le_antisymm <;> omega) | omega)) hw
  have bn11 := br_put_bl (by (first | (apply Int.le_antisymm <;> omega) | omega)) (by (first | (apply Int.le_antisymm <;> omega) | omega)) (by (first | (apply Int.le_antisymm <;> omega) | omega)) hw
  obtain ⟨hP1, hK1, hD1⟩ := hB
  replace hP1 := va_P.he ht hP1
  obtain ⟨hP, hD⟩ := va_join (wr := (wz_149 h0 pr kn lt h0_localCount pe n3 h0_gives h0_depth h0_loopDepth to bo cs se pe cpe n2)) (w1 := (wz_94 bo bob n11 bob cbob f12)) hP hD [2, 3] [0, 1] rfl rfl (by decide) (by decide) hk1 hFc hP1 hD1
  clear hPc hDc hKc hFc hz1 hk1 hP1 hK1 hD1
  rename Heap => H
  have hP : va_P (dC, dI) cls (wz_156 h0 pr kn lt h0_localCount pe n3 h0_gives h0_depth h0_loopDepth to bo cs se pe cpe n2 bo bob n11 bob cbob f12) H := hP
  have hD : va_D A (wz_156 h0 pr kn lt h0_localCount pe n3 h0_gives h0_depth h0_loopDepth to bo cs se pe cpe n2 bo bob n11 bob cbob f12) := hD
  refine lv_aload_n hx hb d_CO_beginLoop_33 rfl (lv_at hl 0 rfl) ?_
  refine va_get (D := (dC, dI)) (ci := 2) (v := .ref bo) (C := R_CO) (T := F_CO) (N := 13) hx hb hts i_CO hown hK hP 0 rfl rfl 10 (by decide) (hts _ kF_CO_26) (fun _ h9 => h9) rfl d_CO_beginLoop_34 ?_
  refine lv_bipush (v := 64) hx hb d_CO_beginLoop_37 (by decide) ?_
  have hPc := hP.sb (wq := (wz_94 bo bob n11 bob cbob f12)) [2, 3] rfl
  have hDc := hD.sb (wq := (wz_94 bo bob n11 bob cbob f12)) [2, 3] (by decide) rfl
  have hKc := hK.sb (tyq := [(cbob, .byte)]) [1] rfl
  have hFc := va_free (wc := (wz_94 bo bob n11 bob cbob f12)) hD hS hA [2, 3] rfl
  refine va_callv (va_runV (As := [.int 64]) (rest := []) ⟨hx, hb, hml, hown, hts⟩ (c_BR_put l dC dI bo bob H.size cbob 8192 n11 f12 (by (first | (apply Int.le_antisymm <;> omega) | omega)) (by (first | (apply Int.le_antisymm <;> omega) | omega)) (by (first | (apply Int.le_antisymm <;> omega) | omega)) 64) (cwV 1 hts (gV kM_CO_76 kV_BR_put kS_BR_put kI_BR kC_BR_put) rfl rfl rfl (by decide +kernel) ⟨Nat.le_of_ble_eq_true rfl, Nat.le_of_ble_eq_true rfl⟩) ⟨fun a U g mk z => by obtain ⟨z0, z1, zP, zK, zD⟩ := z; exact ⟨z0, z1, zP, va_K.moved (u := U) (U := U.calling g mk a) (Vm.Alike.refl U.vm) zK, zD⟩, va_recv hKc hPc (ci := 1) (q0 := 0) rfl rfl, fun U hU hW => ⟨rfl, by rw [hU], va_P.he hU.symm hPc, va_K.moved hW.alike hKc, hDc.weaken (fun _ _ _ _ => trivial)⟩⟩ rfl rfl hl.1 rfl (lv_room (Nat.le_of_ble_eq_true rfl)) d_CO_beginLoop_39 ⟨(Nat.zero_le _), (Nat.zero_le _)⟩) hS (fun q _ h => hFc q h) hFc (fun u t H1 locs ht hvm hw hB hz1 hk1 hS => ?_)
  obtain ⟨n14, f15⟩ := u
  try dsimp only at hw
  have tn14 := br_put_in (by (first | (apply Int.le_antisymm <;> omega) | omega)) (by (first | (apply Int.le_antisymm <;> omega) | omega)) (by (first | (apply Int.le_antisymm <;> omega) | omega)) hw
  have bn14 := br_put_bl (by (first | (apply Int.le_antisymm <;> omega) | omega)) (by (first | (apply Int.le_antisymm <;> omega) | omega)) (by (first | (apply Int.le_antisymm <;> omega) | omega)) hw
  obtain ⟨hP1, hK1, hD1⟩ := hB
  replace hP1 := va_P.he ht hP1
  obtain ⟨hP, hD⟩ := va_join (wr := (wz_149 h0 pr kn lt h0_localCount pe n3 h0_gives h0_depth h0_loopDepth to bo cs se pe cpe n2)) (w1 := (wz_94 bo bob n14 bob cbob f15)) hP hD [2, 3] [0, 1] rfl rfl (by decide) (by decide) hk1 hFc hP1 hD1
  clear hPc hDc hKc hFc hz1 hk1 hP1 hK1 hD1
  rename Heap => H
  have hP : va_P (dC, dI) cls (wz_156 h0 pr kn lt h0_localCount pe n3 h0_gives h0_depth h0_loopDepth to bo cs se pe cpe n2 bo bob n14 bob cbob f15) H := hP
  have hD : va_D A (wz_156 h0 pr kn lt h0_localCount pe n3 h0_gives h0_depth h0_loopDepth to bo cs se pe cpe n2 bo bob n14 bob cbob f15) := hD
  refine lv_aload_n hx hb d_CO_beginLoop_42 rfl (lv_at hl 0 rfl) ?_
  refine lv_dup hx hb d_CO_beginLoop_43 rfl ?_
  refine va_get (D := (dC, dI)) (ci := 2) (v := .int h0_depth) (C := R_CO) (T := F_CO) (N := 13) hx hb hts i_CO hown hK hP 0 rfl rfl 7 (by decide) (hts _ kF_CO_115) (fun _ h9 => h9) rfl d_CO_beginLoop_44 ?_
  refine lv_iconst (v := 2) hx hb d_CO_beginLoop_47 (by decide) ?_
  refine lv_iadd hx hb d_CO_beginLoop_48 ?_
  refine lv_topi (fun x16 ex16 => ?_)
  have tx16 : x16.toInt = h0_depth.toInt + 2 := by have z := i32_add ex16 (by (first | (apply Int.le_antisymm <;> omega) | omega)) (by (first | (apply Int.le_antisymm <;> omega) | omega)); first | exact z | (first | (apply Int.le_antisymm <;> omega) | omega)
  refine va_put (D := (dC, dI)) (ci := 2) (v := .int x16) (ty := .int) (C := R_CO) (T := F_CO) (N := 13) hx hb hts i_CO t_CO t_CO_ok n_CO hown hK hP hD hS 0 rfl rfl 7 (by decide) (hts _ kF_CO_115) (fun _ h9 => h9) rfl (by decide +kernel) rfl rfl (Nat.le_of_ble_eq_true rfl) d_CO_beginLoop_49 (fun H locs hP hD hS => ?_)
  refine lv_aload_n hx hb d_CO_beginLoop_52 rfl (lv_at hl 0 rfl) ?_
  refine lv_aload_n hx hb d_CO_beginLoop_53 rfl (lv_at hl 0 rfl) ?_
  refine va_get (D := (dC, dI)) (ci := 2) (v := .int x16) (C := R_CO) (T := F_CO) (N := 13) hx hb hts i_CO hown hK hP 0 rfl rfl 7 (by decide) (hts _ kF_CO_115) (fun _ h9 => h9) rfl d_CO_beginLoop_54 ?_
  refine va_put (D := (dC, dI)) (ci := 2) (v := .int x16) (ty := .int) (C := R_CO) (T := F_CO) (N := 13) hx hb hts i_CO t_CO t_CO_ok n_CO hown hK hP hD hS 0 rfl rfl 8 (by decide) (hts _ kF_CO_118) (fun _ h9 => h9) rfl (by decide +kernel) rfl rfl (Nat.le_of_ble_eq_true rfl) d_CO_beginLoop_57 (fun H locs hP hD hS => ?_)
  have hP9 := hP.sb (wq := (wz_156 h0 pr kn lt h0_localCount pe n3 h0_gives x16 x16 to bo cs se pe cpe n2 bo bob n14 bob cbob f15)) [0, 1, 2, 3] rfl
  have hD9 := hD.sb (wq := (wz_156 h0 pr kn lt h0_localCount pe n3 h0_gives x16 x16 to bo cs se pe cpe n2 bo bob n14 bob cbob f15)) [0, 1, 2, 3] (by decide) rfl
  exact W.vret hx hb hr (fun t ht hW => ⟨⟨(f15, n2, n14, x16, x16, n3), rfl, ⟨by (try dsimp only) <;> (first | (apply Int.le_antisymm <;> omega) | omega), bn3, ⟨xr1, by (try dsimp only) <;> (first | (apply Int.le_antisymm <;> omega) | omega), by (try dsimp only) <;> (first | (apply Int.le_antisymm <;> omega) | omega), by (try dsimp only); rw [bn14 (by (first | (apply Int.le_antisymm <;> omega) | omega)), bn11 (by (first | (apply Int.le_antisymm <;> omega) | omega)), bn8 (by (first | (apply Int.le_antisymm <;> omega) | omega)), bn5 (by (first | (apply Int.le_antisymm <;> omega) | omega)), List.append_assoc, List.append_assoc, List.append_assoc]; rfl⟩⟩, va_P.he ht.symm hP9, va_K.moved hW.alike hK, hD9⟩, hS.F ht⟩) hS.2.2 d_CO_beginLoop_60
abbrev b_CO_endLoop : ByteArray := prog_4_method_19_code
def y_CO_endLoop : MethodName := ⟨R_CO, "endLoop", "()V"⟩
abbrev w_CO_endLoop : List Cond := .code y_CO_endLoop b_CO_endLoop 1 none :: lw_g
theorem kC_CO_endLoop : Cond.code y_CO_endLoop b_CO_endLoop 1 none ∈ lw_g := in_c6 12 rfl rfl
theorem d_CO_endLoop_0 : decode b_CO_endLoop 0 = .ok (.aload_n 0, 1) := bz_c42 (by decide +kernel)
theorem d_CO_endLoop_1 : decode b_CO_endLoop 1 = .ok (.getfield 26, 3) := bz_c180 (by decide +kernel)
theorem d_CO_endLoop_4 : decode b_CO_endLoop 4 = .ok (.bipush 12, 2) := bz_c16 (by decide +kernel)
theorem d_CO_endLoop_6 : decode b_CO_endLoop 6 = .ok (.invokevirtual 76, 3) := bz_c182 (by decide +kernel)
theorem d_CO_endLoop_9 : decode b_CO_endLoop 9 = .ok (.aload_n 0, 1) := bz_c42 (by decide +kernel)
theorem d_CO_endLoop_10 : decode b_CO_endLoop 10 = .ok (.getfield 26, 3) := bz_c180 (by decide +kernel)
theorem d_CO_endLoop_13 : decode b_CO_endLoop 13 = .ok (.iconst 0, 1) := bz_c3 (by decide +kernel)
theorem d_CO_endLoop_14 : decode b_CO_endLoop 14 = .ok (.invokevirtual 76, 3) := bz_c182 (by decide +kernel)
theorem d_CO_endLoop_17 : decode b_CO_endLoop 17 = .ok (.aload_n 0, 1) := bz_c42 (by decide +kernel)
theorem d_CO_endLoop_18 : decode b_CO_endLoop 18 = .ok (.getfield 26, 3) := bz_c180 (by decide +kernel)
theorem d_CO_endLoop_21 : decode b_CO_endLoop 21 = .ok (.bipush 11, 2) := bz_c16 (by decide +kernel)
theorem d_CO_endLoop_23 : decode b_CO_endLoop 23 = .ok (.invokevirtual 76, 3) := bz_c182 (by decide +kernel)
theorem d_CO_endLoop_26 : decode b_CO_endLoop 26 = .ok (.aload_n 0, 1) := bz_c42 (by decide +kernel)
theorem d_CO_endLoop_27 : decode b_CO_endLoop 27 = .ok (.getfield 26, 3) := bz_c180 (by decide +kernel)
theorem d_CO_endLoop_30 : decode b_CO_endLoop 30 = .ok (.bipush 11, 2) := bz_c16 (by decide +kernel)
theorem d_CO_endLoop_32 : decode b_CO_endLoop 32 = .ok (.invokevirtual 76, 3) := bz_c182 (by decide +kernel)
theorem d_CO_endLoop_35 : decode b_CO_endLoop 35 = .ok (.aload_n 0, 1) := bz_c42 (by decide +kernel)
theorem d_CO_endLoop_36 : decode b_CO_endLoop 36 = .ok (.dup, 1) := bz_c89 (by decide +kernel)
theorem d_CO_endLoop_37 : decode b_CO_endLoop 37 = .ok (.getfield 115, 3) := bz_c180 (by decide +kernel)
theorem d_CO_endLoop_40 : decode b_CO_endLoop 40 = .ok (.iconst 2, 1) := bz_c5 (by decide +kernel)
theorem d_CO_endLoop_41 : decode b_CO_endLoop 41 = .ok (.isub, 1) := bz_c100 (by decide +kernel)
theorem d_CO_endLoop_42 : decode b_CO_endLoop 42 = .ok (.putfield 115, 3) := bz_c181 (by decide +kernel)
theorem d_CO_endLoop_45 : decode b_CO_endLoop 45 = .ok (.aload_n 0, 1) := bz_c42 (by decide +kernel)
theorem d_CO_endLoop_46 : decode b_CO_endLoop 46 = .ok (.aload_n 0, 1) := bz_c42 (by decide +kernel)
theorem d_CO_endLoop_47 : decode b_CO_endLoop 47 = .ok (.invokevirtual 224, 3) := bz_c182 (by decide +kernel)
theorem d_CO_endLoop_50 : decode b_CO_endLoop 50 = .ok (.putfield 118, 3) := bz_c181 (by decide +kernel)
theorem d_CO_endLoop_53 : decode b_CO_endLoop 53 = .ok (.return_, 1) := bz_c177 (by decide +kernel)
abbrev at_CO_endLoop (dC : Nat → ClassId) (dI : Nat → Nat → Nat) (h0 pr kn lt pe to bo cs se bob : Nat) (cpe cbob : ClassId) (h0_localCount : Int32) (h0_gives : Int32) (gpe : Nat → Int32) (A : Nat → Prop) (u : (Nat → Int32) × Int32 × Int32 × Int32 × Int32) (t : State) : Prop := match u with | (gbob, bo_length, h0_depth, h0_loopDepth, h0_pendingCount) => va_P (dC, dI) cls (wz_156 h0 pr kn lt h0_localCount pe h0_pendingCount h0_gives h0_depth h0_loopDepth to bo cs se pe cpe gpe bo bob bo_length bob cbob gbob) t.heap ∧ va_K (dC, dI) cls [(cpe, .int), (cbob, .byte)] t ∧ va_D A (wz_156 h0 pr kn lt h0_localCount pe h0_pendingCount h0_gives h0_depth h0_loopDepth to bo cs se pe cpe gpe bo bob bo_length bob cbob gbob)
set_option maxHeartbeats 4000000 in
set_option maxRecDepth 100000 in
theorem c_CO_endLoop (l : Launch) (dC : Nat → ClassId) (dI : Nat → Nat → Nat) (sz : Nat) (h0 pr kn lt pe to bo cs se bob : Nat) (cpe cbob : ClassId) (h0_localCount : Int32) (h0_pendingCount : Int32) (h0_gives : Int32) (h0_depth : Int32) (h0_loopDepth : Int32) (gpe : Nat → Int32) (bo_length : Int32) (gbob : Nat → Int32)  (b_h0_pendingCount : 0 ≤ h0_pendingCount.toInt ∧ h0_pendingCount.toInt ≤ 680) (b_bo_length : 0 ≤ bo_length.toInt ∧ bo_length.toInt ≤ 8192)   (hpc : 1 ≤ h0_pendingCount.toInt) (hde : 2 ≤ h0_depth.toInt ∧ h0_depth.toInt ≤ 100000) (hbo : bo_length.toInt + 4 ≤ 8192) : Met l y_CO_endLoop w_CO_endLoop ({ frames := 1, cells := 0, slots := 0, locals := 21 }) (va_Pc [.ref h0] (fun U => U.heap.size = sz ∧ va_P (dC, dI) cls (wz_156 h0 pr kn lt h0_localCount pe h0_pendingCount h0_gives h0_depth h0_loopDepth to bo cs se pe cpe gpe bo bob bo_length bob cbob gbob) U.heap ∧ va_K (dC, dI) cls [(cpe, .int), (cbob, .byte)] U ∧ va_D (fun _ => True) (wz_156 h0 pr kn lt h0_localCount pe h0_pendingCount h0_gives h0_depth h0_loopDepth to bo cs se pe cpe gpe bo bob bo_length bob cbob gbob))) (va_Qv (fun (u : (Nat → Int32) × Int32 × Int32 × Int32 × Int32) => match u with | (gbob2, bo_length2, h0_depth2, h0_loopDepth2, h0_pendingCount2) => (0 ≤ bo_length2.toInt ∧ bo_length2.toInt ≤ 8192) ∧ (0 ≤ h0_pendingCount2.toInt ∧ h0_pendingCount2.toInt ≤ 680) ∧ ((h0_pendingCount2.toInt = h0_pendingCount.toInt - 1 ∧ h0_loopDepth2 = gpe h0_pendingCount2.toNatClampNeg) ∧ h0_depth2.toInt = h0_depth.toInt - 2 ∧ bo_length2.toInt = bo_length.toInt + 4 ∧ bl gbob2 bo_length2.toNatClampNeg = bl gbob bo_length.toNatClampNeg ++ [12, 0, 11, 11])) (at_CO_endLoop dC dI h0 pr kn lt pe to bo cs se bob cpe cbob h0_localCount h0_gives gpe (va_A (wz_156 h0 pr kn lt h0_localCount pe h0_pendingCount h0_gives h0_depth h0_loopDepth to bo cs se pe cpe gpe bo bob bo_length bob cbob gbob) sz)) (va_A (wz_156 h0 pr kn lt h0_localCount pe h0_pendingCount h0_gives h0_depth h0_loopDepth to bo cs se pe cpe gpe bo bob bo_length bob cbob gbob) sz)) 0 0 (va_A (wz_156 h0 pr kn lt h0_localCount pe h0_pendingCount h0_gives h0_depth h0_loopDepth to bo cs se pe cpe gpe bo bob bo_length bob cbob gbob) sz) := by
  refine Met.ofW (cc := b_CO_endLoop) (maxL := 1) (ret := none) (by decide) rfl ?_
  intro p e s m args below meth c s₁ B hml hv
  obtain ⟨rfl, hsz, hP, hK, hD0⟩ := hv
  have hx := B.exec
  have hb := B.bytes
  have hr := B.returns
  have hts0 := atoms_spec (ws := w_CO_endLoop) B.pre
  have hts : ∀ w ∈ lw_g, w.before _ s = true := fun w h => hts0 w (List.mem_cons_of_mem _ h)
  have hown : s.vm.findClass R_CO = some m.cls := findClass_of_methodNamed B.named
  have hlocks := B.notSynchronized
  clear hts0
  subst hsz
  have hD := hD0.self (sz := s.heap.size)
  generalize hAe : va_A (wz_156 h0 pr kn lt h0_localCount pe h0_pendingCount h0_gives h0_depth h0_loopDepth to bo cs se pe cpe gpe bo bob bo_length bob cbob gbob) s.heap.size = A at hD ⊢
  have hA : ∀ q : Nat, s.heap.size ≤ q → A q := fun q h => by rw [← hAe]; exact Or.inr h
  clear hAe
  have hP : va_P (dC, dI) cls (wz_156 h0 pr kn lt h0_localCount pe h0_pendingCount h0_gives h0_depth h0_loopDepth to bo cs se pe cpe gpe bo bob bo_length bob cbob gbob) s.heap := hP
  have hl := lv_entry ([.ref h0]) (n := 1) (Nat.le_of_ble_eq_true rfl)
  rw [lg_entry_eq]
  generalize (lg_sl ([.ref h0]) ++ List.replicate (1 - (lg_sl ([.ref h0])).length) Slot.unset).toArray = ls at hl ⊢
  have hl : lv_has ls 1 [(0, .ref h0)] := hl
  have k0 : (0 : Int32).toInt = 0 := by decide
  refine w_gen (A := A) hP (fun H locs hP hS => ?_)
  have k2 : (2 : Int32).toInt = 2 := by decide
  have k11 : (11 : Int32).toInt = 11 := by decide
  have k12 : (12 : Int32).toInt = 12 := by decide
  refine lv_aload_n hx hb d_CO_endLoop_0 rfl (lv_at hl 0 rfl) ?_
  refine va_get (D := (dC, dI)) (ci := 2) (v := .ref bo) (C := R_CO) (T := F_CO) (N := 13) hx hb hts i_CO hown hK hP 0 rfl rfl 10 (by decide) (hts _ kF_CO_26) (fun _ h9 => h9) rfl d_CO_endLoop_1 ?_
  refine lv_bipush (v := 12) hx hb d_CO_endLoop_4 (by decide) ?_
  have hPc := hP.sb (wq := (wz_94 bo bob bo_length bob cbob gbob)) [2, 3] rfl
  have hDc := hD.sb (wq := (wz_94 bo bob bo_length bob cbob gbob)) [2, 3] (by decide) rfl
  have hKc := hK.sb (tyq := [(cbob, .byte)]) [1] rfl
  have hFc := va_free (wc := (wz_94 bo bob bo_length bob cbob gbob)) hD hS hA [2, 3] rfl
  refine va_callv (va_runV (As := [.int 12]) (rest := []) ⟨hx, hb, hml, hown, hts⟩ (c_BR_put l dC dI bo bob H.size cbob 8192 bo_length gbob (by (first | (apply Int.le_antisymm <;> omega) | omega)) (by (first | (apply Int.le_antisymm <;> omega) | omega)) (by (first | (apply Int.le_antisymm <;> omega) | omega)) 12) (cwV 1 hts (gV kM_CO_76 kV_BR_put kS_BR_put kI_BR kC_BR_put) rfl rfl rfl (by decide +kernel) ⟨Nat.le_of_ble_eq_true rfl, Nat.le_of_ble_eq_true rfl⟩) ⟨fun a U g mk z => by obtain ⟨z0, z1, zP, zK, zD⟩ := z; exact ⟨z0, z1, zP, va_K.moved (u := U) (U := U.calling g mk a) (Vm.Alike.refl U.vm) zK, zD⟩, va_recv hKc hPc (ci := 1) (q0 := 0) rfl rfl, fun U hU hW => ⟨rfl, by rw [hU], va_P.he hU.symm hPc, va_K.moved hW.alike hKc, hDc.weaken (fun _ _ _ _ => trivial)⟩⟩ rfl rfl hl.1 rfl (lv_room (Nat.le_of_ble_eq_true rfl)) d_CO_endLoop_6 ⟨(Nat.zero_le _), (Nat.zero_le _)⟩) hS (fun q _ h => hFc q h) hFc (fun u t H1 locs ht hvm hw hB hz1 hk1 hS => ?_)
  obtain ⟨n2, f3⟩ := u
  try dsimp only at hw
  have tn2 := br_put_in (by (first | (apply Int.le_antisymm <;> omega) | omega)) (by (first | (apply Int.le_antisymm <;> omega) | omega)) (by (first | (apply Int.le_antisymm <;> omega) | omega)) hw
  have bn2 := br_put_bl (by (first | (apply Int.le_antisymm <;> omega) | omega)) (by (first | (apply Int.le_antisymm <;> omega) | omega)) (by (first | (apply Int.le_antisymm <;> omega) | omega)) hw
  obtain ⟨hP1, hK1, hD1⟩ := hB
  replace hP1 := va_P.he ht hP1
  obtain ⟨hP, hD⟩ := va_join (wr := (wz_149 h0 pr kn lt h0_localCount pe h0_pendingCount h0_gives h0_depth h0_loopDepth to bo cs se pe cpe gpe)) (w1 := (wz_94 bo bob n2 bob cbob f3)) hP hD [2, 3] [0, 1] rfl rfl (by decide) (by decide) hk1 hFc hP1 hD1
  clear hPc hDc hKc hFc hz1 hk1 hP1 hK1 hD1
  rename Heap => H
  have hP : va_P (dC, dI) cls (wz_156 h0 pr kn lt h0_localCount pe h0_pendingCount h0_gives h0_depth h0_loopDepth to bo cs se pe cpe gpe bo bob n2 bob cbob f3) H := hP
  have hD : va_D A (wz_156 h0 pr kn lt h0_localCount pe h0_pendingCount h0_gives h0_depth h0_loopDepth to bo cs se pe cpe gpe bo bob n2 bob cbob f3) := hD
  refine lv_aload_n hx hb d_CO_endLoop_9 rfl (lv_at hl 0 rfl) ?_
  refine va_get (D := (dC, dI)) (ci := 2) (v := .ref bo) (C := R_CO) (T := F_CO) (N := 13) hx hb hts i_CO hown hK hP 0 rfl rfl 10 (by decide) (hts _ kF_CO_26) (fun _ h9 => h9) rfl d_CO_endLoop_10 ?_
  refine lv_iconst (v := 0) hx hb d_CO_endLoop_13 (by decide) ?_
  have hPc := hP.sb (wq := (wz_94 bo bob n2 bob cbob f3)) [2, 3] rfl
  have hDc := hD.sb (wq := (wz_94 bo bob n2 bob cbob f3)) [2, 3] (by decide) rfl
  have hKc := hK.sb (tyq := [(cbob, .byte)]) [1] rfl
  have hFc := va_free (wc := (wz_94 bo bob n2 bob cbob f3)) hD hS hA [2, 3] rfl
  refine va_callv (va_runV (As := [.int 0]) (rest := []) ⟨hx, hb, hml, hown, hts⟩ (c_BR_put l dC dI bo bob H.size cbob 8192 n2 f3 (by (first | (apply Int.le_antisymm <;> omega) | omega)) (by (first | (apply Int.le_antisymm <;> omega) | omega)) (by (first | (apply Int.le_antisymm <;> omega) | omega)) 0) (cwV 1 hts (gV kM_CO_76 kV_BR_put kS_BR_put kI_BR kC_BR_put) rfl rfl rfl (by decide +kernel) ⟨Nat.le_of_ble_eq_true rfl, Nat.le_of_ble_eq_true rfl⟩) ⟨fun a U g mk z => by obtain ⟨z0, z1, zP, zK, zD⟩ := z; exact ⟨z0, z1, zP, va_K.moved (u := U) (U := U.calling g mk a) (Vm.Alike.refl U.vm) zK, zD⟩, va_recv hKc hPc (ci := 1) (q0 := 0) rfl rfl, fun U hU hW => ⟨rfl, by rw [hU], va_P.he hU.symm hPc, va_K.moved hW.alike hKc, hDc.weaken (fun _ _ _ _ => trivial)⟩⟩ rfl rfl hl.1 rfl (lv_room (Nat.le_of_ble_eq_true rfl)) d_CO_endLoop_14 ⟨(Nat.zero_le _), (Nat.zero_le _)⟩) hS (fun q _ h => hFc q h) hFc (fun u t H1 locs ht hvm hw hB hz1 hk1 hS => ?_)
  obtain ⟨n5, f6⟩ := u
  try dsimp only at hw
  have tn5 := br_put_in (by (first | (apply Int.le_antisymm <;> omega) | omega)) (by (first | (apply Int.le_antisymm <;> omega) | omega)) (by (first | (apply Int.le_antisymm <;> omega) | omega)) hw
  have bn5 := br_put_bl (by (first | (apply Int.le_antisymm <;> omega) | omega)) (by (first | (apply Int.le_antisymm <;> omega) | omega)) (by (first | (apply Int.le_antisymm <;> omega) | omega)) hw
  obtain ⟨hP1, hK1, hD1⟩ := hB
  replace hP1 := va_P.he ht hP1
  obtain ⟨hP, hD⟩ := va_join (wr := (wz_149 h0 pr kn lt h0_localCount pe h0_pendingCount h0_gives h0_depth h0_loopDepth to bo cs se pe cpe gpe)) (w1 := (wz_94 bo bob n5 bob cbob f6)) hP hD [2, 3] [0, 1] rfl rfl (by decide) (by decide) hk1 hFc hP1 hD1
  clear hPc hDc hKc hFc hz1 hk1 hP1 hK1 hD1
  rename Heap => H
  have hP : va_P (dC, dI) cls (wz_156 h0 pr kn lt h0_localCount pe h0_pendingCount h0_gives h0_depth h0_loopDepth to bo cs se pe cpe gpe bo bob n5 bob cbob f6) H := hP
  have hD : va_D A (wz_156 h0 pr kn lt h0_localCount pe h0_pendingCount h0_gives h0_depth h0_loopDepth to bo cs se pe cpe gpe bo bob n5 bob cbob f6) := hD
  refine lv_aload_n hx hb d_CO_endLoop_17 rfl (lv_at hl 0 rfl) ?_
  refine va_get (D := (dC, dI)) (ci := 2) (v := .ref bo) (C := R_CO) (T := F_CO) (N := 13) hx hb hts i_CO hown hK hP 0 rfl rfl 10 (by decide) (hts _ kF_CO_26) (fun _ h9 => h9) rfl d_CO_endLoop_18 ?_
  refine lv_bipush (v := 11) hx hb d_CO_endLoop_21 (by decide) ?_
  have hPc := hP.sb (wq := (wz_94 bo bob n5 bob cbob f6)) [2, 3] rfl
  have hDc := hD.sb (wq := (wz_94 bo bob n5 bob cbob f6)) [2, 3] (by decide) rfl
  have hKc := hK.sb (tyq := [(cbob, .byte)]) [1] rfl
  have hFc := va_free (wc := (wz_94 bo bob n5 bob cbob f6)) hD hS hA [2, 3] rfl
  refine va_callv (va_runV (As := [.int 11]) (rest := []) ⟨hx, hb, hml, hown, hts⟩ (c_BR_put l dC dI bo bob H.size cbob 8192 n5 f6 (by (first | (apply Int.le_antisymm <;> omega) | omega)) (by (first | (apply Int.le_antisymm <;> omega) | omega)) (by (first | (apply Int.le_antisymm <;> omega) | omega)) 11) (cwV 1 hts (gV kM_CO_76 kV_BR_put kS_BR_put kI_BR kC_BR_put) rfl rfl rfl (by decide +kernel) ⟨Nat.le_of_ble_eq_true rfl, Nat.le_of_ble_eq_true rfl⟩) ⟨fun a U g mk z => by obtain ⟨z0, z1, zP, zK, zD⟩ := z; exact ⟨z0, z1, zP, va_K.moved (u := U) (U := U.calling g mk a) (Vm.Alike.refl U.vm) zK, zD⟩, va_recv hKc hPc (ci := 1) (q0 := 0) rfl rfl, fun U hU hW => ⟨rfl, by rw [hU], va_P.he hU.symm hPc, va_K.moved hW.alike hKc, hDc.weaken (fun _ _ _ _ => trivial)⟩⟩ rfl rfl hl.1 rfl (lv_room (Nat.le_of_ble_eq_true rfl)) d_CO_endLoop_23 ⟨(Nat.zero_le _), (Nat.zero_le _)⟩) hS (fun q _ h => hFc q h) hFc (fun u t H1 locs ht hvm hw hB hz1 hk1 hS => ?_)
  obtain ⟨n8, f9⟩ := u
  try dsimp only at hw
  have tn8 := br_put_in (by (first | (apply Int.le_antisymm <;> omega) | omega)) (by (first | (apply Int.le_antisymm <;> omega) | omega)) (by (first | (apply Int.le_antisymm <;> omega) | omega)) hw
  have bn8 := br_put_bl (by (first | (apply Int.le_antisymm <;> omega) | omega)) (by (first | (apply Int.le_antisymm <;> omega) | omega)) (by (first | (apply Int.le_antisymm <;> omega) | omega)) hw
  obtain ⟨hP1, hK1, hD1⟩ := hB
  replace hP1 := va_P.he ht hP1
  obtain ⟨hP, hD⟩ := va_join (wr := (wz_149 h0 pr kn lt h0_localCount pe h0_pendingCount h0_gives h0_depth h0_loopDepth to bo cs se pe cpe gpe)) (w1 := (wz_94 bo bob n8 bob cbob f9)) hP hD [2, 3] [0, 1] rfl rfl (by decide) (by decide) hk1 hFc hP1 hD1
  clear hPc hDc hKc hFc hz1 hk1 hP1 hK1 hD1
  rename Heap => H
  have hP : va_P (dC, dI) cls (wz_156 h0 pr kn lt h0_localCount pe h0_pendingCount h0_gives h0_depth h0_loopDepth to bo cs se pe cpe gpe bo bob n8 bob cbob f9) H := hP
  have hD : va_D A (wz_156 h0 pr kn lt h0_localCount pe h0_pendingCount h0_gives h0_depth h0_loopDepth to bo cs se pe cpe gpe bo bob n8 bob cbob f9) := hD
  refine lv_aload_n hx hb d_CO_endLoop_26 rfl (lv_at hl 0 rfl) ?_
  refine va_get (D := (dC, dI)) (ci := 2) (v := .ref bo) (C := R_CO) (T := F_CO) (N := 13) hx hb hts i_CO hown hK hP 0 rfl rfl 10 (by decide) (hts _ kF_CO_26) (fun _ h9 => h9) rfl d_CO_endLoop_27 ?_
  refine lv_bipush (v := 11) hx hb d_CO_endLoop_30 (by decide) ?_
  have hPc := hP.sb (wq := (wz_94 bo bob n8 bob cbob f9)) [2, 3] rfl
  have hDc := hD.sb (wq := (wz_94 bo bob n8 bob cbob f9)) [2, 3] (by decide) rfl
  have hKc := hK.sb (tyq := [(cbob, .byte)]) [1] rfl
  have hFc := va_free (wc := (wz_94 bo bob n8 bob cbob f9)) hD hS hA [2, 3] rfl
  refine va_callv (va_runV (As := [.int 11]) (rest := []) ⟨hx, hb, hml, hown, hts⟩ (c_BR_put l dC dI bo bob H.size cbob 8192 n8 f9 (by (first | (apply Int.le_antisymm <;> omega) | omega)) (by (first | (apply Int.le_antisymm <;> omega) | omega)) (by (first | (apply Int.le_antisymm <;> omega) | omega)) 11) (cwV 1 hts (gV kM_CO_76 kV_BR_put kS_BR_put kI_BR kC_BR_put) rfl rfl rfl (by decide +kernel) ⟨Nat.le_of_ble_eq_true rfl, Nat.le_of_ble_eq_true rfl⟩) ⟨fun a U g mk z => by obtain ⟨z0, z1, zP, zK, zD⟩ := z; exact ⟨z0, z1, zP, va_K.moved (u := U) (U := U.calling g mk a) (Vm.Alike.refl U.vm) zK, zD⟩, va_recv hKc hPc (ci := 1) (q0 := 0) rfl rfl, fun U hU hW => ⟨rfl, by rw [hU], va_P.he hU.symm hPc, va_K.moved hW.alike hKc, hDc.weaken (fun _ _ _ _ => trivial)⟩⟩ rfl rfl hl.1 rfl (lv_room (Nat.le_of_ble_eq_true rfl)) d_CO_endLoop_32 ⟨(Nat.zero_le _), (Nat.zero_le _)⟩) hS (fun q _ h => hFc q h) hFc (fun u t H1 locs ht hvm hw hB hz1 hk1 hS => ?_)
  obtain ⟨n11, f12⟩ := u
  try dsimp only at hw
  have tn11 := br_put_in (by (first | (apply Int.le_antisymm <;> omega) | omega)) (by (first | (apply Int.le_antisymm <;> omega) | omega)) (by (first | (apply Int.le_antisymm <;> omega) | omega)) hw
  have bn11 := br_put_bl (by (first | (apply Int.le_antisymm <;> omega) | omega)) (by (first | (apply Int.le_antisymm <;> omega) | omega)) (by (first | (apply Int.le_antisymm <;> omega) | omega)) hw
  obtain ⟨hP1, hK1, hD1⟩ := hB
  replace hP1 := va_P.he ht hP1
  obtain ⟨hP, hD⟩ := va_join (wr := (wz_149 h0 pr kn lt h0_localCount pe h0_pendingCount h0_gives h0_depth h0_loopDepth to bo cs se pe cpe gpe)) (w1 := (wz_94 bo bob n11 bob cbob f12)) hP hD [2, 3] [0, 1] rfl rfl (by decide) (by decide) hk1 hFc hP1 hD1
  clear hPc hDc hKc hFc hz1 hk1 hP1 hK1 hD1
  rename Heap => H
  have hP : va_P (dC, dI) cls (wz_156 h0 pr kn lt h0_localCount pe h0_pendingCount h0_gives h0_depth h0_loopDepth to bo cs se pe cpe gpe bo bob n11 bob cbob f12) H := hP
  have hD : va_D A (wz_156 h0 pr kn lt h0_localCount pe h0_pendingCount h0_gives h0_depth h0_loopDepth to bo cs se pe cpe gpe bo bob n11 bob cbob f12) := hD
  refine lv_aload_n hx hb d_CO_endLoop_35 rfl (lv_at hl 0 rfl) ?_
  refine lv_dup hx hb d_CO_endLoop_36 rfl ?_
  refine va_get (D := (dC, dI)) (ci := 2) (v := .int h0_depth) (C := R_CO) (T := F_CO) (N := 13) hx hb hts i_CO hown hK hP 0 rfl rfl 7 (by decide) (hts _ kF_CO_115) (fun _ h9 => h9) rfl d_CO_endLoop_37 ?_
  refine lv_iconst (v := 2) hx hb d_CO_endLoop_40 (by decide) ?_
  refine lv_isub hx hb d_CO_endLoop_41 ?_
  refine lv_topi (fun x13 ex13 => ?_)
  have tx13 : x13.toInt = h0_depth.toInt - 2 := by have z := i32_sub ex13 (by (first | (apply Int.le_antisymm <;> omega) | omega)) (by (first | (apply Int.le_antisymm <;> omega) | omega)); first | exact z | (first | (apply Int.le_antisymm <;> omega) | omega)
  refine va_put (D := (dC, dI)) (ci := 2) (v := .int x13) (ty := .int) (C := R_CO) (T := F_CO) (N := 13) hx hb hts i_CO t_CO t_CO_ok n_CO hown hK hP hD hS 0 rfl rfl 7 (by decide) (hts _ kF_CO_115) (fun _ h9 => h9) rfl (by decide +kernel) rfl rfl (Nat.le_of_ble_eq_true rfl) d_CO_endLoop_42 (fun H locs hP hD hS => ?_)
  refine lv_aload_n hx hb d_CO_endLoop_45 rfl (lv_at hl 0 rfl) ?_
  refine lv_aload_n hx hb d_CO_endLoop_46 rfl (lv_at hl 0 rfl) ?_
  have hPc := hP.sb (wq := (wz_149 h0 pr kn lt h0_localCount pe h0_pendingCount h0_gives x13 h0_loopDepth to bo cs se pe cpe gpe)) [0, 1] rfl
  have hDc := hD.sb (wq := (wz_149 h0 pr kn lt h0_localCount pe h0_pendingCount h0_gives x13 h0_loopDepth to bo cs se pe cpe gpe)) [0, 1] (by decide) rfl
  have hKc := hK.sb (tyq := [(cpe, .int)]) [0] rfl
  have hFc := va_free (wc := (wz_149 h0 pr kn lt h0_localCount pe h0_pendingCount h0_gives x13 h0_loopDepth to bo cs se pe cpe gpe)) hD hS hA [0, 1] rfl
  refine va_calli (va_runV (As := []) (rest := [.ref h0]) ⟨hx, hb, hml, hown, hts⟩ (c_CO_pop l dC dI H.size h0 pr kn lt pe to bo cs se cpe h0_localCount h0_pendingCount h0_gives x13 h0_loopDepth gpe (b_h0_pendingCount) (by (try dsimp only) <;> (first | (apply Int.le_antisymm <;> omega) | omega))) (cwV 0 hts (gV kM_CO_224 kV_CO_pop kS_CO_pop kI_CO kC_CO_pop) rfl rfl rfl (by decide +kernel) ⟨Nat.le_of_ble_eq_true rfl, Nat.le_of_ble_eq_true rfl⟩) ⟨fun a U g mk z => by obtain ⟨z0, z1, zP, zK, zD⟩ := z; exact ⟨z0, z1, zP, va_K.moved (u := U) (U := U.calling g mk a) (Vm.Alike.refl U.vm) zK, zD⟩, va_recv hKc hPc (ci := 2) (q0 := 0) rfl rfl, fun U hU hW => ⟨rfl, by rw [hU], va_P.he hU.symm hPc, va_K.moved hW.alike hKc, hDc.weaken (fun _ _ _ _ => trivial)⟩⟩ rfl rfl hl.1 rfl (lv_room (Nat.le_of_ble_eq_true rfl)) d_CO_endLoop_47 ⟨(Nat.zero_le _), (Nat.zero_le _)⟩) hS (fun q _ h => hFc q h) hFc (fun r14 u t H1 locs ht hvm hw hB hz1 hk1 hS => ?_)
  obtain ⟨n15, rfl⟩ : ∃ z, z = u := ⟨_, rfl⟩
  try dsimp only at hw
  obtain ⟨bn15, xr14⟩ := hw
  try clear hw
  obtain ⟨hP1, hK1, hD1⟩ := hB
  replace hP1 := va_P.he ht hP1
  obtain ⟨hP, hD⟩ := va_join (wr := (wz_94 bo bob n11 bob cbob f12)) (w1 := (wz_149 h0 pr kn lt h0_localCount pe n15 h0_gives x13 h0_loopDepth to bo cs se pe cpe gpe)) hP hD [0, 1] [2, 3] rfl rfl (by decide) (by decide) hk1 hFc hP1 hD1
  clear hPc hDc hKc hFc hz1 hk1 hP1 hK1 hD1
  rename Heap => H
  have hP : va_P (dC, dI) cls (wz_157 bo bob n11 bob cbob f12 h0 pr kn lt h0_localCount pe n15 h0_gives x13 h0_loopDepth to bo cs se pe cpe gpe) H := hP
  have hD : va_D A (wz_157 bo bob n11 bob cbob f12 h0 pr kn lt h0_localCount pe n15 h0_gives x13 h0_loopDepth to bo cs se pe cpe gpe) := hD
  refine va_put (D := (dC, dI)) (ci := 2) (v := .int r14) (ty := .int) (C := R_CO) (T := F_CO) (N := 13) hx hb hts i_CO t_CO t_CO_ok n_CO hown hK hP hD hS 2 rfl rfl 8 (by decide) (hts _ kF_CO_118) (fun _ h9 => h9) rfl (by decide +kernel) rfl rfl (Nat.le_of_ble_eq_true rfl) d_CO_endLoop_50 (fun H locs hP hD hS => ?_)
  have hP9 := hP.sb (wq := (wz_156 h0 pr kn lt h0_localCount pe n15 h0_gives x13 r14 to bo cs se pe cpe gpe bo bob n11 bob cbob f12)) [2, 3, 0, 1] rfl
  have hD9 := hD.sb (wq := (wz_156 h0 pr kn lt h0_localCount pe n15 h0_gives x13 r14 to bo cs se pe cpe gpe bo bob n11 bob cbob f12)) [2, 3, 0, 1] (by decide) rfl
  exact W.vret hx hb hr (fun t ht hW => ⟨⟨(f12, n11, x13, r14, n15), rfl, ⟨by (try dsimp only) <;> (first | (apply Int.le_antisymm <;> omega) | omega), bn15, ⟨xr14, by (try dsimp only) <;> (first | (apply Int.le_antisymm <;> omega) | omega), by (try dsimp only) <;> (first | (apply Int.le_antisymm <;> omega) | omega), by (try dsimp only); rw [bn11 (by (first | (apply Int.le_antisymm <;> omega) | omega)), bn8 (by (first | (apply Int.le_antisymm <;> omega) | omega)), bn5 (by (first | (apply Int.le_antisymm <;> omega) | omega)), bn2 (by (first | (apply Int.le_antisymm <;> omega) | omega)), List.append_assoc, List.append_assoc, List.append_assoc]; rfl⟩⟩, va_P.he ht.symm hP9, va_K.moved hW.alike hK, hD9⟩, hS.F ht⟩) hS.2.2 d_CO_endLoop_53
end q_61
section q_62
/-! Coder: half a sign of two sides -/
abbrev b_CO_codeHalfway : ByteArray := prog_4_method_8_code
def y_CO_codeHalfway : MethodName := ⟨R_CO, "codeHalfway", "(LWaferForge$Sign;)V"⟩
abbrev w_CO_codeHalfway : List Cond := .code y_CO_codeHalfway b_CO_codeHalfway 2 none :: lw_g
theorem kC_CO_codeHalfway : Cond.code y_CO_codeHalfway b_CO_codeHalfway 2 none ∈ lw_g := in_c5 173 rfl rfl
theorem d_CO_codeHalfway_0 : decode b_CO_codeHalfway 0 = .ok (.aload_n 0, 1) := bz_c42 (by decide +kernel)
theorem d_CO_codeHalfway_1 : decode b_CO_codeHalfway 1 = .ok (.getfield 26, 3) := bz_c180 (by decide +kernel)
theorem d_CO_codeHalfway_4 : decode b_CO_codeHalfway 4 = .ok (.iconst 4, 1) := bz_c7 (by decide +kernel)
theorem d_CO_codeHalfway_5 : decode b_CO_codeHalfway 5 = .ok (.invokevirtual 76, 3) := bz_c182 (by decide +kernel)
theorem d_CO_codeHalfway_8 : decode b_CO_codeHalfway 8 = .ok (.aload_n 0, 1) := bz_c42 (by decide +kernel)
theorem d_CO_codeHalfway_9 : decode b_CO_codeHalfway 9 = .ok (.getfield 26, 3) := bz_c180 (by decide +kernel)
theorem d_CO_codeHalfway_12 : decode b_CO_codeHalfway 12 = .ok (.bipush 127, 2) := bz_c16 (by decide +kernel)
theorem d_CO_codeHalfway_14 : decode b_CO_codeHalfway 14 = .ok (.invokevirtual 76, 3) := bz_c182 (by decide +kernel)
theorem d_CO_codeHalfway_17 : decode b_CO_codeHalfway 17 = .ok (.aload_n 1, 1) := bz_c43 (by decide +kernel)
theorem d_CO_codeHalfway_18 : decode b_CO_codeHalfway 18 = .ok (.getstatic 221, 3) := bz_c178 (by decide +kernel)
theorem d_CO_codeHalfway_21 : decode b_CO_codeHalfway 21 = .ok (.if_acmp .ne 28, 3) := bz_c166 (by decide +kernel)
theorem d_CO_codeHalfway_24 : decode b_CO_codeHalfway 24 = .ok (.aload_n 0, 1) := bz_c42 (by decide +kernel)
theorem d_CO_codeHalfway_25 : decode b_CO_codeHalfway 25 = .ok (.getfield 26, 3) := bz_c180 (by decide +kernel)
theorem d_CO_codeHalfway_28 : decode b_CO_codeHalfway 28 = .ok (.bipush 65, 2) := bz_c16 (by decide +kernel)
theorem d_CO_codeHalfway_30 : decode b_CO_codeHalfway 30 = .ok (.invokevirtual 76, 3) := bz_c182 (by decide +kernel)
theorem d_CO_codeHalfway_33 : decode b_CO_codeHalfway 33 = .ok (.aload_n 0, 1) := bz_c42 (by decide +kernel)
theorem d_CO_codeHalfway_34 : decode b_CO_codeHalfway 34 = .ok (.getfield 26, 3) := bz_c180 (by decide +kernel)
theorem d_CO_codeHalfway_37 : decode b_CO_codeHalfway 37 = .ok (.iconst 1, 1) := bz_c4 (by decide +kernel)
theorem d_CO_codeHalfway_38 : decode b_CO_codeHalfway 38 = .ok (.invokevirtual 76, 3) := bz_c182 (by decide +kernel)
theorem d_CO_codeHalfway_41 : decode b_CO_codeHalfway 41 = .ok (.aload_n 0, 1) := bz_c42 (by decide +kernel)
theorem d_CO_codeHalfway_42 : decode b_CO_codeHalfway 42 = .ok (.getfield 26, 3) := bz_c180 (by decide +kernel)
theorem d_CO_codeHalfway_45 : decode b_CO_codeHalfway 45 = .ok (.iconst 5, 1) := bz_c8 (by decide +kernel)
theorem d_CO_codeHalfway_46 : decode b_CO_codeHalfway 46 = .ok (.invokevirtual 76, 3) := bz_c182 (by decide +kernel)
theorem d_CO_codeHalfway_49 : decode b_CO_codeHalfway 49 = .ok (.return_, 1) := bz_c177 (by decide +kernel)
theorem kF_CO_221 : Cond.fieldLink R_CO 221 "WaferForge$Sign" "OR" "LWaferForge$Sign;" ∈ lw_g := in_c5 174 rfl rfl
abbrev at_CO_codeHalfway (dC : Nat → ClassId) (dI : Nat → Nat → Nat) (sa : Nat → Nat) (h0 pr kn lt pe to bo cs se bob : Nat) (cbob : ClassId) (h0_localCount : Int32) (h0_pendingCount : Int32) (h0_gives : Int32) (h0_depth : Int32) (h0_loopDepth : Int32) (A : Nat → Prop) (u : (Nat → Int32) × Int32) (t : State) : Prop := match u with | (gbob, bo_length) => va_P (dC, dI) cls (wz_158 h0 pr kn lt h0_localCount pe h0_pendingCount h0_gives h0_depth h0_loopDepth to bo cs se bo bob bo_length bob cbob gbob) t.heap ∧ va_K (dC, dI) cls [(cbob, .byte)] t ∧ va_D A (wz_158 h0 pr kn lt h0_localCount pe h0_pendingCount h0_gives h0_depth h0_loopDepth to bo cs se bo bob bo_length bob cbob gbob)
set_option maxHeartbeats 4000000 in
set_option maxRecDepth 100000 in
theorem c_CO_codeHalfway (l : Launch) (dC : Nat → ClassId) (dI : Nat → Nat → Nat) (sz : Nat) (sa : Nat → Nat) (h0 pr kn lt pe to bo cs se bob : Nat) (cbob : ClassId) (h0_localCount : Int32) (h0_pendingCount : Int32) (h0_gives : Int32) (h0_depth : Int32) (h0_loopDepth : Int32) (bo_length : Int32) (gbob : Nat → Int32)  (b_bo_length : 0 ≤ bo_length.toInt ∧ bo_length.toInt ≤ 8192) (ka : Nat) (ba0 : ka < 55) (hbo : bo_length.toInt + 5 ≤ 8192) : Met l y_CO_codeHalfway w_CO_codeHalfway ({ frames := 1, cells := 0, slots := 0, locals := 21 }) (va_Pc [.ref h0, .ref (sg sa ka)] (fun U => U.heap.size = sz ∧ va_P (dC, dI) cls (wz_158 h0 pr kn lt h0_localCount pe h0_pendingCount h0_gives h0_depth h0_loopDepth to bo cs se bo bob bo_length bob cbob gbob) U.heap ∧ va_K (dC, dI) cls [(cbob, .byte)] U ∧ va_D (fun _ => True) (wz_158 h0 pr kn lt h0_localCount pe h0_pendingCount h0_gives h0_depth h0_loopDepth to bo cs se bo bob bo_length bob cbob gbob) ∧ sw sa (va_A (wz_158 h0 pr kn lt h0_localCount pe h0_pendingCount h0_gives h0_depth h0_loopDepth to bo cs se bo bob bo_length bob cbob gbob) sz) U U.heap)) (va_Qv (fun (u : (Nat → Int32) × Int32) => match u with | (gbob2, bo_length2) => (0 ≤ bo_length2.toInt ∧ bo_length2.toInt ≤ 8192) ∧ ((ka = 36 → bo_length2.toInt = bo_length.toInt + 5 ∧ bl gbob2 bo_length2.toNatClampNeg = bl gbob bo_length.toNatClampNeg ++ [4, 127, 65, 1, 5]) ∧ (ka ≠ 36 → bo_length2.toInt = bo_length.toInt + 2 ∧ bl gbob2 bo_length2.toNatClampNeg = bl gbob bo_length.toNatClampNeg ++ [4, 127]))) (at_CO_codeHalfway dC dI sa h0 pr kn lt pe to bo cs se bob cbob h0_localCount h0_pendingCount h0_gives h0_depth h0_loopDepth (va_A (wz_158 h0 pr kn lt h0_localCount pe h0_pendingCount h0_gives h0_depth h0_loopDepth to bo cs se bo bob bo_length bob cbob gbob) sz)) (va_A (wz_158 h0 pr kn lt h0_localCount pe h0_pendingCount h0_gives h0_depth h0_loopDepth to bo cs se bo bob bo_length bob cbob gbob) sz)) 0 0 (va_A (wz_158 h0 pr kn lt h0_localCount pe h0_pendingCount h0_gives h0_depth h0_loopDepth to bo cs se bo bob bo_length bob cbob gbob) sz) := by
  refine Met.ofW (cc := b_CO_codeHalfway) (maxL := 2) (ret := none) (by decide) rfl ?_
  intro p e s m args below meth c s₁ B hml hv
  obtain ⟨rfl, hsz, hP, hK, hD0, hSW⟩ := hv
  have hx := B.exec
  have hb := B.bytes
  have hr := B.returns
  have hts0 := atoms_spec (ws := w_CO_codeHalfway) B.pre
  have hts : ∀ w ∈ lw_g, w.before _ s = true := fun w h => hts0 w (List.mem_cons_of_mem _ h)
  have hown : s.vm.findClass R_CO = some m.cls := findClass_of_methodNamed B.named
  have hlocks := B.notSynchronized
  clear hts0
  subst hsz
  have hD := hD0.self (sz := s.heap.size)
  generalize hAe : va_A (wz_158 h0 pr kn lt h0_localCount pe h0_pendingCount h0_gives h0_depth h0_loopDepth to bo cs se bo bob bo_length bob cbob gbob) s.heap.size = A at hD hSW ⊢
  have hA : ∀ q : Nat, s.heap.size ≤ q → A q := fun q h => by rw [← hAe]; exact Or.inr h
  clear hAe
  have hP : va_P (dC, dI) cls (wz_158 h0 pr kn lt h0_localCount pe h0_pendingCount h0_gives h0_depth h0_loopDepth to bo cs se bo bob bo_length bob cbob gbob) s.heap := hP
  have hl := lv_entry ([.ref h0, .ref (sg sa ka)]) (n := 2) (Nat.le_of_ble_eq_true rfl)
  rw [lg_entry_eq]
  generalize (lg_sl ([.ref h0, .ref (sg sa ka)]) ++ List.replicate (2 - (lg_sl ([.ref h0, .ref (sg sa ka)])).length) Slot.unset).toArray = ls at hl ⊢
  have hl : lv_has ls 2 [(0, .ref h0), (1, .ref (sg sa ka))] := hl
  have k0 : (0 : Int32).toInt = 0 := by decide
  refine w_gen (A := A) hP (fun H locs hP hS => ?_)
  have k1 : (1 : Int32).toInt = 1 := by decide
  have k4 : (4 : Int32).toInt = 4 := by decide
  have k5 : (5 : Int32).toInt = 5 := by decide
  have k65 : (65 : Int32).toInt = 65 := by decide
  have k127 : (127 : Int32).toInt = 127 := by decide
  refine lv_aload_n hx hb d_CO_codeHalfway_0 rfl (lv_at hl 0 rfl) ?_
  refine va_get (D := (dC, dI)) (ci := 2) (v := .ref bo) (C := R_CO) (T := F_CO) (N := 13) hx hb hts i_CO hown hK hP 0 rfl rfl 10 (by decide) (hts _ kF_CO_26) (fun _ h9 => h9) rfl d_CO_codeHalfway_1 ?_
  refine lv_iconst (v := 4) hx hb d_CO_codeHalfway_4 (by decide) ?_
  have hPc := hP.sb (wq := (wz_94 bo bob bo_length bob cbob gbob)) [1, 2] rfl
  have hDc := hD.sb (wq := (wz_94 bo bob bo_length bob cbob gbob)) [1, 2] (by decide) rfl
  have hKc := hK.sb (tyq := [(cbob, .byte)]) [0] rfl
  have hFc := va_free (wc := (wz_94 bo bob bo_length bob cbob gbob)) hD hS hA [1, 2] rfl
  refine va_callv (va_runV (As := [.int 4]) (rest := []) ⟨hx, hb, hml, hown, hts⟩ (c_BR_put l dC dI bo bob H.size cbob 8192 bo_length gbob (by (first | (apply Int.le_antisymm <;> omega) | omega)) (by (first | (apply Int.le_antisymm <;> omega) | omega)) (by (first | (apply Int.le_antisymm <;> omega) | omega)) 4) (cwV 1 hts (gV kM_CO_76 kV_BR_put kS_BR_put kI_BR kC_BR_put) rfl rfl rfl (by decide +kernel) ⟨Nat.le_of_ble_eq_true rfl, Nat.le_of_ble_eq_true rfl⟩) ⟨fun a U g mk z => by obtain ⟨z0, z1, zP, zK, zD⟩ := z; exact ⟨z0, z1, zP, va_K.moved (u := U) (U := U.calling g mk a) (Vm.Alike.refl U.vm) zK, zD⟩, va_recv hKc hPc (ci := 1) (q0 := 0) rfl rfl, fun U hU hW => ⟨rfl, by rw [hU], va_P.he hU.symm hPc, va_K.moved hW.alike hKc, hDc.weaken (fun _ _ _ _ => trivial)⟩⟩ rfl rfl hl.1 rfl (lv_room (Nat.le_of_ble_eq_true rfl)) d_CO_codeHalfway_5 ⟨(Nat.zero_le _), (Nat.zero_le _)⟩) hS (fun q _ h => hFc q h) hFc (fun u t H1 locs ht hvm hw hB hz1 hk1 hS => ?_)
  obtain ⟨n2, f3⟩ := u
  try dsimp only at hw
  have tn2 := br_put_in (by (first | (apply Int.le_antisymm <;> omega) | omega)) (by (first | (apply Int.le_antisymm <;> omega) | omega)) (by (first | (apply Int.le_antisymm <;> omega) | omega)) hw
  have bn2 := br_put_bl (by (first | (apply Int.le_antisymm <;> omega) | omega)) (by (first | (apply Int.le_antisymm <;> omega) | omega)) (by (first | (apply Int.le_antisymm <;> omega) | omega)) hw
  obtain ⟨hP1, hK1, hD1⟩ := hB
  replace hP1 := va_P.he ht hP1
  obtain ⟨hP, hD⟩ := va_join (wr := (wz_159 h0 pr kn lt h0_localCount pe h0_pendingCount h0_gives h0_depth h0_loopDepth to bo cs se)) (w1 := (wz_94 bo bob n2 bob cbob f3)) hP hD [1, 2] [0] rfl rfl (by decide) (by decide) hk1 hFc hP1 hD1
  clear hPc hDc hKc hFc hz1 hk1 hP1 hK1 hD1
  rename Heap => H
  have hP : va_P (dC, dI) cls (wz_158 h0 pr kn lt h0_localCount pe h0_pendingCount h0_gives h0_depth h0_loopDepth to bo cs se bo bob n2 bob cbob f3) H := hP
  have hD : va_D A (wz_158 h0 pr kn lt h0_localCount pe h0_pendingCount h0_gives h0_depth h0_loopDepth to bo cs se bo bob n2 bob cbob f3) := hD
  refine lv_aload_n hx hb d_CO_codeHalfway_8 rfl (lv_at hl 0 rfl) ?_
  refine va_get (D := (dC, dI)) (ci := 2) (v := .ref bo) (C := R_CO) (T := F_CO) (N := 13) hx hb hts i_CO hown hK hP 0 rfl rfl 10 (by decide) (hts _ kF_CO_26) (fun _ h9 => h9) rfl d_CO_codeHalfway_9 ?_
  refine lv_bipush (v := 127) hx hb d_CO_codeHalfway_12 (by decide) ?_
  have hPc := hP.sb (wq := (wz_94 bo bob n2 bob cbob f3)) [1, 2] rfl
  have hDc := hD.sb (wq := (wz_94 bo bob n2 bob cbob f3)) [1, 2] (by decide) rfl
  have hKc := hK.sb (tyq := [(cbob, .byte)]) [0] rfl
  have hFc := va_free (wc := (wz_94 bo bob n2 bob cbob f3)) hD hS hA [1, 2] rfl
  refine va_callv (va_runV (As := [.int 127]) (rest := []) ⟨hx, hb, hml, hown, hts⟩ (c_BR_put l dC dI bo bob H.size cbob 8192 n2 f3 (by (first | (apply Int.le_antisymm <;> omega) | omega)) (by (first | (apply Int.le_antisymm <;> omega) | omega)) (by (first | (apply Int.le_antisymm <;> omega) | omega)) 127) (cwV 1 hts (gV kM_CO_76 kV_BR_put kS_BR_put kI_BR kC_BR_put) rfl rfl rfl (by decide +kernel) ⟨Nat.le_of_ble_eq_true rfl, Nat.le_of_ble_eq_true rfl⟩) ⟨fun a U g mk z => by obtain ⟨z0, z1, zP, zK, zD⟩ := z; exact ⟨z0, z1, zP, va_K.moved (u := U) (U := U.calling g mk a) (Vm.Alike.refl U.vm) zK, zD⟩, va_recv hKc hPc (ci := 1) (q0 := 0) rfl rfl, fun U hU hW => ⟨rfl, by rw [hU], va_P.he hU.symm hPc, va_K.moved hW.alike hKc, hDc.weaken (fun _ _ _ _ => trivial)⟩⟩ rfl rfl hl.1 rfl (lv_room (Nat.le_of_ble_eq_true rfl)) d_CO_codeHalfway_14 ⟨(Nat.zero_le _), (Nat.zero_le _)⟩) hS (fun q _ h => hFc q h) hFc (fun u t H1 locs ht hvm hw hB hz1 hk1 hS => ?_)
  obtain ⟨n5, f6⟩ := u
  try dsimp only at hw
  have tn5 := br_put_in (by (first | (apply Int.le_antisymm <;> omega) | omega)) (by (first | (apply Int.le_antisymm <;> omega) | omega)) (by (first | (apply Int.le_antisymm <;> omega) | omega)) hw
  have bn5 := br_put_bl (by (first | (apply Int.le_antisymm <;> omega) | omega)) (by (first | (apply Int.le_antisymm <;> omega) | omega)) (by (first | (apply Int.le_antisymm <;> omega) | omega)) hw
  obtain ⟨hP1, hK1, hD1⟩ := hB
  replace hP1 := va_P.he ht hP1
  obtain ⟨hP, hD⟩ := va_join (wr := (wz_159 h0 pr kn lt h0_localCount pe h0_pendingCount h0_gives h0_depth h0_loopDepth to bo cs se)) (w1 := (wz_94 bo bob n5 bob cbob f6)) hP hD [1, 2] [0] rfl rfl (by decide) (by decide) hk1 hFc hP1 hD1
  clear hPc hDc hKc hFc hz1 hk1 hP1 hK1 hD1
  rename Heap => H
  have hP : va_P (dC, dI) cls (wz_158 h0 pr kn lt h0_localCount pe h0_pendingCount h0_gives h0_depth h0_loopDepth to bo cs se bo bob n5 bob cbob f6) H := hP
  have hD : va_D A (wz_158 h0 pr kn lt h0_localCount pe h0_pendingCount h0_gives h0_depth h0_loopDepth to bo cs se bo bob n5 bob cbob f6) := hD
  refine lv_aload_n hx hb d_CO_codeHalfway_17 rfl (lv_at hl 1 rfl) ?_
  refine va_gets (C := "WaferForge$Sign") (n := "OR") (d := "LWaferForge$Sign;") (v := .ref (sg sa 36)) hx hb ((hSW.2.2.2.1.1 36 (by decide)).1) hS hown (hts _ kF_CO_221) (fun _ h9 => h9) d_CO_codeHalfway_18 ?_
  refine lv_acmp_ne (rx := some (sg sa ka)) (ry := some (sg sa 36)) (tgt := 49) hx hb d_CO_codeHalfway_21 (by decide) (fun c21 => ?_) (fun c21 => ?_)
  · have q21 : ka ≠ 36 := fun z => c21 (by rw [z])
    have hP9 := hP.sb (wq := (wz_158 h0 pr kn lt h0_localCount pe h0_pendingCount h0_gives h0_depth h0_loopDepth to bo cs se bo bob n5 bob cbob f6)) [0, 1, 2] rfl
    have hD9 := hD.sb (wq := (wz_158 h0 pr kn lt h0_localCount pe h0_pendingCount h0_gives h0_depth h0_loopDepth to bo cs se bo bob n5 bob cbob f6)) [0, 1, 2] (by decide) rfl
    exact W.vret hx hb hr (fun t ht hW => ⟨⟨(f6, n5), rfl, ⟨by (try dsimp only) <;> (first | (apply Int.le_antisymm <;> omega) | omega), ⟨fun z => absurd z q21, fun _ => ⟨by (try dsimp only) <;> (first | (apply Int.le_antisymm <;> omega) | omega), by (try dsimp only); rw [bn5 (by (first | (apply Int.le_antisymm <;> omega) | omega)), bn2 (by (first | (apply Int.le_antisymm <;> omega) | omega)), List.append_assoc]; rfl⟩⟩⟩, va_P.he ht.symm hP9, va_K.moved hW.alike hK, hD9⟩, hS.F ht⟩) hS.2.2 d_CO_codeHalfway_49
  · have q21 : ka = 36 := hSW.2.2.2.1.2 ka 36 ba0 (by decide : 36 < 55) (Option.some.inj c21)
    refine lv_aload_n hx hb d_CO_codeHalfway_24 rfl (lv_at hl 0 rfl) ?_
    refine va_get (D := (dC, dI)) (ci := 2) (v := .ref bo) (C := R_CO) (T := F_CO) (N := 13) hx hb hts i_CO hown hK hP 0 rfl rfl 10 (by decide) (hts _ kF_CO_26) (fun _ h9 => h9) rfl d_CO_codeHalfway_25 ?_
    refine lv_bipush (v := 65) hx hb d_CO_codeHalfway_28 (by decide) ?_
    have hPc := hP.sb (wq := (wz_94 bo bob n5 bob cbob f6)) [1, 2] rfl
    have hDc := hD.sb (wq := (wz_94 bo bob n5 bob cbob f6)) [1, 2] (by decide) rfl
    have hKc := hK.sb (tyq := [(cbob, .byte)]) [0] rfl
    have hFc := va_free (wc := (wz_94 bo bob n5 bob cbob f6)) hD hS hA [1, 2] rfl
    refine va_callv (va_runV (As := [.int 65]) (rest := []) ⟨hx, hb, hml, hown, hts⟩ (c_BR_put l dC dI bo bob H.size cbob 8192 n5 f6 (by (first | (apply Int.le_antisymm <;> omega) | omega)) (by (first | (apply Int.le_antisymm <;> omega) | omega)) (by (first | (apply Int.le_antisymm <;> omega) | omega)) 65) (cwV 1 hts (gV kM_CO_76 kV_BR_put kS_BR_put kI_BR kC_BR_put) rfl rfl rfl (by decide +kernel) ⟨Nat.le_of_ble_eq_true rfl, Nat.le_of_ble_eq_true rfl⟩) ⟨fun a U g mk z => by obtain ⟨z0, z1, zP, zK, zD⟩ := z; exact ⟨z0, z1, zP, va_K.moved (u := U) (U := U.calling g mk a) (Vm.Alike.refl U.vm) zK, zD⟩, va_recv hKc hPc (ci := 1) (q0 := 0) rfl rfl, fun U hU hW => ⟨rfl, by rw [hU], va_P.he hU.symm hPc, va_K.moved hW.alike hKc, hDc.weaken (fun _ _ _ _ => trivial)⟩⟩ rfl rfl hl.1 rfl (lv_room (Nat.le_of_ble_eq_true rfl)) d_CO_codeHalfway_30 ⟨(Nat.zero_le _), (Nat.zero_le _)⟩) hS (fun q _ h => hFc q h) hFc (fun u t H1 locs ht hvm hw hB hz1 hk1 hS => ?_)
    obtain ⟨n8, f9⟩ := u
    try dsimp only at hw
    have tn8 := br_put_in (by (first | (apply Int.le_antisymm <;> omega) | omega)) (by (first | (apply Int.le_antisymm <;> omega) | omega)) (by (first | (apply Int.le_antisymm <;> omega) | omega)) hw
    have bn8 := br_put_bl (by (first | (apply Int.le_antisymm <;> omega) | omega)) (by (first | (apply Int.le_antisymm <;> omega) | omega)) (by (first | (apply Int.le_antisymm <;> omega) | omega)) hw
    obtain ⟨hP1, hK1, hD1⟩ := hB
    replace hP1 := va_P.he ht hP1
    obtain ⟨hP, hD⟩ := va_join (wr := (wz_159 h0 pr kn lt h0_localCount pe h0_pendingCount h0_gives h0_depth h0_loopDepth to bo cs se)) (w1 := (wz_94 bo bob n8 bob cbob f9)) hP hD [1, 2] [0] rfl rfl (by decide) (by decide) hk1 hFc hP1 hD1
    clear hPc hDc hKc hFc hz1 hk1 hP1 hK1 hD1
    rename Heap => H
    have hP : va_P (dC, dI) cls (wz_158 h0 pr kn lt h0_localCount pe h0_pendingCount h0_gives h0_depth h0_loopDepth to bo cs se bo bob n8 bob cbob f9) H := hP
    have hD : va_D A (wz_158 h0 pr kn lt h0_localCount pe h0_pendingCount h0_gives h0_depth h0_loopDepth to bo cs se bo bob n8 bob cbob f9) := hD
    refine lv_aload_n hx hb d_CO_codeHalfway_33 rfl (lv_at hl 0 rfl) ?_
    refine va_get (D := (dC, dI)) (ci := 2) (v := .ref bo) (C := R_CO) (T := F_CO) (N := 13) hx hb hts i_CO hown hK hP 0 rfl rfl 10 (by decide) (hts _ kF_CO_26) (fun _ h9 => h9) rfl d_CO_codeHalfway_34 ?_
    refine lv_iconst (v := 1) hx hb d_CO_codeHalfway_37 (by decide) ?_
    have hPc := hP.sb (wq := (wz_94 bo bob n8 bob cbob f9)) [1, 2] rfl
    have hDc := hD.sb (wq := (wz_94 bo bob n8 bob cbob f9)) [1, 2] (by decide) rfl
    have hKc := hK.sb (tyq := [(cbob, .byte)]) [0] rfl
    have hFc := va_free (wc := (wz_94 bo bob n8 bob cbob f9)) hD hS hA [1, 2] rfl
    refine va_callv (va_runV (As := [.int 1]) (rest := []) ⟨hx, hb, hml, hown, hts⟩ (c_BR_put l dC dI bo bob H.size cbob 8192 n8 f9 (by (first | (apply Int.le_antisymm <;> omega) | omega)) (by (first | (apply Int.le_antisymm <;> omega) | omega)) (by (first | (apply Int.le_antisymm <;> omega) | omega)) 1) (cwV 1 hts (gV kM_CO_76 kV_BR_put kS_BR_put kI_BR kC_BR_put) rfl rfl rfl (by decide +kernel) ⟨Nat.le_of_ble_eq_true rfl, Nat.le_of_ble_eq_true rfl⟩) ⟨fun a U g mk z => by obtain ⟨z0, z1, zP, zK, zD⟩ := z; exact ⟨z0, z1, zP, va_K.moved (u := U) (U := U.calling g mk a) (Vm.Alike.refl U.vm) zK, zD⟩, va_recv hKc hPc (ci := 1) (q0 := 0) rfl rfl, fun U hU hW => ⟨rfl, by rw [hU], va_P.he hU.symm hPc, va_K.moved hW.alike hKc, hDc.weaken (fun _ _ _ _ => trivial)⟩⟩ rfl rfl hl.1 rfl (lv_room (Nat.le_of_ble_eq_true rfl)) d_CO_codeHalfway_38 ⟨(Nat.zero_le _), (Nat.zero_le _)⟩) hS (fun q _ h => hFc q h) hFc (fun u t H1 locs ht hvm hw hB hz1 hk1 hS => ?_)
    obtain ⟨n11, f12⟩ := u
    try dsimp only at hw
    have tn11 := br_put_in (by (first | (apply Int.le_antisymm <;> omega) | omega)) (by (first | (apply Int.le_antisymm <;> omega) | omega)) (by (first | (apply Int.le_antisymm <;> omega) | omega)) hw
    have bn11 := br_put_bl (by (first | (apply Int.le_antisymm <;> omega) | omega)) (by (first | (apply Int.le_antisymm <;> omega) | omega)) (by (first | (apply Int.le_antisymm <;> omega) | omega)) hw
    obtain ⟨hP1, hK1, hD1⟩ := hB
    replace hP1 := va_P.he ht hP1
    obtain ⟨hP, hD⟩ := va_join (wr := (wz_159 h0 pr kn lt h0_localCount pe h0_pendingCount h0_gives h0_depth h0_loopDepth to bo cs se)) (w1 := (wz_94 bo bob n11 bob cbob f12)) hP hD [1, 2] [0] rfl rfl (by decide) (by decide) hk1 hFc hP1 hD1
    clear hPc hDc hKc hFc hz1 hk1 hP1 hK1 hD1
    rename Heap => H
    have hP : va_P (dC, dI) cls (wz_158 h0 pr kn lt h0_localCount pe h0_pendingCount h0_gives h0_depth h0_loopDepth to bo cs se bo bob n11 bob cbob f12) H := hP
    have hD : va_D A (wz_158 h0 pr kn lt h0_localCount pe h0_pendingCount h0_gives h0_depth h0_loopDepth to bo cs se bo bob n11 bob cbob f12) := hD
    refine lv_aload_n hx hb d_CO_codeHalfway_41 rfl (lv_at hl 0 rfl) ?_
    refine va_get (D := (dC, dI)) (ci := 2) (v := .ref bo) (C := R_CO) (T := F_CO) (N := 13) hx hb hts i_CO hown hK hP 0 rfl rfl 10 (by decide) (hts _ kF_CO_26) (fun _ h9 => h9) rfl d_CO_codeHalfway_42 ?_
    refine lv_iconst (v := 5) hx hb d_CO_codeHalfway_45 (by decide) ?_
    have hPc := hP.sb (wq := (wz_94 bo bob n11 bob cbob f12)) [1, 2] rfl
    have hDc := hD.sb (wq := (wz_94 bo bob n11 bob cbob f12)) [1, 2] (by decide) rfl
    have hKc := hK.sb (tyq := [(cbob, .byte)]) [0] rfl
    have hFc := va_free (wc := (wz_94 bo bob n11 bob cbob f12)) hD hS hA [1, 2] rfl
    refine va_callv (va_runV (As := [.int 5]) (rest := []) ⟨hx, hb, hml, hown, hts⟩ (c_BR_put l dC dI bo bob H.size cbob 8192 n11 f12 (by (first | (apply Int.le_antisymm <;> omega) | omega)) (by (first | (apply Int.le_antisymm <;> omega) | omega)) (by (first | (apply Int.le_antisymm <;> omega) | omega)) 5) (cwV 1 hts (gV kM_CO_76 kV_BR_put kS_BR_put kI_BR kC_BR_put) rfl rfl rfl (by decide +kernel) ⟨Nat.le_of_ble_eq_true rfl, Nat.le_of_ble_eq_true rfl⟩) ⟨fun a U g mk z => by obtain ⟨z0, z1, zP, zK, zD⟩ := z; exact ⟨z0, z1, zP, va_K.moved (u := U) (U := U.calling g mk a) (Vm.Alike.refl U.vm) zK, zD⟩, va_recv hKc hPc (ci := 1) (q0 := 0) rfl rfl, fun U hU hW => ⟨rfl, by rw [hU], va_P.he hU.symm hPc, va_K.moved hW.alike hKc, hDc.weaken (fun _ _ _ _ => trivial)⟩⟩ rfl rfl hl.1 rfl (lv_room (Nat.le_of_ble_eq_true rfl)) d_CO_codeHalfway_46 ⟨(Nat.zero_le _), (Nat.zero_le _)⟩) hS (fun q _ h => hFc q h) hFc (fun u t H1 locs ht hvm hw hB hz1 hk1 hS => ?_)
    obtain ⟨n14, f15⟩ := u
    try dsimp only at hw
    have tn14 := br_put_in (by (first | (apply Int.le_antisymm <;> omega) | omega)) (by (first | (apply Int.le_antisymm <;> omega) | omega)) (by (first | (apply Int.le_antisymm <;> omega) | omega)) hw
    have bn14 := br_put_bl (by (first | (apply Int.le_antisymm <;> omega) | omega)) (by (first | (apply Int.le_antisymm <;> omega) | omega)) (by (first | (apply Int.le_antisymm <;> omega) | omega)) hw
    obtain ⟨hP1, hK1, hD1⟩ := hB
    replace hP1 := va_P.he ht hP1
    obtain ⟨hP, hD⟩ := va_join (wr := (wz_159 h0 pr kn lt h0_localCount pe h0_pendingCount h0_gives h0_depth h0_loopDepth to bo cs se)) (w1 := (wz_94 bo bob n14 bob cbob f15)) hP hD [1, 2] [0] rfl rfl (by decide) (by decide) hk1 hFc hP1 hD1
    clear hPc hDc hKc hFc hz1 hk1 hP1 hK1 hD1
    rename Heap => H
    have hP : va_P (dC, dI) cls (wz_158 h0 pr kn lt h0_localCount pe h0_pendingCount h0_gives h0_depth h0_loopDepth to bo cs se bo bob n14 bob cbob f15) H := hP
    have hD : va_D A (wz_158 h0 pr kn lt h0_localCount pe h0_pendingCount h0_gives h0_depth h0_loopDepth to bo cs se bo bob n14 bob cbob f15) := hD
    have hP9 := hP.sb (wq := (wz_158 h0 pr kn lt h0_localCount pe h0_pendingCount h0_gives h0_depth h0_loopDepth to bo cs se bo bob n14 bob cbob f15)) [0, 1, 2] rfl
    have hD9 := hD.sb (wq := (wz_158 h0 pr kn lt h0_localCount pe h0_pendingCount h0_gives h0_depth h0_loopDepth to bo cs se bo bob n14 bob cbob f15)) [0, 1, 2] (by decide) rfl
    exact W.vret hx hb hr (fun t ht hW => ⟨⟨(f15, n14), rfl, ⟨by (try dsimp only) <;> (first | (apply Int.le_antisymm <;> omega) | omega), ⟨fun _ => ⟨by (try dsimp only) <;> (first | (apply Int.le_antisymm <;> omega) | omega), by (try dsimp only); rw [bn14 (by (first | (apply Int.le_antisymm <;> omega) | omega)), bn11 (by (first | (apply Int.le_antisymm <;> omega) | omega)), bn8 (by (first | (apply Int.le_antisymm <;> omega) | omega)), bn5 (by (first | (apply Int.le_antisymm <;> omega) | omega)), bn2 (by (first | (apply Int.le_antisymm <;> omega) | omega)), List.append_assoc, List.append_assoc, List.append_assoc, List.append_assoc]; rfl⟩, fun z => absurd q21 z⟩⟩, va_P.he ht.symm hP9, va_K.moved hW.alike hK, hD9⟩, hS.F ht⟩) hS.2.2 d_CO_codeHalfway_49
end q_62
section q_63
/-! Coder: i32(..), i64(..) -/
abbrev b_CO_codeConvert : ByteArray := prog_4_method_11_code
def y_CO_codeConvert : MethodName := ⟨R_CO, "codeConvert", "(LWaferForge$Sign;I)V"⟩
abbrev w_CO_codeConvert : List Cond := .code y_CO_codeConvert b_CO_codeConvert 4 none :: lw_g
theorem kC_CO_codeConvert : Cond.code y_CO_codeConvert b_CO_codeConvert 4 none ∈ lw_g := in_c5 198 rfl rfl
theorem d_CO_codeConvert_0 : decode b_CO_codeConvert 0 = .ok (.aload_n 0, 1) := bz_c42 (by decide +kernel)
theorem d_CO_codeConvert_1 : decode b_CO_codeConvert 1 = .ok (.invokevirtual 224, 3) := bz_c182 (by decide +kernel)
theorem d_CO_codeConvert_4 : decode b_CO_codeConvert 4 = .ok (.istore_n 3, 1) := bz_c62 (by decide +kernel)
theorem d_CO_codeConvert_5 : decode b_CO_codeConvert 5 = .ok (.iload_n 3, 1) := bz_c29 (by decide +kernel)
theorem d_CO_codeConvert_6 : decode b_CO_codeConvert 6 = .ok (.bipush 64, 2) := bz_c16 (by decide +kernel)
theorem d_CO_codeConvert_8 : decode b_CO_codeConvert 8 = .ok (.if_icmp .ne 12, 3) := bz_c160 (by decide +kernel)
theorem d_CO_codeConvert_11 : decode b_CO_codeConvert 11 = .ok (.aload_n 0, 1) := bz_c42 (by decide +kernel)
theorem d_CO_codeConvert_12 : decode b_CO_codeConvert 12 = .ok (.getfield 36, 3) := bz_c180 (by decide +kernel)
theorem d_CO_codeConvert_15 : decode b_CO_codeConvert 15 = .ok (.iconst 3, 1) := bz_c6 (by decide +kernel)
theorem d_CO_codeConvert_16 : decode b_CO_codeConvert 16 = .ok (.iload_n 2, 1) := bz_c28 (by decide +kernel)
theorem d_CO_codeConvert_17 : decode b_CO_codeConvert 17 = .ok (.invokevirtual 105, 3) := bz_c182 (by decide +kernel)
theorem d_CO_codeConvert_20 : decode b_CO_codeConvert 20 = .ok (.iload_n 3, 1) := bz_c29 (by decide +kernel)
theorem d_CO_codeConvert_21 : decode b_CO_codeConvert 21 = .ok (.aload_n 1, 1) := bz_c43 (by decide +kernel)
theorem d_CO_codeConvert_22 : decode b_CO_codeConvert 22 = .ok (.invokevirtual 170, 3) := bz_c182 (by decide +kernel)
theorem d_CO_codeConvert_25 : decode b_CO_codeConvert 25 = .ok (.if_icmp .eq 25, 3) := bz_c159 (by decide +kernel)
theorem d_CO_codeConvert_28 : decode b_CO_codeConvert 28 = .ok (.aload_n 0, 1) := bz_c42 (by decide +kernel)
theorem d_CO_codeConvert_29 : decode b_CO_codeConvert 29 = .ok (.getfield 26, 3) := bz_c180 (by decide +kernel)
theorem d_CO_codeConvert_32 : decode b_CO_codeConvert 32 = .ok (.iload_n 3, 1) := bz_c29 (by decide +kernel)
theorem d_CO_codeConvert_33 : decode b_CO_codeConvert 33 = .ok (.bipush 127, 2) := bz_c16 (by decide +kernel)
theorem d_CO_codeConvert_35 : decode b_CO_codeConvert 35 = .ok (.if_icmp .ne 9, 3) := bz_c160 (by decide +kernel)
theorem d_CO_codeConvert_38 : decode b_CO_codeConvert 38 = .ok (.sipush 172, 3) := bz_c17 (by decide +kernel)
theorem d_CO_codeConvert_41 : decode b_CO_codeConvert 41 = .ok (.goto 6, 3) := bz_c167 (by decide +kernel)
theorem d_CO_codeConvert_44 : decode b_CO_codeConvert 44 = .ok (.sipush 167, 3) := bz_c17 (by decide +kernel)
theorem d_CO_codeConvert_47 : decode b_CO_codeConvert 47 = .ok (.invokevirtual 76, 3) := bz_c182 (by decide +kernel)
theorem d_CO_codeConvert_50 : decode b_CO_codeConvert 50 = .ok (.aload_n 0, 1) := bz_c42 (by decide +kernel)
theorem d_CO_codeConvert_51 : decode b_CO_codeConvert 51 = .ok (.aload_n 1, 1) := bz_c43 (by decide +kernel)
theorem d_CO_codeConvert_52 : decode b_CO_codeConvert 52 = .ok (.invokevirtual 170, 3) := bz_c182 (by decide +kernel)
theorem d_CO_codeConvert_55 : decode b_CO_codeConvert 55 = .ok (.invokevirtual 183, 3) := bz_c182 (by decide +kernel)
theorem d_CO_codeConvert_58 : decode b_CO_codeConvert 58 = .ok (.return_, 1) := bz_c177 (by decide +kernel)
theorem kM_CO_170 : Cond.methodLink R_CO 170 y_SG_type ∈ lw_g := in_c5 149 rfl rfl
abbrev at_CO_codeConvert (dC : Nat → ClassId) (dI : Nat → Nat → Nat) (sa : Nat → Nat) (h0 pr kn lt pe to bo cs se gl fu pa pf sf pk pg pp pz pv pr_scanner_r pr_waiting_r pr_waitingPlaces_r bob : Nat) (cpe cbob : ClassId) (h0_localCount : Int32) (h0_gives : Int32) (h0_depth : Int32) (h0_loopDepth : Int32) (pr_stepCount : Int32) (pr_open : Int32) (pr_twoSides : Int32) (pr_waitingCount : Int32) (A : Nat → Prop) (u : (Nat → Int32) × (Nat → Int32) × Int32 × Int32 × Int32 × Int32) (t : State) : Prop := match u with | (gbob, gpe, bo_length, h0_pendingCount, pr_place, pr_reason) => va_P (dC, dI) cls (wz_160 h0 pr kn lt h0_localCount pe h0_pendingCount h0_gives h0_depth h0_loopDepth to bo cs se pr gl fu pa pf sf pk pg pp pz pv pr_reason pr_place pr_scanner_r pr_stepCount pr_open pr_twoSides pr_waiting_r pr_waitingPlaces_r pr_waitingCount pe cpe gpe bo bob bo_length bob cbob gbob) t.heap ∧ va_K (dC, dI) cls [(cpe, .int), (cbob, .byte)] t ∧ va_D A (wz_160 h0 pr kn lt h0_localCount pe h0_pendingCount h0_gives h0_depth h0_loopDepth to bo cs se pr gl fu pa pf sf pk pg pp pz pv pr_reason pr_place pr_scanner_r pr_stepCount pr_open pr_twoSides pr_waiting_r pr_waitingPlaces_r pr_waitingCount pe cpe gpe bo bob bo_length bob cbob gbob)
set_option maxHeartbeats 4000000 in
set_option maxRecDepth 100000 in
theorem c_CO_codeConvert (l : Launch) (hlt : l.stackTraces = false) (dC : Nat → ClassId) (dI : Nat → Nat → Nat) (sz : Nat) (sa : Nat → Nat) (h0 pr kn lt pe to bo cs se gl fu pa pf sf pk pg pp pz pv pr_scanner_r pr_waiting_r pr_waitingPlaces_r bob : Nat) (cpe cbob : ClassId) (h0_localCount : Int32) (h0_pendingCount : Int32) (h0_gives : Int32) (h0_depth : Int32) (h0_loopDepth : Int32) (pr_reason : Int32) (pr_place : Int32) (pr_stepCount : Int32) (pr_open : Int32) (pr_twoSides : Int32) (pr_waitingCount : Int32) (gpe : Nat → Int32) (bo_length : Int32) (gbob : Nat → Int32)  (b_h0_pendingCount : 0 ≤ h0_pendingCount.toInt ∧ h0_pendingCount.toInt ≤ 680) (b_bo_length : 0 ≤ bo_length.toInt ∧ bo_length.toInt ≤ 8192) (ka : Nat) (p1 : Int32) (ba0 : ka < 55) (hpc : 1 ≤ h0_pendingCount.toInt) (hka : ka = 14 ∨ ka = 15) (hbo : bo_length.toInt + 1 ≤ 8192) : tz_Met l y_CO_codeConvert w_CO_codeConvert ({ frames := 7, cells := 1, slots := 6, locals := 112 }) (va_Pc [.ref h0, .ref (sg sa ka), .int p1] (fun U => U.heap.size = sz ∧ va_P (dC, dI) cls (wz_160 h0 pr kn lt h0_localCount pe h0_pendingCount h0_gives h0_depth h0_loopDepth to bo cs se pr gl fu pa pf sf pk pg pp pz pv pr_reason pr_place pr_scanner_r pr_stepCount pr_open pr_twoSides pr_waiting_r pr_waitingPlaces_r pr_waitingCount pe cpe gpe bo bob bo_length bob cbob gbob) U.heap ∧ va_K (dC, dI) cls [(cpe, .int), (cbob, .byte)] U ∧ va_D (fun _ => True) (wz_160 h0 pr kn lt h0_localCount pe h0_pendingCount h0_gives h0_depth h0_loopDepth to bo cs se pr gl fu pa pf sf pk pg pp pz pv pr_reason pr_place pr_scanner_r pr_stepCount pr_open pr_twoSides pr_waiting_r pr_waitingPlaces_r pr_waitingCount pe cpe gpe bo bob bo_length bob cbob gbob) ∧ sw sa (va_A (wz_160 h0 pr kn lt h0_localCount pe h0_pendingCount h0_gives h0_depth h0_loopDepth to bo cs se pr gl fu pa pf sf pk pg pp pz pv pr_reason pr_place pr_scanner_r pr_stepCount pr_open pr_twoSides pr_waiting_r pr_waitingPlaces_r pr_waitingCount pe cpe gpe bo bob bo_length bob cbob gbob) sz) U U.heap)) (tq_Q (tq_v (fun (u : (Nat → Int32) × (Nat → Int32) × Int32 × Int32 × Int32 × Int32) => match u with | (gbob2, gpe2, bo_length2, h0_pendingCount2, pr_place2, pr_reason2) => (0 ≤ bo_length2.toInt ∧ bo_length2.toInt ≤ 8192) ∧ (0 ≤ h0_pendingCount2.toInt ∧ h0_pendingCount2.toInt ≤ 680) ∧ (h0_pendingCount2.toInt = h0_pendingCount.toInt ∧ (gpe (h0_pendingCount.toInt - 1).toNat).toInt ≠ 64 ∧ (∃ y : Int32, gpe2 = upd gpe (h0_pendingCount.toInt - 1).toNat y ∧ (y.toInt = 127 ∨ y.toInt = 126)) ∧ (∃ M : List Nat, bl gbob2 bo_length2.toNatClampNeg = bl gbob bo_length.toNatClampNeg ++ M ∧ (M = [] ∨ (M = [172] ∨ M = [167])) ∧ bo_length2.toInt = bo_length.toInt + (M.length : Int)))) "java/lang/UnsupportedOperationException" (fun (u : (Nat → Int32) × (Nat → Int32) × Int32 × Int32 × Int32 × Int32) => match u with | (gbob2, gpe2, bo_length2, h0_pendingCount2, pr_place2, pr_reason2) => (0 ≤ bo_length2.toInt ∧ bo_length2.toInt ≤ 8192) ∧ (0 ≤ h0_pendingCount2.toInt ∧ h0_pendingCount2.toInt ≤ 680))) (at_CO_codeConvert dC dI sa h0 pr kn lt pe to bo cs se gl fu pa pf sf pk pg pp pz pv pr_scanner_r pr_waiting_r pr_waitingPlaces_r bob cpe cbob h0_localCount h0_gives h0_depth h0_loopDepth pr_stepCount pr_open pr_twoSides pr_waitingCount (va_A (wz_160 h0 pr kn lt h0_localCount pe h0_pendingCount h0_gives h0_depth h0_loopDepth to bo cs se pr gl fu pa pf sf pk pg pp pz pv pr_reason pr_place pr_scanner_r pr_stepCount pr_open pr_twoSides pr_waiting_r pr_waitingPlaces_r pr_waitingCount pe cpe gpe bo bob bo_length bob cbob gbob) sz)) (va_A (wz_160 h0 pr kn lt h0_localCount pe h0_pendingCount h0_gives h0_depth h0_loopDepth to bo cs se pr gl fu pa pf sf pk pg pp pz pv pr_reason pr_place pr_scanner_r pr_stepCount pr_open pr_twoSides pr_waiting_r pr_waitingPlaces_r pr_waitingCount pe cpe gpe bo bob bo_length bob cbob gbob) sz)) (tz_k 0 0 1 6) (va_A (wz_160 h0 pr kn lt h0_localCount pe h0_pendingCount h0_gives h0_depth h0_loopDepth to bo cs se pr gl fu pa pf sf pk pg pp pz pv pr_reason pr_place pr_scanner_r pr_stepCount pr_open pr_twoSides pr_waiting_r pr_waitingPlaces_r pr_waitingCount pe cpe gpe bo bob bo_length bob cbob gbob) sz) := by
  refine tz_ofW (cc := b_CO_codeConvert) (maxL := 4) (ret := none) (by decide) rfl ?_
  intro p e s m args below meth c s₁ B hml hno hv
  obtain ⟨rfl, hsz, hP, hK, hD0, hSW⟩ := hv
  have hx := B.exec
  have hb := B.bytes
  have hr := B.returns
  have hts0 := atoms_spec (ws := w_CO_codeConvert) B.pre
  have hts : ∀ w ∈ lw_g, w.before _ s = true := fun w h => hts0 w (List.mem_cons_of_mem _ h)
  have hown : s.vm.findClass R_CO = some m.cls := findClass_of_methodNamed B.named
  have hlocks := B.notSynchronized
  clear hts0
  subst hsz
  have hD := hD0.self (sz := s.heap.size)
  generalize hAe : va_A (wz_160 h0 pr kn lt h0_localCount pe h0_pendingCount h0_gives h0_depth h0_loopDepth to bo cs se pr gl fu pa pf sf pk pg pp pz pv pr_reason pr_place pr_scanner_r pr_stepCount pr_open pr_twoSides pr_waiting_r pr_waitingPlaces_r pr_waitingCount pe cpe gpe bo bob bo_length bob cbob gbob) s.heap.size = A at hD hSW ⊢
  have hA : ∀ q : Nat, s.heap.size ≤ q → A q := fun q h => by rw [← hAe]; exact Or.inr h
  clear hAe
  have hP : va_P (dC, dI) cls (wz_160 h0 pr kn lt h0_localCount pe h0_pendingCount h0_gives h0_depth h0_loopDepth to bo cs se pr gl fu pa pf sf pk pg pp pz pv pr_reason pr_place pr_scanner_r pr_stepCount pr_open pr_twoSides pr_waiting_r pr_waitingPlaces_r pr_waitingCount pe cpe gpe bo bob bo_length bob cbob gbob) s.heap := hP
  have hl := lv_entry ([.ref h0, .ref (sg sa ka), .int p1]) (n := 4) (Nat.le_of_ble_eq_true rfl)
  rw [lg_entry_eq]
  generalize (lg_sl ([.ref h0, .ref (sg sa ka), .int p1]) ++ List.replicate (4 - (lg_sl ([.ref h0, .ref (sg sa ka), .int p1])).length) Slot.unset).toArray = ls at hl ⊢
  have hl : lv_has ls 4 [(0, .ref h0), (1, .ref (sg sa ka)), (2, .int p1)] := hl
  have k0 : (0 : Int32).toInt = 0 := by decide
  refine w_gen (A := A) hP (fun H locs hP hS => ?_)
  have k3 : (3 : Int32).toInt = 3 := by decide
  have k64 : (64 : Int32).toInt = 64 := by decide
  have k127 : (127 : Int32).toInt = 127 := by decide
  have k167 : (167 : Int32).toInt = 167 := by decide
  have k172 : (172 : Int32).toInt = 172 := by decide
  have lo_p1 := i32_lo p1
  have hi_p1 := i32_hi p1
  refine lv_aload_n hx hb d_CO_codeConvert_0 rfl (lv_at hl 0 rfl) ?_
  have hPc := hP.sb (wq := (wz_149 h0 pr kn lt h0_localCount pe h0_pendingCount h0_gives h0_depth h0_loopDepth to bo cs se pe cpe gpe)) [0, 2] rfl
  have hDc := hD.sb (wq := (wz_149 h0 pr kn lt h0_localCount pe h0_pendingCount h0_gives h0_depth h0_loopDepth to bo cs se pe cpe gpe)) [0, 2] (by decide) rfl
  have hKc := hK.sb (tyq := [(cpe, .int)]) [0] rfl
  have hFc := va_free (wc := (wz_149 h0 pr kn lt h0_localCount pe h0_pendingCount h0_gives h0_depth h0_loopDepth to bo cs se pe cpe gpe)) hD hS hA [0, 2] rfl
  refine va_calli (va_runV (As := []) (rest := []) ⟨hx, hb, hml, hown, hts⟩ (c_CO_pop l dC dI H.size h0 pr kn lt pe to bo cs se cpe h0_localCount h0_pendingCount h0_gives h0_depth h0_loopDepth gpe (b_h0_pendingCount) (by (try dsimp only) <;> (first | (apply Int.le_antisymm <;> omega) | omega))) (cwV 0 hts (gV kM_CO_224 kV_CO_pop kS_CO_pop kI_CO kC_CO_pop) rfl rfl rfl (by decide +kernel) ⟨Nat.le_of_ble_eq_true rfl, Nat.le_of_ble_eq_true rfl⟩) ⟨fun a U g mk z => by obtain ⟨z0, z1, zP, zK, zD⟩ := z; exact ⟨z0, z1, zP, va_K.moved (u := U) (U := U.calling g mk a) (Vm.Alike.refl U.vm) zK, zD⟩, va_recv hKc hPc (ci := 2) (q0 := 0) rfl rfl, fun U hU hW => ⟨rfl, by rw [hU], va_P.he hU.symm hPc, va_K.moved hW.alike hKc, hDc.weaken (fun _ _ _ _ => trivial)⟩⟩ rfl rfl hl.1 rfl (lv_room (Nat.le_of_ble_eq_true rfl)) d_CO_codeConvert_1 ⟨(Nat.zero_le _), (Nat.zero_le _)⟩) hS (fun q _ h => hFc q h) hFc (fun r1 u t H1 locs ht hvm hw hB hz1 hk1 hS => ?_)
  obtain ⟨n2, rfl⟩ : ∃ z, z = u := ⟨_, rfl⟩
  try dsimp only at hw
  obtain ⟨bn2, xr1⟩ := hw
  try clear hw
  obtain ⟨hP1, hK1, hD1⟩ := hB
  replace hP1 := va_P.he ht hP1
  obtain ⟨hP, hD⟩ := va_join (wr := (wz_161 pr gl fu pa pf sf pk pg pp pz pv pr_reason pr_place pr_scanner_r pr_stepCount pr_open pr_twoSides pr_waiting_r pr_waitingPlaces_r pr_waitingCount bo bob bo_length bob cbob gbob)) (w1 := (wz_149 h0 pr kn lt h0_localCount pe n2 h0_gives h0_depth h0_loopDepth to bo cs se pe cpe gpe)) hP hD [0, 2] [1, 3, 4] rfl rfl (by decide) (by decide) hk1 hFc hP1 hD1
  clear hPc hDc hKc hFc hz1 hk1 hP1 hK1 hD1
  rename Heap => H
  have hP : va_P (dC, dI) cls (wz_162 pr gl fu pa pf sf pk pg pp pz pv pr_reason pr_place pr_scanner_r pr_stepCount pr_open pr_twoSides pr_waiting_r pr_waitingPlaces_r pr_waitingCount bo bob bo_length bob cbob gbob h0 pr kn lt h0_localCount pe n2 h0_gives h0_depth h0_loopDepth to bo cs se pe cpe gpe) H := hP
  have hD : va_D A (wz_162 pr gl fu pa pf sf pk pg pp pz pv pr_reason pr_place pr_scanner_r pr_stepCount pr_open pr_twoSides pr_waiting_r pr_waitingPlaces_r pr_waitingCount bo bob bo_length bob cbob gbob h0 pr kn lt h0_localCount pe n2 h0_gives h0_depth h0_loopDepth to bo cs se pe cpe gpe) := hD
  refine lv_istore_n (lv' := [(3, .int r1), (0, .ref h0), (1, .ref (sg sa ka)), (2, .int p1)]) hx hb d_CO_codeConvert_4 rfl hl (by decide) rfl (fun ls hl => ?_)
  refine lv_iload_n hx hb d_CO_codeConvert_5 rfl (lv_at hl 0 rfl) ?_
  refine lv_bipush (v := 64) hx hb d_CO_codeConvert_6 (by decide) ?_
  refine lv_icmp_ne (tgt := 20) hx hb d_CO_codeConvert_8 (by decide) (fun c8 => ?_) (fun c8 => ?_)
  · have q8 := neI c8
    refine lv_iload_n hx hb d_CO_codeConvert_20 rfl (lv_at hl 0 rfl) ?_
    refine lv_aload_n hx hb d_CO_codeConvert_21 rfl (lv_at hl 2 rfl) ?_
    have hPc := hP.sb (wq := []) [] rfl
    have hDc := hD.sb (wq := []) [] (by decide) rfl
    have hKc := hK.sb (tyq := []) [] rfl
    have hFc := va_free (wc := []) hD hS hA [] rfl
    refine va_calli (va_runV (As := []) (rest := [.int r1]) ⟨hx, hb, hml, hown, hts⟩ (c_SG_type l dC dI H.size sa ka ba0 ) (cwV 0 hts (gV kM_CO_170 kV_SG_type kS_SG_type kI_SG kC_SG_type) rfl rfl rfl (by decide +kernel) ⟨Nat.le_of_ble_eq_true rfl, Nat.le_of_ble_eq_true rfl⟩) ⟨fun a U g mk z => by obtain ⟨z0, z1, zP, zK, zD, zS⟩ := z; exact ⟨z0, z1, zP, va_K.moved (u := U) (U := U.calling g mk a) (Vm.Alike.refl U.vm) zK, zD, sw.same (u := U) (U := U.calling g mk a) rfl zS⟩, va_recvE (i := ka) hSW.2.2.2.1 ba0 hS, fun U hU hW => ⟨rfl, by rw [hU], va_P.he hU.symm hPc, va_K.moved hW.alike hKc, hDc.weaken (fun _ _ _ _ => trivial), hSW.call hS hFc hW hU⟩⟩ rfl rfl hl.1 rfl (lv_room (Nat.le_of_ble_eq_true rfl)) d_CO_codeConvert_22 ⟨(Nat.zero_le _), (Nat.zero_le _)⟩) hS (fun q _ h => hFc q h) hFc (fun r3 u t H1 locs ht hvm hw hB hz1 hk1 hS => ?_)
    try dsimp only at hw
    have xr3 := hw
    try clear hw
    obtain ⟨hP1, hK1, hD1⟩ := hB
    replace hP1 := va_P.he ht hP1
    obtain ⟨hP, hD⟩ := va_join (wr := (wz_162 pr gl fu pa pf sf pk pg pp pz pv pr_reason pr_place pr_scanner_r pr_stepCount pr_open pr_twoSides pr_waiting_r pr_waitingPlaces_r pr_waitingCount bo bob bo_length bob cbob gbob h0 pr kn lt h0_localCount pe n2 h0_gives h0_depth h0_loopDepth to bo cs se pe cpe gpe)) (w1 := []) hP hD [] [0, 1, 2, 3, 4] rfl rfl (by decide) (by decide) hk1 hFc hP1 hD1
    clear hPc hDc hKc hFc hz1 hk1 hP1 hK1 hD1
    rename Heap => H
    have hP : va_P (dC, dI) cls (wz_162 pr gl fu pa pf sf pk pg pp pz pv pr_reason pr_place pr_scanner_r pr_stepCount pr_open pr_twoSides pr_waiting_r pr_waitingPlaces_r pr_waitingCount bo bob bo_length bob cbob gbob h0 pr kn lt h0_localCount pe n2 h0_gives h0_depth h0_loopDepth to bo cs se pe cpe gpe) H := hP
    have hD : va_D A (wz_162 pr gl fu pa pf sf pk pg pp pz pv pr_reason pr_place pr_scanner_r pr_stepCount pr_open pr_twoSides pr_waiting_r pr_waitingPlaces_r pr_waitingCount bo bob bo_length bob cbob gbob h0 pr kn lt h0_localCount pe n2 h0_gives h0_depth h0_loopDepth to bo cs se pe cpe gpe) := hD
    refine w_cut (pc2 := 50) (σ := (Nat → Int32) × Int32) (fun u H locs ls => match u with | (j50_bob, j50_bo_length) => (0 ≤ j50_bo_length.toInt ∧ j50_bo_length.toInt ≤ 8192) ∧ (∃ M : List Nat, bl j50_bob j50_bo_length.toNatClampNeg = bl gbob bo_length.toNatClampNeg ++ M ∧ (M = [] ∨ (M = [172] ∨ M = [167])) ∧ j50_bo_length.toInt = bo_length.toInt + (M.length : Int)) ∧ va_P (dC, dI) cls (wz_162 pr gl fu pa pf sf pk pg pp pz pv pr_reason pr_place pr_scanner_r pr_stepCount pr_open pr_twoSides pr_waiting_r pr_waitingPlaces_r pr_waitingCount bo bob j50_bo_length bob cbob j50_bob h0 pr kn lt h0_localCount pe n2 h0_gives h0_depth h0_loopDepth to bo cs se pe cpe gpe) H ∧ va_D A (wz_162 pr gl fu pa pf sf pk pg pp pz pv pr_reason pr_place pr_scanner_r pr_stepCount pr_open pr_twoSides pr_waiting_r pr_waitingPlaces_r pr_waitingCount bo bob j50_bo_length bob cbob j50_bob h0 pr kn lt h0_localCount pe n2 h0_gives h0_depth h0_loopDepth to bo cs se pe cpe gpe) ∧ va_S A s.heap H locs ∧ lv_has ls 4 [(0, .ref h0), (1, .ref (sg sa ka))]) (fun u => match u with | (j50_bob, j50_bo_length) => []) ?_ (fun jn50 => ?_)
    · intro u H locs ls hI
      obtain ⟨j50_bob, j50_bo_length⟩ := u
      obtain ⟨b_j50_bo_length, hmb, hP, hD, hS, hl⟩ := hI
      refine lv_aload_n hx hb d_CO_codeConvert_50 rfl (lv_at hl 0 rfl) ?_
      refine lv_aload_n hx hb d_CO_codeConvert_51 rfl (lv_at hl 1 rfl) ?_
      have hPc := hP.sb (wq := []) [] rfl
      have hDc := hD.sb (wq := []) [] (by decide) rfl
      have hKc := hK.sb (tyq := []) [] rfl
      have hFc := va_free (wc := []) hD hS hA [] rfl
      refine va_calli (va_runV (As := []) (rest := [.ref h0]) ⟨hx, hb, hml, hown, hts⟩ (c_SG_type l dC dI H.size sa ka ba0 ) (cwV 0 hts (gV kM_CO_170 kV_SG_type kS_SG_type kI_SG kC_SG_type) rfl rfl rfl (by decide +kernel) ⟨Nat.le_of_ble_eq_true rfl, Nat.le_of_ble_eq_true rfl⟩) ⟨fun a U g mk z => by obtain ⟨z0, z1, zP, zK, zD, zS⟩ := z; exact ⟨z0, z1, zP, va_K.moved (u := U) (U := U.calling g mk a) (Vm.Alike.refl U.vm) zK, zD, sw.same (u := U) (U := U.calling g mk a) rfl zS⟩, va_recvE (i := ka) hSW.2.2.2.1 ba0 hS, fun U hU hW => ⟨rfl, by rw [hU], va_P.he hU.symm hPc, va_K.moved hW.alike hKc, hDc.weaken (fun _ _ _ _ => trivial), hSW.call hS hFc hW hU⟩⟩ rfl rfl hl.1 rfl (lv_room (Nat.le_of_ble_eq_true rfl)) d_CO_codeConvert_52 ⟨(Nat.zero_le _), (Nat.zero_le _)⟩) hS (fun q _ h => hFc q h) hFc (fun r4 u t H1 locs ht hvm hw hB hz1 hk1 hS => ?_)
      try dsimp only at hw
      have xr4 := hw
      try clear hw
      obtain ⟨hP1, hK1, hD1⟩ := hB
      replace hP1 := va_P.he ht hP1
      obtain ⟨hP, hD⟩ := va_join (wr := (wz_162 pr gl fu pa pf sf pk pg pp pz pv pr_reason pr_place pr_scanner_r pr_stepCount pr_open pr_twoSides pr_waiting_r pr_waitingPlaces_r pr_waitingCount bo bob j50_bo_length bob cbob j50_bob h0 pr kn lt h0_localCount pe n2 h0_gives h0_depth h0_loopDepth to bo cs se pe cpe gpe)) (w1 := []) hP hD [] [0, 1, 2, 3, 4] rfl rfl (by decide) (by decide) hk1 hFc hP1 hD1
      clear hPc hDc hKc hFc hz1 hk1 hP1 hK1 hD1
      rename Heap => H
      have hP : va_P (dC, dI) cls (wz_162 pr gl fu pa pf sf pk pg pp pz pv pr_reason pr_place pr_scanner_r pr_stepCount pr_open pr_twoSides pr_waiting_r pr_waitingPlaces_r pr_waitingCount bo bob j50_bo_length bob cbob j50_bob h0 pr kn lt h0_localCount pe n2 h0_gives h0_depth h0_loopDepth to bo cs se pe cpe gpe) H := hP
      have hD : va_D A (wz_162 pr gl fu pa pf sf pk pg pp pz pv pr_reason pr_place pr_scanner_r pr_stepCount pr_open pr_twoSides pr_waiting_r pr_waitingPlaces_r pr_waitingCount bo bob j50_bo_length bob cbob j50_bob h0 pr kn lt h0_localCount pe n2 h0_gives h0_depth h0_loopDepth to bo cs se pe cpe gpe) := hD
      have hPc := hP.sb (wq := (wz_149 h0 pr kn lt h0_localCount pe n2 h0_gives h0_depth h0_loopDepth to bo cs se pe cpe gpe)) [3, 4] rfl
      have hDc := hD.sb (wq := (wz_149 h0 pr kn lt h0_localCount pe n2 h0_gives h0_depth h0_loopDepth to bo cs se pe cpe gpe)) [3, 4] (by decide) rfl
      have hKc := hK.sb (tyq := [(cpe, .int)]) [0] rfl
      have hFc := va_free (wc := (wz_149 h0 pr kn lt h0_localCount pe n2 h0_gives h0_depth h0_loopDepth to bo cs se pe cpe gpe)) hD hS hA [3, 4] rfl
      refine va_callv (va_runV (As := [.int r4]) (rest := []) ⟨hx, hb, hml, hown, hts⟩ (c_CO_push l dC dI H.size h0 pr kn lt pe to bo cs se cpe h0_localCount n2 h0_gives h0_depth h0_loopDepth gpe (bn2) r4 (by (try dsimp only) <;> (first | (apply Int.le_antisymm <;> omega) | omega))) (cwV 1 hts (gV kM_CO_183 kV_CO_push kS_CO_push kI_CO kC_CO_push) rfl rfl rfl (by decide +kernel) ⟨Nat.le_of_ble_eq_true rfl, Nat.le_of_ble_eq_true rfl⟩) ⟨fun a U g mk z => by obtain ⟨z0, z1, zP, zK, zD⟩ := z; exact ⟨z0, z1, zP, va_K.moved (u := U) (U := U.calling g mk a) (Vm.Alike.refl U.vm) zK, zD⟩, va_recv hKc hPc (ci := 2) (q0 := 0) rfl rfl, fun U hU hW => ⟨rfl, by rw [hU], va_P.he hU.symm hPc, va_K.moved hW.alike hKc, hDc.weaken (fun _ _ _ _ => trivial)⟩⟩ rfl rfl hl.1 rfl (lv_room (Nat.le_of_ble_eq_true rfl)) d_CO_codeConvert_55 ⟨(Nat.zero_le _), (Nat.zero_le _)⟩) hS (fun q _ h => hFc q h) hFc (fun u t H1 locs ht hvm hw hB hz1 hk1 hS => ?_)
      obtain ⟨n6, n7⟩ := u
      try dsimp only at hw
      obtain ⟨bn7, xr5⟩ := hw
      try clear hw
      obtain ⟨hP1, hK1, hD1⟩ := hB
      replace hP1 := va_P.he ht hP1
      obtain ⟨hP, hD⟩ := va_join (wr := (wz_161 pr gl fu pa pf sf pk pg pp pz pv pr_reason pr_place pr_scanner_r pr_stepCount pr_open pr_twoSides pr_waiting_r pr_waitingPlaces_r pr_waitingCount bo bob j50_bo_length bob cbob j50_bob)) (w1 := (wz_149 h0 pr kn lt h0_localCount pe n7 h0_gives h0_depth h0_loopDepth to bo cs se pe cpe n6)) hP hD [3, 4] [0, 1, 2] rfl rfl (by decide) (by decide) hk1 hFc hP1 hD1
      clear hPc hDc hKc hFc hz1 hk1 hP1 hK1 hD1
      rename Heap => H
      have hP : va_P (dC, dI) cls (wz_162 pr gl fu pa pf sf pk pg pp pz pv pr_reason pr_place pr_scanner_r pr_stepCount pr_open pr_twoSides pr_waiting_r pr_waitingPlaces_r pr_waitingCount bo bob j50_bo_length bob cbob j50_bob h0 pr kn lt h0_localCount pe n7 h0_gives h0_depth h0_loopDepth to bo cs se pe cpe n6) H := hP
      have hD : va_D A (wz_162 pr gl fu pa pf sf pk pg pp pz pv pr_reason pr_place pr_scanner_r pr_stepCount pr_open pr_twoSides pr_waiting_r pr_waitingPlaces_r pr_waitingCount bo bob j50_bo_length bob cbob j50_bob h0 pr kn lt h0_localCount pe n7 h0_gives h0_depth h0_loopDepth to bo cs se pe cpe n6) := hD
      have hP9 := hP.sb (wq := (wz_160 h0 pr kn lt h0_localCount pe n7 h0_gives h0_depth h0_loopDepth to bo cs se pr gl fu pa pf sf pk pg pp pz pv pr_reason pr_place pr_scanner_r pr_stepCount pr_open pr_twoSides pr_waiting_r pr_waitingPlaces_r pr_waitingCount pe cpe n6 bo bob j50_bo_length bob cbob j50_bob)) [3, 0, 4, 1, 2] rfl
      have hD9 := hD.sb (wq := (wz_160 h0 pr kn lt h0_localCount pe n7 h0_gives h0_depth h0_loopDepth to bo cs se pr gl fu pa pf sf pk pg pp pz pv pr_reason pr_place pr_scanner_r pr_stepCount pr_open pr_twoSides pr_waiting_r pr_waitingPlaces_r pr_waitingCount pe cpe n6 bo bob j50_bo_length bob cbob j50_bob)) [3, 0, 4, 1, 2] (by decide) rfl
      exact tz_up (fun _ => rfl) (W.vret hx hb hr (fun t ht hW => ⟨⟨(j50_bob, n6, j50_bo_length, n7, pr_place, pr_reason), ⟨rfl, ⟨b_j50_bo_length, bn7, ⟨by (try dsimp only) <;> (first | (apply Int.le_antisymm <;> omega) | omega), by rw [show (h0_pendingCount.toInt - 1).toNat = n2.toNatClampNeg from by have := i32_clamp (x := n2) (by (first | (apply Int.le_antisymm <;> omega) | omega)); (first | (apply Int.le_antisymm <;> omega) | omega), ← xr1.2]; (first | (apply Int.le_antisymm <;> omega) | omega), ⟨r4, by rw [show (h0_pendingCount.toInt - 1).toNat = n2.toNatClampNeg from by have := i32_clamp (x := n2) (by (first | (apply Int.le_antisymm <;> omega) | omega)); (first | (apply Int.le_antisymm <;> omega) | omega)]; exact xr5.2, by (first | (apply Int.le_antisymm <;> omega) | omega)⟩, hmb⟩⟩⟩, va_P.he ht.symm hP9, va_K.moved hW.alike hK, hD9⟩, hS.F ht⟩) hS.2.2 d_CO_codeConvert_58)
    · skip
      refine lv_icmp_eq (tgt := 50) hx hb d_CO_codeConvert_25 (by decide) (fun c25 => ?_) (fun c25 => ?_)
      · have q25 := eqI c25
        exact jn50 (gbob, bo_length) _ _ _ ⟨b_bo_length, ⟨[], by simp, Or.inl rfl, by simp⟩, hP, hD, hS, lv_sub hl [1, 2] rfl⟩
      · have q25 := neI c25
        refine lv_aload_n hx hb d_CO_codeConvert_28 rfl (lv_at hl 1 rfl) ?_
        refine va_get (D := (dC, dI)) (ci := 2) (v := .ref bo) (C := R_CO) (T := F_CO) (N := 13) hx hb hts i_CO hown hK hP 3 rfl rfl 10 (by decide) (hts _ kF_CO_26) (fun _ h9 => h9) rfl d_CO_codeConvert_29 ?_
        refine lv_iload_n hx hb d_CO_codeConvert_32 rfl (lv_at hl 0 rfl) ?_
        refine lv_bipush (v := 127) hx hb d_CO_codeConvert_33 (by decide) ?_
        refine w_cut (pc2 := 47) (σ := Int32) (fun u H locs ls => match u with | j47_s0 => (j47_s0 = 172 ∨ j47_s0 = 167) ∧ va_P (dC, dI) cls (wz_162 pr gl fu pa pf sf pk pg pp pz pv pr_reason pr_place pr_scanner_r pr_stepCount pr_open pr_twoSides pr_waiting_r pr_waitingPlaces_r pr_waitingCount bo bob bo_length bob cbob gbob h0 pr kn lt h0_localCount pe n2 h0_gives h0_depth h0_loopDepth to bo cs se pe cpe gpe) H ∧ va_D A (wz_162 pr gl fu pa pf sf pk pg pp pz pv pr_reason pr_place pr_scanner_r pr_stepCount pr_open pr_twoSides pr_waiting_r pr_waitingPlaces_r pr_waitingCount bo bob bo_length bob cbob gbob h0 pr kn lt h0_localCount pe n2 h0_gives h0_depth h0_loopDepth to bo cs se pe cpe gpe) ∧ va_S A s.heap H locs ∧ lv_has ls 4 [(0, .ref h0), (1, .ref (sg sa ka))]) (fun u => match u with | j47_s0 => [.int j47_s0, .ref bo]) ?_ (fun jn47 => ?_)
        · intro u H locs ls hI
          obtain ⟨j47_s0, rfl⟩ : ∃ z, z = u := ⟨_, rfl⟩
          obtain ⟨y47, hP, hD, hS, hl⟩ := hI
          have hPc := hP.sb (wq := (wz_94 bo bob bo_length bob cbob gbob)) [1, 2] rfl
          have hDc := hD.sb (wq := (wz_94 bo bob bo_length bob cbob gbob)) [1, 2] (by decide) rfl
          have hKc := hK.sb (tyq := [(cbob, .byte)]) [1] rfl
          have hFc := va_free (wc := (wz_94 bo bob bo_length bob cbob gbob)) hD hS hA [1, 2] rfl
          refine va_callv (va_runV (As := [.int j47_s0]) (rest := []) ⟨hx, hb, hml, hown, hts⟩ (c_BR_put l dC dI bo bob H.size cbob 8192 bo_length gbob (by (first | (apply Int.le_antisymm <;> omega) | omega)) (by (first | (apply Int.le_antisymm <;> omega) | omega)) (by (first | (apply Int.le_antisymm <;> omega) | omega)) j47_s0) (cwV 1 hts (gV kM_CO_76 kV_BR_put kS_BR_put kI_BR kC_BR_put) rfl rfl rfl (by decide +kernel) ⟨Nat.le_of_ble_eq_true rfl, Nat.le_of_ble_eq_true rfl⟩) ⟨fun a U g mk z => by obtain ⟨z0, z1, zP, zK, zD⟩ := z; exact ⟨z0, z1, zP, va_K.moved (u := U) (U := U.calling g mk a) (Vm.Alike.refl U.vm) zK, zD⟩, va_recv hKc hPc (ci := 1) (q0 := 0) rfl rfl, fun U hU hW => ⟨rfl, by rw [hU], va_P.he hU.symm hPc, va_K.moved hW.alike hKc, hDc.weaken (fun _ _ _ _ => trivial)⟩⟩ rfl rfl hl.1 rfl (lv_room (Nat.le_of_ble_eq_true rfl)) d_CO_codeConvert_47 ⟨(Nat.zero_le _), (Nat.zero_le _)⟩) hS (fun q _ h => hFc q h) hFc (fun u t H1 locs ht hvm hw hB hz1 hk1 hS => ?_)
          obtain ⟨n9, f10⟩ := u
          try dsimp only at hw
          have tn9 := br_put_in (by (first | (apply Int.le_antisymm <;> omega) | omega)) (by (first | (apply Int.le_antisymm <;> omega) | omega)) (by (first | (apply Int.le_antisymm <;> omega) | omega)) hw
          have bn9 := br_put_bl (by (first | (apply Int.le_antisymm <;> omega) | omega)) (by (first | (apply Int.le_antisymm <;> omega) | omega)) (by (first | (apply Int.le_antisymm <;> omega) | omega)) hw
          obtain ⟨hP1, hK1, hD1⟩ := hB
          replace hP1 := va_P.he ht hP1
          obtain ⟨hP, hD⟩ := va_join (wr := (wz_155 pr gl fu pa pf sf pk pg pp pz pv pr_reason pr_place pr_scanner_r pr_stepCount pr_open pr_twoSides pr_waiting_r pr_waitingPlaces_r pr_waitingCount h0 pr kn lt h0_localCount pe n2 h0_gives h0_depth h0_loopDepth to bo cs se pe cpe gpe)) (w1 := (wz_94 bo bob n9 bob cbob f10)) hP hD [1, 2] [0, 3, 4] rfl rfl (by decide) (by decide) hk1 hFc hP1 hD1
          clear hPc hDc hKc hFc hz1 hk1 hP1 hK1 hD1
          rename Heap => H
          have hP : va_P (dC, dI) cls (wz_163 pr gl fu pa pf sf pk pg pp pz pv pr_reason pr_place pr_scanner_r pr_stepCount pr_open pr_twoSides pr_waiting_r pr_waitingPlaces_r pr_waitingCount h0 pr kn lt h0_localCount pe n2 h0_gives h0_depth h0_loopDepth to bo cs se pe cpe gpe bo bob n9 bob cbob f10) H := hP
          have hD : va_D A (wz_163 pr gl fu pa pf sf pk pg pp pz pv pr_reason pr_place pr_scanner_r pr_stepCount pr_open pr_twoSides pr_waiting_r pr_waitingPlaces_r pr_waitingCount h0 pr kn lt h0_localCount pe n2 h0_gives h0_depth h0_loopDepth to bo cs se pe cpe gpe bo bob n9 bob cbob f10) := hD
          exact jn50 (f10, n9) _ _ _ ⟨by (try dsimp only) <;> (first | (apply Int.le_antisymm <;> omega) | omega), ⟨[bn j47_s0], bn9 (by (first | (apply Int.le_antisymm <;> omega) | omega)), Or.inr (by rcases y47 with z | z <;> rw [z] <;> first | exact Or.inl rfl | exact Or.inr rfl), by rw [List.length_singleton]; (first | (apply Int.le_antisymm <;> omega) | omega)⟩, hP.sub [0, 3, 4, 1, 2] rfl, hD.sub [0, 3, 4, 1, 2] (by decide) rfl, hS, lv_sub hl [0, 1] rfl⟩
        · skip
          refine lv_icmp_ne (tgt := 44) hx hb d_CO_codeConvert_35 (by decide) (fun c35 => ?_) (fun c35 => ?_)
          · have q35 := neI c35
            refine lv_sipush (v := 167) hx hb d_CO_codeConvert_44 (by decide) ?_
            exact jn47 167 _ _ _ ⟨Or.inr rfl, hP, hD, hS, lv_sub hl [1, 2] rfl⟩
          · have q35 := eqI c35
            refine lv_sipush (v := 172) hx hb d_CO_codeConvert_38 (by decide) ?_
            refine lv_goto (tgt := 47) hx hb d_CO_codeConvert_41 (by decide) ?_
            exact jn47 172 _ _ _ ⟨Or.inl rfl, hP, hD, hS, lv_sub hl [1, 2] rfl⟩
  · have q8 := eqI c8
    refine lv_aload_n hx hb d_CO_codeConvert_11 rfl (lv_at hl 1 rfl) ?_
    refine va_get (D := (dC, dI)) (ci := 2) (v := .ref pr) (C := R_CO) (T := F_CO) (N := 13) hx hb hts i_CO hown hK hP 3 rfl rfl 0 (by decide) (hts _ kF_CO_36) (fun _ h9 => h9) rfl d_CO_codeConvert_12 ?_
    refine lv_iconst (v := 3) hx hb d_CO_codeConvert_15 (by decide) ?_
    refine lv_iload_n hx hb d_CO_codeConvert_16 rfl (lv_at hl 3 rfl) ?_
    have hPc := hP.sb (wq := (wz_110 pr gl fu pa pf sf pk pg pp pz pv pr_reason pr_place pr_scanner_r pr_stepCount pr_open pr_twoSides pr_waiting_r pr_waitingPlaces_r pr_waitingCount)) [0] rfl
    have hDc := hD.sb (wq := (wz_110 pr gl fu pa pf sf pk pg pp pz pv pr_reason pr_place pr_scanner_r pr_stepCount pr_open pr_twoSides pr_waiting_r pr_waitingPlaces_r pr_waitingCount)) [0] (by decide) rfl
    have hKc := hK.sb (tyq := []) [] rfl
    have hFc := va_free (wc := (wz_110 pr gl fu pa pf sf pk pg pp pz pv pr_reason pr_place pr_scanner_r pr_stepCount pr_open pr_twoSides pr_waiting_r pr_waitingPlaces_r pr_waitingCount)) hD hS hA [0] rfl
    refine tq_callv (tz_runV (As := [.int 3, .int p1]) (rest := []) ⟨hx, hb, hml, hown, hts⟩ (c_PR_refuse l hlt dC dI H.size sa pr gl fu pa pf sf pk pg pp pz pv pr_scanner_r pr_waiting_r pr_waitingPlaces_r pr_reason pr_place pr_stepCount pr_open pr_twoSides pr_waitingCount 3 p1) (cwV 2 hts (gV kM_CO_105 kV_PR_refuse kS_PR_refuse kI_PR kC_PR_refuse) rfl rfl rfl (by decide +kernel) ⟨Nat.le_of_ble_eq_true rfl, Nat.le_of_ble_eq_true rfl⟩) ⟨fun a U g mk z => by obtain ⟨z0, z1, zP, zK, zD, zS⟩ := z; exact ⟨z0, z1, zP, va_K.moved (u := U) (U := U.calling g mk a) (Vm.Alike.refl U.vm) zK, zD, sw.same (u := U) (U := U.calling g mk a) rfl zS⟩, va_recv hKc hPc (ci := 6) (q0 := 0) rfl rfl, fun U hU hW => ⟨rfl, by rw [hU], va_P.he hU.symm hPc, va_K.moved hW.alike hKc, hDc.weaken (fun _ _ _ _ => trivial), hSW.call hS hFc hW hU⟩⟩ rfl rfl hl.1 rfl (lv_room (Nat.le_of_ble_eq_true rfl)) d_CO_codeConvert_17 ⟨Nat.le_of_ble_eq_true rfl, Nat.le_of_ble_eq_true rfl⟩) hS (fun q _ h => hFc q h) hFc (fun u t H1 locs ht hvm hw hB hz1 hk1 hS => ?_) (fun xx u t H1 locs ht hvm hw hXX hB hz1 hk1 hS => ?_)
    rotate_left
    · skip
      obtain ⟨n12, n13⟩ := u
      try dsimp only at hw
      obtain ⟨hP1, hK1, hD1⟩ := hB
      replace hP1 := va_P.he ht hP1
      obtain ⟨hP, hD⟩ := va_join (wr := (wz_157 bo bob bo_length bob cbob gbob h0 pr kn lt h0_localCount pe n2 h0_gives h0_depth h0_loopDepth to bo cs se pe cpe gpe)) (w1 := (wz_110 pr gl fu pa pf sf pk pg pp pz pv n13 n12 pr_scanner_r pr_stepCount pr_open pr_twoSides pr_waiting_r pr_waitingPlaces_r pr_waitingCount)) hP hD [0] [1, 2, 3, 4] rfl rfl (by decide) (by decide) hk1 hFc hP1 hD1
      have hP : va_P (dC, dI) cls (wz_164 bo bob bo_length bob cbob gbob h0 pr kn lt h0_localCount pe n2 h0_gives h0_depth h0_loopDepth to bo cs se pe cpe gpe pr gl fu pa pf sf pk pg pp pz pv n13 n12 pr_scanner_r pr_stepCount pr_open pr_twoSides pr_waiting_r pr_waitingPlaces_r pr_waitingCount) H1 := hP
      have hD : va_D A (wz_164 bo bob bo_length bob cbob gbob h0 pr kn lt h0_localCount pe n2 h0_gives h0_depth h0_loopDepth to bo cs se pe cpe gpe pr gl fu pa pf sf pk pg pp pz pv n13 n12 pr_scanner_r pr_stepCount pr_open pr_twoSides pr_waiting_r pr_waitingPlaces_r pr_waitingCount) := hD
      have hP9 := hP.sb (wq := (wz_160 h0 pr kn lt h0_localCount pe n2 h0_gives h0_depth h0_loopDepth to bo cs se pr gl fu pa pf sf pk pg pp pz pv n13 n12 pr_scanner_r pr_stepCount pr_open pr_twoSides pr_waiting_r pr_waitingPlaces_r pr_waitingCount pe cpe gpe bo bob bo_length bob cbob gbob)) [2, 4, 3, 0, 1] rfl
      have hD9 := hD.sb (wq := (wz_160 h0 pr kn lt h0_localCount pe n2 h0_gives h0_depth h0_loopDepth to bo cs se pr gl fu pa pf sf pk pg pp pz pv n13 n12 pr_scanner_r pr_stepCount pr_open pr_twoSides pr_waiting_r pr_waitingPlaces_r pr_waitingCount pe cpe gpe bo bob bo_length bob cbob gbob)) [2, 4, 3, 0, 1] (by decide) rfl
      exact tz_leave rfl hno hlocks (fun t ht hW => ⟨⟨(gbob, gpe, bo_length, n2, n12, n13), ⟨⟨b_bo_length, bn2⟩, by rw [ht]; exact hXX.moved hW.alike⟩, va_P.he ht.symm hP9, va_K.moved hW.alike hK, hD9⟩, hS.F ht⟩) hS.2.2
    exact (show False from hw).elim
end q_63
section q_64
/-! Coder: names told twice -/
abbrev b_CO_refuseRepeated : ByteArray := prog_4_method_3_code
def y_CO_refuseRepeated : MethodName := ⟨R_CO, "refuseRepeated", "(LWaferForge$Names;)V"⟩
abbrev w_CO_refuseRepeated : List Cond := .code y_CO_refuseRepeated b_CO_refuseRepeated 3 none :: lw_g
theorem kC_CO_refuseRepeated : Cond.code y_CO_refuseRepeated b_CO_refuseRepeated 3 none ∈ lw_g := in_c5 121 rfl rfl
theorem d_CO_refuseRepeated_0 : decode b_CO_refuseRepeated 0 = .ok (.aload_n 1, 1) := bz_c43 (by decide +kernel)
theorem d_CO_refuseRepeated_1 : decode b_CO_refuseRepeated 1 = .ok (.invokevirtual 98, 3) := bz_c182 (by decide +kernel)
theorem d_CO_refuseRepeated_4 : decode b_CO_refuseRepeated 4 = .ok (.istore_n 2, 1) := bz_c61 (by decide +kernel)
theorem d_CO_refuseRepeated_5 : decode b_CO_refuseRepeated 5 = .ok (.iload_n 2, 1) := bz_c28 (by decide +kernel)
theorem d_CO_refuseRepeated_6 : decode b_CO_refuseRepeated 6 = .ok (.ifCond .lt 17, 3) := bz_c155 (by decide +kernel)
theorem d_CO_refuseRepeated_9 : decode b_CO_refuseRepeated 9 = .ok (.aload_n 0, 1) := bz_c42 (by decide +kernel)
theorem d_CO_refuseRepeated_10 : decode b_CO_refuseRepeated 10 = .ok (.getfield 36, 3) := bz_c180 (by decide +kernel)
theorem d_CO_refuseRepeated_13 : decode b_CO_refuseRepeated 13 = .ok (.iconst 4, 1) := bz_c7 (by decide +kernel)
theorem d_CO_refuseRepeated_14 : decode b_CO_refuseRepeated 14 = .ok (.aload_n 1, 1) := bz_c43 (by decide +kernel)
theorem d_CO_refuseRepeated_15 : decode b_CO_refuseRepeated 15 = .ok (.getfield 102, 3) := bz_c180 (by decide +kernel)
theorem d_CO_refuseRepeated_18 : decode b_CO_refuseRepeated 18 = .ok (.iload_n 2, 1) := bz_c28 (by decide +kernel)
theorem d_CO_refuseRepeated_19 : decode b_CO_refuseRepeated 19 = .ok (.iaload, 1) := bz_c46 (by decide +kernel)
theorem d_CO_refuseRepeated_20 : decode b_CO_refuseRepeated 20 = .ok (.invokevirtual 105, 3) := bz_c182 (by decide +kernel)
theorem d_CO_refuseRepeated_23 : decode b_CO_refuseRepeated 23 = .ok (.return_, 1) := bz_c177 (by decide +kernel)
theorem kM_CO_98 : Cond.methodLink R_CO 98 y_NA_firstRepeated ∈ lw_g := in_c5 122 rfl rfl
theorem kV_NA_firstRepeated : Cond.instanceMethod y_NA_firstRepeated ∈ lw_g := in_c5 123 rfl rfl
theorem kS_NA_firstRepeated : Cond.selects R_NA y_NA_firstRepeated y_NA_firstRepeated ∈ lw_g := in_c5 124 rfl rfl
theorem kF_CO_102 : Cond.fieldLink R_CO 102 "WaferForge$Names" "starts" "[I" ∈ lw_g := in_c2 77 rfl rfl
abbrev at_CO_refuseRepeated (dC : Nat → ClassId) (dI : Nat → Nat → Nat) (sa : Nat → Nat) (h0 pr h0_known_r h0_localTypes_r h0_pending_r h0_typeOf_r h0_body_r h0_codes_r h0_section_r pr_globals_r pr_functions_r pr_parameters_r pr_parameterFirst_r pr_stepFirst_r pr_kinds_r pr_signs_r pr_places_r pr_sizes_r pr_values_r pr_scanner_r pr_waiting_r pr_waitingPlaces_r na tr nas naz nat nav tx : Nat) (ctx cnas cnaz : ClassId) (h0_localCount : Int32) (h0_pendingCount : Int32) (h0_gives : Int32) (h0_depth : Int32) (h0_loopDepth : Int32) (pr_stepCount : Int32) (pr_open : Int32) (pr_twoSides : Int32) (pr_waitingCount : Int32) (na_length : Int32) (tr_length : Int32) (gtx : Nat → Int32) (gnas : Nat → Int32) (gnaz : Nat → Int32) (A : Nat → Prop) (u : Int32 × Int32) (t : State) : Prop := match u with | (pr_place, pr_reason) => va_P (dC, dI) cls (wz_165 h0 pr h0_known_r h0_localTypes_r h0_localCount h0_pending_r h0_pendingCount h0_gives h0_depth h0_loopDepth h0_typeOf_r h0_body_r h0_codes_r h0_section_r pr pr_globals_r pr_functions_r pr_parameters_r pr_parameterFirst_r pr_stepFirst_r pr_kinds_r pr_signs_r pr_places_r pr_sizes_r pr_values_r pr_reason pr_place pr_scanner_r pr_stepCount pr_open pr_twoSides pr_waiting_r pr_waitingPlaces_r pr_waitingCount na tr nas naz nat nav na_length tr tx tr_length tx ctx gtx nas cnas gnas naz cnaz gnaz) t.heap ∧ va_K (dC, dI) cls [(ctx, .byte), (cnas, .int), (cnaz, .int)] t ∧ va_D A (wz_165 h0 pr h0_known_r h0_localTypes_r h0_localCount h0_pending_r h0_pendingCount h0_gives h0_depth h0_loopDepth h0_typeOf_r h0_body_r h0_codes_r h0_section_r pr pr_globals_r pr_functions_r pr_parameters_r pr_parameterFirst_r pr_stepFirst_r pr_kinds_r pr_signs_r pr_places_r pr_sizes_r pr_values_r pr_reason pr_place pr_scanner_r pr_stepCount pr_open pr_twoSides pr_waiting_r pr_waitingPlaces_r pr_waitingCount na tr nas naz nat nav na_length tr tx tr_length tx ctx gtx nas cnas gnas naz cnaz gnaz)
set_option maxHeartbeats 4000000 in
set_option maxRecDepth 100000 in
theorem c_CO_refuseRepeated (l : Launch) (hlt : l.stackTraces = false) (dC : Nat → ClassId) (dI : Nat → Nat → Nat) (sz : Nat) (sa : Nat → Nat) (h0 pr h0_known_r h0_localTypes_r h0_pending_r h0_typeOf_r h0_body_r h0_codes_r h0_section_r pr_globals_r pr_functions_r pr_parameters_r pr_parameterFirst_r pr_stepFirst_r pr_kinds_r pr_signs_r pr_places_r pr_sizes_r pr_values_r pr_scanner_r pr_waiting_r pr_waitingPlaces_r na tr nas naz nat nav tx : Nat) (ctx cnas cnaz : ClassId) (h0_localCount : Int32) (h0_pendingCount : Int32) (h0_gives : Int32) (h0_depth : Int32) (h0_loopDepth : Int32) (pr_reason : Int32) (pr_place : Int32) (pr_stepCount : Int32) (pr_open : Int32) (pr_twoSides : Int32) (pr_waitingCount : Int32) (na_length : Int32) (tr_length : Int32) (gtx : Nat → Int32) (gnas : Nat → Int32) (gnaz : Nat → Int32)  (b_na_length : 0 ≤ na_length.toInt ∧ na_length.toInt ≤ 20) (b_tr_length : 0 ≤ tr_length.toInt ∧ tr_length.toInt ≤ 2000)   (hz : ∀ j : Nat, (j : Int) < na_length.toInt → 0 ≤ (gnaz j).toInt) : tz_Met l y_CO_refuseRepeated w_CO_refuseRepeated ({ frames := 7, cells := 1, slots := 6, locals := 112 }) (va_Pc [.ref h0, .ref na] (fun U => U.heap.size = sz ∧ va_P (dC, dI) cls (wz_165 h0 pr h0_known_r h0_localTypes_r h0_localCount h0_pending_r h0_pendingCount h0_gives h0_depth h0_loopDepth h0_typeOf_r h0_body_r h0_codes_r h0_section_r pr pr_globals_r pr_functions_r pr_parameters_r pr_parameterFirst_r pr_stepFirst_r pr_kinds_r pr_signs_r pr_places_r pr_sizes_r pr_values_r pr_reason pr_place pr_scanner_r pr_stepCount pr_open pr_twoSides pr_waiting_r pr_waitingPlaces_r pr_waitingCount na tr nas naz nat nav na_length tr tx tr_length tx ctx gtx nas cnas gnas naz cnaz gnaz) U.heap ∧ va_K (dC, dI) cls [(ctx, .byte), (cnas, .int), (cnaz, .int)] U ∧ va_D (fun _ => True) (wz_165 h0 pr h0_known_r h0_localTypes_r h0_localCount h0_pending_r h0_pendingCount h0_gives h0_depth h0_loopDepth h0_typeOf_r h0_body_r h0_codes_r h0_section_r pr pr_globals_r pr_functions_r pr_parameters_r pr_parameterFirst_r pr_stepFirst_r pr_kinds_r pr_signs_r pr_places_r pr_sizes_r pr_values_r pr_reason pr_place pr_scanner_r pr_stepCount pr_open pr_twoSides pr_waiting_r pr_waitingPlaces_r pr_waitingCount na tr nas naz nat nav na_length tr tx tr_length tx ctx gtx nas cnas gnas naz cnaz gnaz) ∧ sw sa (va_A (wz_165 h0 pr h0_known_r h0_localTypes_r h0_localCount h0_pending_r h0_pendingCount h0_gives h0_depth h0_loopDepth h0_typeOf_r h0_body_r h0_codes_r h0_section_r pr pr_globals_r pr_functions_r pr_parameters_r pr_parameterFirst_r pr_stepFirst_r pr_kinds_r pr_signs_r pr_places_r pr_sizes_r pr_values_r pr_reason pr_place pr_scanner_r pr_stepCount pr_open pr_twoSides pr_waiting_r pr_waitingPlaces_r pr_waitingCount na tr nas naz nat nav na_length tr tx tr_length tx ctx gtx nas cnas gnas naz cnaz gnaz) sz) U U.heap)) (tq_Q (tq_v (fun (u : Int32 × Int32) => match u with | (pr_place2, pr_reason2) => (True)) "java/lang/UnsupportedOperationException" (fun (u : Int32 × Int32) => match u with | (pr_place2, pr_reason2) => True)) (at_CO_refuseRepeated dC dI sa h0 pr h0_known_r h0_localTypes_r h0_pending_r h0_typeOf_r h0_body_r h0_codes_r h0_section_r pr_globals_r pr_functions_r pr_parameters_r pr_parameterFirst_r pr_stepFirst_r pr_kinds_r pr_signs_r pr_places_r pr_sizes_r pr_values_r pr_scanner_r pr_waiting_r pr_waitingPlaces_r na tr nas naz nat nav tx ctx cnas cnaz h0_localCount h0_pendingCount h0_gives h0_depth h0_loopDepth pr_stepCount pr_open pr_twoSides pr_waitingCount na_length tr_length gtx gnas gnaz (va_A (wz_165 h0 pr h0_known_r h0_localTypes_r h0_localCount h0_pending_r h0_pendingCount h0_gives h0_depth h0_loopDepth h0_typeOf_r h0_body_r h0_codes_r h0_section_r pr pr_globals_r pr_functions_r pr_parameters_r pr_parameterFirst_r pr_stepFirst_r pr_kinds_r pr_signs_r pr_places_r pr_sizes_r pr_values_r pr_reason pr_place pr_scanner_r pr_stepCount pr_open pr_twoSides pr_waiting_r pr_waitingPlaces_r pr_waitingCount na tr nas naz nat nav na_length tr tx tr_length tx ctx gtx nas cnas gnas naz cnaz gnaz) sz)) (va_A (wz_165 h0 pr h0_known_r h0_localTypes_r h0_localCount h0_pending_r h0_pendingCount h0_gives h0_depth h0_loopDepth h0_typeOf_r h0_body_r h0_codes_r h0_section_r pr pr_globals_r pr_functions_r pr_parameters_r pr_parameterFirst_r pr_stepFirst_r pr_kinds_r pr_signs_r pr_places_r pr_sizes_r pr_values_r pr_reason pr_place pr_scanner_r pr_stepCount pr_open pr_twoSides pr_waiting_r pr_waitingPlaces_r pr_waitingCount na tr nas naz nat nav na_length tr tx tr_length tx ctx gtx nas cnas gnas naz cnaz gnaz) sz)) (tz_k 0 0 1 6) (va_A (wz_165 h0 pr h0_known_r h0_localTypes_r h0_localCount h0_pending_r h0_pendingCount h0_gives h0_depth h0_loopDepth h0_typeOf_r h0_body_r h0_codes_r h0_section_r pr pr_globals_r pr_functions_r pr_parameters_r pr_parameterFirst_r pr_stepFirst_r pr_kinds_r pr_signs_r pr_places_r pr_sizes_r pr_values_r pr_reason pr_place pr_scanner_r pr_stepCount pr_open pr_twoSides pr_waiting_r pr_waitingPlaces_r pr_waitingCount na tr nas naz nat nav na_length tr tx tr_length tx ctx gtx nas cnas gnas naz cnaz gnaz) sz) := by
  refine tz_ofW (cc := b_CO_refuseRepeated) (maxL := 3) (ret := none) (by decide) rfl ?_
  intro p e s m args below meth c s₁ B hml hno hv
  obtain ⟨rfl, hsz, hP, hK, hD0, hSW⟩ := hv
  have hx := B.exec
  have hb := B.bytes
  have hr := B.returns
  have hts0 := atoms_spec (ws := w_CO_refuseRepeated) B.pre
  have hts : ∀ w ∈ lw_g, w.before _ s = true := fun w h => hts0 w (List.mem_cons_of_mem _ h)
  have hown : s.vm.findClass R_CO = some m.cls := findClass_of_methodNamed B.named
  have hlocks := B.notSynchronized
  clear hts0
  subst hsz
  have hD := hD0.self (sz := s.heap.size)
  generalize hAe : va_A (wz_165 h0 pr h0_known_r h0_localTypes_r h0_localCount h0_pending_r h0_pendingCount h0_gives h0_depth h0_loopDepth h0_typeOf_r h0_body_r h0_codes_r h0_section_r pr pr_globals_r pr_functions_r pr_parameters_r pr_parameterFirst_r pr_stepFirst_r pr_kinds_r pr_signs_r pr_places_r pr_sizes_r pr_values_r pr_reason pr_place pr_scanner_r pr_stepCount pr_open pr_twoSides pr_waiting_r pr_waitingPlaces_r pr_waitingCount na tr nas naz nat nav na_length tr tx tr_length tx ctx gtx nas cnas gnas naz cnaz gnaz) s.heap.size = A at hD hSW ⊢
  have hA : ∀ q : Nat, s.heap.size ≤ q → A q := fun q h => by rw [← hAe]; exact Or.inr h
  clear hAe
  have hP : va_P (dC, dI) cls (wz_165 h0 pr h0_known_r h0_localTypes_r h0_localCount h0_pending_r h0_pendingCount h0_gives h0_depth h0_loopDepth h0_typeOf_r h0_body_r h0_codes_r h0_section_r pr pr_globals_r pr_functions_r pr_parameters_r pr_parameterFirst_r pr_stepFirst_r pr_kinds_r pr_signs_r pr_places_r pr_sizes_r pr_values_r pr_reason pr_place pr_scanner_r pr_stepCount pr_open pr_twoSides pr_waiting_r pr_waitingPlaces_r pr_waitingCount na tr nas naz nat nav na_length tr tx tr_length tx ctx gtx nas cnas gnas naz cnaz gnaz) s.heap := hP
  have hl := lv_entry ([.ref h0, .ref na]) (n := 3) (Nat.le_of_ble_eq_true rfl)
  rw [lg_entry_eq]
  generalize (lg_sl ([.ref h0, .ref na]) ++ List.replicate (3 - (lg_sl ([.ref h0, .ref na])).length) Slot.unset).toArray = ls at hl ⊢
  have hl : lv_has ls 3 [(0, .ref h0), (1, .ref na)] := hl
  have k0 : (0 : Int32).toInt = 0 := by decide
  refine w_gen (A := A) hP (fun H locs hP hS => ?_)
  have k4 : (4 : Int32).toInt = 4 := by decide
  refine lv_aload_n hx hb d_CO_refuseRepeated_0 rfl (lv_at hl 1 rfl) ?_
  have hPc := hP.sb (wq := (wz_166 na tr nas naz nat nav na_length tr tx tr_length tx ctx gtx nas cnas gnas naz cnaz gnaz)) [2, 3, 4, 5, 6] rfl
  have hDc := hD.sb (wq := (wz_166 na tr nas naz nat nav na_length tr tx tr_length tx ctx gtx nas cnas gnas naz cnaz gnaz)) [2, 3, 4, 5, 6] (by decide) rfl
  have hKc := hK.sb (tyq := [(ctx, .byte), (cnas, .int), (cnaz, .int)]) [0, 1, 2] rfl
  have hFc := va_free (wc := (wz_166 na tr nas naz nat nav na_length tr tx tr_length tx ctx gtx nas cnas gnas naz cnaz gnaz)) hD hS hA [2, 3, 4, 5, 6] rfl
  refine va_calli (va_runV (As := []) (rest := []) ⟨hx, hb, hml, hown, hts⟩ (c_NA_firstRepeated l dC dI H.size na tr nas naz nat nav tx ctx cnas cnaz na_length tr_length gtx 20 gnas gnaz (b_tr_length) (by (first | (apply Int.le_antisymm <;> omega) | omega)) (hz)) (cwV 0 hts (gV kM_CO_98 kV_NA_firstRepeated kS_NA_firstRepeated kI_NA kC_NA_firstRepeated) rfl rfl rfl (by decide +kernel) ⟨Nat.le_of_ble_eq_true rfl, Nat.le_of_ble_eq_true rfl⟩) ⟨fun a U g mk z => by obtain ⟨z0, z1, zP, zK, zD⟩ := z; exact ⟨z0, z1, zP, va_K.moved (u := U) (U := U.calling g mk a) (Vm.Alike.refl U.vm) zK, zD⟩, va_recv hKc hPc (ci := 5) (q0 := 0) rfl rfl, fun U hU hW => ⟨rfl, by rw [hU], va_P.he hU.symm hPc, va_K.moved hW.alike hKc, hDc.weaken (fun _ _ _ _ => trivial)⟩⟩ rfl rfl hl.1 rfl (lv_room (Nat.le_of_ble_eq_true rfl)) d_CO_refuseRepeated_1 ⟨(Nat.zero_le _), (Nat.zero_le _)⟩) hS (fun q _ h => hFc q h) hFc (fun r1 u t H1 locs ht hvm hw hB hz1 hk1 hS => ?_)
  try dsimp only at hw
  have xr1 := hw
  try clear hw
  obtain ⟨hP1, hK1, hD1⟩ := hB
  replace hP1 := va_P.he ht hP1
  obtain ⟨hP, hD⟩ := va_join (wr := [(h0, .inr (2, [.ref pr, .ref h0_known_r, .ref h0_localTypes_r, .int h0_localCount, .ref h0_pending_r, .int h0_pendingCount, .int h0_gives, .int h0_depth, .int h0_loopDepth, .ref h0_typeOf_r, .ref h0_body_r, .ref h0_codes_r, .ref h0_section_r])), (pr, .inr (6, [.ref pr_globals_r, .ref pr_functions_r, .ref pr_parameters_r, .ref pr_parameterFirst_r, .ref pr_stepFirst_r, .ref pr_kinds_r, .ref pr_signs_r, .ref pr_places_r, .ref pr_sizes_r, .ref pr_values_r, .int pr_reason, .int pr_place, .ref pr_scanner_r, .int pr_stepCount, .int pr_open, .int pr_twoSides, .ref pr_waiting_r, .ref pr_waitingPlaces_r, .int pr_waitingCount]))]) (w1 := (wz_166 na tr nas naz nat nav na_length tr tx tr_length tx ctx gtx nas cnas gnas naz cnaz gnaz)) hP hD [2, 3, 4, 5, 6] [0, 1] rfl rfl (by decide) (by decide) hk1 hFc hP1 hD1
  clear hPc hDc hKc hFc hz1 hk1 hP1 hK1 hD1
  rename Heap => H
  have hP : va_P (dC, dI) cls (wz_165 h0 pr h0_known_r h0_localTypes_r h0_localCount h0_pending_r h0_pendingCount h0_gives h0_depth h0_loopDepth h0_typeOf_r h0_body_r h0_codes_r h0_section_r pr pr_globals_r pr_functions_r pr_parameters_r pr_parameterFirst_r pr_stepFirst_r pr_kinds_r pr_signs_r pr_places_r pr_sizes_r pr_values_r pr_reason pr_place pr_scanner_r pr_stepCount pr_open pr_twoSides pr_waiting_r pr_waitingPlaces_r pr_waitingCount na tr nas naz nat nav na_length tr tx tr_length tx ctx gtx nas cnas gnas naz cnaz gnaz) H := hP
  have hD : va_D A (wz_165 h0 pr h0_known_r h0_localTypes_r h0_localCount h0_pending_r h0_pendingCount h0_gives h0_depth h0_loopDepth h0_typeOf_r h0_body_r h0_codes_r h0_section_r pr pr_globals_r pr_functions_r pr_parameters_r pr_parameterFirst_r pr_stepFirst_r pr_kinds_r pr_signs_r pr_places_r pr_sizes_r pr_values_r pr_reason pr_place pr_scanner_r pr_stepCount pr_open pr_twoSides pr_waiting_r pr_waitingPlaces_r pr_waitingCount na tr nas naz nat nav na_length tr tx tr_length tx ctx gtx nas cnas gnas naz cnaz gnaz) := hD
  refine lv_istore_n (lv' := [(2, .int r1), (0, .ref h0), (1, .ref na)]) hx hb d_CO_refuseRepeated_4 rfl hl (by decide) rfl (fun ls hl => ?_)
  refine lv_iload_n hx hb d_CO_refuseRepeated_5 rfl (lv_at hl 0 rfl) ?_
  refine lv_if_lt (tgt := 23) hx hb d_CO_refuseRepeated_6 (by decide) (fun c6 => ?_) (fun c6 => ?_)
  · have q6 := ltI c6
    have hP9 := hP.sb (wq := (wz_165 h0 pr h0_known_r h0_localTypes_r h0_localCount h0_pending_r h0_pendingCount h0_gives h0_depth h0_loopDepth h0_typeOf_r h0_body_r h0_codes_r h0_section_r pr pr_globals_r pr_functions_r pr_parameters_r pr_parameterFirst_r pr_stepFirst_r pr_kinds_r pr_signs_r pr_places_r pr_sizes_r pr_values_r pr_reason pr_place pr_scanner_r pr_stepCount pr_open pr_twoSides pr_waiting_r pr_waitingPlaces_r pr_waitingCount na tr nas naz nat nav na_length tr tx tr_length tx ctx gtx nas cnas gnas naz cnaz gnaz)) [0, 1, 2, 3, 4, 5, 6] rfl
    have hD9 := hD.sb (wq := (wz_165 h0 pr h0_known_r h0_localTypes_r h0_localCount h0_pending_r h0_pendingCount h0_gives h0_depth h0_loopDepth h0_typeOf_r h0_body_r h0_codes_r h0_section_r pr pr_globals_r pr_functions_r pr_parameters_r pr_parameterFirst_r pr_stepFirst_r pr_kinds_r pr_signs_r pr_places_r pr_sizes_r pr_values_r pr_reason pr_place pr_scanner_r pr_stepCount pr_open pr_twoSides pr_waiting_r pr_waitingPlaces_r pr_waitingCount na tr nas naz nat nav na_length tr tx tr_length tx ctx gtx nas cnas gnas naz cnaz gnaz)) [0, 1, 2, 3, 4, 5, 6] (by decide) rfl
    exact tz_up (fun _ => rfl) (W.vret hx hb hr (fun t ht hW => ⟨⟨(pr_place, pr_reason), ⟨rfl, (trivial)⟩, va_P.he ht.symm hP9, va_K.moved hW.alike hK, hD9⟩, hS.F ht⟩) hS.2.2 d_CO_refuseRepeated_23)
  · have q6 := nltI c6
    refine lv_aload_n hx hb d_CO_refuseRepeated_9 rfl (lv_at hl 1 rfl) ?_
    refine va_get (D := (dC, dI)) (ci := 2) (v := .ref pr) (C := R_CO) (T := F_CO) (N := 13) hx hb hts i_CO hown hK hP 0 rfl rfl 0 (by decide) (hts _ kF_CO_36) (fun _ h9 => h9) rfl d_CO_refuseRepeated_10 ?_
    refine lv_iconst (v := 4) hx hb d_CO_refuseRepeated_13 (by decide) ?_
    refine lv_aload_n hx hb d_CO_refuseRepeated_14 rfl (lv_at hl 2 rfl) ?_
    refine va_get (D := (dC, dI)) (ci := 5) (v := .ref nas) (C := R_NA) (T := F_NA) (N := 6) hx hb hts i_NA hown hK hP 2 rfl rfl 1 (by decide) (hts _ kF_CO_102) (fun _ h9 => h9) rfl d_CO_refuseRepeated_15 ?_
    refine lv_iload_n hx hb d_CO_refuseRepeated_18 rfl (lv_at hl 0 rfl) ?_
    have g19 : vp_in r1 20 := vp_in_iff.mpr ⟨by (first | (apply Int.le_antisymm <;> omega) | omega), by (first | (apply Int.le_antisymm <;> omega) | omega)⟩
    refine va_iald hx hb hK hP 5 1 rfl rfl g19 d_CO_refuseRepeated_19 ?_
    refine lv_topi (fun x2 ex2 => ?_)
    have hPc := hP.sb (wq := (wz_110 pr pr_globals_r pr_functions_r pr_parameters_r pr_parameterFirst_r pr_stepFirst_r pr_kinds_r pr_signs_r pr_places_r pr_sizes_r pr_values_r pr_reason pr_place pr_scanner_r pr_stepCount pr_open pr_twoSides pr_waiting_r pr_waitingPlaces_r pr_waitingCount)) [1] rfl
    have hDc := hD.sb (wq := (wz_110 pr pr_globals_r pr_functions_r pr_parameters_r pr_parameterFirst_r pr_stepFirst_r pr_kinds_r pr_signs_r pr_places_r pr_sizes_r pr_values_r pr_reason pr_place pr_scanner_r pr_stepCount pr_open pr_twoSides pr_waiting_r pr_waitingPlaces_r pr_waitingCount)) [1] (by decide) rfl
    have hKc := hK.sb (tyq := []) [] rfl
    have hFc := va_free (wc := (wz_110 pr pr_globals_r pr_functions_r pr_parameters_r pr_parameterFirst_r pr_stepFirst_r pr_kinds_r pr_signs_r pr_places_r pr_sizes_r pr_values_r pr_reason pr_place pr_scanner_r pr_stepCount pr_open pr_twoSides pr_waiting_r pr_waitingPlaces_r pr_waitingCount)) hD hS hA [1] rfl
    refine tq_callv (tz_runV (As := [.int 4, .int x2]) (rest := []) ⟨hx, hb, hml, hown, hts⟩ (c_PR_refuse l hlt dC dI H.size sa pr pr_globals_r pr_functions_r pr_parameters_r pr_parameterFirst_r pr_stepFirst_r pr_kinds_r pr_signs_r pr_places_r pr_sizes_r pr_values_r pr_scanner_r pr_waiting_r pr_waitingPlaces_r pr_reason pr_place pr_stepCount pr_open pr_twoSides pr_waitingCount 4 x2) (cwV 2 hts (gV kM_CO_105 kV_PR_refuse kS_PR_refuse kI_PR kC_PR_refuse) rfl rfl rfl (by decide +kernel) ⟨Nat.le_of_ble_eq_true rfl, Nat.le_of_ble_eq_true rfl⟩) ⟨fun a U g mk z => by obtain ⟨z0, z1, zP, zK, zD, zS⟩ := z; exact ⟨z0, z1, zP, va_K.moved (u := U) (U := U.calling g mk a) (Vm.Alike.refl U.vm) zK, zD, sw.same (u := U) (U := U.calling g mk a) rfl zS⟩, va_recv hKc hPc (ci := 6) (q0 := 0) rfl rfl, fun U hU hW => ⟨rfl, by rw [hU], va_P.he hU.symm hPc, va_K.moved hW.alike hKc, hDc.weaken (fun _ _ _ _ => trivial), hSW.call hS hFc hW hU⟩⟩ rfl rfl hl.1 rfl (lv_room (Nat.le_of_ble_eq_true rfl)) d_CO_refuseRepeated_20 ⟨Nat.le_of_ble_eq_true rfl, Nat.le_of_ble_eq_true rfl⟩) hS (fun q _ h => hFc q h) hFc (fun u t H1 locs ht hvm hw hB hz1 hk1 hS => ?_) (fun xx u t H1 locs ht hvm hw hXX hB hz1 hk1 hS => ?_)
    rotate_left
    · skip
      obtain ⟨n4, n5⟩ := u
      try dsimp only at hw
      obtain ⟨hP1, hK1, hD1⟩ := hB
      replace hP1 := va_P.he ht hP1
      obtain ⟨hP, hD⟩ := va_join (wr := [(h0, .inr (2, [.ref pr, .ref h0_known_r, .ref h0_localTypes_r, .int h0_localCount, .ref h0_pending_r, .int h0_pendingCount, .int h0_gives, .int h0_depth, .int h0_loopDepth, .ref h0_typeOf_r, .ref h0_body_r, .ref h0_codes_r, .ref h0_section_r])), (na, .inr (5, [.ref tr, .ref nas, .ref naz, .ref nat, .ref nav, .int na_length])), (tr, .inr (1, [.ref tx, .int tr_length])), (tx, .inl (ctx, 2000, .inl gtx)), (nas, .inl (cnas, 20, .inl gnas)), (naz, .inl (cnaz, 20, .inl gnaz))]) (w1 := (wz_110 pr pr_globals_r pr_functions_r pr_parameters_r pr_parameterFirst_r pr_stepFirst_r pr_kinds_r pr_signs_r pr_places_r pr_sizes_r pr_values_r n5 n4 pr_scanner_r pr_stepCount pr_open pr_twoSides pr_waiting_r pr_waitingPlaces_r pr_waitingCount)) hP hD [1] [0, 2, 3, 4, 5, 6] rfl rfl (by decide) (by decide) hk1 hFc hP1 hD1
      have hP : va_P (dC, dI) cls [(h0, .inr (2, [.ref pr, .ref h0_known_r, .ref h0_localTypes_r, .int h0_localCount, .ref h0_pending_r, .int h0_pendingCount, .int h0_gives, .int h0_depth, .int h0_loopDepth, .ref h0_typeOf_r, .ref h0_body_r, .ref h0_codes_r, .ref h0_section_r])), (na, .inr (5, [.ref tr, .ref nas, .ref naz, .ref nat, .ref nav, .int na_length])), (tr, .inr (1, [.ref tx, .int tr_length])), (tx, .inl (ctx, 2000, .inl gtx)), (nas, .inl (cnas, 20, .inl gnas)), (naz, .inl (cnaz, 20, .inl gnaz)), (pr, .inr (6, [.ref pr_globals_r, .ref pr_functions_r, .ref pr_parameters_r, .ref pr_parameterFirst_r, .ref pr_stepFirst_r, .ref pr_kinds_r, .ref pr_signs_r, .ref pr_places_r, .ref pr_sizes_r, .ref pr_values_r, .int n5, .int n4, .ref pr_scanner_r, .int pr_stepCount, .int pr_open, .int pr_twoSides, .ref pr_waiting_r, .ref pr_waitingPlaces_r, .int pr_waitingCount]))] H1 := hP
      have hD : va_D A [(h0, .inr (2, [.ref pr, .ref h0_known_r, .ref h0_localTypes_r, .int h0_localCount, .ref h0_pending_r, .int h0_pendingCount, .int h0_gives, .int h0_depth, .int h0_loopDepth, .ref h0_typeOf_r, .ref h0_body_r, .ref h0_codes_r, .ref h0_section_r])), (na, .inr (5, [.ref tr, .ref nas, .ref naz, .ref nat, .ref nav, .int na_length])), (tr, .inr (1, [.ref tx, .int tr_length])), (tx, .inl (ctx, 2000, .inl gtx)), (nas, .inl (cnas, 20, .inl gnas)), (naz, .inl (cnaz, 20, .inl gnaz)), (pr, .inr (6, [.ref pr_globals_r, .ref pr_functions_r, .ref pr_parameters_r, .ref pr_parameterFirst_r, .ref pr_stepFirst_r, .ref pr_kinds_r, .ref pr_signs_r, .ref pr_places_r, .ref pr_sizes_r, .ref pr_values_r, .int n5, .int n4, .ref pr_scanner_r, .int pr_stepCount, .int pr_open, .int pr_twoSides, .ref pr_waiting_r, .ref pr_waitingPlaces_r, .int pr_waitingCount]))] := hD
      have hP9 := hP.sb (wq := (wz_165 h0 pr h0_known_r h0_localTypes_r h0_localCount h0_pending_r h0_pendingCount h0_gives h0_depth h0_loopDepth h0_typeOf_r h0_body_r h0_codes_r h0_section_r pr pr_globals_r pr_functions_r pr_parameters_r pr_parameterFirst_r pr_stepFirst_r pr_kinds_r pr_signs_r pr_places_r pr_sizes_r pr_values_r n5 n4 pr_scanner_r pr_stepCount pr_open pr_twoSides pr_waiting_r pr_waitingPlaces_r pr_waitingCount na tr nas naz nat nav na_length tr tx tr_length tx ctx gtx nas cnas gnas naz cnaz gnaz)) [0, 6, 1, 2, 3, 4, 5] rfl
      have hD9 := hD.sb (wq := (wz_165 h0 pr h0_known_r h0_localTypes_r h0_localCount h0_pending_r h0_pendingCount h0_gives h0_depth h0_loopDepth h0_typeOf_r h0_body_r h0_codes_r h0_section_r pr pr_globals_r pr_functions_r pr_parameters_r pr_parameterFirst_r pr_stepFirst_r pr_kinds_r pr_signs_r pr_places_r pr_sizes_r pr_values_r n5 n4 pr_scanner_r pr_stepCount pr_open pr_twoSides pr_waiting_r pr_waitingPlaces_r pr_waitingCount na tr nas naz nat nav na_length tr tx tr_length tx ctx gtx nas cnas gnas naz cnaz gnaz)) [0, 6, 1, 2, 3, 4, 5] (by decide) rfl
      exact tz_leave rfl hno hlocks (fun t ht hW => ⟨⟨(n4, n5), ⟨trivial, by rw [ht]; exact hXX.moved hW.alike⟩, va_P.he ht.symm hP9, va_K.moved hW.alike hK, hD9⟩, hS.F ht⟩) hS.2.2
    exact (show False from hw).elim
end q_64
section q_65
/-! Code that is put: instructions (op, value), their bytes, what they do to the picture -/
abbrev ci : Type := Int × Int
def en (x : ci) : List Nat :=
  if x.1 = 2 ∨ x.1 = 3 ∨ x.1 = 4 then [x.1.toNat, x.2.toNat]
  else if x.1 = 65 ∨ x.1 = 66 then x.1.toNat :: sleb 10 x.2
  else if x.1 = 12 ∨ x.1 = 13 ∨ x.1 = 16 ∨ (32 ≤ x.1 ∧ x.1 ≤ 36) then x.1.toNat :: leb 5 x.2.toNat
  else if x.1 = 40 ∨ x.1 = 41 ∨ x.1 = 44 ∨ x.1 = 45 ∨ x.1 = 54 ∨ x.1 = 55 ∨ x.1 = 58 then x.1.toNat :: (leb 5 x.2.toNat ++ [0])
  else if x.1 = 63 ∨ x.1 = 64 then [x.1.toNat, 0]
  else [x.1.toNat]
def enl : List ci → List Nat
  | [] => []
  | x :: l => en x ++ enl l
theorem enl_app {a b : List ci} : enl (a ++ b) = enl a ++ enl b := by
  induction a with
  | nil => rfl
  | cons x a ih =>
    have e1 : enl (x :: a ++ b) = en x ++ enl (a ++ b) := rfl
    have e2 : enl (x :: a) = en x ++ enl a := rfl
    rw [e1, e2, ih, List.append_assoc]
theorem enl_one {x : ci} : enl [x] = en x := List.append_nil _
theorem en_c {op v : Int} (h : op = 65 ∨ op = 66) : en (op, v) = op.toNat :: sleb 10 v := by
  unfold en
  rw [if_neg (by dsimp only; (first | (apply Int.le_antisymm <;> omega) | omega)), if_pos h]
theorem en_u {op v : Int} (h : op = 12 ∨ op = 13 ∨ op = 16 ∨ (32 ≤ op ∧ op ≤ 36)) (h0 : 0 ≤ v) (h1 : v < 128) : en (op, v) = [op.toNat, v.toNat] := by
  unfold en
  rw [if_neg (by dsimp only; (first | (apply Int.le_antisymm <;> omega) | omega)), if_neg (by dsimp only; (first | (apply Int.le_antisymm <;> omega) | omega)), if_pos h, leb_end (by dsimp only; (first | (apply Int.le_antisymm <;> omega) | omega))]
  dsimp only
  rw [show v.toNat % 256 = v.toNat by (first | (apply Int.le_antisymm <;> omega) | omega)]
theorem en_x {op v : Int} (h : (69 ≤ op ∧ op ≤ 173) ∨ op = 0 ∨ op = 5 ∨ op = 11 ∨ op = 15 ∨ op = 26) : en (op, v) = [op.toNat] := by
  unfold en
  rw [if_neg (by dsimp only; (first | (apply Int.le_antisymm <;> omega) | omega)), if_neg (by dsimp only; (first | (apply Int.le_antisymm <;> omega) | omega)), if_neg (by dsimp only; (first | (apply Int.le_antisymm <;> omega) | omega)), if_neg (by dsimp only; (first | (apply Int.le_antisymm <;> omega) | omega)), if_neg (by dsimp only; (first | (apply Int.le_antisymm <;> omega) | omega))]
def two (op : Int) : Prop := (69 < op ∧ op < 80) ∨ (80 < op ∧ op ≤ 90) ∨ (106 ≤ op ∧ op < 121) ∨ (124 ≤ op ∧ op ≤ 138)
/-- instructions as the Coder puts them -/
def iok (x : ci) : Prop := ((x.1 = 2 ∨ x.1 = 3 ∨ x.1 = 4) ∧ (x.2 = 64 ∨ x.2 = 127)) ∨ (x.1 = 65 ∧ -2147483648 ≤ x.2 ∧ x.2 ≤ 2147483647) ∨ (x.1 = 66 ∧ -9223372036854775808 ≤ x.2 ∧ x.2 ≤ 9223372036854775807) ∨ ((x.1 = 12 ∨ x.1 = 13 ∨ x.1 = 16 ∨ x.1 = 32 ∨ x.1 = 33 ∨ x.1 = 35 ∨ x.1 = 36) ∧ 0 ≤ x.2 ∧ x.2 < 128) ∨ ((x.1 = 40 ∨ x.1 = 41 ∨ x.1 = 44 ∨ x.1 = 45 ∨ x.1 = 54 ∨ x.1 = 55 ∨ x.1 = 58) ∧ 0 ≤ x.2 ∧ x.2 < 128) ∨ ((x.1 = 63 ∨ x.1 = 64 ∨ x.1 = 0 ∨ x.1 = 5 ∨ x.1 = 11 ∨ x.1 = 15 ∨ x.1 = 26 ∨ x.1 = 69 ∨ x.1 = 167 ∨ x.1 = 172 ∨ two x.1) ∧ x.2 = 0)
def iokl : List ci → Prop
  | [] => True
  | x :: l => iok x ∧ iokl l
theorem iokl_app {b : List ci} : ∀ {a : List ci}, iokl a → iokl b → iokl (a ++ b) := by
  intro a
  induction a with
  | nil => exact fun _ h => h
  | cons x a ih => exact fun h1 h2 => ⟨h1.1, ih h1.2 h2⟩
theorem iokl_l {b : List ci} : ∀ {a : List ci}, iokl (a ++ b) → iokl a ∧ iokl b := by
  intro a
  induction a with
  | nil => exact fun h => ⟨trivial, h⟩
  | cons x a ih => exact fun h => ⟨⟨h.1, (ih h.2).1⟩, (ih h.2).2⟩
/-- which blocks are open: 2, 3 a block, a loop; 4 an if, 5 behind its else -/
def d1 (x : ci) (a : List Nat) : Option (List Nat) :=
  if x.1 = 2 ∨ x.1 = 3 ∨ x.1 = 4 then (if a.length < 100 then some (x.1.toNat :: a) else none)
  else if x.1 = 5 then (match a with | 4 :: r => some (5 :: r) | _ => none)
  else if x.1 = 11 then (match a with | _ :: r => some r | [] => none)
  else some a
def dl : List ci → List Nat → Option (List Nat)
  | [], a => some a
  | x :: l, a => match d1 x a with | some b => dl l b | none => none
theorem dl_go {x : ci} {l : List ci} {a b : List Nat} (h : d1 x a = some b) : dl (x :: l) a = dl l b := by
  show (match d1 x a with | some b => dl l b | none => none) = dl l b
  rw [h]
theorem dl_app {l m : List ci} : ∀ {a b c : List Nat}, dl l a = some b → dl m b = some c → dl (l ++ m) a = some c := by
  induction l with
  | nil =>
    intro a b c h1 h2
    rw [show a = b from Option.some.inj h1]
    exact h2
  | cons x l ih =>
    intro a b c h1 h2
    cases e : d1 x a with
    | none =>
      have h1 : (match d1 x a with | some b => dl l b | none => none) = some b := h1
      rw [e] at h1
      cases h1
    | some d =>
      rw [dl_go e] at h1
      rw [List.cons_append, dl_go e]
      exact ih h1 h2
theorem d1_0 {x : ci} {a : List Nat} (h : x.1 ≠ 2 ∧ x.1 ≠ 3 ∧ x.1 ≠ 4 ∧ x.1 ≠ 5 ∧ x.1 ≠ 11) : d1 x a = some a := by
  unfold d1
  rw [if_neg (by (first | (apply Int.le_antisymm <;> omega) | omega)), if_neg (by (first | (apply Int.le_antisymm <;> omega) | omega)), if_neg (by (first | (apply Int.le_antisymm <;> omega) | omega))]
theorem dl_1 {x : ci} {a : List Nat} (h : x.1 ≠ 2 ∧ x.1 ≠ 3 ∧ x.1 ≠ 4 ∧ x.1 ≠ 5 ∧ x.1 ≠ 11) : dl [x] a = some a := by
  rw [dl_go (d1_0 h)]
  rfl
theorem dl_p {op v : Int} {a : List Nat} {M : List ci} (h : op = 2 ∨ op = 3 ∨ op = 4) (ha : a.length < 100) : dl ((op, v) :: M) a = dl M (op.toNat :: a) := by
  refine dl_go ?_
  unfold d1
  rw [if_pos h, if_pos ha]
def fx (x : Nat) : List Nat := if x = 2 ∨ x = 6 then [5] else if x = 3 ∨ x = 5 then [4] else if x = 7 ∨ x = 8 then [3, 2] else []
def fs : List Nat → List Nat
  | [] => []
  | x :: S => fx x ++ fs S
theorem fx_len : ∀ x : Nat, ((fx x).length : Int) = fw x
  | 0 => rfl
  | 1 => rfl
  | 2 => rfl
  | 3 => rfl
  | 4 => rfl
  | 5 => rfl
  | 6 => rfl
  | 7 => rfl
  | 8 => rfl
  | x + 9 => by
    unfold fx fw
    rw [if_neg (by (first | (apply Int.le_antisymm <;> omega) | omega)), if_neg (by (first | (apply Int.le_antisymm <;> omega) | omega)), if_neg (by (first | (apply Int.le_antisymm <;> omega) | omega)), if_neg (by (first | (apply Int.le_antisymm <;> omega) | omega)), if_neg (by (first | (apply Int.le_antisymm <;> omega) | omega))]
    rfl
theorem fs_len : ∀ S : List Nat, ((fs S).length : Int) = fr S := by
  intro S
  induction S with
  | nil => rfl
  | cons x S ih =>
    have e : (fs (x :: S)).length = (fx x).length + (fs S).length := List.length_append
    have e2 : fr (x :: S) = fr S + fw x := rfl
    have e3 := fx_len x
    (first | (apply Int.le_antisymm <;> omega) | omega)
theorem fs_rep {S : List Nat} : ∀ n, fs (List.replicate n 0 ++ S) = fs S := by
  intro n
  induction n with
  | zero => rfl
  | succ n ih => exact ih
theorem fr_nn : ∀ S : List Nat, 0 ≤ fr S := by
  intro S
  induction S with
  | nil => exact Int.le_refl _
  | cons x S ih =>
    have := fw_b x
    show 0 ≤ fr S + fw x
    (first | (apply Int.le_antisymm <;> omega) | omega)
theorem fr_0 {S : List Nat} : fr (0 :: S) = fr S := by
  show fr S + fw 0 = fr S
  have : fw 0 = 0 := rfl
  (first | (apply Int.le_antisymm <;> omega) | omega)
/-- the top block with n values above its ground -/
def tp (n : Int) (B : List vt) (h : Int) : Prop := (∃ (o g hb d : Int) (R : List vt), B = (o, g, hb, d) :: R ∧ hb + n ≤ h) ∧ 0 ≤ h ∧ ∀ y ∈ B, 0 ≤ y.2.2.1
def cB (g : Int) : List Nat → List Int → List vt → Int → Prop
  | [], P, B, h => P = [] ∧ h = 0 ∧ ∃ o d, B = [(o, g, 0, d)]
  | 0 :: S, P, B, h => ∃ t Q, P = t :: Q ∧ cB g S Q B (h - ga t)
  | 1 :: S, P, B, h => ∃ t Q, P = t :: Q ∧ cB g S Q B (h - 1)
  | 2 :: S, P, B, h => ∃ t Q d R, P = t :: Q ∧ B = (5, 127, h, d) :: R ∧ cB g S Q R h
  | 3 :: S, P, B, h => ∃ t Q d R, P = t :: Q ∧ B = (4, 127, h, d) :: R ∧ cB g S Q R h
  | 4 :: S, P, B, h => ∃ t Q, P = t :: Q ∧ cB g S Q B h
  | 5 :: S, P, B, h => ∃ d R, B = (4, 64, h, d) :: R ∧ cB g S P R h
  | 6 :: S, P, B, h => ∃ d R, B = (5, 64, h, d) :: R ∧ cB g S P R h
  | 7 :: S, P, B, h => ∃ t Q d d2 R, P = t :: Q ∧ B = (3, 64, h, d) :: (2, 64, h, d2) :: R ∧ cB g S Q R h
  | 8 :: S, P, B, h => ∃ t Q d d2 R, P = t :: Q ∧ B = (3, 64, h, d) :: (2, 64, h, d2) :: R ∧ cB g S Q R h
  | _ :: _, _, _, _ => False
theorem ga_b (t : Int) : 0 ≤ ga t ∧ ga t ≤ 1 := by
  unfold ga
  split <;> (first | (apply Int.le_antisymm <;> omega) | omega)
theorem ga_1 {t : Int} (h : t ≠ 64) : ga t = 1 := if_neg h
theorem tp_le {n m : Int} {B : List vt} {h : Int} (H : tp n B h) (e : m ≤ n) : tp m B h := by
  obtain ⟨⟨o, g, hb, d, R, a1, a2⟩, a3⟩ := H
  exact ⟨⟨o, g, hb, d, R, a1, by (first | (apply Int.le_antisymm <;> omega) | omega)⟩, a3⟩
theorem tp_up {n k : Int} {B : List vt} {h h2 : Int} (H : tp n B h) (e : h2 = h + k) (hk : 0 ≤ k) : tp (n + k) B h2 := by
  obtain ⟨⟨o, g, hb, d, R, a1, a2⟩, a3, a4⟩ := H
  exact ⟨⟨o, g, hb, d, R, a1, by (first | (apply Int.le_antisymm <;> omega) | omega)⟩, by (first | (apply Int.le_antisymm <;> omega) | omega), a4⟩
theorem tp_in {o g d h : Int} {R : List vt} (h0 : 0 ≤ h) (H : ∀ y ∈ R, 0 ≤ y.2.2.1) : tp 0 ((o, g, h, d) :: R) h :=
  ⟨⟨o, g, h, d, R, rfl, by (first | (apply Int.le_antisymm <;> omega) | omega)⟩, h0, fun y hy => by
    rcases List.mem_cons.mp hy with z | z
    · rw [z]; exact h0
    · exact H y z⟩
theorem cB_tp {g : Int} : ∀ (S : List Nat) {P : List Int} {B : List vt} {h : Int}, cB g S P B h → tp 0 B h := by
  intro S
  induction S with
  | nil =>
    intro P B h H
    obtain ⟨-, rfl, o, d, rfl⟩ := H
    exact tp_in (Int.le_refl _) (fun y hy => by cases hy)
  | cons x S ih =>
    intro P B h H
    unfold cB at H
    split at H
    · cases ‹x :: S = []›
    all_goals try exact H.elim
    all_goals rename_i e
    all_goals injection e with e1 e2
    all_goals subst e2
    · obtain ⟨t, Q, -, H⟩ := H
      have := ga_b t
      exact tp_le (tp_up (ih H) (k := ga t) (by rw [Int.sub_add_cancel]) (by (first | (apply Int.le_antisymm <;> omega) | omega))) (by (first | (apply Int.le_antisymm <;> omega) | omega))
    · obtain ⟨t, Q, -, H⟩ := H
      exact tp_le (tp_up (ih H) (k := 1) (by rw [Int.sub_add_cancel]) (by (first | (apply Int.le_antisymm <;> omega) | omega))) (by (first | (apply Int.le_antisymm <;> omega) | omega))
    · obtain ⟨t, Q, d, R, -, rfl, H⟩ := H
      exact tp_in (ih H).2.1 (ih H).2.2
    · obtain ⟨t, Q, d, R, -, rfl, H⟩ := H
      exact tp_in (ih H).2.1 (ih H).2.2
    · obtain ⟨t, Q, -, H⟩ := H
      exact ih H
    · obtain ⟨d, R, rfl, H⟩ := H
      exact tp_in (ih H).2.1 (ih H).2.2
    · obtain ⟨d, R, rfl, H⟩ := H
      exact tp_in (ih H).2.1 (ih H).2.2
    · obtain ⟨t, Q, d, d2, R, -, rfl, H⟩ := H
      exact tp_in (ih H).2.1 (tp_in (o := 2) (g := 64) (d := d2) (ih H).2.1 (ih H).2.2).2.2
    · obtain ⟨t, Q, d, d2, R, -, rfl, H⟩ := H
      exact tp_in (ih H).2.1 (tp_in (o := 2) (g := 64) (d := d2) (ih H).2.1 (ih H).2.2).2.2
/-- one instruction; some -/
def c1 (N : Int) (gv tk : Nat → Int) (fc gc : Int) (x : ci) (B : List vt) (h : Int) (B2 : List vt) (h2 : Int) : Prop := vr (fun _ => N) gv tk fc gc 0 x.1 x.2 B h B2 h2 ∧ 0 ≤ h2 ∧ ∀ y ∈ B2, 0 ≤ y.2.2.1
def cr (N : Int) (gv tk : Nat → Int) (fc gc : Int) : List ci → List vt → Int → List vt → Int → Prop
  | [], B, h, B2, h2 => B2 = B ∧ h2 = h
  | x :: l, B, h, B2, h2 => ∃ B1 h1, c1 N gv tk fc gc x B h B1 h1 ∧ cr N gv tk fc gc l B1 h1 B2 h2
section CR
variable {N fc gc : Int} {gv tk : Nat → Int}
theorem cr_app {a b : List ci} : ∀ {B : List vt} {h : Int} {B1 : List vt} {h1 : Int} {B2 : List vt} {h2 : Int}, cr N gv tk fc gc a B h B1 h1 → cr N gv tk fc gc b B1 h1 B2 h2 → cr N gv tk fc gc (a ++ b) B h B2 h2 := by
  induction a with
  | nil =>
    intro B h B1 h1 B2 h2 H1 H2
    obtain ⟨rfl, rfl⟩ := H1
    exact H2
  | cons x a ih =>
    intro B h B1 h1 B2 h2 H1 H2
    obtain ⟨B3, h3, p, q⟩ := H1
    exact ⟨B3, h3, p, ih q H2⟩
theorem cr_split {a b : List ci} : ∀ {B : List vt} {h : Int} {B2 : List vt} {h2 : Int}, cr N gv tk fc gc (a ++ b) B h B2 h2 → ∃ B1 h1, cr N gv tk fc gc a B h B1 h1 ∧ cr N gv tk fc gc b B1 h1 B2 h2 := by
  induction a with
  | nil =>
    intro B h B2 h2 H
    exact ⟨B, h, ⟨rfl, rfl⟩, H⟩
  | cons x a ih =>
    intro B h B2 h2 H
    obtain ⟨B3, h3, p, q⟩ := H
    obtain ⟨B1, h1, q1, q2⟩ := ih q
    exact ⟨B1, h1, ⟨B3, h3, p, q1⟩, q2⟩
theorem cr_one {x : ci} {B B2 : List vt} {h h2 : Int} (H : c1 N gv tk fc gc x B h B2 h2) : cr N gv tk fc gc [x] B h B2 h2 := ⟨B2, h2, H, rfl, rfl⟩
theorem cr_cons {x : ci} {l : List ci} {B B1 B2 : List vt} {h h1 h2 : Int} (H : c1 N gv tk fc gc x B h B1 h1) (H2 : cr N gv tk fc gc l B1 h1 B2 h2) : cr N gv tk fc gc (x :: l) B h B2 h2 := ⟨B1, h1, H, H2⟩
theorem c1_mono {N2 : Int} (e : N ≤ N2) {x : ci} {B B2 : List vt} {h h2 : Int} (H : c1 N gv tk fc gc x B h B2 h2) : c1 N2 gv tk fc gc x B h B2 h2 := by
  obtain ⟨⟨o, g, hb, d, R, a1, a2, a3, a4, a5, a6, a7, a8, a9, a10, a11, a12, a13, a14, a15⟩, H2⟩ := H
  exact ⟨⟨o, g, hb, d, R, a1, a2, a3, a4, a5, a6, a7, a8, a9, a10, a11, a12, a13, fun z => ⟨(a14 z).1, Int.lt_of_lt_of_le (a14 z).2 e⟩, a15⟩, H2⟩
theorem cr_mono {N2 : Int} (e : N ≤ N2) {l : List ci} : ∀ {B B2 : List vt} {h h2 : Int}, cr N gv tk fc gc l B h B2 h2 → cr N2 gv tk fc gc l B h B2 h2 := by
  induction l with
  | nil => exact fun H => H
  | cons x l ih =>
    intro B B2 h h2 H
    obtain ⟨B1, h1, p, q⟩ := H
    exact ⟨B1, h1, c1_mono e p, ih q⟩
theorem c1_01 {op v : Int} {B : List vt} {h : Int} (H : tp 0 B h) (ho : op = 32 ∨ op = 35 ∨ op = 63 ∨ op = 65 ∨ op = 66) (h1 : op = 32 → 0 ≤ v ∧ v < N) (h2 : op = 35 → 0 ≤ v ∧ v < gc) : c1 N gv tk fc gc (op, v) B h B (h + 1) := by
  obtain ⟨⟨o, g, hb, d, R, e, a2⟩, a3, a4⟩ := H
  refine ⟨⟨o, g, hb, d, R, e, by (first | (apply Int.le_antisymm <;> omega) | omega), ?_⟩, by (first | (apply Int.le_antisymm <;> omega) | omega), a4⟩
  dsimp only
  refine ⟨?_, ?_, ?_, ?_, ?_, ?_, ?_, ?_, ?_, ?_, ?_, ?_, ?_, ?_, ?_, ?_, ?_, ?_⟩ <;> intro z <;> first | (exfalso; (first | (apply Int.le_antisymm <;> omega) | omega)) | skip
  · exact h1 (by (first | (apply Int.le_antisymm <;> omega) | omega))
  · exact h2 (by (first | (apply Int.le_antisymm <;> omega) | omega))
  · exact ⟨rfl, by (first | (apply Int.le_antisymm <;> omega) | omega), fun _ => ⟨by (first | (apply Int.le_antisymm <;> omega) | omega), by (first | (apply Int.le_antisymm <;> omega) | omega)⟩⟩
theorem c1_10 {op v : Int} {B : List vt} {h : Int} (H : tp 1 B h) (ho : op = 26 ∨ op = 33 ∨ op = 36 ∨ op = 13) (h1 : op = 33 → 0 ≤ v ∧ v < N) (h2 : op = 36 → 0 ≤ v ∧ v < gc) : c1 N gv tk fc gc (op, v) B h B (h - 1) := by
  obtain ⟨⟨o, g, hb, d, R, e, a2⟩, a3, a4⟩ := H
  have hb0 : 0 ≤ hb := a4 (o, g, hb, d) (by rw [e]; exact List.mem_cons_self)
  refine ⟨⟨o, g, hb, d, R, e, by (first | (apply Int.le_antisymm <;> omega) | omega), ?_⟩, by (first | (apply Int.le_antisymm <;> omega) | omega), a4⟩
  dsimp only
  refine ⟨?_, ?_, ?_, ?_, ?_, ?_, ?_, ?_, ?_, ?_, ?_, ?_, ?_, ?_, ?_, ?_, ?_, ?_⟩ <;> intro z <;> first | (exfalso; (first | (apply Int.le_antisymm <;> omega) | omega)) | skip
  · exact ⟨rfl, by (first | (apply Int.le_antisymm <;> omega) | omega), fun _ => ⟨by (first | (apply Int.le_antisymm <;> omega) | omega), by (first | (apply Int.le_antisymm <;> omega) | omega)⟩⟩
  · exact ⟨rfl, by (first | (apply Int.le_antisymm <;> omega) | omega), fun _ => ⟨by (first | (apply Int.le_antisymm <;> omega) | omega), by (first | (apply Int.le_antisymm <;> omega) | omega)⟩⟩
  · exact h1 (by (first | (apply Int.le_antisymm <;> omega) | omega))
  · exact h2 (by (first | (apply Int.le_antisymm <;> omega) | omega))
  · exact ⟨rfl, by (first | (apply Int.le_antisymm <;> omega) | omega), fun _ => ⟨by (first | (apply Int.le_antisymm <;> omega) | omega), by (first | (apply Int.le_antisymm <;> omega) | omega)⟩⟩
theorem c1_11 {op v : Int} {B : List vt} {h : Int} (H : tp 1 B h) (ho : op = 64 ∨ op = 40 ∨ op = 41 ∨ op = 44 ∨ op = 45 ∨ op = 69 ∨ op = 167 ∨ op = 172) : c1 N gv tk fc gc (op, v) B h B h := by
  obtain ⟨⟨o, g, hb, d, R, e, a2⟩, a3, a4⟩ := H
  refine ⟨⟨o, g, hb, d, R, e, by (first | (apply Int.le_antisymm <;> omega) | omega), ?_⟩, by (first | (apply Int.le_antisymm <;> omega) | omega), a4⟩
  dsimp only
  refine ⟨?_, ?_, ?_, ?_, ?_, ?_, ?_, ?_, ?_, ?_, ?_, ?_, ?_, ?_, ?_, ?_, ?_, ?_⟩ <;> intro z <;> first | (exfalso; (first | (apply Int.le_antisymm <;> omega) | omega)) | skip
  exact ⟨rfl, by (first | (apply Int.le_antisymm <;> omega) | omega), fun _ => ⟨by (first | (apply Int.le_antisymm <;> omega) | omega), by (first | (apply Int.le_antisymm <;> omega) | omega)⟩⟩
theorem c1_21 {op v : Int} {B : List vt} {h : Int} (H : tp 2 B h) (ho : two op) : c1 N gv tk fc gc (op, v) B h B (h - 1) := by
  obtain ⟨⟨o, g, hb, d, R, e, a2⟩, a3, a4⟩ := H
  have hb0 : 0 ≤ hb := a4 (o, g, hb, d) (by rw [e]; exact List.mem_cons_self)
  unfold two at ho
  refine ⟨⟨o, g, hb, d, R, e, by (first | (apply Int.le_antisymm <;> omega) | omega), ?_⟩, by (first | (apply Int.le_antisymm <;> omega) | omega), a4⟩
  dsimp only
  refine ⟨?_, ?_, ?_, ?_, ?_, ?_, ?_, ?_, ?_, ?_, ?_, ?_, ?_, ?_, ?_, ?_, ?_, ?_⟩ <;> intro z <;> first | (exfalso; (first | (apply Int.le_antisymm <;> omega) | omega)) | skip
  exact ⟨rfl, by (first | (apply Int.le_antisymm <;> omega) | omega), fun _ => ⟨by (first | (apply Int.le_antisymm <;> omega) | omega), by (first | (apply Int.le_antisymm <;> omega) | omega)⟩⟩
theorem c1_20 {op v : Int} {B : List vt} {h : Int} (H : tp 2 B h) (ho : op = 54 ∨ op = 55 ∨ op = 58) : c1 N gv tk fc gc (op, v) B h B (h - 2) := by
  obtain ⟨⟨o, g, hb, d, R, e, a2⟩, a3, a4⟩ := H
  have hb0 : 0 ≤ hb := a4 (o, g, hb, d) (by rw [e]; exact List.mem_cons_self)
  refine ⟨⟨o, g, hb, d, R, e, by (first | (apply Int.le_antisymm <;> omega) | omega), ?_⟩, by (first | (apply Int.le_antisymm <;> omega) | omega), a4⟩
  dsimp only
  refine ⟨?_, ?_, ?_, ?_, ?_, ?_, ?_, ?_, ?_, ?_, ?_, ?_, ?_, ?_, ?_, ?_, ?_, ?_⟩ <;> intro z <;> first | (exfalso; (first | (apply Int.le_antisymm <;> omega) | omega)) | skip
  exact ⟨rfl, by (first | (apply Int.le_antisymm <;> omega) | omega), fun _ => ⟨by (first | (apply Int.le_antisymm <;> omega) | omega), by (first | (apply Int.le_antisymm <;> omega) | omega)⟩⟩
theorem c1_call {v : Int} {B : List vt} {h : Int} (H : tp (tk v.toNat) B h) (h0 : 0 ≤ v) (h1 : v < fc) (h2 : 0 ≤ gv v.toNat) (h3 : 0 ≤ tk v.toNat) : c1 N gv tk fc gc (16, v) B h B (h - tk v.toNat + gv v.toNat) := by
  obtain ⟨⟨o, g, hb, d, R, e, a2⟩, a3, a4⟩ := H
  have hb0 : 0 ≤ hb := a4 (o, g, hb, d) (by rw [e]; exact List.mem_cons_self)
  refine ⟨⟨o, g, hb, d, R, e, by (first | (apply Int.le_antisymm <;> omega) | omega), ?_⟩, by (first | (apply Int.le_antisymm <;> omega) | omega), a4⟩
  dsimp only
  refine ⟨?_, ?_, ?_, ?_, ?_, ?_, ?_, ?_, ?_, ?_, ?_, ?_, ?_, ?_, ?_, ?_, ?_, ?_⟩ <;> intro z <;> first | (exfalso; (first | (apply Int.le_antisymm <;> omega) | omega)) | skip
  exact ⟨h0, h1, rfl, by (first | (apply Int.le_antisymm <;> omega) | omega), fun _ => ⟨by (first | (apply Int.le_antisymm <;> omega) | omega), by (first | (apply Int.le_antisymm <;> omega) | omega)⟩⟩
/-- what ends: the block is dead from here -/
theorem c1_d {op v o g hb d h h2 : Int} {R : List vt} (H : tp 0 ((o, g, hb, d) :: R) h) (ho : op = 0 ∨ op = 12 ∨ op = 15) (h1 : hb ≤ h2) : c1 N gv tk fc gc (op, v) ((o, g, hb, d) :: R) h ((o, g, hb, 1) :: R) h2 := by
  obtain ⟨⟨o1, g1, hb1, d1, R1, e, a2⟩, a3, a4⟩ := H
  have hb0 : 0 ≤ hb := a4 (o, g, hb, d) List.mem_cons_self
  injection e with e1 e2
  injection e1 with e3 e4
  injection e4 with e5 e6
  injection e6 with e7 e8
  refine ⟨⟨o, g, hb, d, R, rfl, by (first | (apply Int.le_antisymm <;> omega) | omega), ?_⟩, by (first | (apply Int.le_antisymm <;> omega) | omega), fun y hy => ?_⟩
  · dsimp only
    refine ⟨?_, ?_, ?_, ?_, ?_, ?_, ?_, ?_, ?_, ?_, ?_, ?_, ?_, ?_, ?_, ?_, ?_, ?_⟩ <;> intro z <;> first | (exfalso; (first | (apply Int.le_antisymm <;> omega) | omega)) | skip
    exact ⟨1, rfl, h1⟩
  · rcases List.mem_cons.mp hy with z | z
    · rw [z]; exact hb0
    · exact a4 y (List.mem_cons_of_mem _ z)
theorem c1_blk {op v : Int} {B : List vt} {h : Int} (H : tp 0 B h) (ho : op = 2 ∨ op = 3) : c1 N gv tk fc gc (op, v) B h ((op, v, h, 0) :: B) h := by
  obtain ⟨⟨o, g, hb, d, R, e, a2⟩, a3, a4⟩ := H
  refine ⟨⟨o, g, hb, d, R, e, by (first | (apply Int.le_antisymm <;> omega) | omega), ?_⟩, by (first | (apply Int.le_antisymm <;> omega) | omega), (tp_in (o := op) (g := v) (d := 0) a3 a4).2.2⟩
  dsimp only
  refine ⟨?_, ?_, ?_, ?_, ?_, ?_, ?_, ?_, ?_, ?_, ?_, ?_, ?_, ?_, ?_, ?_, ?_, ?_⟩ <;> intro z <;> first | (exfalso; (first | (apply Int.le_antisymm <;> omega) | omega)) | skip
  exact ⟨rfl, rfl⟩
theorem c1_if {v : Int} {B : List vt} {h h2 : Int} (H : tp 1 B h) (e2 : h2 = h - 1) : c1 N gv tk fc gc (4, v) B h ((4, v, h2, 0) :: B) h2 := by
  subst e2
  obtain ⟨⟨o, g, hb, d, R, e, a2⟩, a3, a4⟩ := H
  have hb0 : 0 ≤ hb := a4 (o, g, hb, d) (by rw [e]; exact List.mem_cons_self)
  refine ⟨⟨o, g, hb, d, R, e, by (first | (apply Int.le_antisymm <;> omega) | omega), ?_⟩, by (first | (apply Int.le_antisymm <;> omega) | omega), (tp_in (o := 4) (g := v) (d := 0) (by (first | (apply Int.le_antisymm <;> omega) | omega)) a4).2.2⟩
  dsimp only
  refine ⟨?_, ?_, ?_, ?_, ?_, ?_, ?_, ?_, ?_, ?_, ?_, ?_, ?_, ?_, ?_, ?_, ?_, ?_⟩ <;> intro z <;> first | (exfalso; (first | (apply Int.le_antisymm <;> omega) | omega)) | skip
  exact ⟨rfl, by (first | (apply Int.le_antisymm <;> omega) | omega), fun _ => ⟨by (first | (apply Int.le_antisymm <;> omega) | omega), rfl⟩⟩
theorem c1_els {v o g hb d h : Int} {R : List vt} (e : h = hb + ga g) (h0 : 0 ≤ hb) (hR : ∀ y ∈ R, 0 ≤ y.2.2.1) : c1 N gv tk fc gc (5, v) ((o, g, hb, d) :: R) h ((5, g, hb, 0) :: R) hb := by
  have := ga_b g
  refine ⟨⟨o, g, hb, d, R, rfl, by (first | (apply Int.le_antisymm <;> omega) | omega), ?_⟩, h0, (tp_in (o := 5) (g := g) (d := 0) h0 hR).2.2⟩
  dsimp only
  refine ⟨?_, ?_, ?_, ?_, ?_, ?_, ?_, ?_, ?_, ?_, ?_, ?_, ?_, ?_, ?_, ?_, ?_, ?_⟩ <;> intro z <;> first | (exfalso; (first | (apply Int.le_antisymm <;> omega) | omega)) | skip
  exact ⟨rfl, rfl, fun _ => e⟩
theorem c1_end {v o g hb d h h2 : Int} {R : List vt} (e : h = hb + ga g) (e2 : h2 = hb + ga g) (h0 : 0 ≤ hb) (hR : ∀ y ∈ R, 0 ≤ y.2.2.1) (ho : o = 4 → g = 64) : c1 N gv tk fc gc (11, v) ((o, g, hb, d) :: R) h R h2 := by
  have := ga_b g
  refine ⟨⟨o, g, hb, d, R, rfl, by (first | (apply Int.le_antisymm <;> omega) | omega), ?_⟩, by (first | (apply Int.le_antisymm <;> omega) | omega), hR⟩
  dsimp only
  refine ⟨?_, ?_, ?_, ?_, ?_, ?_, ?_, ?_, ?_, ?_, ?_, ?_, ?_, ?_, ?_, ?_, ?_, ?_⟩ <;> intro z <;> first | (exfalso; (first | (apply Int.le_antisymm <;> omega) | omega)) | skip
  exact ⟨fun _ => e, ho, fun _ => ⟨rfl, e2⟩⟩
theorem c1_66 {B B2 : List vt} {h h2 : Int} (H : c1 N gv tk fc gc (65, 0) B h B2 h2) : c1 N gv tk fc gc (66, 0) B h B2 h2 := by
  obtain ⟨⟨o, g, hb, d, R, e, a2, -, -, -, -, -, -, -, -, -, -, -, -, -, q, -⟩, H2⟩ := H
  refine ⟨⟨o, g, hb, d, R, e, a2, ?_⟩, H2⟩
  dsimp only
  refine ⟨?_, ?_, ?_, ?_, ?_, ?_, ?_, ?_, ?_, ?_, ?_, ?_, ?_, ?_, ?_, ?_, ?_, ?_⟩ <;> intro z <;> first | (exfalso; (first | (apply Int.le_antisymm <;> omega) | omega)) | skip
  exact q (by decide)
end CR
end q_65
section q_66
/-! Coder: what is open, what waits, the code so far -/
def ty (t : Int) : Prop := t = 127 ∨ t = 126 ∨ t = 64
def pl (pe : Nat → Int32) : Nat → List Int
  | 0 => []
  | n + 1 => (pe n).toInt :: pl pe n
theorem pl_len {pe : Nat → Int32} : ∀ n, (pl pe n).length = n := by
  intro n
  induction n with
  | zero => rfl
  | succ n ih =>
    have : pl pe (n + 1) = (pe n).toInt :: pl pe n := rfl
    rw [this, List.length_cons, ih]
theorem pl_upd {pe : Nat → Int32} {m : Nat} {x : Int32} : ∀ n, n ≤ m → pl (upd pe m x) n = pl pe n := by
  intro n
  induction n with
  | zero => intro _; rfl
  | succ n ih =>
    intro h
    have e1 : pl (upd pe m x) (n + 1) = (upd pe m x n).toInt :: pl (upd pe m x) n := rfl
    have e2 : pl pe (n + 1) = (pe n).toInt :: pl pe n := rfl
    rw [e1, e2, ih (by (first | (apply Int.le_antisymm <;> omega) | omega)), pk_un (by (first | (apply Int.le_antisymm <;> omega) | omega))]
theorem pl_put {pe : Nat → Int32} {m : Nat} {x : Int32} : pl (upd pe m x) (m + 1) = x.toInt :: pl pe m := by
  have e1 : pl (upd pe m x) (m + 1) = (upd pe m x m).toInt :: pl (upd pe m x) m := rfl
  rw [e1, pk_us, pl_upd m (Nat.le_refl _)]
def cp : List Nat → List Int → List ci → Prop
  | [], _, _ => True
  | 1 :: S, P, l => ∃ p Q a b, P = p :: Q ∧ l = a ++ (65, 0) :: b ∧ ((enl a).length : Int) = p ∧ cp S Q a
  | 5 :: S, P, l => cp S P l
  | 6 :: S, P, l => cp S P l
  | _ :: S, P, l => ∃ t Q, P = t :: Q ∧ cp S Q l
def dm : List Nat → List Int → Prop
  | [], _ => False
  | 2 :: S, P => ∃ t Q, P = t :: Q ∧ (t = 64 ∨ dm S Q)
  | 3 :: S, P => ∃ t Q, P = t :: Q ∧ (t = 64 ∨ dm S Q)
  | 5 :: S, P => dm S P
  | 6 :: S, P => dm S P
  | _ :: S, P => ∃ t Q, P = t :: Q ∧ dm S Q
def cJ : List Nat → List Int → Int → Int → Int → Int → Prop
  | [], P, K, D, L, b => P = [] ∧ 0 ≤ K ∧ D = 0 ∧ L = 0 ∧ 0 ≤ b
  | 1 :: S, P, K, D, L, b => ∃ p Q, P = p :: Q ∧ (0 ≤ p ∧ p + 2 ≤ b) ∧ cJ S Q K D L p
  | 4 :: S, P, K, D, L, b => ∃ p Q, P = p :: Q ∧ (0 ≤ p ∧ p ≤ K) ∧ cJ S Q p D L b
  | 5 :: S, P, K, D, L, b => cJ S P K (D - 1) L b
  | 6 :: S, P, K, D, L, b => cJ S P K (D - 1) L b
  | 7 :: S, P, K, D, L, b => ∃ p Q, P = p :: Q ∧ L = D ∧ cJ S Q K (D - 2) p b
  | 8 :: S, P, K, D, L, b => ∃ p Q, P = p :: Q ∧ L = D ∧ cJ S Q K (D - 2) p b
  | _ :: S, P, K, D, L, b => ∃ t Q, P = t :: Q ∧ ty t ∧ cJ S Q K D L b
theorem cp_mono : ∀ (S : List Nat) {P : List Int} {l M : List ci}, cp S P l → cp S P (l ++ M) := by
  intro S
  induction S with
  | nil => intro P l M _; trivial
  | cons x S ih =>
    intro P l M H
    rcases x with _ | _ | _ | _ | _ | _ | _ | _ | _ | x
    · obtain ⟨t, Q, q1, q2⟩ := H
      exact ⟨t, Q, q1, ih q2⟩
    · obtain ⟨p, Q, a, b, q1, q2, q3, q4⟩ := H
      exact ⟨p, Q, a, b ++ M, q1, by rw [q2, List.append_assoc]; rfl, q3, q4⟩
    · obtain ⟨t, Q, q1, q2⟩ := H
      exact ⟨t, Q, q1, ih q2⟩
    · obtain ⟨t, Q, q1, q2⟩ := H
      exact ⟨t, Q, q1, ih q2⟩
    · obtain ⟨t, Q, q1, q2⟩ := H
      exact ⟨t, Q, q1, ih q2⟩
    · exact ih (P := P) (l := l) (M := M) H
    · exact ih (P := P) (l := l) (M := M) H
    · obtain ⟨t, Q, q1, q2⟩ := H
      exact ⟨t, Q, q1, ih q2⟩
    · obtain ⟨t, Q, q1, q2⟩ := H
      exact ⟨t, Q, q1, ih q2⟩
    · obtain ⟨t, Q, q1, q2⟩ := H
      exact ⟨t, Q, q1, ih q2⟩
theorem cJ_mono : ∀ (S : List Nat) {P : List Int} {K D L b K2 b2 : Int}, cJ S P K D L b → K ≤ K2 → b ≤ b2 → cJ S P K2 D L b2 := by
  intro S
  induction S with
  | nil =>
    intro P K D L b K2 b2 H h1 h2
    obtain ⟨a1, a2, a3, a4, a5⟩ := H
    exact ⟨a1, by (first | (apply Int.le_antisymm <;> omega) | omega), a3, a4, by (first | (apply Int.le_antisymm <;> omega) | omega)⟩
  | cons x S ih =>
    intro P K D L b K2 b2 H h1 h2
    rcases x with _ | _ | _ | _ | _ | _ | _ | _ | _ | x
    · obtain ⟨p, Q, q1, q2, q3⟩ := H
      exact ⟨p, Q, q1, q2, ih q3 h1 h2⟩
    · obtain ⟨p, Q, q1, q2, q3⟩ := H
      exact ⟨p, Q, q1, ⟨q2.1, Int.le_trans q2.2 h2⟩, ih q3 h1 (Int.le_refl _)⟩
    · obtain ⟨p, Q, q1, q2, q3⟩ := H
      exact ⟨p, Q, q1, q2, ih q3 h1 h2⟩
    · obtain ⟨p, Q, q1, q2, q3⟩ := H
      exact ⟨p, Q, q1, q2, ih q3 h1 h2⟩
    · obtain ⟨p, Q, q1, q2, q3⟩ := H
      exact ⟨p, Q, q1, ⟨q2.1, Int.le_trans q2.2 h1⟩, ih q3 (Int.le_refl _) h2⟩
    · exact ih (P := P) (D := D - 1) (L := L) H h1 h2
    · exact ih (P := P) (D := D - 1) (L := L) H h1 h2
    · obtain ⟨p, Q, q1, q2, q3⟩ := H
      exact ⟨p, Q, q1, q2, ih q3 h1 h2⟩
    · obtain ⟨p, Q, q1, q2, q3⟩ := H
      exact ⟨p, Q, q1, q2, ih q3 h1 h2⟩
    · obtain ⟨p, Q, q1, q2, q3⟩ := H
      exact ⟨p, Q, q1, q2, ih q3 h1 h2⟩
theorem cJ_b : ∀ (S : List Nat) {P : List Int} {K D L b : Int}, cJ S P K D L b → 0 ≤ L ∧ L ≤ D ∧ D ≤ fr S ∧ 0 ≤ K ∧ 0 ≤ b ∧ P.length ≤ S.length := by
  intro S
  induction S with
  | nil =>
    intro P K D L b H
    obtain ⟨a1, a2, a3, a4, a5⟩ := H
    refine ⟨by (first | (apply Int.le_antisymm <;> omega) | omega), by (first | (apply Int.le_antisymm <;> omega) | omega), ?_, a2, a5, by rw [a1]; exact Nat.le_refl _⟩
    show D ≤ 0
    (first | (apply Int.le_antisymm <;> omega) | omega)
  | cons x S ih =>
    intro P K D L b H
    have e0 : fr (x :: S) = fr S + fw x := rfl
    have e9 := fw_b x
    rw [e0, List.length_cons]
    rcases x with _ | _ | _ | _ | _ | _ | _ | _ | _ | x
    · obtain ⟨p, Q, q1, q2, q3⟩ := H
      have w := ih q3
      rw [q1, List.length_cons]
      (first | (apply Int.le_antisymm <;> omega) | omega)
    · obtain ⟨p, Q, q1, q2, q3⟩ := H
      have w := ih q3
      rw [q1, List.length_cons]
      (first | (apply Int.le_antisymm <;> omega) | omega)
    · obtain ⟨p, Q, q1, q2, q3⟩ := H
      have w := ih q3
      rw [q1, List.length_cons]
      (first | (apply Int.le_antisymm <;> omega) | omega)
    · obtain ⟨p, Q, q1, q2, q3⟩ := H
      have w := ih q3
      rw [q1, List.length_cons]
      (first | (apply Int.le_antisymm <;> omega) | omega)
    · obtain ⟨p, Q, q1, q2, q3⟩ := H
      have w := ih q3
      rw [q1, List.length_cons]
      (first | (apply Int.le_antisymm <;> omega) | omega)
    · have w := ih (P := P) (D := D - 1) (L := L) H
      have z : fw (0 + 1 + 1 + 1 + 1 + 1) = 1 := rfl
      (first | (apply Int.le_antisymm <;> omega) | omega)
    · have w := ih (P := P) (D := D - 1) (L := L) H
      have z : fw (0 + 1 + 1 + 1 + 1 + 1 + 1) = 1 := rfl
      (first | (apply Int.le_antisymm <;> omega) | omega)
    · obtain ⟨p, Q, q1, q2, q3⟩ := H
      have w := ih q3
      have z : fw (0 + 1 + 1 + 1 + 1 + 1 + 1 + 1) = 2 := rfl
      rw [q1, List.length_cons]
      (first | (apply Int.le_antisymm <;> omega) | omega)
    · obtain ⟨p, Q, q1, q2, q3⟩ := H
      have w := ih q3
      have z : fw (0 + 1 + 1 + 1 + 1 + 1 + 1 + 1 + 1) = 2 := rfl
      rw [q1, List.length_cons]
      (first | (apply Int.le_antisymm <;> omega) | omega)
    · obtain ⟨p, Q, q1, q2, q3⟩ := H
      have w := ih q3
      rw [q1, List.length_cons]
      (first | (apply Int.le_antisymm <;> omega) | omega)
theorem cB_d {g o g2 hb d : Int} {R : List vt} : ∀ (S : List Nat) {P : List Int} {h : Int}, cB g S P ((o, g2, hb, d) :: R) h → cB g S P ((o, g2, hb, 1) :: R) h := by
  intro S
  induction S with
  | nil =>
    intro P h H
    obtain ⟨a1, a2, o2, d2, a3⟩ := H
    injection a3 with a3 a4
    injection a3 with a5 a6
    injection a6 with a6 a7
    injection a7 with a7 a8
    exact ⟨a1, a2, o2, 1, by rw [a4, a5, a6, a7]⟩
  | cons x S ih =>
    intro P h H
    rcases x with _ | _ | _ | _ | _ | _ | _ | _ | _ | x
    · obtain ⟨t, Q, q1, q2⟩ := H
      exact ⟨t, Q, q1, ih q2⟩
    · obtain ⟨t, Q, q1, q2⟩ := H
      exact ⟨t, Q, q1, ih q2⟩
    · obtain ⟨t, Q, d2, R2, q1, q2, q3⟩ := H
      injection q2 with q2 q4
      injection q2 with q5 q6
      injection q6 with q6 q7
      injection q7 with q7 q8
      exact ⟨t, Q, 1, R2, q1, by rw [q4, q5, q6, q7], q3⟩
    · obtain ⟨t, Q, d2, R2, q1, q2, q3⟩ := H
      injection q2 with q2 q4
      injection q2 with q5 q6
      injection q6 with q6 q7
      injection q7 with q7 q8
      exact ⟨t, Q, 1, R2, q1, by rw [q4, q5, q6, q7], q3⟩
    · obtain ⟨t, Q, q1, q2⟩ := H
      exact ⟨t, Q, q1, ih q2⟩
    · obtain ⟨d2, R2, q2, q3⟩ := H
      injection q2 with q2 q4
      injection q2 with q5 q6
      injection q6 with q6 q7
      injection q7 with q7 q8
      exact ⟨1, R2, by rw [q4, q5, q6, q7], q3⟩
    · obtain ⟨d2, R2, q2, q3⟩ := H
      injection q2 with q2 q4
      injection q2 with q5 q6
      injection q6 with q6 q7
      injection q7 with q7 q8
      exact ⟨1, R2, by rw [q4, q5, q6, q7], q3⟩
    · obtain ⟨t, Q, d2, d3, R2, q1, q2, q3⟩ := H
      injection q2 with q2 q4
      injection q2 with q5 q6
      injection q6 with q6 q7
      injection q7 with q7 q8
      exact ⟨t, Q, 1, d3, R2, q1, by rw [q4, q5, q6, q7], q3⟩
    · obtain ⟨t, Q, d2, d3, R2, q1, q2, q3⟩ := H
      injection q2 with q2 q4
      injection q2 with q5 q6
      injection q6 with q6 q7
      injection q7 with q7 q8
      exact ⟨t, Q, 1, d3, R2, q1, by rw [q4, q5, q6, q7], q3⟩
    · exact H.elim
def cG (N : Int) (gv tk : Nat → Int) (fc gc g : Int) (S : List Nat) (P : List Int) (bs : List Nat) (C : Int) : Prop :=
  ∃ (l : List ci) (B : List vt) (h : Int), bs = enl l ∧ 8 * (l.length : Int) ≤ C ∧ cr N gv tk fc gc l [(0, g, 0, 0)] 0 B h ∧ cB g S P B h ∧ cp S P l ∧ dl l [] = some (fs S) ∧ iokl l
def cI (N : Int) (gv tk : Nat → Int) (fc gc g : Int) (S : List Nat) (P : List Int) (bs : List Nat) (K D L C : Int) : Prop :=
  cJ S P K D L bs.length ∧ (5 * (bs.length : Int) + 10 * N ≤ C ∧ fr S ≤ 100) ∧ (dm S P ∨ cG N gv tk fc gc g S P bs C)
section CI
variable {N fc gc g : Int} {gv tk : Nat → Int} {S T : List Nat} {P Q : List Int} {bs : List Nat} {K D L C c : Int}
theorem cI_0 (hK : 0 ≤ K) (hN : 0 ≤ N) : cI N gv tk fc gc g [] [] [] K 0 0 (10 * N) :=
  ⟨⟨rfl, hK, rfl, rfl, Int.le_refl _⟩, ⟨by show 5 * (0 : Int) + 10 * N ≤ 10 * N; (first | (apply Int.le_antisymm <;> omega) | omega), by show (0 : Int) ≤ 100; (first | (apply Int.le_antisymm <;> omega) | omega)⟩, Or.inr ⟨[], [(0, g, 0, 0)], 0, rfl, by show 8 * (0 : Int) ≤ 10 * N; (first | (apply Int.le_antisymm <;> omega) | omega), ⟨rfl, rfl⟩, ⟨rfl, rfl, 0, 0, rfl⟩, trivial, rfl, trivial⟩⟩
theorem cI_N {N2 : Int} (H : cI N gv tk fc gc g S P bs K D L C) (h : N ≤ N2) : cI N2 gv tk fc gc g S P bs K D L (C + 10 * (N2 - N)) := by
  obtain ⟨a1, a2, a3 | ⟨l, B, h, q1, q2, q3, q4⟩⟩ := H
  · exact ⟨a1, ⟨by (first | (apply Int.le_antisymm <;> omega) | omega), a2.2⟩, Or.inl a3⟩
  · exact ⟨a1, ⟨by (first | (apply Int.le_antisymm <;> omega) | omega), a2.2⟩, Or.inr ⟨l, B, h, q1, by (first | (apply Int.le_antisymm <;> omega) | omega), cr_mono (by assumption) q3, q4⟩⟩
theorem cI_K {K2 : Int} (H : cI N gv tk fc gc g S P bs K D L C) (h : K ≤ K2) : cI N gv tk fc gc g S P bs K2 D L C := ⟨cJ_mono S H.1 h (Int.le_refl _), H.2⟩
/-- instructions M are put, what waits changes -/
theorem cI_app {S2 : List Nat} {P2 : List Int} {M : List ci} {b2 : List Nat} {K2 D2 L2 : Int} (H : cI N gv tk fc gc g S P bs K D L C) (e : b2 = enl M) (h8 : 8 * (M.length : Int) ≤ c) (h5 : 5 * (b2.length : Int) ≤ c)
    (hJ : cJ S P K D L bs.length → cJ S2 P2 K2 D2 L2 (bs.length + b2.length)) (hd : dm S P → dm S2 P2)
    (hM : dm S2 P2 ∨ ∀ B h, cB g S P B h → ∃ B2 h2, cr N gv tk fc gc M B h B2 h2 ∧ cB g S2 P2 B2 h2) (hp : ∀ l, bs = enl l → cp S P l → cp S2 P2 (l ++ M)) (hf : fr S ≤ 100 → fr S2 ≤ 100 ∧ dl M (fs S) = some (fs S2)) (hok : iokl M) :
    cI N gv tk fc gc g S2 P2 (bs ++ b2) K2 D2 L2 (C + c) := by
  obtain ⟨a1, a2, a3⟩ := H
  refine ⟨?_, ⟨by rw [List.length_append]; (first | (apply Int.le_antisymm <;> omega) | omega), (hf a2.2).1⟩, ?_⟩
  · rw [List.length_append]
    exact hJ a1
  · rcases hM with hM | hM
    · exact Or.inl hM
    rcases a3 with a3 | ⟨l, B, h, q1, q2, q3, q4, q5, q6, q7⟩
    · exact Or.inl (hd a3)
    · obtain ⟨B2, h2, w1, w2⟩ := hM B h q4
      exact Or.inr ⟨l ++ M, B2, h2, by rw [q1, e, enl_app], by rw [List.length_append]; (first | (apply Int.le_antisymm <;> omega) | omega), cr_app q3 w1, w2, hp l q1 q5, dl_app q6 (hf a2.2).2, iokl_app q7 hok⟩
theorem cB_0 {t : Int} {B : List vt} {h : Int} (H : cB g (0 :: S) (t :: P) B h) : cB g S P B (h - ga t) := by
  obtain ⟨t2, Q, e, H⟩ := H
  injection e with e1 e2
  rw [e1, e2]
  exact H
theorem cB_tp1 {t : Int} {B : List vt} {h : Int} (H : cB g (0 :: S) (t :: P) B h) (ht : t ≠ 64) : cB g S P B (h - 1) ∧ tp 1 B h ∧ tp 0 B (h - 1) := by
  have q := cB_0 H
  rw [ga_1 ht] at q
  exact ⟨q, tp_le (tp_up (cB_tp _ q) (k := 1) (by rw [Int.sub_add_cancel]) (by (first | (apply Int.le_antisymm <;> omega) | omega))) (by (first | (apply Int.le_antisymm <;> omega) | omega)), cB_tp _ q⟩
theorem cJ_0 {t b : Int} (H : cJ (0 :: S) (t :: P) K D L b) : ty t ∧ cJ S P K D L b := by
  obtain ⟨t2, Q, e, H⟩ := H
  injection e with e1 e2
  rw [e1, e2]
  exact H
theorem dm_0 {t : Int} (H : dm (0 :: S) (t :: P)) : dm S P := by
  obtain ⟨t2, Q, e, H⟩ := H
  injection e with e1 e2
  rw [e2]
  exact H
theorem cp_0 {t : Int} {l : List ci} (H : cp (0 :: S) (t :: P) l) : cp S P l := by
  obtain ⟨t2, Q, e, H⟩ := H
  injection e with e1 e2
  rw [e2]
  exact H
/-- a constant, a name read: one instruction, a value more -/
theorem cI_val {x : ci} {t : Int} (H : cI N gv tk fc gc g S P bs K D L C) (ht : t = 127 ∨ t = 126) (ho : x.1 = 32 ∨ x.1 = 35 ∨ x.1 = 63 ∨ x.1 = 65 ∨ x.1 = 66) (h1 : x.1 = 32 → 0 ≤ x.2 ∧ x.2 < N) (h2 : x.1 = 35 → 0 ≤ x.2 ∧ x.2 < gc) (h8 : 8 ≤ c) (h5 : 5 * ((en x).length : Int) ≤ c) (hok : iok x) :
    cI N gv tk fc gc g (0 :: S) (t :: P) (bs ++ en x) K D L (C + c) := by
  refine cI_app (M := [x]) H enl_one.symm (by rw [List.length_singleton]; (first | (apply Int.le_antisymm <;> omega) | omega)) h5 (fun q => ⟨t, P, rfl, by unfold ty; (first | (apply Int.le_antisymm <;> omega) | omega), cJ_mono S q (Int.le_refl _) (by (first | (apply Int.le_antisymm <;> omega) | omega))⟩) (fun q => ⟨t, P, rfl, q⟩) (Or.inr fun B h q => ?_) (fun l _ q => ⟨t, P, rfl, cp_mono S q⟩) (fun q => ⟨by rw [fr_0]; exact q, dl_1 (by (first | (apply Int.le_antisymm <;> omega) | omega))⟩) ⟨hok, trivial⟩
  refine ⟨B, h + 1, cr_one (c1_01 (op := x.1) (v := x.2) (cB_tp S q) ho h1 h2), t, P, rfl, ?_⟩
  rw [ga_1 (by (first | (apply Int.le_antisymm <;> omega) | omega)), Int.add_sub_cancel]
  exact q
theorem cI_or {t : Int} (H : cI N gv tk fc gc g (0 :: T) (t :: P) bs K D L C) (hF : fr (2 :: T) ≤ 100) : cI N gv tk fc gc g (2 :: T) (t :: P) (bs ++ [4, 127, 65, 1, 5]) K D L (C + 25) := by
  refine cI_app (M := [(4, 127), (65, 1), (5, 0)]) H (by decide) (by simp) (by simp) (fun q => ⟨t, P, rfl, (cJ_0 q).1, cJ_mono T (cJ_0 q).2 (Int.le_refl _) (by (first | (apply Int.le_antisymm <;> omega) | omega))⟩) (fun q => ⟨t, P, rfl, Or.inr (dm_0 q)⟩) ?_ (fun l _ q => ⟨t, P, rfl, cp_mono T (cp_0 q)⟩) (fun q => ⟨hF, by have z := fs_len T; have e : fr (2 :: T) = fr T + 1 := rfl; exact dl_p (a := fs T) (Or.inr (Or.inr rfl)) (by (first | (apply Int.le_antisymm <;> omega) | omega))⟩) (by simp [iokl, iok, two])
  by_cases q : t = 64
  · exact Or.inl ⟨t, P, rfl, Or.inl q⟩
  refine Or.inr fun B h w => ?_
  obtain ⟨w1, w2, w3⟩ := cB_tp1 w q
  have e : ga 127 = 1 := rfl
  refine ⟨(5, 127, h - 1, 0) :: B, h - 1, cr_cons (c1_if w2 rfl) (cr_cons (c1_01 (tp_in w3.2.1 w3.2.2) (by (first | (apply Int.le_antisymm <;> omega) | omega)) (fun z => absurd z (by (first | (apply Int.le_antisymm <;> omega) | omega))) (fun z => absurd z (by (first | (apply Int.le_antisymm <;> omega) | omega)))) (cr_one (c1_els (by (first | (apply Int.le_antisymm <;> omega) | omega)) w3.2.1 w3.2.2))), t, P, 0, B, rfl, rfl, w1⟩
theorem cI_and {t : Int} (H : cI N gv tk fc gc g (0 :: T) (t :: P) bs K D L C) (hF : fr (3 :: T) ≤ 100) : cI N gv tk fc gc g (3 :: T) (t :: P) (bs ++ [4, 127]) K D L (C + 10) := by
  refine cI_app (M := [(4, 127)]) H (by decide) (by simp) (by simp) (fun q => ⟨t, P, rfl, (cJ_0 q).1, cJ_mono T (cJ_0 q).2 (Int.le_refl _) (by (first | (apply Int.le_antisymm <;> omega) | omega))⟩) (fun q => ⟨t, P, rfl, Or.inr (dm_0 q)⟩) ?_ (fun l _ q => ⟨t, P, rfl, cp_mono T (cp_0 q)⟩) (fun q => ⟨hF, by have z := fs_len T; have e : fr (3 :: T) = fr T + 1 := rfl; exact dl_p (a := fs T) (Or.inr (Or.inr rfl)) (by (first | (apply Int.le_antisymm <;> omega) | omega))⟩) (by simp [iokl, iok, two])
  by_cases q : t = 64
  · exact Or.inl ⟨t, P, rfl, Or.inl q⟩
  refine Or.inr fun B h w => ?_
  obtain ⟨w1, w2, w3⟩ := cB_tp1 w q
  exact ⟨(4, 127, h - 1, 0) :: B, h - 1, cr_one (c1_if w2 rfl), t, P, 0, B, rfl, rfl, w1⟩
theorem cI_or2 {r t : Int} (H : cI N gv tk fc gc g (0 :: 2 :: T) (r :: t :: P) bs K D L C) (hr : r = 127) (ht : t = 127) : cI N gv tk fc gc g (0 :: T) (127 :: P) (bs ++ [65, 0, 71, 11]) K D L (C + 24) := by
  subst hr; subst ht
  refine cI_app (M := [(65, 0), (71, 0), (11, 0)]) H (by decide) (by simp) (by simp) (fun q => ?_) (fun q => ?_) (Or.inr fun B h w => ?_) (fun l _ q => ?_) (fun q => ⟨by have e : fr (0 :: 2 :: T) = fr T + 1 + 0 := rfl; rw [fr_0]; (first | (apply Int.le_antisymm <;> omega) | omega), rfl⟩) (by simp [iokl, iok, two])
  · obtain ⟨t2, Q, e, -, q2⟩ := (cJ_0 q).2
    injection e with e1 e2
    exact ⟨127, P, rfl, Or.inl rfl, by rw [e2]; exact cJ_mono T q2 (Int.le_refl _) (by (first | (apply Int.le_antisymm <;> omega) | omega))⟩
  · obtain ⟨t2, Q, e, q2⟩ := dm_0 q
    injection e with e1 e2
    exact ⟨127, P, rfl, by rw [e2]; rcases q2 with z | z; (exfalso; (first | (apply Int.le_antisymm <;> omega) | omega)); exact z⟩
  · obtain ⟨w1, w2, w3⟩ := cB_tp1 w (by decide)
    obtain ⟨t2, Q, d, R, e, e2, w4⟩ := w1
    injection e with e3 e4
    subst e4
    subst e2
    have tR := cB_tp T w4
    have e : ga 127 = 1 := rfl
    refine ⟨R, h, cr_cons (c1_01 (tp_le w2 (by (first | (apply Int.le_antisymm <;> omega) | omega))) (by (first | (apply Int.le_antisymm <;> omega) | omega)) (fun z => absurd z (by (first | (apply Int.le_antisymm <;> omega) | omega))) (fun z => absurd z (by (first | (apply Int.le_antisymm <;> omega) | omega)))) (cr_cons (c1_21 (tp_up w2 (k := 1) rfl (by (first | (apply Int.le_antisymm <;> omega) | omega))) (by unfold two; (first | (apply Int.le_antisymm <;> omega) | omega))) (cr_one (c1_end (by (first | (apply Int.le_antisymm <;> omega) | omega)) (by (first | (apply Int.le_antisymm <;> omega) | omega)) tR.2.1 tR.2.2 (by (first | (apply Int.le_antisymm <;> omega) | omega))))), 127, P, rfl, ?_⟩
    rw [e]
    exact w4
  · obtain ⟨t2, Q, e, q2⟩ := cp_0 q
    injection e with e1 e2
    exact ⟨127, P, rfl, by rw [e2]; exact cp_mono T q2⟩
theorem cI_and2 {r t : Int} (H : cI N gv tk fc gc g (0 :: 3 :: T) (r :: t :: P) bs K D L C) (hr : r = 127) (ht : t = 127) : cI N gv tk fc gc g (0 :: T) (127 :: P) (bs ++ [65, 0, 71, 5, 65, 0, 11]) K D L (C + 40) := by
  subst hr; subst ht
  refine cI_app (M := [(65, 0), (71, 0), (5, 0), (65, 0), (11, 0)]) H (by decide) (by simp) (by simp) (fun q => ?_) (fun q => ?_) (Or.inr fun B h w => ?_) (fun l _ q => ?_) (fun q => ⟨by have e : fr (0 :: 3 :: T) = fr T + 1 + 0 := rfl; rw [fr_0]; (first | (apply Int.le_antisymm <;> omega) | omega), rfl⟩) (by simp [iokl, iok, two])
  · obtain ⟨t2, Q, e, -, q2⟩ := (cJ_0 q).2
    injection e with e1 e2
    exact ⟨127, P, rfl, Or.inl rfl, by rw [e2]; exact cJ_mono T q2 (Int.le_refl _) (by (first | (apply Int.le_antisymm <;> omega) | omega))⟩
  · obtain ⟨t2, Q, e, q2⟩ := dm_0 q
    injection e with e1 e2
    exact ⟨127, P, rfl, by rw [e2]; rcases q2 with z | z; (exfalso; (first | (apply Int.le_antisymm <;> omega) | omega)); exact z⟩
  · obtain ⟨w1, w2, w3⟩ := cB_tp1 w (by decide)
    obtain ⟨t2, Q, d, R, e, e2, w4⟩ := w1
    injection e with e3 e4
    subst e4
    subst e2
    have tR := cB_tp T w4
    have e : ga 127 = 1 := rfl
    refine ⟨R, h, cr_cons (c1_01 (tp_le w2 (by (first | (apply Int.le_antisymm <;> omega) | omega))) (by (first | (apply Int.le_antisymm <;> omega) | omega)) (fun z => absurd z (by (first | (apply Int.le_antisymm <;> omega) | omega))) (fun z => absurd z (by (first | (apply Int.le_antisymm <;> omega) | omega)))) (cr_cons (c1_21 (tp_up w2 (k := 1) rfl (by (first | (apply Int.le_antisymm <;> omega) | omega))) (by unfold two; (first | (apply Int.le_antisymm <;> omega) | omega))) (cr_cons (c1_els (by (first | (apply Int.le_antisymm <;> omega) | omega)) tR.2.1 tR.2.2) (cr_cons (c1_01 (tp_in tR.2.1 tR.2.2) (by (first | (apply Int.le_antisymm <;> omega) | omega)) (fun z => absurd z (by (first | (apply Int.le_antisymm <;> omega) | omega))) (fun z => absurd z (by (first | (apply Int.le_antisymm <;> omega) | omega)))) (cr_one (c1_end (by (first | (apply Int.le_antisymm <;> omega) | omega)) (by (first | (apply Int.le_antisymm <;> omega) | omega)) tR.2.1 tR.2.2 (by (first | (apply Int.le_antisymm <;> omega) | omega))))))), 127, P, rfl, ?_⟩
    rw [e]
    exact w4
  · obtain ⟨t2, Q, e, q2⟩ := cp_0 q
    injection e with e1 e2
    exact ⟨127, P, rfl, by rw [e2]; exact cp_mono T q2⟩
theorem cI_two {r t t2 op : Int} (H : cI N gv tk fc gc g (0 :: 0 :: T) (r :: t :: P) bs K D L C) (hr : r ≠ 64) (ht : t ≠ 64) (h2 : t2 = 127 ∨ t2 = 126) (ho : two op) : cI N gv tk fc gc g (0 :: T) (t2 :: P) (bs ++ [op.toNat]) K D L (C + 10) := by
  have ho' := ho
  unfold two at ho'
  refine cI_app (M := [(op, 0)]) H (by rw [enl_one, en_x (by (first | (apply Int.le_antisymm <;> omega) | omega))]) (by simp) (by simp) (fun q => ⟨t2, P, rfl, by unfold ty; (first | (apply Int.le_antisymm <;> omega) | omega), cJ_mono T (cJ_0 (cJ_0 q).2).2 (Int.le_refl _) (by (first | (apply Int.le_antisymm <;> omega) | omega))⟩) (fun q => ⟨t2, P, rfl, dm_0 (dm_0 q)⟩) (Or.inr fun B h w => ?_) (fun l _ q => ⟨t2, P, rfl, cp_mono T (cp_0 (cp_0 q))⟩) (fun q => ⟨by simp only [fr_0] at q ⊢; exact q, dl_1 (a := fs T) (by dsimp only; (first | (apply Int.le_antisymm <;> omega) | omega))⟩) ⟨Or.inr (Or.inr (Or.inr (Or.inr (Or.inr ⟨by right; right; right; right; right; right; right; right; right; right; exact ho, rfl⟩)))), trivial⟩
  obtain ⟨w1, w2, w3⟩ := cB_tp1 w hr
  obtain ⟨v1, v2, v3⟩ := cB_tp1 w1 ht
  refine ⟨B, h - 1, cr_one (c1_21 (tp_up v2 (k := 1) (by (first | (apply Int.le_antisymm <;> omega) | omega)) (by (first | (apply Int.le_antisymm <;> omega) | omega))) ho), t2, P, rfl, ?_⟩
  rw [ga_1 (by (first | (apply Int.le_antisymm <;> omega) | omega))]
  exact v1
theorem cI_pre (H : cI N gv tk fc gc g S P bs K D L C) : cI N gv tk fc gc g (1 :: S) ((bs.length : Int) :: P) (bs ++ [65, 0]) K D L (C + 10) := by
  refine cI_app (M := [(65, 0)]) H (by decide) (by simp) (by simp) (fun q => ⟨bs.length, P, rfl, ⟨by (first | (apply Int.le_antisymm <;> omega) | omega), by simp⟩, q⟩) (fun q => ⟨_, P, rfl, q⟩) (Or.inr fun B h w => ?_) (fun l e q => ⟨_, P, l, [], rfl, rfl, by rw [e], q⟩) (fun q => ⟨by show fr S + 0 ≤ 100; (first | (apply Int.le_antisymm <;> omega) | omega), dl_1 (a := fs S) (by decide)⟩) (by simp [iokl, iok, two])
  refine ⟨B, h + 1, cr_one (c1_01 (cB_tp S w) (by (first | (apply Int.le_antisymm <;> omega) | omega)) (fun z => absurd z (by (first | (apply Int.le_antisymm <;> omega) | omega))) (fun z => absurd z (by (first | (apply Int.le_antisymm <;> omega) | omega)))), _, P, rfl, ?_⟩
  rw [Int.add_sub_cancel]
  exact w
theorem dl_ch {a b : List ci} {ch : Nat} {u w : List Nat} (h : dl (a ++ (65, 0) :: b) u = some w) (hc : ch = 65 ∨ ch = 66) : dl (a ++ ((ch : Int), 0) :: b) u = some w := by
  induction a generalizing u with
  | nil =>
    rw [List.nil_append, dl_go (d1_0 (by dsimp only; (first | (apply Int.le_antisymm <;> omega) | omega)))]
    exact h
  | cons x a ih =>
    cases e : d1 x u with
    | none =>
      have h : (match d1 x u with | some b' => dl (a ++ (65, 0) :: b) b' | none => none) = some w := h
      rw [e] at h
      cases h
    | some d =>
      rw [List.cons_append, dl_go e] at h
      rw [List.cons_append, dl_go e]
      exact ih h
theorem set_mid {a b : List Nat} {x y : Nat} {n : Nat} (h : a.length = n) : (a ++ x :: b).set n y = a ++ y :: b := by
  subst h
  rw [List.set_append_right _ _ (Nat.le_refl _), Nat.sub_self]
  rfl
/-- a minus in front: its 0 gets its type -/
theorem cI_neg {t p : Int} {ch op : Nat} (H : cI N gv tk fc gc g (0 :: 1 :: T) (t :: p :: P) bs K D L C) (ht : t = 127 ∨ t = 126) (hc : ch = 65 ∨ ch = 66) (ho : op = 107 ∨ op = 125) : cI N gv tk fc gc g (0 :: T) (t :: P) (bs.set p.toNat ch ++ [op]) K D L (C + 10) := by
  obtain ⟨a1, a2, a3⟩ := H
  obtain ⟨p2, Q, e, b1, b2⟩ := (cJ_0 a1).2
  injection e with e1 e2
  subst e1; subst e2
  have e9 : fr (0 :: 1 :: T) = fr (0 :: T) := by show fr T + fw 1 + fw 0 = fr T + fw 0; have : fw 1 = 0 := rfl; (first | (apply Int.le_antisymm <;> omega) | omega)
  refine ⟨⟨t, P, rfl, by unfold ty; (first | (apply Int.le_antisymm <;> omega) | omega), cJ_mono T b2 (Int.le_refl _) (by rw [List.length_append, List.length_set, List.length_singleton]; (first | (apply Int.le_antisymm <;> omega) | omega))⟩, ⟨by rw [List.length_append, List.length_set, List.length_singleton]; (first | (apply Int.le_antisymm <;> omega) | omega), e9 ▸ a2.2⟩, ?_⟩
  rcases a3 with a3 | ⟨l, B, h, q1, q2, q3, q4, q5, q6, q7⟩
  · obtain ⟨t2, Q2, e, w⟩ := dm_0 a3
    injection e with e3 e4
    exact Or.inl ⟨t, P, rfl, by rw [e4]; exact w⟩
  · obtain ⟨p3, Q3, a, b, e, w2, w3, w4⟩ := cp_0 q5
    injection e with e3 e4
    subst e3; subst e4
    subst w2
    obtain ⟨B1, h1, r1, r2⟩ := cr_split q3
    obtain ⟨B2, h2, r3, r4⟩ := r2
    obtain ⟨v1, v2, v3⟩ := cB_tp1 q4 (by (first | (apply Int.le_antisymm <;> omega) | omega))
    obtain ⟨t2, Q2, e, v4⟩ := v1
    injection e with e5 e6
    subst e6
    have tT := cB_tp T v4
    have hpn : (enl a).length = p.toNat := by (first | (apply Int.le_antisymm <;> omega) | omega)
    have hch : c1 N gv tk fc gc ((ch : Int), 0) B1 h1 B2 h2 := by
      rcases hc with rfl | rfl
      · exact r3
      · exact c1_66 r3
    refine Or.inr ⟨(a ++ ((ch : Int), 0) :: b) ++ [((op : Int), 0)], B, h - 1, ?_, ?_, cr_app (cr_app r1 (cr_cons hch r4)) (cr_one (c1_21 (tp_le (tp_up tT (k := 2) (h2 := h) (by (first | (apply Int.le_antisymm <;> omega) | omega)) (by (first | (apply Int.le_antisymm <;> omega) | omega))) (by (first | (apply Int.le_antisymm <;> omega) | omega))) (by unfold two; (first | (apply Int.le_antisymm <;> omega) | omega)))), ⟨t, P, rfl, by rw [ga_1 (by (first | (apply Int.le_antisymm <;> omega) | omega))]; exact v4⟩, ⟨t, P, rfl, ?_⟩, ?_, ?_⟩
    · have x1 : enl (((65 : Int), 0) :: b) = 65 :: (0 :: enl b) := rfl
      have x2 : enl (((ch : Int), 0) :: b) = ch :: (0 :: enl b) := by rcases hc with rfl | rfl <;> rfl
      have x3 : enl [((op : Int), 0)] = [op] := by rcases ho with rfl | rfl <;> rfl
      rw [q1, enl_app, enl_app, enl_app, x1, x2, x3, set_mid hpn]
    · rw [List.length_append, List.length_append, List.length_cons, List.length_singleton]
      rw [List.length_append, List.length_cons] at q2
      (first | (apply Int.le_antisymm <;> omega) | omega)
    · rw [List.append_assoc]
      exact cp_mono T w4
    · exact dl_app (dl_ch q6 hc) (dl_1 (a := fs (0 :: T)) (by dsimp only; (first | (apply Int.le_antisymm <;> omega) | omega)))
    · obtain ⟨z1, z2⟩ := iokl_l q7
      exact iokl_app (iokl_app z1 ⟨by rcases hc with rfl | rfl <;> simp [iok, two], z2.2⟩) ⟨by rcases ho with rfl | rfl <;> simp [iok, two], trivial⟩
end CI
end q_66
section q_67
/-! Coder: the other steps -/
section CI
variable {N fc gc g : Int} {gv tk : Nat → Int} {S T : List Nat} {P Q : List Int} {bs : List Nat} {K D L C c : Int}
/-- a value made into a value -/
theorem cI_11 {t t2 : Int} {M : List ci} {b2 : List Nat} (H : cI N gv tk fc gc g (0 :: T) (t :: P) bs K D L C) (ht : t ≠ 64) (h2 : t2 = 127 ∨ t2 = 126) (e : b2 = enl M) (h8 : 8 * (M.length : Int) ≤ c) (h5 : 5 * (b2.length : Int) ≤ c)
    (hM : ∀ B h, tp 1 B h → cr N gv tk fc gc M B h B h) (hdl : ∀ a, dl M a = some a) (hio : iokl M) : cI N gv tk fc gc g (0 :: T) (t2 :: P) (bs ++ b2) K D L (C + c) := by
  refine cI_app (M := M) H e h8 h5 (fun q => ⟨t2, P, rfl, by unfold ty; (first | (apply Int.le_antisymm <;> omega) | omega), cJ_mono T (cJ_0 q).2 (Int.le_refl _) (by (first | (apply Int.le_antisymm <;> omega) | omega))⟩) (fun q => ⟨t2, P, rfl, dm_0 q⟩) (Or.inr fun B h w => ?_) (fun l _ q => ⟨t2, P, rfl, cp_mono T (cp_0 q)⟩) (fun q => ⟨q, hdl _⟩) hio
  obtain ⟨w1, w2, w3⟩ := cB_tp1 w ht
  refine ⟨B, h, hM B h w2, t2, P, rfl, ?_⟩
  rw [ga_1 (by (first | (apply Int.le_antisymm <;> omega) | omega))]
  exact w1
theorem cI_not {t : Int} (H : cI N gv tk fc gc g (0 :: T) (t :: P) bs K D L C) (ht : t = 127) : cI N gv tk fc gc g (0 :: T) (t :: P) (bs ++ [69]) K D L (C + 16) :=
  cI_11 (M := [(69, 0)]) H (by (first | (apply Int.le_antisymm <;> omega) | omega)) (by (first | (apply Int.le_antisymm <;> omega) | omega)) (by decide) (by simp) (by simp) (fun B h q => cr_one (c1_11 q (by (first | (apply Int.le_antisymm <;> omega) | omega)))) (fun a => dl_1 (by decide)) (by simp [iokl, iok, two])
theorem cI_inv {t : Int} {a b : Nat} (H : cI N gv tk fc gc g (0 :: T) (t :: P) bs K D L C) (ht : t = 127 ∨ t = 126) (ha : a = 65 ∨ a = 66) (hb : b = 115 ∨ b = 133) : cI N gv tk fc gc g (0 :: T) (t :: P) (bs ++ [a, 127, b]) K D L (C + 16) := by
  refine cI_11 (M := [((a : Int), -1), ((b : Int), 0)]) H (by (first | (apply Int.le_antisymm <;> omega) | omega)) (by (first | (apply Int.le_antisymm <;> omega) | omega)) (by rcases ha with rfl | rfl <;> rcases hb with rfl | rfl <;> decide) (by simp) (by simp) (fun B h q => ?_) (fun u => dl_app (l := [((a : Int), -1)]) (b := u) (dl_1 (by dsimp only; (first | (apply Int.le_antisymm <;> omega) | omega))) (dl_1 (by dsimp only; (first | (apply Int.le_antisymm <;> omega) | omega)))) (by rcases ha with rfl | rfl <;> rcases hb with rfl | rfl <;> simp [iokl, iok, two])
  refine cr_cons (c1_01 (tp_le q (by (first | (apply Int.le_antisymm <;> omega) | omega))) (by (first | (apply Int.le_antisymm <;> omega) | omega)) (fun z => absurd z (by (first | (apply Int.le_antisymm <;> omega) | omega))) (fun z => absurd z (by (first | (apply Int.le_antisymm <;> omega) | omega)))) ?_
  have := c1_21 (N := N) (gv := gv) (tk := tk) (fc := fc) (gc := gc) (op := b) (v := 0) (tp_up q (k := 1) rfl (by (first | (apply Int.le_antisymm <;> omega) | omega))) (by unfold two; (first | (apply Int.le_antisymm <;> omega) | omega))
  rw [Int.add_sub_cancel] at this
  exact cr_one this
theorem cI_conv {t t2 : Int} {M : List Nat} (H : cI N gv tk fc gc g (0 :: T) (t :: P) bs K D L C) (ht : t ≠ 64) (h2 : t2 = 127 ∨ t2 = 126) (hM : M = [] ∨ M = [172] ∨ M = [167]) : cI N gv tk fc gc g (0 :: T) (t2 :: P) (bs ++ M) K D L (C + 10) := by
  rcases hM with rfl | rfl | rfl
  · exact cI_11 (M := []) H ht h2 rfl (by simp) (by simp) (fun B h q => ⟨rfl, rfl⟩) (fun a => rfl) trivial
  · exact cI_11 (M := [(172, 0)]) H ht h2 (by decide) (by simp) (by simp) (fun B h q => cr_one (c1_11 q (by (first | (apply Int.le_antisymm <;> omega) | omega)))) (fun a => dl_1 (by decide)) (by simp [iokl, iok, two])
  · exact cI_11 (M := [(167, 0)]) H ht h2 (by decide) (by simp) (by simp) (fun B h q => cr_one (c1_11 q (by (first | (apply Int.le_antisymm <;> omega) | omega)))) (fun a => dl_1 (by decide)) (by simp [iokl, iok, two])
theorem cB_rep {pe : Nat → Int32} {m : Nat} {B : List vt} : ∀ (n : Nat) {h : Int}, cB g (List.replicate n 0 ++ T) (pl pe (m + n)) B h → (∀ j, m ≤ j → j < m + n → (pe j).toInt ≠ 64) → cB g T (pl pe m) B (h - n) := by
  intro n
  induction n with
  | zero =>
    intro h H _
    rw [show h - ((0 : Nat) : Int) = h from by (first | (apply Int.le_antisymm <;> omega) | omega)]
    exact H
  | succ n ih =>
    intro h H hp
    have q := ih (cB_tp1 (t := (pe (m + n)).toInt) (P := pl pe (m + n)) H (hp (m + n) (by (first | (apply Int.le_antisymm <;> omega) | omega)) (by (first | (apply Int.le_antisymm <;> omega) | omega)))).1 (fun j a b => hp j a (by (first | (apply Int.le_antisymm <;> omega) | omega)))
    rw [show h - ((n + 1 : Nat) : Int) = h - 1 - n from by (first | (apply Int.le_antisymm <;> omega) | omega)]
    exact q
theorem cJ_rep {pe : Nat → Int32} {m : Nat} {b : Int} : ∀ (n : Nat), cJ (List.replicate n 0 ++ T) (pl pe (m + n)) K D L b → cJ T (pl pe m) K D L b := by
  intro n
  induction n with
  | zero => exact fun H => H
  | succ n ih => exact fun H => ih (cJ_0 (t := (pe (m + n)).toInt) (P := pl pe (m + n)) H).2
theorem dm_rep {pe : Nat → Int32} {m : Nat} : ∀ (n : Nat), dm (List.replicate n 0 ++ T) (pl pe (m + n)) → dm T (pl pe m) := by
  intro n
  induction n with
  | zero => exact fun H => H
  | succ n ih => exact fun H => ih (dm_0 (t := (pe (m + n)).toInt) (P := pl pe (m + n)) H)
theorem cp_rep {pe : Nat → Int32} {m : Nat} {l : List ci} : ∀ (n : Nat), cp (List.replicate n 0 ++ T) (pl pe (m + n)) l → cp T (pl pe m) l := by
  intro n
  induction n with
  | zero => exact fun H => H
  | succ n ih => exact fun H => ih (cp_0 (t := (pe (m + n)).toInt) (P := pl pe (m + n)) H)
theorem cJ_n {b : Int} : ∀ (n : Nat) {P : List Int}, cJ (List.replicate n 0 ++ T) P K D L b → n ≤ P.length := by
  intro n
  induction n with
  | zero => exact fun _ => Nat.zero_le _
  | succ n ih =>
    intro P H
    obtain ⟨t, Q, e, -, H⟩ := H
    have := ih H
    rw [e, List.length_cons]
    (first | (apply Int.le_antisymm <;> omega) | omega)
/-- a call of a function of the program -/
theorem cI_call {pe : Nat → Int32} {m n : Nat} {v t : Int} (H : cI N gv tk fc gc g (List.replicate n 0 ++ T) (pl pe (m + n)) bs K D L C) (hp : ∀ j, m ≤ j → j < m + n → (pe j).toInt ≠ 64) (h0 : 0 ≤ v) (h1 : v < fc) (h9 : v < 128) (hk : tk v.toNat = n) (hg : gv v.toNat = ga t) (ht : ty t) :
    cI N gv tk fc gc g (0 :: T) (t :: pl pe m) (bs ++ [16, v.toNat]) K D L (C + 10) := by
  have gb := ga_b t
  refine cI_app (M := [(16, v)]) H (by rw [enl_one, en_u (by (first | (apply Int.le_antisymm <;> omega) | omega)) h0 h9]; rfl) (by simp) (by simp) (fun q => ⟨t, _, rfl, ht, cJ_mono T (cJ_rep n q) (Int.le_refl _) (by (first | (apply Int.le_antisymm <;> omega) | omega))⟩) (fun q => ⟨t, _, rfl, dm_rep n q⟩) (Or.inr fun B h w => ?_) (fun l _ q => ⟨t, _, rfl, cp_mono T (cp_rep n q)⟩) (fun q => ⟨by simp only [fr_0, fr_rep] at q ⊢; exact q, by rw [fs_rep]; exact dl_1 (a := fs T) (by dsimp only; (first | (apply Int.le_antisymm <;> omega) | omega))⟩) ⟨Or.inr (Or.inr (Or.inr (Or.inl ⟨by dsimp only; (first | (apply Int.le_antisymm <;> omega) | omega), h0, h9⟩))), trivial⟩
  have q := cB_rep n w hp
  have tq := cB_tp _ q
  refine ⟨B, h - tk v.toNat + gv v.toNat, cr_one (c1_call (tp_le (tp_up tq (k := n) (h2 := h) (by (first | (apply Int.le_antisymm <;> omega) | omega)) (by (first | (apply Int.le_antisymm <;> omega) | omega))) (by (first | (apply Int.le_antisymm <;> omega) | omega))) h0 h1 (by (first | (apply Int.le_antisymm <;> omega) | omega)) (by (first | (apply Int.le_antisymm <;> omega) | omega))), t, _, rfl, ?_⟩
  rw [show h - tk v.toNat + gv v.toNat - ga t = h - n from by (first | (apply Int.le_antisymm <;> omega) | omega)]
  exact q
/-- a call of load8 .. trap -/
def oc (op n t : Int) : Prop := ((op = 40 ∨ op = 41 ∨ op = 44 ∨ op = 45 ∨ op = 64) ∧ n = 1 ∧ t ≠ 64) ∨ ((op = 54 ∨ op = 55 ∨ op = 58) ∧ n = 2 ∧ t = 64) ∨ (op = 63 ∧ n = 0 ∧ t ≠ 64) ∨ (op = 0 ∧ n = 0 ∧ t = 64)
theorem en_own {op n t a : Int} (ho : oc op n t) (h0 : 0 ≤ a) (h1 : a < 128) (h2 : op = 63 ∨ op = 64 ∨ op = 0 → a = 0) : en (op, a) = if op = 0 then [0] else if op = 63 ∨ op = 64 then [op.toNat, 0] else [op.toNat, a.toNat, 0] := by
  unfold oc at ho
  by_cases q : op = 63 ∨ op = 64 ∨ op = 0
  · rw [h2 q]
    rcases q with rfl | rfl | rfl <;> decide
  · unfold en
    rw [if_neg (by dsimp only; (first | (apply Int.le_antisymm <;> omega) | omega)), if_neg (by dsimp only; (first | (apply Int.le_antisymm <;> omega) | omega)), if_neg (by dsimp only; (first | (apply Int.le_antisymm <;> omega) | omega)), if_pos (by dsimp only; (first | (apply Int.le_antisymm <;> omega) | omega)), leb_end (by dsimp only; (first | (apply Int.le_antisymm <;> omega) | omega)), if_neg (by (first | (apply Int.le_antisymm <;> omega) | omega)), if_neg (by (first | (apply Int.le_antisymm <;> omega) | omega))]
    dsimp only
    rw [show a.toNat % 256 = a.toNat by (first | (apply Int.le_antisymm <;> omega) | omega)]
    rfl
theorem cI_own {pe : Nat → Int32} {m n : Nat} {op t a : Int} {b2 : List Nat} (H : cI N gv tk fc gc g (List.replicate n 0 ++ T) (pl pe (m + n)) bs K D L C) (hp : ∀ j, m ≤ j → j < m + n → (pe j).toInt ≠ 64) (ho : oc op n t) (ht : ty t) (hb : b2 = en (op, a)) (h3 : (b2.length : Int) ≤ 3) (hio : iok (op, a)) :
    cI N gv tk fc gc g (0 :: T) (t :: pl pe m) (bs ++ b2) K D L (C + 15) := by
  refine cI_app (M := [(op, a)]) H (by rw [enl_one, hb]) (by simp) (by (first | (apply Int.le_antisymm <;> omega) | omega)) (fun q => ⟨t, _, rfl, ht, cJ_mono T (cJ_rep n q) (Int.le_refl _) (by (first | (apply Int.le_antisymm <;> omega) | omega))⟩) (fun q => ⟨t, _, rfl, dm_rep n q⟩) (Or.inr fun B h w => ?_) (fun l _ q => ⟨t, _, rfl, cp_mono T (cp_rep n q)⟩) (fun q => ⟨by simp only [fr_0, fr_rep] at q ⊢; exact q, by rw [fs_rep]; exact dl_1 (a := fs T) (by unfold oc at ho; dsimp only; (first | (apply Int.le_antisymm <;> omega) | omega))⟩) ⟨hio, trivial⟩
  have q := cB_rep n w hp
  have tq := cB_tp _ q
  rcases ho with ⟨a1, a2, a3⟩ | ⟨a1, a2, a3⟩ | ⟨a1, a2, a3⟩ | ⟨a1, a2, a3⟩
  · refine ⟨B, h, cr_one (c1_11 (tp_le (tp_up tq (k := n) (h2 := h) (by (first | (apply Int.le_antisymm <;> omega) | omega)) (by (first | (apply Int.le_antisymm <;> omega) | omega))) (by (first | (apply Int.le_antisymm <;> omega) | omega))) (by (first | (apply Int.le_antisymm <;> omega) | omega))), t, _, rfl, ?_⟩
    rw [ga_1 a3, show h - 1 = h - n from by (first | (apply Int.le_antisymm <;> omega) | omega)]
    exact q
  · refine ⟨B, h - 2, cr_one (c1_20 (tp_le (tp_up tq (k := n) (h2 := h) (by (first | (apply Int.le_antisymm <;> omega) | omega)) (by (first | (apply Int.le_antisymm <;> omega) | omega))) (by (first | (apply Int.le_antisymm <;> omega) | omega))) (by (first | (apply Int.le_antisymm <;> omega) | omega))), t, _, rfl, ?_⟩
    rw [a3, show ga 64 = 0 from rfl, show h - 2 - 0 = h - n from by (first | (apply Int.le_antisymm <;> omega) | omega)]
    exact q
  · refine ⟨B, h + 1, cr_one (c1_01 (tp_le (tp_up tq (k := n) (h2 := h) (by (first | (apply Int.le_antisymm <;> omega) | omega)) (by (first | (apply Int.le_antisymm <;> omega) | omega))) (by (first | (apply Int.le_antisymm <;> omega) | omega))) (by (first | (apply Int.le_antisymm <;> omega) | omega)) (fun z => absurd z (by (first | (apply Int.le_antisymm <;> omega) | omega))) (fun z => absurd z (by (first | (apply Int.le_antisymm <;> omega) | omega)))), t, _, rfl, ?_⟩
    rw [ga_1 a3, show h + 1 - 1 = h - n from by (first | (apply Int.le_antisymm <;> omega) | omega)]
    exact q
  · rw [show h - (n : Int) = h from by (first | (apply Int.le_antisymm <;> omega) | omega)] at q tq
    obtain ⟨⟨o, g2, hb2, d, R, e, e2⟩, e3⟩ := tq
    subst e
    refine ⟨(o, g2, hb2, 1) :: R, h, cr_one (c1_d (cB_tp _ q) (by (first | (apply Int.le_antisymm <;> omega) | omega)) (by (first | (apply Int.le_antisymm <;> omega) | omega))), t, _, rfl, ?_⟩
    rw [a3, show ga 64 = 0 from rfl, show h - 0 = h from by (first | (apply Int.le_antisymm <;> omega) | omega)]
    exact cB_d _ q
/-- a value taken: declare, assign, discard, then -/
theorem cI_10 {t : Int} {x : ci} {b2 : List Nat} (H : cI N gv tk fc gc g (0 :: T) (t :: P) bs K D L C) (ht : t ≠ 64) (ho : x.1 = 26 ∨ x.1 = 33 ∨ x.1 = 36) (h1 : x.1 = 33 → 0 ≤ x.2 ∧ x.2 < N) (h2 : x.1 = 36 → 0 ≤ x.2 ∧ x.2 < gc) (e : b2 = en x) (h5 : 5 * (b2.length : Int) ≤ c) (h8 : 8 ≤ c) (hio : iok x) :
    cI N gv tk fc gc g T P (bs ++ b2) K D L (C + c) := by
  refine cI_app (M := [x]) H (by rw [enl_one, e]) (by rw [List.length_singleton]; (first | (apply Int.le_antisymm <;> omega) | omega)) h5 (fun q => cJ_mono T (cJ_0 q).2 (Int.le_refl _) (by (first | (apply Int.le_antisymm <;> omega) | omega))) (fun q => dm_0 q) (Or.inr fun B h w => ?_) (fun l _ q => cp_mono T (cp_0 q)) (fun q => ⟨by simp only [fr_0] at q ⊢; exact q, dl_1 (a := fs T) (by (first | (apply Int.le_antisymm <;> omega) | omega))⟩) ⟨hio, trivial⟩
  obtain ⟨w1, w2, w3⟩ := cB_tp1 w ht
  exact ⟨B, h - 1, cr_one (c1_10 (op := x.1) (v := x.2) w2 (by (first | (apply Int.le_antisymm <;> omega) | omega)) h1 h2), w1⟩
theorem cI_void (H : cI N gv tk fc gc g (0 :: T) (64 :: P) bs K D L C) : cI N gv tk fc gc g T P bs K D L (C + 10) := by
  have q := cI_app (M := []) (b2 := []) (c := 10) (S2 := T) (P2 := P) (K2 := K) (D2 := D) (L2 := L) H rfl (by simp) (by simp) (fun q => cJ_mono T (cJ_0 q).2 (Int.le_refl _) (by (first | (apply Int.le_antisymm <;> omega) | omega))) (fun q => dm_0 q) (Or.inr fun B h w => ⟨B, h, ⟨rfl, rfl⟩, ?_⟩) (fun l _ q => cp_mono T (cp_0 q)) (fun q => ⟨by simp only [fr_0] at q ⊢; exact q, rfl⟩) trivial
  · rw [List.append_nil] at q
    exact q
  · have := cB_0 w
    rw [show ga 64 = 0 from rfl, show h - 0 = h from by (first | (apply Int.le_antisymm <;> omega) | omega)] at this
    exact this
/-- return, with a value or none; break, continue -/
theorem cI_dead {op v : Int} {b2 : List Nat} (H : cI N gv tk fc gc g T P bs K D L C) (ho : op = 12 ∨ op = 15) (e : b2 = en (op, v)) (h5 : 5 * (b2.length : Int) ≤ 10) (hio : iok (op, v)) : cI N gv tk fc gc g T P (bs ++ b2) K D L (C + 10) := by
  refine cI_app (M := [(op, v)]) H (by rw [enl_one, e]) (by simp) h5 (fun q => cJ_mono T q (Int.le_refl _) (by (first | (apply Int.le_antisymm <;> omega) | omega))) (fun q => q) (Or.inr fun B h w => ?_) (fun l _ q => cp_mono T q) (fun q => ⟨q, dl_1 (by dsimp only; (first | (apply Int.le_antisymm <;> omega) | omega))⟩) ⟨hio, trivial⟩
  obtain ⟨⟨o, g2, hb, d, R, e, e2⟩, e3⟩ := cB_tp T w
  subst e
  exact ⟨_, h, cr_one (c1_d (cB_tp T w) (by (first | (apply Int.le_antisymm <;> omega) | omega)) (by (first | (apply Int.le_antisymm <;> omega) | omega))), cB_d T w⟩
theorem cI_ret {t : Int} (H : cI N gv tk fc gc g (0 :: T) (t :: P) bs K D L C) (ht : t ≠ 64) : cI N gv tk fc gc g T P (bs ++ [15]) K D L (C + 10) := by
  refine cI_app (M := [(15, 0)]) H (by decide) (by simp) (by simp) (fun q => cJ_mono T (cJ_0 q).2 (Int.le_refl _) (by (first | (apply Int.le_antisymm <;> omega) | omega))) (fun q => dm_0 q) (Or.inr fun B h w => ?_) (fun l _ q => cp_mono T (cp_0 q)) (fun q => ⟨by simp only [fr_0] at q ⊢; exact q, dl_1 (a := fs T) (by dsimp only; (first | (apply Int.le_antisymm <;> omega) | omega))⟩) (by simp [iokl, iok, two])
  obtain ⟨w1, w2, w3⟩ := cB_tp1 w ht
  obtain ⟨⟨o, g2, hb, d, R, e, e2⟩, e3⟩ := w3
  subst e
  exact ⟨_, h - 1, cr_one (c1_d (tp_le w2 (by (first | (apply Int.le_antisymm <;> omega) | omega))) (by (first | (apply Int.le_antisymm <;> omega) | omega)) (by (first | (apply Int.le_antisymm <;> omega) | omega))), cB_d T w1⟩
theorem cI_then {t : Int} (H : cI N gv tk fc gc g (0 :: T) (t :: P) bs K D L C) (ht : t ≠ 64) (hF : fr (5 :: T) ≤ 100) : cI N gv tk fc gc g (5 :: T) P (bs ++ [4, 64]) K (D + 1) L (C + 10) := by
  refine cI_app (M := [(4, 64)]) H (by decide) (by simp) (by simp) (fun q => ?_) (fun q => dm_0 q) (Or.inr fun B h w => ?_) (fun l _ q => ?_) (fun q => ⟨hF, by have z := fs_len T; have e : fr (5 :: T) = fr T + 1 := rfl; exact dl_p (a := fs T) (Or.inr (Or.inr rfl)) (by (first | (apply Int.le_antisymm <;> omega) | omega))⟩) (by simp [iokl, iok, two])
  · show cJ T P K (D + 1 - 1) L _
    rw [Int.add_sub_cancel]
    exact cJ_mono T (cJ_0 q).2 (Int.le_refl _) (by (first | (apply Int.le_antisymm <;> omega) | omega))
  · obtain ⟨w1, w2, w3⟩ := cB_tp1 w ht
    exact ⟨(4, 64, h - 1, 0) :: B, h - 1, cr_one (c1_if w2 rfl), 0, B, rfl, w1⟩
  · show cp T P _
    exact cp_mono T (cp_0 q)
theorem cI_else (H : cI N gv tk fc gc g (5 :: T) P bs K D L C) : cI N gv tk fc gc g (6 :: T) P (bs ++ [5]) K D L (C + 10) := by
  refine cI_app (M := [(5, 0)]) H (by decide) (by simp) (by simp) (fun q => cJ_mono T (D := D - 1) q (Int.le_refl _) (by (first | (apply Int.le_antisymm <;> omega) | omega))) (fun q => q) (Or.inr fun B h w => ?_) (fun l _ q => cp_mono T q) (fun q => ⟨q, rfl⟩) (by simp [iokl, iok, two])
  obtain ⟨d, R, e, w⟩ := w
  subst e
  have tR := cB_tp T w
  exact ⟨_, h, cr_one (c1_els (by rw [show ga 64 = 0 from rfl]; (first | (apply Int.le_antisymm <;> omega) | omega)) tR.2.1 tR.2.2), 0, R, rfl, w⟩
theorem cI_fi {x : Nat} (H : cI N gv tk fc gc g (x :: T) P bs K D L C) (hx : x = 5 ∨ x = 6) : cI N gv tk fc gc g T P (bs ++ [11]) K (D - 1) L (C + 10) := by
  rcases hx with rfl | rfl
  · refine cI_app (M := [(11, 0)]) H (by decide) (by simp) (by simp) (fun q => cJ_mono T (D := D - 1) q (Int.le_refl _) (by (first | (apply Int.le_antisymm <;> omega) | omega))) (fun q => q) (Or.inr fun B h w => ?_) (fun l _ q => cp_mono T q) (fun q => ⟨by have e : fr (5 :: T) = fr T + 1 := rfl; (first | (apply Int.le_antisymm <;> omega) | omega), rfl⟩) (by simp [iokl, iok, two])
    obtain ⟨d, R, e, w⟩ := w
    subst e
    have tR := cB_tp T w
    exact ⟨R, h, cr_one (c1_end (by rw [show ga 64 = 0 from rfl]; (first | (apply Int.le_antisymm <;> omega) | omega)) (by rw [show ga 64 = 0 from rfl]; (first | (apply Int.le_antisymm <;> omega) | omega)) tR.2.1 tR.2.2 (fun _ => rfl)), w⟩
  · refine cI_app (M := [(11, 0)]) H (by decide) (by simp) (by simp) (fun q => cJ_mono T (D := D - 1) q (Int.le_refl _) (by (first | (apply Int.le_antisymm <;> omega) | omega))) (fun q => q) (Or.inr fun B h w => ?_) (fun l _ q => cp_mono T q) (fun q => ⟨by have e : fr (6 :: T) = fr T + 1 := rfl; (first | (apply Int.le_antisymm <;> omega) | omega), rfl⟩) (by simp [iokl, iok, two])
    obtain ⟨d, R, e, w⟩ := w
    subst e
    have tR := cB_tp T w
    exact ⟨R, h, cr_one (c1_end (by rw [show ga 64 = 0 from rfl]; (first | (apply Int.le_antisymm <;> omega) | omega)) (by rw [show ga 64 = 0 from rfl]; (first | (apply Int.le_antisymm <;> omega) | omega)) tR.2.1 tR.2.2 (fun _ => rfl)), w⟩
theorem cI_loop (H : cI N gv tk fc gc g S P bs K D L C) (hF : fr (7 :: S) ≤ 100) : cI N gv tk fc gc g (7 :: S) (L :: P) (bs ++ [2, 64, 3, 64]) K (D + 2) (D + 2) (C + 20) := by
  refine cI_app (M := [(2, 64), (3, 64)]) H (by decide) (by simp) (by simp) (fun q => ⟨L, P, rfl, rfl, ?_⟩) (fun q => ⟨L, P, rfl, q⟩) (Or.inr fun B h w => ?_) (fun l _ q => ⟨L, P, rfl, cp_mono S q⟩) (fun q => ⟨hF, by have z := fs_len S; have e : fr (7 :: S) = fr S + 2 := rfl; rw [dl_p (a := fs S) (Or.inl rfl) (by (first | (apply Int.le_antisymm <;> omega) | omega))]; exact dl_p (a := 2 :: fs S) (Or.inr (Or.inl rfl)) (by rw [List.length_cons]; (first | (apply Int.le_antisymm <;> omega) | omega))⟩) (by simp [iokl, iok, two])
  · rw [Int.add_sub_cancel]
    exact cJ_mono S q (Int.le_refl _) (by (first | (apply Int.le_antisymm <;> omega) | omega))
  · have tB := cB_tp S w
    exact ⟨(3, 64, h, 0) :: (2, 64, h, 0) :: B, h, cr_cons (c1_blk tB (by (first | (apply Int.le_antisymm <;> omega) | omega))) (cr_one (c1_blk (tp_in tB.2.1 tB.2.2) (by (first | (apply Int.le_antisymm <;> omega) | omega)))), L, P, 0, 0, B, rfl, rfl, w⟩
theorem cI_test {t : Int} (H : cI N gv tk fc gc g (0 :: 7 :: T) (t :: P) bs K D L C) (ht : t ≠ 64) : cI N gv tk fc gc g (8 :: T) P (bs ++ [69, 13, 1]) K D L (C + 16) := by
  refine cI_app (M := [(69, 0), (13, 1)]) H (by decide) (by simp) (by simp) (fun q => cJ_mono (7 :: T) (cJ_0 q).2 (Int.le_refl _) (by (first | (apply Int.le_antisymm <;> omega) | omega))) (fun q => dm_0 q) (Or.inr fun B h w => ?_) (fun l _ q => cp_mono (7 :: T) (cp_0 q)) (fun q => ⟨by have e : fr (0 :: 7 :: T) = fr T + 2 + 0 := rfl; show fr T + 2 ≤ 100; (first | (apply Int.le_antisymm <;> omega) | omega), rfl⟩) (by simp [iokl, iok, two])
  obtain ⟨w1, w2, w3⟩ := cB_tp1 w ht
  exact ⟨B, h - 1, cr_cons (c1_11 w2 (by (first | (apply Int.le_antisymm <;> omega) | omega))) (cr_one (c1_10 w2 (by (first | (apply Int.le_antisymm <;> omega) | omega)) (fun z => absurd z (by (first | (apply Int.le_antisymm <;> omega) | omega))) (fun z => absurd z (by (first | (apply Int.le_antisymm <;> omega) | omega))))), w1⟩
theorem cI_pool {p : Int} (H : cI N gv tk fc gc g (8 :: T) (p :: P) bs K D L C) : cI N gv tk fc gc g T P (bs ++ [12, 0, 11, 11]) K (D - 2) p (C + 24) := by
  refine cI_app (M := [(12, 0), (11, 0), (11, 0)]) H (by decide) (by simp) (by simp) (fun q => ?_) (fun q => ?_) (Or.inr fun B h w => ?_) (fun l _ q => ?_) (fun q => ⟨by have e : fr (8 :: T) = fr T + 2 := rfl; (first | (apply Int.le_antisymm <;> omega) | omega), rfl⟩) (by simp [iokl, iok, two])
  · obtain ⟨t, Q, e, -, q⟩ := q
    injection e with e1 e2
    rw [e1, e2]
    exact cJ_mono T q (Int.le_refl _) (by (first | (apply Int.le_antisymm <;> omega) | omega))
  · obtain ⟨t, Q, e, q⟩ := q
    injection e with e1 e2
    rw [e2]
    exact q
  · obtain ⟨t, Q, d, d2, R, e, e2, w⟩ := w
    injection e with e3 e4
    subst e2
    rw [e4]
    have tR := cB_tp T w
    have e0 : ga 64 = 0 := rfl
    exact ⟨R, h, cr_cons (c1_d (tp_in tR.2.1 (tp_in tR.2.1 tR.2.2).2.2) (by (first | (apply Int.le_antisymm <;> omega) | omega)) (Int.le_refl _)) (cr_cons (c1_end (by (first | (apply Int.le_antisymm <;> omega) | omega)) rfl tR.2.1 (tp_in tR.2.1 tR.2.2).2.2 (fun _ => rfl)) (cr_one (c1_end (by (first | (apply Int.le_antisymm <;> omega) | omega)) (by (first | (apply Int.le_antisymm <;> omega) | omega)) tR.2.1 tR.2.2 (fun _ => rfl)))), w⟩
  · obtain ⟨t, Q, e, q⟩ := q
    injection e with e1 e2
    rw [e2]
    exact cp_mono T q
theorem cI_open (H : cI N gv tk fc gc g S P bs K D L C) : cI N gv tk fc gc g (4 :: S) (K :: P) bs K D L (C + 10) := by
  have q := cI_app (M := []) (b2 := []) (c := 10) (S2 := 4 :: S) (P2 := K :: P) (K2 := K) (D2 := D) (L2 := L) H rfl (by simp) (by simp) (fun q => ⟨K, P, rfl, ⟨(cJ_b S q).2.2.2.1, Int.le_refl _⟩, cJ_mono S q (Int.le_refl _) (by (first | (apply Int.le_antisymm <;> omega) | omega))⟩) (fun q => ⟨K, P, rfl, q⟩) (Or.inr fun B h w => ⟨B, h, ⟨rfl, rfl⟩, K, P, rfl, w⟩) (fun l _ q => ⟨K, P, rfl, cp_mono S q⟩) (fun q => ⟨by show fr S + 0 ≤ 100; (first | (apply Int.le_antisymm <;> omega) | omega), rfl⟩) trivial
  rw [List.append_nil] at q
  exact q
theorem cI_shut {p : Int} (H : cI N gv tk fc gc g (4 :: T) (p :: P) bs K D L C) : cI N gv tk fc gc g T P bs p D L (C + 10) ∧ 0 ≤ p ∧ p ≤ K := by
  refine ⟨?_, ?_⟩
  · have q := cI_app (M := []) (b2 := []) (c := 10) (S2 := T) (P2 := P) (K2 := p) (D2 := D) (L2 := L) H rfl (by simp) (by simp) (fun q => ?_) (fun q => ?_) (Or.inr fun B h w => ?_) (fun l _ q => ?_) (fun q => ⟨by have e : fr (4 :: T) = fr T + 0 := rfl; (first | (apply Int.le_antisymm <;> omega) | omega), rfl⟩) trivial
    · rw [List.append_nil] at q
      exact q
    · obtain ⟨t, Q, e, -, q⟩ := q
      injection e with e1 e2
      rw [e1, e2]
      exact cJ_mono T q (Int.le_refl _) (by (first | (apply Int.le_antisymm <;> omega) | omega))
    · obtain ⟨t, Q, e, q⟩ := q
      injection e with e1 e2
      rw [e2]
      exact q
    · obtain ⟨t, Q, e, q⟩ := w
      injection e with e1 e2
      exact ⟨B, h, ⟨rfl, rfl⟩, by rw [e2]; exact q⟩
    · obtain ⟨t, Q, e, q⟩ := q
      injection e with e1 e2
      rw [e2]
      exact cp_mono T q
  · obtain ⟨t, Q, e, q, -⟩ := H.1
    injection e with e1 e2
    rw [e1]
    exact q
end CI
end q_67

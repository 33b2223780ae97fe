/-! Coder: loops, conditions -/
abbrev b_CO_takeCondition : ByteArray := prog_4_method_17_code
def y_CO_takeCondition : MethodName := ⟨R_CO, "takeCondition", "(I)V"⟩
abbrev w_CO_takeCondition : List Cond := .code y_CO_takeCondition b_CO_takeCondition 2 none :: lw_g
theorem kC_CO_takeCondition : Cond.code y_CO_takeCondition b_CO_takeCondition 2 none ∈ lw_g := in_g 1204 (by decide +kernel) rfl
theorem d_CO_takeCondition_0 : decode b_CO_takeCondition 0 = .ok (.aload_n 0, 1) := by decide +kernel
theorem d_CO_takeCondition_1 : decode b_CO_takeCondition 1 = .ok (.invokevirtual 224, 3) := by decide +kernel
theorem d_CO_takeCondition_4 : decode b_CO_takeCondition 4 = .ok (.bipush 127, 2) := by decide +kernel
theorem d_CO_takeCondition_6 : decode b_CO_takeCondition 6 = .ok (.if_icmp .eq 12, 3) := by decide +kernel
theorem d_CO_takeCondition_9 : decode b_CO_takeCondition 9 = .ok (.aload_n 0, 1) := by decide +kernel
theorem d_CO_takeCondition_10 : decode b_CO_takeCondition 10 = .ok (.getfield 36, 3) := by decide +kernel
theorem d_CO_takeCondition_13 : decode b_CO_takeCondition 13 = .ok (.iconst 3, 1) := by decide +kernel
theorem d_CO_takeCondition_14 : decode b_CO_takeCondition 14 = .ok (.iload_n 1, 1) := by decide +kernel
theorem d_CO_takeCondition_15 : decode b_CO_takeCondition 15 = .ok (.invokevirtual 105, 3) := by decide +kernel
theorem d_CO_takeCondition_18 : decode b_CO_takeCondition 18 = .ok (.return_, 1) := by decide +kernel
theorem kM_CO_224 : Cond.methodLink R_CO 224 y_CO_pop ∈ lw_g := in_g 1139 (by decide +kernel) rfl
theorem kV_CO_pop : Cond.instanceMethod y_CO_pop ∈ lw_g := in_g 1141 (by decide +kernel) rfl
theorem kS_CO_pop : Cond.selects R_CO y_CO_pop y_CO_pop ∈ lw_g := in_s 40 (by decide +kernel) rfl
abbrev at_CO_takeCondition (dC : Nat → ClassId) (dI : Nat → Nat → Nat) (sa : Nat → Nat) (h0 pr kn lt pe to bo cs se gl fu pa pf sf pk pg pp pz pv pr_scanner_r pr_waiting_r pr_waitingPlaces_r : Nat) (cpe : ClassId) (h0_localCount : Int32) (h0_gives : Int32) (h0_depth : Int32) (h0_loopDepth : Int32) (pr_stepCount : Int32) (pr_open : Int32) (pr_twoSides : Int32) (pr_waitingCount : Int32) (gpe : Nat → Int32) (A : Nat → Prop) (u : Int32 × Int32 × Int32) (t : State) : Prop := match u with | (h0_pendingCount, pr_place, pr_reason) => va_P (dC, dI) cls [(h0, .inr (2, [.ref pr, .ref kn, .ref lt, .int h0_localCount, .ref pe, .int h0_pendingCount, .int h0_gives, .int h0_depth, .int h0_loopDepth, .ref to, .ref bo, .ref cs, .ref se])), (pr, .inr (6, [.ref gl, .ref fu, .ref pa, .ref pf, .ref sf, .ref pk, .ref pg, .ref pp, .ref pz, .ref pv, .int pr_reason, .int pr_place, .ref pr_scanner_r, .int pr_stepCount, .int pr_open, .int pr_twoSides, .ref pr_waiting_r, .ref pr_waitingPlaces_r, .int pr_waitingCount])), (pe, .inl (cpe, 680, .inl gpe))] t.heap ∧ va_K (dC, dI) cls [(cpe, .int)] t ∧ va_D A [(h0, .inr (2, [.ref pr, .ref kn, .ref lt, .int h0_localCount, .ref pe, .int h0_pendingCount, .int h0_gives, .int h0_depth, .int h0_loopDepth, .ref to, .ref bo, .ref cs, .ref se])), (pr, .inr (6, [.ref gl, .ref fu, .ref pa, .ref pf, .ref sf, .ref pk, .ref pg, .ref pp, .ref pz, .ref pv, .int pr_reason, .int pr_place, .ref pr_scanner_r, .int pr_stepCount, .int pr_open, .int pr_twoSides, .ref pr_waiting_r, .ref pr_waitingPlaces_r, .int pr_waitingCount])), (pe, .inl (cpe, 680, .inl gpe))]
set_option maxHeartbeats 4000000 in
set_option maxRecDepth 100000 in
theorem c_CO_takeCondition (l : Launch) (hlt : l.stackTraces = false) (dC : Nat → ClassId) (dI : Nat → Nat → Nat) (sz : Nat) (sa : Nat → Nat) (h0 pr kn lt pe to bo cs se gl fu pa pf sf pk pg pp pz pv pr_scanner_r pr_waiting_r pr_waitingPlaces_r : Nat) (cpe : ClassId) (h0_localCount : Int32) (h0_pendingCount : Int32) (h0_gives : Int32) (h0_depth : Int32) (h0_loopDepth : Int32) (pr_reason : Int32) (pr_place : Int32) (pr_stepCount : Int32) (pr_open : Int32) (pr_twoSides : Int32) (pr_waitingCount : Int32) (gpe : Nat → Int32)  (b_h0_pendingCount : 0 ≤ h0_pendingCount.toInt ∧ h0_pendingCount.toInt ≤ 680) (p0 : Int32)  (hpc : 1 ≤ h0_pendingCount.toInt) : tz_Met l y_CO_takeCondition w_CO_takeCondition ({ frames := 7, cells := 1, slots := 6, locals := 112 }) (va_Pc [.ref h0, .int p0] (fun U => U.heap.size = sz ∧ va_P (dC, dI) cls [(h0, .inr (2, [.ref pr, .ref kn, .ref lt, .int h0_localCount, .ref pe, .int h0_pendingCount, .int h0_gives, .int h0_depth, .int h0_loopDepth, .ref to, .ref bo, .ref cs, .ref se])), (pr, .inr (6, [.ref gl, .ref fu, .ref pa, .ref pf, .ref sf, .ref pk, .ref pg, .ref pp, .ref pz, .ref pv, .int pr_reason, .int pr_place, .ref pr_scanner_r, .int pr_stepCount, .int pr_open, .int pr_twoSides, .ref pr_waiting_r, .ref pr_waitingPlaces_r, .int pr_waitingCount])), (pe, .inl (cpe, 680, .inl gpe))] U.heap ∧ va_K (dC, dI) cls [(cpe, .int)] U ∧ va_D (fun _ => True) [(h0, .inr (2, [.ref pr, .ref kn, .ref lt, .int h0_localCount, .ref pe, .int h0_pendingCount, .int h0_gives, .int h0_depth, .int h0_loopDepth, .ref to, .ref bo, .ref cs, .ref se])), (pr, .inr (6, [.ref gl, .ref fu, .ref pa, .ref pf, .ref sf, .ref pk, .ref pg, .ref pp, .ref pz, .ref pv, .int pr_reason, .int pr_place, .ref pr_scanner_r, .int pr_stepCount, .int pr_open, .int pr_twoSides, .ref pr_waiting_r, .ref pr_waitingPlaces_r, .int pr_waitingCount])), (pe, .inl (cpe, 680, .inl gpe))] ∧ sw sa (va_A [(h0, .inr (2, [.ref pr, .ref kn, .ref lt, .int h0_localCount, .ref pe, .int h0_pendingCount, .int h0_gives, .int h0_depth, .int h0_loopDepth, .ref to, .ref bo, .ref cs, .ref se])), (pr, .inr (6, [.ref gl, .ref fu, .ref pa, .ref pf, .ref sf, .ref pk, .ref pg, .ref pp, .ref pz, .ref pv, .int pr_reason, .int pr_place, .ref pr_scanner_r, .int pr_stepCount, .int pr_open, .int pr_twoSides, .ref pr_waiting_r, .ref pr_waitingPlaces_r, .int pr_waitingCount])), (pe, .inl (cpe, 680, .inl gpe))] sz) U U.heap)) (tq_Q (tq_v (fun (u : Int32 × Int32 × Int32) => match u with | (h0_pendingCount2, pr_place2, pr_reason2) => (0 ≤ h0_pendingCount2.toInt ∧ h0_pendingCount2.toInt ≤ 680) ∧ (h0_pendingCount2.toInt = h0_pendingCount.toInt - 1 ∧ (gpe h0_pendingCount2.toNatClampNeg).toInt = 127)) "java/lang/UnsupportedOperationException" (fun (u : Int32 × Int32 × Int32) => match u with | (h0_pendingCount2, pr_place2, pr_reason2) => (0 ≤ h0_pendingCount2.toInt ∧ h0_pendingCount2.toInt ≤ 680))) (at_CO_takeCondition dC dI sa h0 pr kn lt pe to bo cs se gl fu pa pf sf pk pg pp pz pv pr_scanner_r pr_waiting_r pr_waitingPlaces_r cpe h0_localCount h0_gives h0_depth h0_loopDepth pr_stepCount pr_open pr_twoSides pr_waitingCount gpe (va_A [(h0, .inr (2, [.ref pr, .ref kn, .ref lt, .int h0_localCount, .ref pe, .int h0_pendingCount, .int h0_gives, .int h0_depth, .int h0_loopDepth, .ref to, .ref bo, .ref cs, .ref se])), (pr, .inr (6, [.ref gl, .ref fu, .ref pa, .ref pf, .ref sf, .ref pk, .ref pg, .ref pp, .ref pz, .ref pv, .int pr_reason, .int pr_place, .ref pr_scanner_r, .int pr_stepCount, .int pr_open, .int pr_twoSides, .ref pr_waiting_r, .ref pr_waitingPlaces_r, .int pr_waitingCount])), (pe, .inl (cpe, 680, .inl gpe))] sz)) (va_A [(h0, .inr (2, [.ref pr, .ref kn, .ref lt, .int h0_localCount, .ref pe, .int h0_pendingCount, .int h0_gives, .int h0_depth, .int h0_loopDepth, .ref to, .ref bo, .ref cs, .ref se])), (pr, .inr (6, [.ref gl, .ref fu, .ref pa, .ref pf, .ref sf, .ref pk, .ref pg, .ref pp, .ref pz, .ref pv, .int pr_reason, .int pr_place, .ref pr_scanner_r, .int pr_stepCount, .int pr_open, .int pr_twoSides, .ref pr_waiting_r, .ref pr_waitingPlaces_r, .int pr_waitingCount])), (pe, .inl (cpe, 680, .inl gpe))] sz)) (tz_k 0 0 1 6) (va_A [(h0, .inr (2, [.ref pr, .ref kn, .ref lt, .int h0_localCount, .ref pe, .int h0_pendingCount, .int h0_gives, .int h0_depth, .int h0_loopDepth, .ref to, .ref bo, .ref cs, .ref se])), (pr, .inr (6, [.ref gl, .ref fu, .ref pa, .ref pf, .ref sf, .ref pk, .ref pg, .ref pp, .ref pz, .ref pv, .int pr_reason, .int pr_place, .ref pr_scanner_r, .int pr_stepCount, .int pr_open, .int pr_twoSides, .ref pr_waiting_r, .ref pr_waitingPlaces_r, .int pr_waitingCount])), (pe, .inl (cpe, 680, .inl gpe))] sz) := by
  refine tz_ofW (cc := b_CO_takeCondition) (maxL := 2) (ret := none) (by decide) rfl ?_
  intro p e s m args below meth c s₁ B hml hno hv
  obtain ⟨rfl, hsz, hP, hK, hD0, hSW⟩ := hv
  have hx := B.exec
  have hb := B.bytes
  have hr := B.returns
  have hts0 := atoms_spec (ws := w_CO_takeCondition) B.pre
  have hts : ∀ w ∈ lw_g, w.before _ s = true := fun w h => hts0 w (List.mem_cons_of_mem _ h)
  have hown : s.vm.findClass R_CO = some m.cls := findClass_of_methodNamed B.named
  have hlocks := B.notSynchronized
  clear hts0
  subst hsz
  have hD := hD0.self (sz := s.heap.size)
  generalize hAe : va_A [(h0, .inr (2, [.ref pr, .ref kn, .ref lt, .int h0_localCount, .ref pe, .int h0_pendingCount, .int h0_gives, .int h0_depth, .int h0_loopDepth, .ref to, .ref bo, .ref cs, .ref se])), (pr, .inr (6, [.ref gl, .ref fu, .ref pa, .ref pf, .ref sf, .ref pk, .ref pg, .ref pp, .ref pz, .ref pv, .int pr_reason, .int pr_place, .ref pr_scanner_r, .int pr_stepCount, .int pr_open, .int pr_twoSides, .ref pr_waiting_r, .ref pr_waitingPlaces_r, .int pr_waitingCount])), (pe, .inl (cpe, 680, .inl gpe))] s.heap.size = A at hD hSW ⊢
  have hA : ∀ q : Nat, s.heap.size ≤ q → A q := fun q h => by rw [← hAe]; exact Or.inr h
  clear hAe
  have hP : va_P (dC, dI) cls [(h0, .inr (2, [.ref pr, .ref kn, .ref lt, .int h0_localCount, .ref pe, .int h0_pendingCount, .int h0_gives, .int h0_depth, .int h0_loopDepth, .ref to, .ref bo, .ref cs, .ref se])), (pr, .inr (6, [.ref gl, .ref fu, .ref pa, .ref pf, .ref sf, .ref pk, .ref pg, .ref pp, .ref pz, .ref pv, .int pr_reason, .int pr_place, .ref pr_scanner_r, .int pr_stepCount, .int pr_open, .int pr_twoSides, .ref pr_waiting_r, .ref pr_waitingPlaces_r, .int pr_waitingCount])), (pe, .inl (cpe, 680, .inl gpe))] s.heap := hP
  have hl := lv_entry ([.ref h0, .int p0]) (n := 2) (Nat.le_of_ble_eq_true rfl)
  rw [lg_entry_eq]
  generalize (lg_sl ([.ref h0, .int p0]) ++ List.replicate (2 - (lg_sl ([.ref h0, .int p0])).length) Slot.unset).toArray = ls at hl ⊢
  have hl : lv_has ls 2 [(0, .ref h0), (1, .int p0)] := hl
  have k0 : (0 : Int32).toInt = 0 := by decide
  refine w_gen (A := A) hP (fun H locs hP hS => ?_)
  have k3 : (3 : Int32).toInt = 3 := by decide
  have k127 : (127 : Int32).toInt = 127 := by decide
  have lo_p0 := i32_lo p0
  have hi_p0 := i32_hi p0
  refine lv_aload_n hx hb d_CO_takeCondition_0 rfl (lv_at hl 0 rfl) ?_
  have hPc := hP.sub (ws' := [(h0, .inr (2, [.ref pr, .ref kn, .ref lt, .int h0_localCount, .ref pe, .int h0_pendingCount, .int h0_gives, .int h0_depth, .int h0_loopDepth, .ref to, .ref bo, .ref cs, .ref se])), (pe, .inl (cpe, 680, .inl gpe))]) [0, 2] rfl
  have hDc := hD.sub (ws' := [(h0, .inr (2, [.ref pr, .ref kn, .ref lt, .int h0_localCount, .ref pe, .int h0_pendingCount, .int h0_gives, .int h0_depth, .int h0_loopDepth, .ref to, .ref bo, .ref cs, .ref se])), (pe, .inl (cpe, 680, .inl gpe))]) [0, 2] (by decide) rfl
  have hKc := hK.sub (tys' := [(cpe, .int)]) [0] rfl
  have hFc := va_free (wc := [(h0, .inr (2, [.ref pr, .ref kn, .ref lt, .int h0_localCount, .ref pe, .int h0_pendingCount, .int h0_gives, .int h0_depth, .int h0_loopDepth, .ref to, .ref bo, .ref cs, .ref se])), (pe, .inl (cpe, 680, .inl gpe))]) hD hS hA [0, 2] rfl
  refine va_calli (va_runV (As := []) (rest := []) ⟨hx, hb, hml, hown, hts⟩ (c_CO_pop l dC dI H.size h0 pr kn lt pe to bo cs se cpe h0_localCount h0_pendingCount h0_gives h0_depth h0_loopDepth gpe (b_h0_pendingCount) (by (try dsimp only) <;> omega)) (cwV 0 hts (gV kM_CO_224 kV_CO_pop kS_CO_pop kI_CO kC_CO_pop) rfl rfl rfl (by decide +kernel) ⟨Nat.le_of_ble_eq_true rfl, Nat.le_of_ble_eq_true rfl⟩) ⟨fun a U g mk z => by obtain ⟨z0, z1, zP, zK, zD⟩ := z; exact ⟨z0, z1, zP, va_K.moved (u := U) (U := U.calling g mk a) (Vm.Alike.refl U.vm) zK, zD⟩, va_recv hKc hPc (ci := 2) (q0 := 0) rfl rfl, fun U hU hW => ⟨rfl, by rw [hU], by rw [hU]; exact hPc, va_K.moved hW.alike hKc, hDc.weaken (fun _ _ _ _ => trivial)⟩⟩ rfl rfl hl.1 rfl (lv_room (Nat.le_of_ble_eq_true rfl)) d_CO_takeCondition_1 ⟨(Nat.zero_le _), (Nat.zero_le _)⟩) hS (fun q _ h => hFc q h) hFc (fun r1 u t H1 locs ht hvm hw hB hz1 hk1 hS => ?_)
  obtain ⟨n2, rfl⟩ : ∃ z, z = u := ⟨_, rfl⟩
  try dsimp only at hw
  obtain ⟨bn2, xr1⟩ := hw
  try clear hw
  obtain ⟨hP1, hK1, hD1⟩ := hB
  rw [ht] at hP1
  obtain ⟨hP, hD⟩ := va_join (wr := [(pr, .inr (6, [.ref gl, .ref fu, .ref pa, .ref pf, .ref sf, .ref pk, .ref pg, .ref pp, .ref pz, .ref pv, .int pr_reason, .int pr_place, .ref pr_scanner_r, .int pr_stepCount, .int pr_open, .int pr_twoSides, .ref pr_waiting_r, .ref pr_waitingPlaces_r, .int pr_waitingCount]))]) (w1 := [(h0, .inr (2, [.ref pr, .ref kn, .ref lt, .int h0_localCount, .ref pe, .int n2, .int h0_gives, .int h0_depth, .int h0_loopDepth, .ref to, .ref bo, .ref cs, .ref se])), (pe, .inl (cpe, 680, .inl gpe))]) hP hD [0, 2] [1] rfl rfl (by decide) (by decide) hk1 hFc hP1 hD1
  clear hPc hDc hKc hFc hz1 hk1 hP1 hK1 hD1
  generalize H1 = H at hP hS ⊢
  have hP : va_P (dC, dI) cls [(pr, .inr (6, [.ref gl, .ref fu, .ref pa, .ref pf, .ref sf, .ref pk, .ref pg, .ref pp, .ref pz, .ref pv, .int pr_reason, .int pr_place, .ref pr_scanner_r, .int pr_stepCount, .int pr_open, .int pr_twoSides, .ref pr_waiting_r, .ref pr_waitingPlaces_r, .int pr_waitingCount])), (h0, .inr (2, [.ref pr, .ref kn, .ref lt, .int h0_localCount, .ref pe, .int n2, .int h0_gives, .int h0_depth, .int h0_loopDepth, .ref to, .ref bo, .ref cs, .ref se])), (pe, .inl (cpe, 680, .inl gpe))] H := hP
  have hD : va_D A [(pr, .inr (6, [.ref gl, .ref fu, .ref pa, .ref pf, .ref sf, .ref pk, .ref pg, .ref pp, .ref pz, .ref pv, .int pr_reason, .int pr_place, .ref pr_scanner_r, .int pr_stepCount, .int pr_open, .int pr_twoSides, .ref pr_waiting_r, .ref pr_waitingPlaces_r, .int pr_waitingCount])), (h0, .inr (2, [.ref pr, .ref kn, .ref lt, .int h0_localCount, .ref pe, .int n2, .int h0_gives, .int h0_depth, .int h0_loopDepth, .ref to, .ref bo, .ref cs, .ref se])), (pe, .inl (cpe, 680, .inl gpe))] := hD
  refine lv_bipush (v := 127) hx hb d_CO_takeCondition_4 (by decide) ?_
  refine lv_icmp_eq (tgt := 18) hx hb d_CO_takeCondition_6 (by decide) (fun c6 => ?_) (fun c6 => ?_)
  · have q6 := eqI c6
    have hP9 := hP.sub (ws' := [(h0, .inr (2, [.ref pr, .ref kn, .ref lt, .int h0_localCount, .ref pe, .int n2, .int h0_gives, .int h0_depth, .int h0_loopDepth, .ref to, .ref bo, .ref cs, .ref se])), (pr, .inr (6, [.ref gl, .ref fu, .ref pa, .ref pf, .ref sf, .ref pk, .ref pg, .ref pp, .ref pz, .ref pv, .int pr_reason, .int pr_place, .ref pr_scanner_r, .int pr_stepCount, .int pr_open, .int pr_twoSides, .ref pr_waiting_r, .ref pr_waitingPlaces_r, .int pr_waitingCount])), (pe, .inl (cpe, 680, .inl gpe))]) [1, 0, 2] rfl
    have hD9 := hD.sub (ws' := [(h0, .inr (2, [.ref pr, .ref kn, .ref lt, .int h0_localCount, .ref pe, .int n2, .int h0_gives, .int h0_depth, .int h0_loopDepth, .ref to, .ref bo, .ref cs, .ref se])), (pr, .inr (6, [.ref gl, .ref fu, .ref pa, .ref pf, .ref sf, .ref pk, .ref pg, .ref pp, .ref pz, .ref pv, .int pr_reason, .int pr_place, .ref pr_scanner_r, .int pr_stepCount, .int pr_open, .int pr_twoSides, .ref pr_waiting_r, .ref pr_waitingPlaces_r, .int pr_waitingCount])), (pe, .inl (cpe, 680, .inl gpe))]) [1, 0, 2] (by decide) rfl
    exact tz_up (fun _ => rfl) (W.vret hx hb hr (fun t ht hW => ⟨⟨(n2, pr_place, pr_reason), ⟨rfl, ⟨bn2, ⟨by (try dsimp only) <;> omega, by (try dsimp only); rw [← xr1.2]; omega⟩⟩⟩, by rw [ht]; exact hP9, va_K.moved hW.alike hK, hD9⟩, hS.F ht⟩) hS.2.2 d_CO_takeCondition_18)
  · have q6 := neI c6
    refine lv_aload_n hx hb d_CO_takeCondition_9 rfl (lv_at hl 0 rfl) ?_
    refine va_get (D := (dC, dI)) (ci := 2) (v := .ref pr) (C := R_CO) (T := F_CO) (N := 13) hx hb hts i_CO hown hK hP 1 rfl rfl 0 (by decide) (hts _ kF_CO_36) (fun _ h9 => h9) rfl d_CO_takeCondition_10 ?_
    refine lv_iconst (v := 3) hx hb d_CO_takeCondition_13 (by decide) ?_
    refine lv_iload_n hx hb d_CO_takeCondition_14 rfl (lv_at hl 1 rfl) ?_
    have hPc := hP.sub (ws' := [(pr, .inr (6, [.ref gl, .ref fu, .ref pa, .ref pf, .ref sf, .ref pk, .ref pg, .ref pp, .ref pz, .ref pv, .int pr_reason, .int pr_place, .ref pr_scanner_r, .int pr_stepCount, .int pr_open, .int pr_twoSides, .ref pr_waiting_r, .ref pr_waitingPlaces_r, .int pr_waitingCount]))]) [0] rfl
    have hDc := hD.sub (ws' := [(pr, .inr (6, [.ref gl, .ref fu, .ref pa, .ref pf, .ref sf, .ref pk, .ref pg, .ref pp, .ref pz, .ref pv, .int pr_reason, .int pr_place, .ref pr_scanner_r, .int pr_stepCount, .int pr_open, .int pr_twoSides, .ref pr_waiting_r, .ref pr_waitingPlaces_r, .int pr_waitingCount]))]) [0] (by decide) rfl
    have hKc := hK.sub (tys' := []) [] rfl
    have hFc := va_free (wc := [(pr, .inr (6, [.ref gl, .ref fu, .ref pa, .ref pf, .ref sf, .ref pk, .ref pg, .ref pp, .ref pz, .ref pv, .int pr_reason, .int pr_place, .ref pr_scanner_r, .int pr_stepCount, .int pr_open, .int pr_twoSides, .ref pr_waiting_r, .ref pr_waitingPlaces_r, .int pr_waitingCount]))]) hD hS hA [0] rfl
    refine tq_callv (tz_runV (As := [.int 3, .int p0]) (rest := []) ⟨hx, hb, hml, hown, hts⟩ (c_PR_refuse l hlt dC dI H.size sa pr gl fu pa pf sf pk pg pp pz pv pr_scanner_r pr_waiting_r pr_waitingPlaces_r pr_reason pr_place pr_stepCount pr_open pr_twoSides pr_waitingCount 3 p0) (cwV 2 hts (gV kM_CO_105 kV_PR_refuse kS_PR_refuse kI_PR kC_PR_refuse) rfl rfl rfl (by decide +kernel) ⟨Nat.le_of_ble_eq_true rfl, Nat.le_of_ble_eq_true rfl⟩) ⟨fun a U g mk z => by obtain ⟨z0, z1, zP, zK, zD, zS⟩ := z; exact ⟨z0, z1, zP, va_K.moved (u := U) (U := U.calling g mk a) (Vm.Alike.refl U.vm) zK, zD, sw.same (u := U) (U := U.calling g mk a) rfl zS⟩, va_recv hKc hPc (ci := 6) (q0 := 0) rfl rfl, fun U hU hW => ⟨rfl, by rw [hU], by rw [hU]; exact hPc, va_K.moved hW.alike hKc, hDc.weaken (fun _ _ _ _ => trivial), hSW.call hS hFc hW hU⟩⟩ rfl rfl hl.1 rfl (lv_room (Nat.le_of_ble_eq_true rfl)) d_CO_takeCondition_15 ⟨Nat.le_of_ble_eq_true rfl, Nat.le_of_ble_eq_true rfl⟩) hS (fun q _ h => hFc q h) hFc (fun u t H1 locs ht hvm hw hB hz1 hk1 hS => ?_) (fun xx u t H1 locs ht hvm hw hXX hB hz1 hk1 hS => ?_)
    rotate_left
    · skip
      obtain ⟨n4, n5⟩ := u
      try dsimp only at hw
      obtain ⟨hP1, hK1, hD1⟩ := hB
      rw [ht] at hP1
      obtain ⟨hP, hD⟩ := va_join (wr := [(h0, .inr (2, [.ref pr, .ref kn, .ref lt, .int h0_localCount, .ref pe, .int n2, .int h0_gives, .int h0_depth, .int h0_loopDepth, .ref to, .ref bo, .ref cs, .ref se])), (pe, .inl (cpe, 680, .inl gpe))]) (w1 := [(pr, .inr (6, [.ref gl, .ref fu, .ref pa, .ref pf, .ref sf, .ref pk, .ref pg, .ref pp, .ref pz, .ref pv, .int n5, .int n4, .ref pr_scanner_r, .int pr_stepCount, .int pr_open, .int pr_twoSides, .ref pr_waiting_r, .ref pr_waitingPlaces_r, .int pr_waitingCount]))]) hP hD [0] [1, 2] rfl rfl (by decide) (by decide) hk1 hFc hP1 hD1
      have hP : va_P (dC, dI) cls [(h0, .inr (2, [.ref pr, .ref kn, .ref lt, .int h0_localCount, .ref pe, .int n2, .int h0_gives, .int h0_depth, .int h0_loopDepth, .ref to, .ref bo, .ref cs, .ref se])), (pe, .inl (cpe, 680, .inl gpe)), (pr, .inr (6, [.ref gl, .ref fu, .ref pa, .ref pf, .ref sf, .ref pk, .ref pg, .ref pp, .ref pz, .ref pv, .int n5, .int n4, .ref pr_scanner_r, .int pr_stepCount, .int pr_open, .int pr_twoSides, .ref pr_waiting_r, .ref pr_waitingPlaces_r, .int pr_waitingCount]))] H1 := hP
      have hD : va_D A [(h0, .inr (2, [.ref pr, .ref kn, .ref lt, .int h0_localCount, .ref pe, .int n2, .int h0_gives, .int h0_depth, .int h0_loopDepth, .ref to, .ref bo, .ref cs, .ref se])), (pe, .inl (cpe, 680, .inl gpe)), (pr, .inr (6, [.ref gl, .ref fu, .ref pa, .ref pf, .ref sf, .ref pk, .ref pg, .ref pp, .ref pz, .ref pv, .int n5, .int n4, .ref pr_scanner_r, .int pr_stepCount, .int pr_open, .int pr_twoSides, .ref pr_waiting_r, .ref pr_waitingPlaces_r, .int pr_waitingCount]))] := hD
      have hP9 := hP.sub (ws' := [(h0, .inr (2, [.ref pr, .ref kn, .ref lt, .int h0_localCount, .ref pe, .int n2, .int h0_gives, .int h0_depth, .int h0_loopDepth, .ref to, .ref bo, .ref cs, .ref se])), (pr, .inr (6, [.ref gl, .ref fu, .ref pa, .ref pf, .ref sf, .ref pk, .ref pg, .ref pp, .ref pz, .ref pv, .int n5, .int n4, .ref pr_scanner_r, .int pr_stepCount, .int pr_open, .int pr_twoSides, .ref pr_waiting_r, .ref pr_waitingPlaces_r, .int pr_waitingCount])), (pe, .inl (cpe, 680, .inl gpe))]) [0, 2, 1] rfl
      have hD9 := hD.sub (ws' := [(h0, .inr (2, [.ref pr, .ref kn, .ref lt, .int h0_localCount, .ref pe, .int n2, .int h0_gives, .int h0_depth, .int h0_loopDepth, .ref to, .ref bo, .ref cs, .ref se])), (pr, .inr (6, [.ref gl, .ref fu, .ref pa, .ref pf, .ref sf, .ref pk, .ref pg, .ref pp, .ref pz, .ref pv, .int n5, .int n4, .ref pr_scanner_r, .int pr_stepCount, .int pr_open, .int pr_twoSides, .ref pr_waiting_r, .ref pr_waitingPlaces_r, .int pr_waitingCount])), (pe, .inl (cpe, 680, .inl gpe))]) [0, 2, 1] (by decide) rfl
      exact tz_leave rfl hno hlocks (fun t ht hW => ⟨⟨(n2, n4, n5), ⟨(bn2), by rw [ht]; exact hXX.moved hW.alike⟩, by rw [ht]; exact hP9, va_K.moved hW.alike hK, hD9⟩, hS.F ht⟩) hS.2.2
    exact (show False from hw).elim
abbrev b_CO_beginLoop : ByteArray := prog_4_method_18_code
def y_CO_beginLoop : MethodName := ⟨R_CO, "beginLoop", "()V"⟩
abbrev w_CO_beginLoop : List Cond := .code y_CO_beginLoop b_CO_beginLoop 1 none :: lw_g
theorem kC_CO_beginLoop : Cond.code y_CO_beginLoop b_CO_beginLoop 1 none ∈ lw_g := in_g 1208 (by decide +kernel) rfl
theorem d_CO_beginLoop_0 : decode b_CO_beginLoop 0 = .ok (.aload_n 0, 1) := by decide +kernel
theorem d_CO_beginLoop_1 : decode b_CO_beginLoop 1 = .ok (.aload_n 0, 1) := by decide +kernel
theorem d_CO_beginLoop_2 : decode b_CO_beginLoop 2 = .ok (.getfield 118, 3) := by decide +kernel
theorem d_CO_beginLoop_5 : decode b_CO_beginLoop 5 = .ok (.invokevirtual 183, 3) := by decide +kernel
theorem d_CO_beginLoop_8 : decode b_CO_beginLoop 8 = .ok (.aload_n 0, 1) := by decide +kernel
theorem d_CO_beginLoop_9 : decode b_CO_beginLoop 9 = .ok (.getfield 26, 3) := by decide +kernel
theorem d_CO_beginLoop_12 : decode b_CO_beginLoop 12 = .ok (.iconst 2, 1) := by decide +kernel
theorem d_CO_beginLoop_13 : decode b_CO_beginLoop 13 = .ok (.invokevirtual 76, 3) := by decide +kernel
theorem d_CO_beginLoop_16 : decode b_CO_beginLoop 16 = .ok (.aload_n 0, 1) := by decide +kernel
theorem d_CO_beginLoop_17 : decode b_CO_beginLoop 17 = .ok (.getfield 26, 3) := by decide +kernel
theorem d_CO_beginLoop_20 : decode b_CO_beginLoop 20 = .ok (.bipush 64, 2) := by decide +kernel
theorem d_CO_beginLoop_22 : decode b_CO_beginLoop 22 = .ok (.invokevirtual 76, 3) := by decide +kernel
theorem d_CO_beginLoop_25 : decode b_CO_beginLoop 25 = .ok (.aload_n 0, 1) := by decide +kernel
theorem d_CO_beginLoop_26 : decode b_CO_beginLoop 26 = .ok (.getfield 26, 3) := by decide +kernel
theorem d_CO_beginLoop_29 : decode b_CO_beginLoop 29 = .ok (.iconst 3, 1) := by decide +kernel
theorem d_CO_beginLoop_30 : decode b_CO_beginLoop 30 = .ok (.invokevirtual 76, 3) := by decide +kernel
theorem d_CO_beginLoop_33 : decode b_CO_beginLoop 33 = .ok (.aload_n 0, 1) := by decide +kernel
theorem d_CO_beginLoop_34 : decode b_CO_beginLoop 34 = .ok (.getfield 26, 3) := by decide +kernel
theorem d_CO_beginLoop_37 : decode b_CO_beginLoop 37 = .ok (.bipush 64, 2) := by decide +kernel
theorem d_CO_beginLoop_39 : decode b_CO_beginLoop 39 = .ok (.invokevirtual 76, 3) := by decide +kernel
theorem d_CO_beginLoop_42 : decode b_CO_beginLoop 42 = .ok (.aload_n 0, 1) := by decide +kernel
theorem d_CO_beginLoop_43 : decode b_CO_beginLoop 43 = .ok (.dup, 1) := by decide +kernel
theorem d_CO_beginLoop_44 : decode b_CO_beginLoop 44 = .ok (.getfield 115, 3) := by decide +kernel
theorem d_CO_beginLoop_47 : decode b_CO_beginLoop 47 = .ok (.iconst 2, 1) := by decide +kernel
theorem d_CO_beginLoop_48 : decode b_CO_beginLoop 48 = .ok (.iadd, 1) := by decide +kernel
theorem d_CO_beginLoop_49 : decode b_CO_beginLoop 49 = .ok (.putfield 115, 3) := by decide +kernel
theorem d_CO_beginLoop_52 : decode b_CO_beginLoop 52 = .ok (.aload_n 0, 1) := by decide +kernel
theorem d_CO_beginLoop_53 : decode b_CO_beginLoop 53 = .ok (.aload_n 0, 1) := by decide +kernel
theorem d_CO_beginLoop_54 : decode b_CO_beginLoop 54 = .ok (.getfield 115, 3) := by decide +kernel
theorem d_CO_beginLoop_57 : decode b_CO_beginLoop 57 = .ok (.putfield 118, 3) := by decide +kernel
theorem d_CO_beginLoop_60 : decode b_CO_beginLoop 60 = .ok (.return_, 1) := by decide +kernel
theorem kM_CO_183 : Cond.methodLink R_CO 183 y_CO_push ∈ lw_g := in_g 1118 (by decide +kernel) rfl
theorem kV_CO_push : Cond.instanceMethod y_CO_push ∈ lw_g := in_g 1120 (by decide +kernel) rfl
theorem kS_CO_push : Cond.selects R_CO y_CO_push y_CO_push ∈ lw_g := in_s 36 (by decide +kernel) rfl
theorem kM_CO_76 : Cond.methodLink R_CO 76 y_BR_put ∈ lw_g := in_g 1110 (by decide +kernel) rfl
theorem kF_CO_118 : Cond.fieldLink R_CO 118 "WaferForge$Coder" "loopDepth" "I" ∈ lw_g := in_g 428 (by decide +kernel) rfl
theorem kF_CO_26 : Cond.fieldLink R_CO 26 "WaferForge$Coder" "body" "LWaferForge$ByteRow;" ∈ lw_g := in_g 430 (by decide +kernel) rfl
theorem kF_CO_115 : Cond.fieldLink R_CO 115 "WaferForge$Coder" "depth" "I" ∈ lw_g := in_g 427 (by decide +kernel) rfl
abbrev at_CO_beginLoop (dC : Nat → ClassId) (dI : Nat → Nat → Nat) (h0 pr kn lt pe to bo cs se bob : Nat) (cpe cbob : ClassId) (h0_localCount : Int32) (h0_gives : Int32) (A : Nat → Prop) (u : (Nat → Int32) × (Nat → Int32) × Int32 × Int32 × Int32 × Int32) (t : State) : Prop := match u with | (gbob, gpe, bo_length, h0_depth, h0_loopDepth, h0_pendingCount) => va_P (dC, dI) cls [(h0, .inr (2, [.ref pr, .ref kn, .ref lt, .int h0_localCount, .ref pe, .int h0_pendingCount, .int h0_gives, .int h0_depth, .int h0_loopDepth, .ref to, .ref bo, .ref cs, .ref se])), (pe, .inl (cpe, 680, .inl gpe)), (bo, .inr (1, [.ref bob, .int bo_length])), (bob, .inl (cbob, 8192, .inl gbob))] t.heap ∧ va_K (dC, dI) cls [(cpe, .int), (cbob, .byte)] t ∧ va_D A [(h0, .inr (2, [.ref pr, .ref kn, .ref lt, .int h0_localCount, .ref pe, .int h0_pendingCount, .int h0_gives, .int h0_depth, .int h0_loopDepth, .ref to, .ref bo, .ref cs, .ref se])), (pe, .inl (cpe, 680, .inl gpe)), (bo, .inr (1, [.ref bob, .int bo_length])), (bob, .inl (cbob, 8192, .inl gbob))]
set_option maxHeartbeats 4000000 in
set_option maxRecDepth 100000 in
theorem c_CO_beginLoop (l : Launch) (dC : Nat → ClassId) (dI : Nat → Nat → Nat) (sz : Nat) (h0 pr kn lt pe to bo cs se bob : Nat) (cpe cbob : ClassId) (h0_localCount : Int32) (h0_pendingCount : Int32) (h0_gives : Int32) (h0_depth : Int32) (h0_loopDepth : Int32) (gpe : Nat → Int32) (bo_length : Int32) (gbob : Nat → Int32)  (b_h0_pendingCount : 0 ≤ h0_pendingCount.toInt ∧ h0_pendingCount.toInt ≤ 680) (b_bo_length : 0 ≤ bo_length.toInt ∧ bo_length.toInt ≤ 8192)   (hpc : h0_pendingCount.toInt < 680) (hde : 0 ≤ h0_depth.toInt ∧ h0_depth.toInt ≤ 100000) (hbo : bo_length.toInt + 4 ≤ 8192) : Met l y_CO_beginLoop w_CO_beginLoop ({ frames := 1, cells := 0, slots := 0, locals := 21 }) (va_Pc [.ref h0] (fun U => U.heap.size = sz ∧ va_P (dC, dI) cls [(h0, .inr (2, [.ref pr, .ref kn, .ref lt, .int h0_localCount, .ref pe, .int h0_pendingCount, .int h0_gives, .int h0_depth, .int h0_loopDepth, .ref to, .ref bo, .ref cs, .ref se])), (pe, .inl (cpe, 680, .inl gpe)), (bo, .inr (1, [.ref bob, .int bo_length])), (bob, .inl (cbob, 8192, .inl gbob))] U.heap ∧ va_K (dC, dI) cls [(cpe, .int), (cbob, .byte)] U ∧ va_D (fun _ => True) [(h0, .inr (2, [.ref pr, .ref kn, .ref lt, .int h0_localCount, .ref pe, .int h0_pendingCount, .int h0_gives, .int h0_depth, .int h0_loopDepth, .ref to, .ref bo, .ref cs, .ref se])), (pe, .inl (cpe, 680, .inl gpe)), (bo, .inr (1, [.ref bob, .int bo_length])), (bob, .inl (cbob, 8192, .inl gbob))])) (va_Qv (fun (u : (Nat → Int32) × (Nat → Int32) × Int32 × Int32 × Int32 × Int32) => match u with | (gbob2, gpe2, bo_length2, h0_depth2, h0_loopDepth2, h0_pendingCount2) => (0 ≤ bo_length2.toInt ∧ bo_length2.toInt ≤ 8192) ∧ (0 ≤ h0_pendingCount2.toInt ∧ h0_pendingCount2.toInt ≤ 680) ∧ ((h0_pendingCount2.toInt = h0_pendingCount.toInt + 1 ∧ gpe2 = upd gpe h0_pendingCount.toNatClampNeg h0_loopDepth) ∧ (h0_depth2.toInt = h0_depth.toInt + 2 ∧ h0_loopDepth2.toInt = h0_depth.toInt + 2) ∧ bo_length2.toInt = bo_length.toInt + 4 ∧ bl gbob2 bo_length2.toNatClampNeg = bl gbob bo_length.toNatClampNeg ++ [2, 64, 3, 64])) (at_CO_beginLoop dC dI h0 pr kn lt pe to bo cs se bob cpe cbob h0_localCount h0_gives (va_A [(h0, .inr (2, [.ref pr, .ref kn, .ref lt, .int h0_localCount, .ref pe, .int h0_pendingCount, .int h0_gives, .int h0_depth, .int h0_loopDepth, .ref to, .ref bo, .ref cs, .ref se])), (pe, .inl (cpe, 680, .inl gpe)), (bo, .inr (1, [.ref bob, .int bo_length])), (bob, .inl (cbob, 8192, .inl gbob))] sz)) (va_A [(h0, .inr (2, [.ref pr, .ref kn, .ref lt, .int h0_localCount, .ref pe, .int h0_pendingCount, .int h0_gives, .int h0_depth, .int h0_loopDepth, .ref to, .ref bo, .ref cs, .ref se])), (pe, .inl (cpe, 680, .inl gpe)), (bo, .inr (1, [.ref bob, .int bo_length])), (bob, .inl (cbob, 8192, .inl gbob))] sz)) 0 0 (va_A [(h0, .inr (2, [.ref pr, .ref kn, .ref lt, .int h0_localCount, .ref pe, .int h0_pendingCount, .int h0_gives, .int h0_depth, .int h0_loopDepth, .ref to, .ref bo, .ref cs, .ref se])), (pe, .inl (cpe, 680, .inl gpe)), (bo, .inr (1, [.ref bob, .int bo_length])), (bob, .inl (cbob, 8192, .inl gbob))] sz) := by
  refine Met.ofW (cc := b_CO_beginLoop) (maxL := 1) (ret := none) (by decide) rfl ?_
  intro p e s m args below meth c s₁ B hml hv
  obtain ⟨rfl, hsz, hP, hK, hD0⟩ := hv
  have hx := B.exec
  have hb := B.bytes
  have hr := B.returns
  have hts0 := atoms_spec (ws := w_CO_beginLoop) B.pre
  have hts : ∀ w ∈ lw_g, w.before _ s = true := fun w h => hts0 w (List.mem_cons_of_mem _ h)
  have hown : s.vm.findClass R_CO = some m.cls := findClass_of_methodNamed B.named
  have hlocks := B.notSynchronized
  clear hts0
  subst hsz
  have hD := hD0.self (sz := s.heap.size)
  generalize hAe : va_A [(h0, .inr (2, [.ref pr, .ref kn, .ref lt, .int h0_localCount, .ref pe, .int h0_pendingCount, .int h0_gives, .int h0_depth, .int h0_loopDepth, .ref to, .ref bo, .ref cs, .ref se])), (pe, .inl (cpe, 680, .inl gpe)), (bo, .inr (1, [.ref bob, .int bo_length])), (bob, .inl (cbob, 8192, .inl gbob))] s.heap.size = A at hD ⊢
  have hA : ∀ q : Nat, s.heap.size ≤ q → A q := fun q h => by rw [← hAe]; exact Or.inr h
  clear hAe
  have hP : va_P (dC, dI) cls [(h0, .inr (2, [.ref pr, .ref kn, .ref lt, .int h0_localCount, .ref pe, .int h0_pendingCount, .int h0_gives, .int h0_depth, .int h0_loopDepth, .ref to, .ref bo, .ref cs, .ref se])), (pe, .inl (cpe, 680, .inl gpe)), (bo, .inr (1, [.ref bob, .int bo_length])), (bob, .inl (cbob, 8192, .inl gbob))] s.heap := hP
  have hl := lv_entry ([.ref h0]) (n := 1) (Nat.le_of_ble_eq_true rfl)
  rw [lg_entry_eq]
  generalize (lg_sl ([.ref h0]) ++ List.replicate (1 - (lg_sl ([.ref h0])).length) Slot.unset).toArray = ls at hl ⊢
  have hl : lv_has ls 1 [(0, .ref h0)] := hl
  have k0 : (0 : Int32).toInt = 0 := by decide
  refine w_gen (A := A) hP (fun H locs hP hS => ?_)
  have k2 : (2 : Int32).toInt = 2 := by decide
  have k3 : (3 : Int32).toInt = 3 := by decide
  have k64 : (64 : Int32).toInt = 64 := by decide
  refine lv_aload_n hx hb d_CO_beginLoop_0 rfl (lv_at hl 0 rfl) ?_
  refine lv_aload_n hx hb d_CO_beginLoop_1 rfl (lv_at hl 0 rfl) ?_
  refine va_get (D := (dC, dI)) (ci := 2) (v := .int h0_loopDepth) (C := R_CO) (T := F_CO) (N := 13) hx hb hts i_CO hown hK hP 0 rfl rfl 8 (by decide) (hts _ kF_CO_118) (fun _ h9 => h9) rfl d_CO_beginLoop_2 ?_
  have hPc := hP.sub (ws' := [(h0, .inr (2, [.ref pr, .ref kn, .ref lt, .int h0_localCount, .ref pe, .int h0_pendingCount, .int h0_gives, .int h0_depth, .int h0_loopDepth, .ref to, .ref bo, .ref cs, .ref se])), (pe, .inl (cpe, 680, .inl gpe))]) [0, 1] rfl
  have hDc := hD.sub (ws' := [(h0, .inr (2, [.ref pr, .ref kn, .ref lt, .int h0_localCount, .ref pe, .int h0_pendingCount, .int h0_gives, .int h0_depth, .int h0_loopDepth, .ref to, .ref bo, .ref cs, .ref se])), (pe, .inl (cpe, 680, .inl gpe))]) [0, 1] (by decide) rfl
  have hKc := hK.sub (tys' := [(cpe, .int)]) [0] rfl
  have hFc := va_free (wc := [(h0, .inr (2, [.ref pr, .ref kn, .ref lt, .int h0_localCount, .ref pe, .int h0_pendingCount, .int h0_gives, .int h0_depth, .int h0_loopDepth, .ref to, .ref bo, .ref cs, .ref se])), (pe, .inl (cpe, 680, .inl gpe))]) hD hS hA [0, 1] rfl
  refine va_callv (va_runV (As := [.int h0_loopDepth]) (rest := []) ⟨hx, hb, hml, hown, hts⟩ (c_CO_push l dC dI H.size h0 pr kn lt pe to bo cs se cpe h0_localCount h0_pendingCount h0_gives h0_depth h0_loopDepth gpe (b_h0_pendingCount) h0_loopDepth (by (try dsimp only) <;> omega)) (cwV 1 hts (gV kM_CO_183 kV_CO_push kS_CO_push kI_CO kC_CO_push) rfl rfl rfl (by decide +kernel) ⟨Nat.le_of_ble_eq_true rfl, Nat.le_of_ble_eq_true rfl⟩) ⟨fun a U g mk z => by obtain ⟨z0, z1, zP, zK, zD⟩ := z; exact ⟨z0, z1, zP, va_K.moved (u := U) (U := U.calling g mk a) (Vm.Alike.refl U.vm) zK, zD⟩, va_recv hKc hPc (ci := 2) (q0 := 0) rfl rfl, fun U hU hW => ⟨rfl, by rw [hU], by rw [hU]; exact hPc, va_K.moved hW.alike hKc, hDc.weaken (fun _ _ _ _ => trivial)⟩⟩ rfl rfl hl.1 rfl (lv_room (Nat.le_of_ble_eq_true rfl)) d_CO_beginLoop_5 ⟨(Nat.zero_le _), (Nat.zero_le _)⟩) hS (fun q _ h => hFc q h) hFc (fun u t H1 locs ht hvm hw hB hz1 hk1 hS => ?_)
  obtain ⟨n2, n3⟩ := u
  try dsimp only at hw
  obtain ⟨bn3, xr1⟩ := hw
  try clear hw
  obtain ⟨hP1, hK1, hD1⟩ := hB
  rw [ht] at hP1
  obtain ⟨hP, hD⟩ := va_join (wr := [(bo, .inr (1, [.ref bob, .int bo_length])), (bob, .inl (cbob, 8192, .inl gbob))]) (w1 := [(h0, .inr (2, [.ref pr, .ref kn, .ref lt, .int h0_localCount, .ref pe, .int n3, .int h0_gives, .int h0_depth, .int h0_loopDepth, .ref to, .ref bo, .ref cs, .ref se])), (pe, .inl (cpe, 680, .inl n2))]) hP hD [0, 1] [2, 3] rfl rfl (by decide) (by decide) hk1 hFc hP1 hD1
  clear hPc hDc hKc hFc hz1 hk1 hP1 hK1 hD1
  generalize H1 = H at hP hS ⊢
  have hP : va_P (dC, dI) cls [(bo, .inr (1, [.ref bob, .int bo_length])), (bob, .inl (cbob, 8192, .inl gbob)), (h0, .inr (2, [.ref pr, .ref kn, .ref lt, .int h0_localCount, .ref pe, .int n3, .int h0_gives, .int h0_depth, .int h0_loopDepth, .ref to, .ref bo, .ref cs, .ref se])), (pe, .inl (cpe, 680, .inl n2))] H := hP
  have hD : va_D A [(bo, .inr (1, [.ref bob, .int bo_length])), (bob, .inl (cbob, 8192, .inl gbob)), (h0, .inr (2, [.ref pr, .ref kn, .ref lt, .int h0_localCount, .ref pe, .int n3, .int h0_gives, .int h0_depth, .int h0_loopDepth, .ref to, .ref bo, .ref cs, .ref se])), (pe, .inl (cpe, 680, .inl n2))] := hD
  refine lv_aload_n hx hb d_CO_beginLoop_8 rfl (lv_at hl 0 rfl) ?_
  refine va_get (D := (dC, dI)) (ci := 2) (v := .ref bo) (C := R_CO) (T := F_CO) (N := 13) hx hb hts i_CO hown hK hP 2 rfl rfl 10 (by decide) (hts _ kF_CO_26) (fun _ h9 => h9) rfl d_CO_beginLoop_9 ?_
  refine lv_iconst (v := 2) hx hb d_CO_beginLoop_12 (by decide) ?_
  have hPc := hP.sub (ws' := [(bo, .inr (1, [.ref bob, .int bo_length])), (bob, .inl (cbob, 8192, .inl gbob))]) [0, 1] rfl
  have hDc := hD.sub (ws' := [(bo, .inr (1, [.ref bob, .int bo_length])), (bob, .inl (cbob, 8192, .inl gbob))]) [0, 1] (by decide) rfl
  have hKc := hK.sub (tys' := [(cbob, .byte)]) [1] rfl
  have hFc := va_free (wc := [(bo, .inr (1, [.ref bob, .int bo_length])), (bob, .inl (cbob, 8192, .inl gbob))]) hD hS hA [0, 1] rfl
  refine va_callv (va_runV (As := [.int 2]) (rest := []) ⟨hx, hb, hml, hown, hts⟩ (c_BR_put l dC dI bo bob H.size cbob 8192 bo_length gbob (by omega) (by omega) (by omega) 2) (cwV 1 hts (gV kM_CO_76 kV_BR_put kS_BR_put kI_BR kC_BR_put) rfl rfl rfl (by decide +kernel) ⟨Nat.le_of_ble_eq_true rfl, Nat.le_of_ble_eq_true rfl⟩) ⟨fun a U g mk z => by obtain ⟨z0, z1, zP, zK, zD⟩ := z; exact ⟨z0, z1, zP, va_K.moved (u := U) (U := U.calling g mk a) (Vm.Alike.refl U.vm) zK, zD⟩, va_recv hKc hPc (ci := 1) (q0 := 0) rfl rfl, fun U hU hW => ⟨rfl, by rw [hU], by rw [hU]; exact hPc, va_K.moved hW.alike hKc, hDc.weaken (fun _ _ _ _ => trivial)⟩⟩ rfl rfl hl.1 rfl (lv_room (Nat.le_of_ble_eq_true rfl)) d_CO_beginLoop_13 ⟨(Nat.zero_le _), (Nat.zero_le _)⟩) hS (fun q _ h => hFc q h) hFc (fun u t H1 locs ht hvm hw hB hz1 hk1 hS => ?_)
  obtain ⟨n5, f6⟩ := u
  try dsimp only at hw
  have tn5 := br_put_in (by omega) (by omega) (by omega) hw
  have bn5 := br_put_bl (by omega) (by omega) (by omega) hw
  obtain ⟨hP1, hK1, hD1⟩ := hB
  rw [ht] at hP1
  obtain ⟨hP, hD⟩ := va_join (wr := [(h0, .inr (2, [.ref pr, .ref kn, .ref lt, .int h0_localCount, .ref pe, .int n3, .int h0_gives, .int h0_depth, .int h0_loopDepth, .ref to, .ref bo, .ref cs, .ref se])), (pe, .inl (cpe, 680, .inl n2))]) (w1 := [(bo, .inr (1, [.ref bob, .int n5])), (bob, .inl (cbob, 8192, .inl f6))]) hP hD [0, 1] [2, 3] rfl rfl (by decide) (by decide) hk1 hFc hP1 hD1
  clear hPc hDc hKc hFc hz1 hk1 hP1 hK1 hD1
  generalize H1 = H at hP hS ⊢
  have hP : va_P (dC, dI) cls [(h0, .inr (2, [.ref pr, .ref kn, .ref lt, .int h0_localCount, .ref pe, .int n3, .int h0_gives, .int h0_depth, .int h0_loopDepth, .ref to, .ref bo, .ref cs, .ref se])), (pe, .inl (cpe, 680, .inl n2)), (bo, .inr (1, [.ref bob, .int n5])), (bob, .inl (cbob, 8192, .inl f6))] H := hP
  have hD : va_D A [(h0, .inr (2, [.ref pr, .ref kn, .ref lt, .int h0_localCount, .ref pe, .int n3, .int h0_gives, .int h0_depth, .int h0_loopDepth, .ref to, .ref bo, .ref cs, .ref se])), (pe, .inl (cpe, 680, .inl n2)), (bo, .inr (1, [.ref bob, .int n5])), (bob, .inl (cbob, 8192, .inl f6))] := hD
  refine lv_aload_n hx hb d_CO_beginLoop_16 rfl (lv_at hl 0 rfl) ?_
  refine va_get (D := (dC, dI)) (ci := 2) (v := .ref bo) (C := R_CO) (T := F_CO) (N := 13) hx hb hts i_CO hown hK hP 0 rfl rfl 10 (by decide) (hts _ kF_CO_26) (fun _ h9 => h9) rfl d_CO_beginLoop_17 ?_
  refine lv_bipush (v := 64) hx hb d_CO_beginLoop_20 (by decide) ?_
  have hPc := hP.sub (ws' := [(bo, .inr (1, [.ref bob, .int n5])), (bob, .inl (cbob, 8192, .inl f6))]) [2, 3] rfl
  have hDc := hD.sub (ws' := [(bo, .inr (1, [.ref bob, .int n5])), (bob, .inl (cbob, 8192, .inl f6))]) [2, 3] (by decide) rfl
  have hKc := hK.sub (tys' := [(cbob, .byte)]) [1] rfl
  have hFc := va_free (wc := [(bo, .inr (1, [.ref bob, .int n5])), (bob, .inl (cbob, 8192, .inl f6))]) hD hS hA [2, 3] rfl
  refine va_callv (va_runV (As := [.int 64]) (rest := []) ⟨hx, hb, hml, hown, hts⟩ (c_BR_put l dC dI bo bob H.size cbob 8192 n5 f6 (by omega) (by omega) (by omega) 64) (cwV 1 hts (gV kM_CO_76 kV_BR_put kS_BR_put kI_BR kC_BR_put) rfl rfl rfl (by decide +kernel) ⟨Nat.le_of_ble_eq_true rfl, Nat.le_of_ble_eq_true rfl⟩) ⟨fun a U g mk z => by obtain ⟨z0, z1, zP, zK, zD⟩ := z; exact ⟨z0, z1, zP, va_K.moved (u := U) (U := U.calling g mk a) (Vm.Alike.refl U.vm) zK, zD⟩, va_recv hKc hPc (ci := 1) (q0 := 0) rfl rfl, fun U hU hW => ⟨rfl, by rw [hU], by rw [hU]; exact hPc, va_K.moved hW.alike hKc, hDc.weaken (fun _ _ _ _ => trivial)⟩⟩ rfl rfl hl.1 rfl (lv_room (Nat.le_of_ble_eq_true rfl)) d_CO_beginLoop_22 ⟨(Nat.zero_le _), (Nat.zero_le _)⟩) hS (fun q _ h => hFc q h) hFc (fun u t H1 locs ht hvm hw hB hz1 hk1 hS => ?_)
  obtain ⟨n8, f9⟩ := u
  try dsimp only at hw
  have tn8 := br_put_in (by omega) (by omega) (by omega) hw
  have bn8 := br_put_bl (by omega) (by omega) (by omega) hw
  obtain ⟨hP1, hK1, hD1⟩ := hB
  rw [ht] at hP1
  obtain ⟨hP, hD⟩ := va_join (wr := [(h0, .inr (2, [.ref pr, .ref kn, .ref lt, .int h0_localCount, .ref pe, .int n3, .int h0_gives, .int h0_depth, .int h0_loopDepth, .ref to, .ref bo, .ref cs, .ref se])), (pe, .inl (cpe, 680, .inl n2))]) (w1 := [(bo, .inr (1, [.ref bob, .int n8])), (bob, .inl (cbob, 8192, .inl f9))]) hP hD [2, 3] [0, 1] rfl rfl (by decide) (by decide) hk1 hFc hP1 hD1
  clear hPc hDc hKc hFc hz1 hk1 hP1 hK1 hD1
  generalize H1 = H at hP hS ⊢
  have hP : va_P (dC, dI) cls [(h0, .inr (2, [.ref pr, .ref kn, .ref lt, .int h0_localCount, .ref pe, .int n3, .int h0_gives, .int h0_depth, .int h0_loopDepth, .ref to, .ref bo, .ref cs, .ref se])), (pe, .inl (cpe, 680, .inl n2)), (bo, .inr (1, [.ref bob, .int n8])), (bob, .inl (cbob, 8192, .inl f9))] H := hP
  have hD : va_D A [(h0, .inr (2, [.ref pr, .ref kn, .ref lt, .int h0_localCount, .ref pe, .int n3, .int h0_gives, .int h0_depth, .int h0_loopDepth, .ref to, .ref bo, .ref cs, .ref se])), (pe, .inl (cpe, 680, .inl n2)), (bo, .inr (1, [.ref bob, .int n8])), (bob, .inl (cbob, 8192, .inl f9))] := hD
  refine lv_aload_n hx hb d_CO_beginLoop_25 rfl (lv_at hl 0 rfl) ?_
  refine va_get (D := (dC, dI)) (ci := 2) (v := .ref bo) (C := R_CO) (T := F_CO) (N := 13) hx hb hts i_CO hown hK hP 0 rfl rfl 10 (by decide) (hts _ kF_CO_26) (fun _ h9 => h9) rfl d_CO_beginLoop_26 ?_
  refine lv_iconst (v := 3) hx hb d_CO_beginLoop_29 (by decide) ?_
  have hPc := hP.sub (ws' := [(bo, .inr (1, [.ref bob, .int n8])), (bob, .inl (cbob, 8192, .inl f9))]) [2, 3] rfl
  have hDc := hD.sub (ws' := [(bo, .inr (1, [.ref bob, .int n8])), (bob, .inl (cbob, 8192, .inl f9))]) [2, 3] (by decide) rfl
  have hKc := hK.sub (tys' := [(cbob, .byte)]) [1] rfl
  have hFc := va_free (wc := [(bo, .inr (1, [.ref bob, .int n8])), (bob, .inl (cbob, 8192, .inl f9))]) hD hS hA [2, 3] rfl
  refine va_callv (va_runV (As := [.int 3]) (rest := []) ⟨hx, hb, hml, hown, hts⟩ (c_BR_put l dC dI bo bob H.size cbob 8192 n8 f9 (by omega) (by omega) (by omega) 3) (cwV 1 hts (gV kM_CO_76 kV_BR_put kS_BR_put kI_BR kC_BR_put) rfl rfl rfl (by decide +kernel) ⟨Nat.le_of_ble_eq_true rfl, Nat.le_of_ble_eq_true rfl⟩) ⟨fun a U g mk z => by obtain ⟨z0, z1, zP, zK, zD⟩ := z; exact ⟨z0, z1, zP, va_K.moved (u := U) (U := U.calling g mk a) (Vm.Alike.refl U.vm) zK, zD⟩, va_recv hKc hPc (ci := 1) (q0 := 0) rfl rfl, fun U hU hW => ⟨rfl, by rw [hU], by rw [hU]; exact hPc, va_K.moved hW.alike hKc, hDc.weaken (fun _ _ _ _ => trivial)⟩⟩ rfl rfl hl.1 rfl (lv_room (Nat.le_of_ble_eq_true rfl)) d_CO_beginLoop_30 ⟨(Nat.zero_le _), (Nat.zero_le _)⟩) hS (fun q _ h => hFc q h) hFc (fun u t H1 locs ht hvm hw hB hz1 hk1 hS => ?_)
  obtain ⟨n11, f12⟩ := u
  try dsimp only at hw
  have tn11 := br_put_in (by omega) (by omega) (by omega) hw
  have bn11 := br_put_bl (by omega) (by omega) (by omega) hw
  obtain ⟨hP1, hK1, hD1⟩ := hB
  rw [ht] at hP1
  obtain ⟨hP, hD⟩ := va_join (wr := [(h0, .inr (2, [.ref pr, .ref kn, .ref lt, .int h0_localCount, .ref pe, .int n3, .int h0_gives, .int h0_depth, .int h0_loopDepth, .ref to, .ref bo, .ref cs, .ref se])), (pe, .inl (cpe, 680, .inl n2))]) (w1 := [(bo, .inr (1, [.ref bob, .int n11])), (bob, .inl (cbob, 8192, .inl f12))]) hP hD [2, 3] [0, 1] rfl rfl (by decide) (by decide) hk1 hFc hP1 hD1
  clear hPc hDc hKc hFc hz1 hk1 hP1 hK1 hD1
  generalize H1 = H at hP hS ⊢
  have hP : va_P (dC, dI) cls [(h0, .inr (2, [.ref pr, .ref kn, .ref lt, .int h0_localCount, .ref pe, .int n3, .int h0_gives, .int h0_depth, .int h0_loopDepth, .ref to, .ref bo, .ref cs, .ref se])), (pe, .inl (cpe, 680, .inl n2)), (bo, .inr (1, [.ref bob, .int n11])), (bob, .inl (cbob, 8192, .inl f12))] H := hP
  have hD : va_D A [(h0, .inr (2, [.ref pr, .ref kn, .ref lt, .int h0_localCount, .ref pe, .int n3, .int h0_gives, .int h0_depth, .int h0_loopDepth, .ref to, .ref bo, .ref cs, .ref se])), (pe, .inl (cpe, 680, .inl n2)), (bo, .inr (1, [.ref bob, .int n11])), (bob, .inl (cbob, 8192, .inl f12))] := hD
  refine lv_aload_n hx hb d_CO_beginLoop_33 rfl (lv_at hl 0 rfl) ?_
  refine va_get (D := (dC, dI)) (ci := 2) (v := .ref bo) (C := R_CO) (T := F_CO) (N := 13) hx hb hts i_CO hown hK hP 0 rfl rfl 10 (by decide) (hts _ kF_CO_26) (fun _ h9 => h9) rfl d_CO_beginLoop_34 ?_
  refine lv_bipush (v := 64) hx hb d_CO_beginLoop_37 (by decide) ?_
  have hPc := hP.sub (ws' := [(bo, .inr (1, [.ref bob, .int n11])), (bob, .inl (cbob, 8192, .inl f12))]) [2, 3] rfl
  have hDc := hD.sub (ws' := [(bo, .inr (1, [.ref bob, .int n11])), (bob, .inl (cbob, 8192, .inl f12))]) [2, 3] (by decide) rfl
  have hKc := hK.sub (tys' := [(cbob, .byte)]) [1] rfl
  have hFc := va_free (wc := [(bo, .inr (1, [.ref bob, .int n11])), (bob, .inl (cbob, 8192, .inl f12))]) hD hS hA [2, 3] rfl
  refine va_callv (va_runV (As := [.int 64]) (rest := []) ⟨hx, hb, hml, hown, hts⟩ (c_BR_put l dC dI bo bob H.size cbob 8192 n11 f12 (by omega) (by omega) (by omega) 64) (cwV 1 hts (gV kM_CO_76 kV_BR_put kS_BR_put kI_BR kC_BR_put) rfl rfl rfl (by decide +kernel) ⟨Nat.le_of_ble_eq_true rfl, Nat.le_of_ble_eq_true rfl⟩) ⟨fun a U g mk z => by obtain ⟨z0, z1, zP, zK, zD⟩ := z; exact ⟨z0, z1, zP, va_K.moved (u := U) (U := U.calling g mk a) (Vm.Alike.refl U.vm) zK, zD⟩, va_recv hKc hPc (ci := 1) (q0 := 0) rfl rfl, fun U hU hW => ⟨rfl, by rw [hU], by rw [hU]; exact hPc, va_K.moved hW.alike hKc, hDc.weaken (fun _ _ _ _ => trivial)⟩⟩ rfl rfl hl.1 rfl (lv_room (Nat.le_of_ble_eq_true rfl)) d_CO_beginLoop_39 ⟨(Nat.zero_le _), (Nat.zero_le _)⟩) hS (fun q _ h => hFc q h) hFc (fun u t H1 locs ht hvm hw hB hz1 hk1 hS => ?_)
  obtain ⟨n14, f15⟩ := u
  try dsimp only at hw
  have tn14 := br_put_in (by omega) (by omega) (by omega) hw
  have bn14 := br_put_bl (by omega) (by omega) (by omega) hw
  obtain ⟨hP1, hK1, hD1⟩ := hB
  rw [ht] at hP1
  obtain ⟨hP, hD⟩ := va_join (wr := [(h0, .inr (2, [.ref pr, .ref kn, .ref lt, .int h0_localCount, .ref pe, .int n3, .int h0_gives, .int h0_depth, .int h0_loopDepth, .ref to, .ref bo, .ref cs, .ref se])), (pe, .inl (cpe, 680, .inl n2))]) (w1 := [(bo, .inr (1, [.ref bob, .int n14])), (bob, .inl (cbob, 8192, .inl f15))]) hP hD [2, 3] [0, 1] rfl rfl (by decide) (by decide) hk1 hFc hP1 hD1
  clear hPc hDc hKc hFc hz1 hk1 hP1 hK1 hD1
  generalize H1 = H at hP hS ⊢
  have hP : va_P (dC, dI) cls [(h0, .inr (2, [.ref pr, .ref kn, .ref lt, .int h0_localCount, .ref pe, .int n3, .int h0_gives, .int h0_depth, .int h0_loopDepth, .ref to, .ref bo, .ref cs, .ref se])), (pe, .inl (cpe, 680, .inl n2)), (bo, .inr (1, [.ref bob, .int n14])), (bob, .inl (cbob, 8192, .inl f15))] H := hP
  have hD : va_D A [(h0, .inr (2, [.ref pr, .ref kn, .ref lt, .int h0_localCount, .ref pe, .int n3, .int h0_gives, .int h0_depth, .int h0_loopDepth, .ref to, .ref bo, .ref cs, .ref se])), (pe, .inl (cpe, 680, .inl n2)), (bo, .inr (1, [.ref bob, .int n14])), (bob, .inl (cbob, 8192, .inl f15))] := hD
  refine lv_aload_n hx hb d_CO_beginLoop_42 rfl (lv_at hl 0 rfl) ?_
  refine lv_dup hx hb d_CO_beginLoop_43 rfl ?_
  refine va_get (D := (dC, dI)) (ci := 2) (v := .int h0_depth) (C := R_CO) (T := F_CO) (N := 13) hx hb hts i_CO hown hK hP 0 rfl rfl 7 (by decide) (hts _ kF_CO_115) (fun _ h9 => h9) rfl d_CO_beginLoop_44 ?_
  refine lv_iconst (v := 2) hx hb d_CO_beginLoop_47 (by decide) ?_
  refine lv_iadd hx hb d_CO_beginLoop_48 ?_
  refine lv_topi (fun x16 ex16 => ?_)
  have tx16 : x16.toInt = h0_depth.toInt + 2 := by have z := i32_add ex16 (by omega) (by omega); omega
  refine va_put (D := (dC, dI)) (ci := 2) (v := .int x16) (ty := .int) (C := R_CO) (T := F_CO) (N := 13) hx hb hts i_CO t_CO t_CO_ok n_CO hown hK hP hD hS 0 rfl rfl 7 (by decide) (hts _ kF_CO_115) (fun _ h9 => h9) rfl (by decide +kernel) rfl rfl (Nat.le_of_ble_eq_true rfl) d_CO_beginLoop_49 (fun H locs hP hD hS => ?_)
  refine lv_aload_n hx hb d_CO_beginLoop_52 rfl (lv_at hl 0 rfl) ?_
  refine lv_aload_n hx hb d_CO_beginLoop_53 rfl (lv_at hl 0 rfl) ?_
  refine va_get (D := (dC, dI)) (ci := 2) (v := .int x16) (C := R_CO) (T := F_CO) (N := 13) hx hb hts i_CO hown hK hP 0 rfl rfl 7 (by decide) (hts _ kF_CO_115) (fun _ h9 => h9) rfl d_CO_beginLoop_54 ?_
  refine va_put (D := (dC, dI)) (ci := 2) (v := .int x16) (ty := .int) (C := R_CO) (T := F_CO) (N := 13) hx hb hts i_CO t_CO t_CO_ok n_CO hown hK hP hD hS 0 rfl rfl 8 (by decide) (hts _ kF_CO_118) (fun _ h9 => h9) rfl (by decide +kernel) rfl rfl (Nat.le_of_ble_eq_true rfl) d_CO_beginLoop_57 (fun H locs hP hD hS => ?_)
  have hP9 := hP.sub (ws' := [(h0, .inr (2, [.ref pr, .ref kn, .ref lt, .int h0_localCount, .ref pe, .int n3, .int h0_gives, .int x16, .int x16, .ref to, .ref bo, .ref cs, .ref se])), (pe, .inl (cpe, 680, .inl n2)), (bo, .inr (1, [.ref bob, .int n14])), (bob, .inl (cbob, 8192, .inl f15))]) [0, 1, 2, 3] rfl
  have hD9 := hD.sub (ws' := [(h0, .inr (2, [.ref pr, .ref kn, .ref lt, .int h0_localCount, .ref pe, .int n3, .int h0_gives, .int x16, .int x16, .ref to, .ref bo, .ref cs, .ref se])), (pe, .inl (cpe, 680, .inl n2)), (bo, .inr (1, [.ref bob, .int n14])), (bob, .inl (cbob, 8192, .inl f15))]) [0, 1, 2, 3] (by decide) rfl
  exact W.vret hx hb hr (fun t ht hW => ⟨⟨(f15, n2, n14, x16, x16, n3), rfl, ⟨by (try dsimp only) <;> omega, bn3, ⟨xr1, by (try dsimp only) <;> omega, by (try dsimp only) <;> omega, by (try dsimp only); rw [bn14 (by omega), bn11 (by omega), bn8 (by omega), bn5 (by omega), List.append_assoc, List.append_assoc, List.append_assoc]; rfl⟩⟩, by rw [ht]; exact hP9, va_K.moved hW.alike hK, hD9⟩, hS.F ht⟩) hS.2.2 d_CO_beginLoop_60
abbrev b_CO_endLoop : ByteArray := prog_4_method_19_code
def y_CO_endLoop : MethodName := ⟨R_CO, "endLoop", "()V"⟩
abbrev w_CO_endLoop : List Cond := .code y_CO_endLoop b_CO_endLoop 1 none :: lw_g
theorem kC_CO_endLoop : Cond.code y_CO_endLoop b_CO_endLoop 1 none ∈ lw_g := in_g 1212 (by decide +kernel) rfl
theorem d_CO_endLoop_0 : decode b_CO_endLoop 0 = .ok (.aload_n 0, 1) := by decide +kernel
theorem d_CO_endLoop_1 : decode b_CO_endLoop 1 = .ok (.getfield 26, 3) := by decide +kernel
theorem d_CO_endLoop_4 : decode b_CO_endLoop 4 = .ok (.bipush 12, 2) := by decide +kernel
theorem d_CO_endLoop_6 : decode b_CO_endLoop 6 = .ok (.invokevirtual 76, 3) := by decide +kernel
theorem d_CO_endLoop_9 : decode b_CO_endLoop 9 = .ok (.aload_n 0, 1) := by decide +kernel
theorem d_CO_endLoop_10 : decode b_CO_endLoop 10 = .ok (.getfield 26, 3) := by decide +kernel
theorem d_CO_endLoop_13 : decode b_CO_endLoop 13 = .ok (.iconst 0, 1) := by decide +kernel
theorem d_CO_endLoop_14 : decode b_CO_endLoop 14 = .ok (.invokevirtual 76, 3) := by decide +kernel
theorem d_CO_endLoop_17 : decode b_CO_endLoop 17 = .ok (.aload_n 0, 1) := by decide +kernel
theorem d_CO_endLoop_18 : decode b_CO_endLoop 18 = .ok (.getfield 26, 3) := by decide +kernel
theorem d_CO_endLoop_21 : decode b_CO_endLoop 21 = .ok (.bipush 11, 2) := by decide +kernel
theorem d_CO_endLoop_23 : decode b_CO_endLoop 23 = .ok (.invokevirtual 76, 3) := by decide +kernel
theorem d_CO_endLoop_26 : decode b_CO_endLoop 26 = .ok (.aload_n 0, 1) := by decide +kernel
theorem d_CO_endLoop_27 : decode b_CO_endLoop 27 = .ok (.getfield 26, 3) := by decide +kernel
theorem d_CO_endLoop_30 : decode b_CO_endLoop 30 = .ok (.bipush 11, 2) := by decide +kernel
theorem d_CO_endLoop_32 : decode b_CO_endLoop 32 = .ok (.invokevirtual 76, 3) := by decide +kernel
theorem d_CO_endLoop_35 : decode b_CO_endLoop 35 = .ok (.aload_n 0, 1) := by decide +kernel
theorem d_CO_endLoop_36 : decode b_CO_endLoop 36 = .ok (.dup, 1) := by decide +kernel
theorem d_CO_endLoop_37 : decode b_CO_endLoop 37 = .ok (.getfield 115, 3) := by decide +kernel
theorem d_CO_endLoop_40 : decode b_CO_endLoop 40 = .ok (.iconst 2, 1) := by decide +kernel
theorem d_CO_endLoop_41 : decode b_CO_endLoop 41 = .ok (.isub, 1) := by decide +kernel
theorem d_CO_endLoop_42 : decode b_CO_endLoop 42 = .ok (.putfield 115, 3) := by decide +kernel
theorem d_CO_endLoop_45 : decode b_CO_endLoop 45 = .ok (.aload_n 0, 1) := by decide +kernel
theorem d_CO_endLoop_46 : decode b_CO_endLoop 46 = .ok (.aload_n 0, 1) := by decide +kernel
theorem d_CO_endLoop_47 : decode b_CO_endLoop 47 = .ok (.invokevirtual 224, 3) := by decide +kernel
theorem d_CO_endLoop_50 : decode b_CO_endLoop 50 = .ok (.putfield 118, 3) := by decide +kernel
theorem d_CO_endLoop_53 : decode b_CO_endLoop 53 = .ok (.return_, 1) := by decide +kernel
abbrev at_CO_endLoop (dC : Nat → ClassId) (dI : Nat → Nat → Nat) (h0 pr kn lt pe to bo cs se bob : Nat) (cpe cbob : ClassId) (h0_localCount : Int32) (h0_gives : Int32) (gpe : Nat → Int32) (A : Nat → Prop) (u : (Nat → Int32) × Int32 × Int32 × Int32 × Int32) (t : State) : Prop := match u with | (gbob, bo_length, h0_depth, h0_loopDepth, h0_pendingCount) => va_P (dC, dI) cls [(h0, .inr (2, [.ref pr, .ref kn, .ref lt, .int h0_localCount, .ref pe, .int h0_pendingCount, .int h0_gives, .int h0_depth, .int h0_loopDepth, .ref to, .ref bo, .ref cs, .ref se])), (pe, .inl (cpe, 680, .inl gpe)), (bo, .inr (1, [.ref bob, .int bo_length])), (bob, .inl (cbob, 8192, .inl gbob))] t.heap ∧ va_K (dC, dI) cls [(cpe, .int), (cbob, .byte)] t ∧ va_D A [(h0, .inr (2, [.ref pr, .ref kn, .ref lt, .int h0_localCount, .ref pe, .int h0_pendingCount, .int h0_gives, .int h0_depth, .int h0_loopDepth, .ref to, .ref bo, .ref cs, .ref se])), (pe, .inl (cpe, 680, .inl gpe)), (bo, .inr (1, [.ref bob, .int bo_length])), (bob, .inl (cbob, 8192, .inl gbob))]
set_option maxHeartbeats 4000000 in
set_option maxRecDepth 100000 in
theorem c_CO_endLoop (l : Launch) (dC : Nat → ClassId) (dI : Nat → Nat → Nat) (sz : Nat) (h0 pr kn lt pe to bo cs se bob : Nat) (cpe cbob : ClassId) (h0_localCount : Int32) (h0_pendingCount : Int32) (h0_gives : Int32) (h0_depth : Int32) (h0_loopDepth : Int32) (gpe : Nat → Int32) (bo_length : Int32) (gbob : Nat → Int32)  (b_h0_pendingCount : 0 ≤ h0_pendingCount.toInt ∧ h0_pendingCount.toInt ≤ 680) (b_bo_length : 0 ≤ bo_length.toInt ∧ bo_length.toInt ≤ 8192)   (hpc : 1 ≤ h0_pendingCount.toInt) (hde : 2 ≤ h0_depth.toInt ∧ h0_depth.toInt ≤ 100000) (hbo : bo_length.toInt + 4 ≤ 8192) : Met l y_CO_endLoop w_CO_endLoop ({ frames := 1, cells := 0, slots := 0, locals := 21 }) (va_Pc [.ref h0] (fun U => U.heap.size = sz ∧ va_P (dC, dI) cls [(h0, .inr (2, [.ref pr, .ref kn, .ref lt, .int h0_localCount, .ref pe, .int h0_pendingCount, .int h0_gives, .int h0_depth, .int h0_loopDepth, .ref to, .ref bo, .ref cs, .ref se])), (pe, .inl (cpe, 680, .inl gpe)), (bo, .inr (1, [.ref bob, .int bo_length])), (bob, .inl (cbob, 8192, .inl gbob))] U.heap ∧ va_K (dC, dI) cls [(cpe, .int), (cbob, .byte)] U ∧ va_D (fun _ => True) [(h0, .inr (2, [.ref pr, .ref kn, .ref lt, .int h0_localCount, .ref pe, .int h0_pendingCount, .int h0_gives, .int h0_depth, .int h0_loopDepth, .ref to, .ref bo, .ref cs, .ref se])), (pe, .inl (cpe, 680, .inl gpe)), (bo, .inr (1, [.ref bob, .int bo_length])), (bob, .inl (cbob, 8192, .inl gbob))])) (va_Qv (fun (u : (Nat → Int32) × Int32 × Int32 × Int32 × Int32) => match u with | (gbob2, bo_length2, h0_depth2, h0_loopDepth2, h0_pendingCount2) => (0 ≤ bo_length2.toInt ∧ bo_length2.toInt ≤ 8192) ∧ (0 ≤ h0_pendingCount2.toInt ∧ h0_pendingCount2.toInt ≤ 680) ∧ ((h0_pendingCount2.toInt = h0_pendingCount.toInt - 1 ∧ h0_loopDepth2 = gpe h0_pendingCount2.toNatClampNeg) ∧ h0_depth2.toInt = h0_depth.toInt - 2 ∧ bo_length2.toInt = bo_length.toInt + 4 ∧ bl gbob2 bo_length2.toNatClampNeg = bl gbob bo_length.toNatClampNeg ++ [12, 0, 11, 11])) (at_CO_endLoop dC dI h0 pr kn lt pe to bo cs se bob cpe cbob h0_localCount h0_gives gpe (va_A [(h0, .inr (2, [.ref pr, .ref kn, .ref lt, .int h0_localCount, .ref pe, .int h0_pendingCount, .int h0_gives, .int h0_depth, .int h0_loopDepth, .ref to, .ref bo, .ref cs, .ref se])), (pe, .inl (cpe, 680, .inl gpe)), (bo, .inr (1, [.ref bob, .int bo_length])), (bob, .inl (cbob, 8192, .inl gbob))] sz)) (va_A [(h0, .inr (2, [.ref pr, .ref kn, .ref lt, .int h0_localCount, .ref pe, .int h0_pendingCount, .int h0_gives, .int h0_depth, .int h0_loopDepth, .ref to, .ref bo, .ref cs, .ref se])), (pe, .inl (cpe, 680, .inl gpe)), (bo, .inr (1, [.ref bob, .int bo_length])), (bob, .inl (cbob, 8192, .inl gbob))] sz)) 0 0 (va_A [(h0, .inr (2, [.ref pr, .ref kn, .ref lt, .int h0_localCount, .ref pe, .int h0_pendingCount, .int h0_gives, .int h0_depth, .int h0_loopDepth, .ref to, .ref bo, .ref cs, .ref se])), (pe, .inl (cpe, 680, .inl gpe)), (bo, .inr (1, [.ref bob, .int bo_length])), (bob, .inl (cbob, 8192, .inl gbob))] sz) := by
  refine Met.ofW (cc := b_CO_endLoop) (maxL := 1) (ret := none) (by decide) rfl ?_
  intro p e s m args below meth c s₁ B hml hv
  obtain ⟨rfl, hsz, hP, hK, hD0⟩ := hv
  have hx := B.exec
  have hb := B.bytes
  have hr := B.returns
  have hts0 := atoms_spec (ws := w_CO_endLoop) B.pre
  have hts : ∀ w ∈ lw_g, w.before _ s = true := fun w h => hts0 w (List.mem_cons_of_mem _ h)
  have hown : s.vm.findClass R_CO = some m.cls := findClass_of_methodNamed B.named
  have hlocks := B.notSynchronized
  clear hts0
  subst hsz
  have hD := hD0.self (sz := s.heap.size)
  generalize hAe : va_A [(h0, .inr (2, [.ref pr, .ref kn, .ref lt, .int h0_localCount, .ref pe, .int h0_pendingCount, .int h0_gives, .int h0_depth, .int h0_loopDepth, .ref to, .ref bo, .ref cs, .ref se])), (pe, .inl (cpe, 680, .inl gpe)), (bo, .inr (1, [.ref bob, .int bo_length])), (bob, .inl (cbob, 8192, .inl gbob))] s.heap.size = A at hD ⊢
  have hA : ∀ q : Nat, s.heap.size ≤ q → A q := fun q h => by rw [← hAe]; exact Or.inr h
  clear hAe
  have hP : va_P (dC, dI) cls [(h0, .inr (2, [.ref pr, .ref kn, .ref lt, .int h0_localCount, .ref pe, .int h0_pendingCount, .int h0_gives, .int h0_depth, .int h0_loopDepth, .ref to, .ref bo, .ref cs, .ref se])), (pe, .inl (cpe, 680, .inl gpe)), (bo, .inr (1, [.ref bob, .int bo_length])), (bob, .inl (cbob, 8192, .inl gbob))] s.heap := hP
  have hl := lv_entry ([.ref h0]) (n := 1) (Nat.le_of_ble_eq_true rfl)
  rw [lg_entry_eq]
  generalize (lg_sl ([.ref h0]) ++ List.replicate (1 - (lg_sl ([.ref h0])).length) Slot.unset).toArray = ls at hl ⊢
  have hl : lv_has ls 1 [(0, .ref h0)] := hl
  have k0 : (0 : Int32).toInt = 0 := by decide
  refine w_gen (A := A) hP (fun H locs hP hS => ?_)
  have k2 : (2 : Int32).toInt = 2 := by decide
  have k11 : (11 : Int32).toInt = 11 := by decide
  have k12 : (12 : Int32).toInt = 12 := by decide
  refine lv_aload_n hx hb d_CO_endLoop_0 rfl (lv_at hl 0 rfl) ?_
  refine va_get (D := (dC, dI)) (ci := 2) (v := .ref bo) (C := R_CO) (T := F_CO) (N := 13) hx hb hts i_CO hown hK hP 0 rfl rfl 10 (by decide) (hts _ kF_CO_26) (fun _ h9 => h9) rfl d_CO_endLoop_1 ?_
  refine lv_bipush (v := 12) hx hb d_CO_endLoop_4 (by decide) ?_
  have hPc := hP.sub (ws' := [(bo, .inr (1, [.ref bob, .int bo_length])), (bob, .inl (cbob, 8192, .inl gbob))]) [2, 3] rfl
  have hDc := hD.sub (ws' := [(bo, .inr (1, [.ref bob, .int bo_length])), (bob, .inl (cbob, 8192, .inl gbob))]) [2, 3] (by decide) rfl
  have hKc := hK.sub (tys' := [(cbob, .byte)]) [1] rfl
  have hFc := va_free (wc := [(bo, .inr (1, [.ref bob, .int bo_length])), (bob, .inl (cbob, 8192, .inl gbob))]) hD hS hA [2, 3] rfl
  refine va_callv (va_runV (As := [.int 12]) (rest := []) ⟨hx, hb, hml, hown, hts⟩ (c_BR_put l dC dI bo bob H.size cbob 8192 bo_length gbob (by omega) (by omega) (by omega) 12) (cwV 1 hts (gV kM_CO_76 kV_BR_put kS_BR_put kI_BR kC_BR_put) rfl rfl rfl (by decide +kernel) ⟨Nat.le_of_ble_eq_true rfl, Nat.le_of_ble_eq_true rfl⟩) ⟨fun a U g mk z => by obtain ⟨z0, z1, zP, zK, zD⟩ := z; exact ⟨z0, z1, zP, va_K.moved (u := U) (U := U.calling g mk a) (Vm.Alike.refl U.vm) zK, zD⟩, va_recv hKc hPc (ci := 1) (q0 := 0) rfl rfl, fun U hU hW => ⟨rfl, by rw [hU], by rw [hU]; exact hPc, va_K.moved hW.alike hKc, hDc.weaken (fun _ _ _ _ => trivial)⟩⟩ rfl rfl hl.1 rfl (lv_room (Nat.le_of_ble_eq_true rfl)) d_CO_endLoop_6 ⟨(Nat.zero_le _), (Nat.zero_le _)⟩) hS (fun q _ h => hFc q h) hFc (fun u t H1 locs ht hvm hw hB hz1 hk1 hS => ?_)
  obtain ⟨n2, f3⟩ := u
  try dsimp only at hw
  have tn2 := br_put_in (by omega) (by omega) (by omega) hw
  have bn2 := br_put_bl (by omega) (by omega) (by omega) hw
  obtain ⟨hP1, hK1, hD1⟩ := hB
  rw [ht] at hP1
  obtain ⟨hP, hD⟩ := va_join (wr := [(h0, .inr (2, [.ref pr, .ref kn, .ref lt, .int h0_localCount, .ref pe, .int h0_pendingCount, .int h0_gives, .int h0_depth, .int h0_loopDepth, .ref to, .ref bo, .ref cs, .ref se])), (pe, .inl (cpe, 680, .inl gpe))]) (w1 := [(bo, .inr (1, [.ref bob, .int n2])), (bob, .inl (cbob, 8192, .inl f3))]) hP hD [2, 3] [0, 1] rfl rfl (by decide) (by decide) hk1 hFc hP1 hD1
  clear hPc hDc hKc hFc hz1 hk1 hP1 hK1 hD1
  generalize H1 = H at hP hS ⊢
  have hP : va_P (dC, dI) cls [(h0, .inr (2, [.ref pr, .ref kn, .ref lt, .int h0_localCount, .ref pe, .int h0_pendingCount, .int h0_gives, .int h0_depth, .int h0_loopDepth, .ref to, .ref bo, .ref cs, .ref se])), (pe, .inl (cpe, 680, .inl gpe)), (bo, .inr (1, [.ref bob, .int n2])), (bob, .inl (cbob, 8192, .inl f3))] H := hP
  have hD : va_D A [(h0, .inr (2, [.ref pr, .ref kn, .ref lt, .int h0_localCount, .ref pe, .int h0_pendingCount, .int h0_gives, .int h0_depth, .int h0_loopDepth, .ref to, .ref bo, .ref cs, .ref se])), (pe, .inl (cpe, 680, .inl gpe)), (bo, .inr (1, [.ref bob, .int n2])), (bob, .inl (cbob, 8192, .inl f3))] := hD
  refine lv_aload_n hx hb d_CO_endLoop_9 rfl (lv_at hl 0 rfl) ?_
  refine va_get (D := (dC, dI)) (ci := 2) (v := .ref bo) (C := R_CO) (T := F_CO) (N := 13) hx hb hts i_CO hown hK hP 0 rfl rfl 10 (by decide) (hts _ kF_CO_26) (fun _ h9 => h9) rfl d_CO_endLoop_10 ?_
  refine lv_iconst (v := 0) hx hb d_CO_endLoop_13 (by decide) ?_
  have hPc := hP.sub (ws' := [(bo, .inr (1, [.ref bob, .int n2])), (bob, .inl (cbob, 8192, .inl f3))]) [2, 3] rfl
  have hDc := hD.sub (ws' := [(bo, .inr (1, [.ref bob, .int n2])), (bob, .inl (cbob, 8192, .inl f3))]) [2, 3] (by decide) rfl
  have hKc := hK.sub (tys' := [(cbob, .byte)]) [1] rfl
  have hFc := va_free (wc := [(bo, .inr (1, [.ref bob, .int n2])), (bob, .inl (cbob, 8192, .inl f3))]) hD hS hA [2, 3] rfl
  refine va_callv (va_runV (As := [.int 0]) (rest := []) ⟨hx, hb, hml, hown, hts⟩ (c_BR_put l dC dI bo bob H.size cbob 8192 n2 f3 (by omega) (by omega) (by omega) 0) (cwV 1 hts (gV kM_CO_76 kV_BR_put kS_BR_put kI_BR kC_BR_put) rfl rfl rfl (by decide +kernel) ⟨Nat.le_of_ble_eq_true rfl, Nat.le_of_ble_eq_true rfl⟩) ⟨fun a U g mk z => by obtain ⟨z0, z1, zP, zK, zD⟩ := z; exact ⟨z0, z1, zP, va_K.moved (u := U) (U := U.calling g mk a) (Vm.Alike.refl U.vm) zK, zD⟩, va_recv hKc hPc (ci := 1) (q0 := 0) rfl rfl, fun U hU hW => ⟨rfl, by rw [hU], by rw [hU]; exact hPc, va_K.moved hW.alike hKc, hDc.weaken (fun _ _ _ _ => trivial)⟩⟩ rfl rfl hl.1 rfl (lv_room (Nat.le_of_ble_eq_true rfl)) d_CO_endLoop_14 ⟨(Nat.zero_le _), (Nat.zero_le _)⟩) hS (fun q _ h => hFc q h) hFc (fun u t H1 locs ht hvm hw hB hz1 hk1 hS => ?_)
  obtain ⟨n5, f6⟩ := u
  try dsimp only at hw
  have tn5 := br_put_in (by omega) (by omega) (by omega) hw
  have bn5 := br_put_bl (by omega) (by omega) (by omega) hw
  obtain ⟨hP1, hK1, hD1⟩ := hB
  rw [ht] at hP1
  obtain ⟨hP, hD⟩ := va_join (wr := [(h0, .inr (2, [.ref pr, .ref kn, .ref lt, .int h0_localCount, .ref pe, .int h0_pendingCount, .int h0_gives, .int h0_depth, .int h0_loopDepth, .ref to, .ref bo, .ref cs, .ref se])), (pe, .inl (cpe, 680, .inl gpe))]) (w1 := [(bo, .inr (1, [.ref bob, .int n5])), (bob, .inl (cbob, 8192, .inl f6))]) hP hD [2, 3] [0, 1] rfl rfl (by decide) (by decide) hk1 hFc hP1 hD1
  clear hPc hDc hKc hFc hz1 hk1 hP1 hK1 hD1
  generalize H1 = H at hP hS ⊢
  have hP : va_P (dC, dI) cls [(h0, .inr (2, [.ref pr, .ref kn, .ref lt, .int h0_localCount, .ref pe, .int h0_pendingCount, .int h0_gives, .int h0_depth, .int h0_loopDepth, .ref to, .ref bo, .ref cs, .ref se])), (pe, .inl (cpe, 680, .inl gpe)), (bo, .inr (1, [.ref bob, .int n5])), (bob, .inl (cbob, 8192, .inl f6))] H := hP
  have hD : va_D A [(h0, .inr (2, [.ref pr, .ref kn, .ref lt, .int h0_localCount, .ref pe, .int h0_pendingCount, .int h0_gives, .int h0_depth, .int h0_loopDepth, .ref to, .ref bo, .ref cs, .ref se])), (pe, .inl (cpe, 680, .inl gpe)), (bo, .inr (1, [.ref bob, .int n5])), (bob, .inl (cbob, 8192, .inl f6))] := hD
  refine lv_aload_n hx hb d_CO_endLoop_17 rfl (lv_at hl 0 rfl) ?_
  refine va_get (D := (dC, dI)) (ci := 2) (v := .ref bo) (C := R_CO) (T := F_CO) (N := 13) hx hb hts i_CO hown hK hP 0 rfl rfl 10 (by decide) (hts _ kF_CO_26) (fun _ h9 => h9) rfl d_CO_endLoop_18 ?_
  refine lv_bipush (v := 11) hx hb d_CO_endLoop_21 (by decide) ?_
  have hPc := hP.sub (ws' := [(bo, .inr (1, [.ref bob, .int n5])), (bob, .inl (cbob, 8192, .inl f6))]) [2, 3] rfl
  have hDc := hD.sub (ws' := [(bo, .inr (1, [.ref bob, .int n5])), (bob, .inl (cbob, 8192, .inl f6))]) [2, 3] (by decide) rfl
  have hKc := hK.sub (tys' := [(cbob, .byte)]) [1] rfl
  have hFc := va_free (wc := [(bo, .inr (1, [.ref bob, .int n5])), (bob, .inl (cbob, 8192, .inl f6))]) hD hS hA [2, 3] rfl
  refine va_callv (va_runV (As := [.int 11]) (rest := []) ⟨hx, hb, hml, hown, hts⟩ (c_BR_put l dC dI bo bob H.size cbob 8192 n5 f6 (by omega) (by omega) (by omega) 11) (cwV 1 hts (gV kM_CO_76 kV_BR_put kS_BR_put kI_BR kC_BR_put) rfl rfl rfl (by decide +kernel) ⟨Nat.le_of_ble_eq_true rfl, Nat.le_of_ble_eq_true rfl⟩) ⟨fun a U g mk z => by obtain ⟨z0, z1, zP, zK, zD⟩ := z; exact ⟨z0, z1, zP, va_K.moved (u := U) (U := U.calling g mk a) (Vm.Alike.refl U.vm) zK, zD⟩, va_recv hKc hPc (ci := 1) (q0 := 0) rfl rfl, fun U hU hW => ⟨rfl, by rw [hU], by rw [hU]; exact hPc, va_K.moved hW.alike hKc, hDc.weaken (fun _ _ _ _ => trivial)⟩⟩ rfl rfl hl.1 rfl (lv_room (Nat.le_of_ble_eq_true rfl)) d_CO_endLoop_23 ⟨(Nat.zero_le _), (Nat.zero_le _)⟩) hS (fun q _ h => hFc q h) hFc (fun u t H1 locs ht hvm hw hB hz1 hk1 hS => ?_)
  obtain ⟨n8, f9⟩ := u
  try dsimp only at hw
  have tn8 := br_put_in (by omega) (by omega) (by omega) hw
  have bn8 := br_put_bl (by omega) (by omega) (by omega) hw
  obtain ⟨hP1, hK1, hD1⟩ := hB
  rw [ht] at hP1
  obtain ⟨hP, hD⟩ := va_join (wr := [(h0, .inr (2, [.ref pr, .ref kn, .ref lt, .int h0_localCount, .ref pe, .int h0_pendingCount, .int h0_gives, .int h0_depth, .int h0_loopDepth, .ref to, .ref bo, .ref cs, .ref se])), (pe, .inl (cpe, 680, .inl gpe))]) (w1 := [(bo, .inr (1, [.ref bob, .int n8])), (bob, .inl (cbob, 8192, .inl f9))]) hP hD [2, 3] [0, 1] rfl rfl (by decide) (by decide) hk1 hFc hP1 hD1
  clear hPc hDc hKc hFc hz1 hk1 hP1 hK1 hD1
  generalize H1 = H at hP hS ⊢
  have hP : va_P (dC, dI) cls [(h0, .inr (2, [.ref pr, .ref kn, .ref lt, .int h0_localCount, .ref pe, .int h0_pendingCount, .int h0_gives, .int h0_depth, .int h0_loopDepth, .ref to, .ref bo, .ref cs, .ref se])), (pe, .inl (cpe, 680, .inl gpe)), (bo, .inr (1, [.ref bob, .int n8])), (bob, .inl (cbob, 8192, .inl f9))] H := hP
  have hD : va_D A [(h0, .inr (2, [.ref pr, .ref kn, .ref lt, .int h0_localCount, .ref pe, .int h0_pendingCount, .int h0_gives, .int h0_depth, .int h0_loopDepth, .ref to, .ref bo, .ref cs, .ref se])), (pe, .inl (cpe, 680, .inl gpe)), (bo, .inr (1, [.ref bob, .int n8])), (bob, .inl (cbob, 8192, .inl f9))] := hD
  refine lv_aload_n hx hb d_CO_endLoop_26 rfl (lv_at hl 0 rfl) ?_
  refine va_get (D := (dC, dI)) (ci := 2) (v := .ref bo) (C := R_CO) (T := F_CO) (N := 13) hx hb hts i_CO hown hK hP 0 rfl rfl 10 (by decide) (hts _ kF_CO_26) (fun _ h9 => h9) rfl d_CO_endLoop_27 ?_
  refine lv_bipush (v := 11) hx hb d_CO_endLoop_30 (by decide) ?_
  have hPc := hP.sub (ws' := [(bo, .inr (1, [.ref bob, .int n8])), (bob, .inl (cbob, 8192, .inl f9))]) [2, 3] rfl
  have hDc := hD.sub (ws' := [(bo, .inr (1, [.ref bob, .int n8])), (bob, .inl (cbob, 8192, .inl f9))]) [2, 3] (by decide) rfl
  have hKc := hK.sub (tys' := [(cbob, .byte)]) [1] rfl
  have hFc := va_free (wc := [(bo, .inr (1, [.ref bob, .int n8])), (bob, .inl (cbob, 8192, .inl f9))]) hD hS hA [2, 3] rfl
  refine va_callv (va_runV (As := [.int 11]) (rest := []) ⟨hx, hb, hml, hown, hts⟩ (c_BR_put l dC dI bo bob H.size cbob 8192 n8 f9 (by omega) (by omega) (by omega) 11) (cwV 1 hts (gV kM_CO_76 kV_BR_put kS_BR_put kI_BR kC_BR_put) rfl rfl rfl (by decide +kernel) ⟨Nat.le_of_ble_eq_true rfl, Nat.le_of_ble_eq_true rfl⟩) ⟨fun a U g mk z => by obtain ⟨z0, z1, zP, zK, zD⟩ := z; exact ⟨z0, z1, zP, va_K.moved (u := U) (U := U.calling g mk a) (Vm.Alike.refl U.vm) zK, zD⟩, va_recv hKc hPc (ci := 1) (q0 := 0) rfl rfl, fun U hU hW => ⟨rfl, by rw [hU], by rw [hU]; exact hPc, va_K.moved hW.alike hKc, hDc.weaken (fun _ _ _ _ => trivial)⟩⟩ rfl rfl hl.1 rfl (lv_room (Nat.le_of_ble_eq_true rfl)) d_CO_endLoop_32 ⟨(Nat.zero_le _), (Nat.zero_le _)⟩) hS (fun q _ h => hFc q h) hFc (fun u t H1 locs ht hvm hw hB hz1 hk1 hS => ?_)
  obtain ⟨n11, f12⟩ := u
  try dsimp only at hw
  have tn11 := br_put_in (by omega) (by omega) (by omega) hw
  have bn11 := br_put_bl (by omega) (by omega) (by omega) hw
  obtain ⟨hP1, hK1, hD1⟩ := hB
  rw [ht] at hP1
  obtain ⟨hP, hD⟩ := va_join (wr := [(h0, .inr (2, [.ref pr, .ref kn, .ref lt, .int h0_localCount, .ref pe, .int h0_pendingCount, .int h0_gives, .int h0_depth, .int h0_loopDepth, .ref to, .ref bo, .ref cs, .ref se])), (pe, .inl (cpe, 680, .inl gpe))]) (w1 := [(bo, .inr (1, [.ref bob, .int n11])), (bob, .inl (cbob, 8192, .inl f12))]) hP hD [2, 3] [0, 1] rfl rfl (by decide) (by decide) hk1 hFc hP1 hD1
  clear hPc hDc hKc hFc hz1 hk1 hP1 hK1 hD1
  generalize H1 = H at hP hS ⊢
  have hP : va_P (dC, dI) cls [(h0, .inr (2, [.ref pr, .ref kn, .ref lt, .int h0_localCount, .ref pe, .int h0_pendingCount, .int h0_gives, .int h0_depth, .int h0_loopDepth, .ref to, .ref bo, .ref cs, .ref se])), (pe, .inl (cpe, 680, .inl gpe)), (bo, .inr (1, [.ref bob, .int n11])), (bob, .inl (cbob, 8192, .inl f12))] H := hP
  have hD : va_D A [(h0, .inr (2, [.ref pr, .ref kn, .ref lt, .int h0_localCount, .ref pe, .int h0_pendingCount, .int h0_gives, .int h0_depth, .int h0_loopDepth, .ref to, .ref bo, .ref cs, .ref se])), (pe, .inl (cpe, 680, .inl gpe)), (bo, .inr (1, [.ref bob, .int n11])), (bob, .inl (cbob, 8192, .inl f12))] := hD
  refine lv_aload_n hx hb d_CO_endLoop_35 rfl (lv_at hl 0 rfl) ?_
  refine lv_dup hx hb d_CO_endLoop_36 rfl ?_
  refine va_get (D := (dC, dI)) (ci := 2) (v := .int h0_depth) (C := R_CO) (T := F_CO) (N := 13) hx hb hts i_CO hown hK hP 0 rfl rfl 7 (by decide) (hts _ kF_CO_115) (fun _ h9 => h9) rfl d_CO_endLoop_37 ?_
  refine lv_iconst (v := 2) hx hb d_CO_endLoop_40 (by decide) ?_
  refine lv_isub hx hb d_CO_endLoop_41 ?_
  refine lv_topi (fun x13 ex13 => ?_)
  have tx13 : x13.toInt = h0_depth.toInt - 2 := by have z := i32_sub ex13 (by omega) (by omega); omega
  refine va_put (D := (dC, dI)) (ci := 2) (v := .int x13) (ty := .int) (C := R_CO) (T := F_CO) (N := 13) hx hb hts i_CO t_CO t_CO_ok n_CO hown hK hP hD hS 0 rfl rfl 7 (by decide) (hts _ kF_CO_115) (fun _ h9 => h9) rfl (by decide +kernel) rfl rfl (Nat.le_of_ble_eq_true rfl) d_CO_endLoop_42 (fun H locs hP hD hS => ?_)
  refine lv_aload_n hx hb d_CO_endLoop_45 rfl (lv_at hl 0 rfl) ?_
  refine lv_aload_n hx hb d_CO_endLoop_46 rfl (lv_at hl 0 rfl) ?_
  have hPc := hP.sub (ws' := [(h0, .inr (2, [.ref pr, .ref kn, .ref lt, .int h0_localCount, .ref pe, .int h0_pendingCount, .int h0_gives, .int x13, .int h0_loopDepth, .ref to, .ref bo, .ref cs, .ref se])), (pe, .inl (cpe, 680, .inl gpe))]) [0, 1] rfl
  have hDc := hD.sub (ws' := [(h0, .inr (2, [.ref pr, .ref kn, .ref lt, .int h0_localCount, .ref pe, .int h0_pendingCount, .int h0_gives, .int x13, .int h0_loopDepth, .ref to, .ref bo, .ref cs, .ref se])), (pe, .inl (cpe, 680, .inl gpe))]) [0, 1] (by decide) rfl
  have hKc := hK.sub (tys' := [(cpe, .int)]) [0] rfl
  have hFc := va_free (wc := [(h0, .inr (2, [.ref pr, .ref kn, .ref lt, .int h0_localCount, .ref pe, .int h0_pendingCount, .int h0_gives, .int x13, .int h0_loopDepth, .ref to, .ref bo, .ref cs, .ref se])), (pe, .inl (cpe, 680, .inl gpe))]) hD hS hA [0, 1] rfl
  refine va_calli (va_runV (As := []) (rest := [.ref h0]) ⟨hx, hb, hml, hown, hts⟩ (c_CO_pop l dC dI H.size h0 pr kn lt pe to bo cs se cpe h0_localCount h0_pendingCount h0_gives x13 h0_loopDepth gpe (b_h0_pendingCount) (by (try dsimp only) <;> omega)) (cwV 0 hts (gV kM_CO_224 kV_CO_pop kS_CO_pop kI_CO kC_CO_pop) rfl rfl rfl (by decide +kernel) ⟨Nat.le_of_ble_eq_true rfl, Nat.le_of_ble_eq_true rfl⟩) ⟨fun a U g mk z => by obtain ⟨z0, z1, zP, zK, zD⟩ := z; exact ⟨z0, z1, zP, va_K.moved (u := U) (U := U.calling g mk a) (Vm.Alike.refl U.vm) zK, zD⟩, va_recv hKc hPc (ci := 2) (q0 := 0) rfl rfl, fun U hU hW => ⟨rfl, by rw [hU], by rw [hU]; exact hPc, va_K.moved hW.alike hKc, hDc.weaken (fun _ _ _ _ => trivial)⟩⟩ rfl rfl hl.1 rfl (lv_room (Nat.le_of_ble_eq_true rfl)) d_CO_endLoop_47 ⟨(Nat.zero_le _), (Nat.zero_le _)⟩) hS (fun q _ h => hFc q h) hFc (fun r14 u t H1 locs ht hvm hw hB hz1 hk1 hS => ?_)
  obtain ⟨n15, rfl⟩ : ∃ z, z = u := ⟨_, rfl⟩
  try dsimp only at hw
  obtain ⟨bn15, xr14⟩ := hw
  try clear hw
  obtain ⟨hP1, hK1, hD1⟩ := hB
  rw [ht] at hP1
  obtain ⟨hP, hD⟩ := va_join (wr := [(bo, .inr (1, [.ref bob, .int n11])), (bob, .inl (cbob, 8192, .inl f12))]) (w1 := [(h0, .inr (2, [.ref pr, .ref kn, .ref lt, .int h0_localCount, .ref pe, .int n15, .int h0_gives, .int x13, .int h0_loopDepth, .ref to, .ref bo, .ref cs, .ref se])), (pe, .inl (cpe, 680, .inl gpe))]) hP hD [0, 1] [2, 3] rfl rfl (by decide) (by decide) hk1 hFc hP1 hD1
  clear hPc hDc hKc hFc hz1 hk1 hP1 hK1 hD1
  generalize H1 = H at hP hS ⊢
  have hP : va_P (dC, dI) cls [(bo, .inr (1, [.ref bob, .int n11])), (bob, .inl (cbob, 8192, .inl f12)), (h0, .inr (2, [.ref pr, .ref kn, .ref lt, .int h0_localCount, .ref pe, .int n15, .int h0_gives, .int x13, .int h0_loopDepth, .ref to, .ref bo, .ref cs, .ref se])), (pe, .inl (cpe, 680, .inl gpe))] H := hP
  have hD : va_D A [(bo, .inr (1, [.ref bob, .int n11])), (bob, .inl (cbob, 8192, .inl f12)), (h0, .inr (2, [.ref pr, .ref kn, .ref lt, .int h0_localCount, .ref pe, .int n15, .int h0_gives, .int x13, .int h0_loopDepth, .ref to, .ref bo, .ref cs, .ref se])), (pe, .inl (cpe, 680, .inl gpe))] := hD
  refine va_put (D := (dC, dI)) (ci := 2) (v := .int r14) (ty := .int) (C := R_CO) (T := F_CO) (N := 13) hx hb hts i_CO t_CO t_CO_ok n_CO hown hK hP hD hS 2 rfl rfl 8 (by decide) (hts _ kF_CO_118) (fun _ h9 => h9) rfl (by decide +kernel) rfl rfl (Nat.le_of_ble_eq_true rfl) d_CO_endLoop_50 (fun H locs hP hD hS => ?_)
  have hP9 := hP.sub (ws' := [(h0, .inr (2, [.ref pr, .ref kn, .ref lt, .int h0_localCount, .ref pe, .int n15, .int h0_gives, .int x13, .int r14, .ref to, .ref bo, .ref cs, .ref se])), (pe, .inl (cpe, 680, .inl gpe)), (bo, .inr (1, [.ref bob, .int n11])), (bob, .inl (cbob, 8192, .inl f12))]) [2, 3, 0, 1] rfl
  have hD9 := hD.sub (ws' := [(h0, .inr (2, [.ref pr, .ref kn, .ref lt, .int h0_localCount, .ref pe, .int n15, .int h0_gives, .int x13, .int r14, .ref to, .ref bo, .ref cs, .ref se])), (pe, .inl (cpe, 680, .inl gpe)), (bo, .inr (1, [.ref bob, .int n11])), (bob, .inl (cbob, 8192, .inl f12))]) [2, 3, 0, 1] (by decide) rfl
  exact W.vret hx hb hr (fun t ht hW => ⟨⟨(f12, n11, x13, r14, n15), rfl, ⟨by (try dsimp only) <;> omega, bn15, ⟨xr14, by (try dsimp only) <;> omega, by (try dsimp only) <;> omega, by (try dsimp only); rw [bn11 (by omega), bn8 (by omega), bn5 (by omega), bn2 (by omega), List.append_assoc, List.append_assoc, List.append_assoc]; rfl⟩⟩, by rw [ht]; exact hP9, va_K.moved hW.alike hK, hD9⟩, hS.F ht⟩) hS.2.2 d_CO_endLoop_53

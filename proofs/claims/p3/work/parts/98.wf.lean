/-! WaferForge: feed, end, argument -/
abbrev b_WF_end : ByteArray := prog_1_method_3_code
def y_WF_end : MethodName := ⟨R_WF, "end", "(I)I"⟩
abbrev w_WF_end : List Cond := .code y_WF_end b_WF_end 2 (Option.some .int) :: lw_g
theorem kC_WF_end : Cond.code y_WF_end b_WF_end 2 (Option.some .int) ∈ lw_g := in_g 741 (by decide +kernel) rfl
theorem d_WF_end_0 : decode b_WF_end 0 = .ok (.iload_n 1, 1) := by decide +kernel
theorem d_WF_end_1 : decode b_WF_end 1 = .ok (.ifCond .lt 14, 3) := by decide +kernel
theorem d_WF_end_4 : decode b_WF_end 4 = .ok (.iload_n 1, 1) := by decide +kernel
theorem d_WF_end_5 : decode b_WF_end 5 = .ok (.aload_n 0, 1) := by decide +kernel
theorem d_WF_end_6 : decode b_WF_end 6 = .ok (.getfield 16, 3) := by decide +kernel
theorem d_WF_end_9 : decode b_WF_end 9 = .ok (.getfield 85, 3) := by decide +kernel
theorem d_WF_end_12 : decode b_WF_end 12 = .ok (.if_icmp .le 11, 3) := by decide +kernel
theorem d_WF_end_15 : decode b_WF_end 15 = .ok (.new 94, 3) := by decide +kernel
theorem d_WF_end_18 : decode b_WF_end 18 = .ok (.dup, 1) := by decide +kernel
theorem d_WF_end_19 : decode b_WF_end 19 = .ok (.invokespecial 96, 3) := by decide +kernel
theorem d_WF_end_22 : decode b_WF_end 22 = .ok (.athrow, 1) := by decide +kernel
theorem d_WF_end_23 : decode b_WF_end 23 = .ok (.aload_n 0, 1) := by decide +kernel
theorem d_WF_end_24 : decode b_WF_end 24 = .ok (.getfield 16, 3) := by decide +kernel
theorem d_WF_end_27 : decode b_WF_end 27 = .ok (.iload_n 1, 1) := by decide +kernel
theorem d_WF_end_28 : decode b_WF_end 28 = .ok (.putfield 85, 3) := by decide +kernel
theorem d_WF_end_31 : decode b_WF_end 31 = .ok (.iload_n 1, 1) := by decide +kernel
theorem d_WF_end_32 : decode b_WF_end 32 = .ok (.ireturn, 1) := by decide +kernel
theorem kF_WF_16 : Cond.fieldLink R_WF 16 "WaferForge" "tape" "LWaferForge$ByteRow;" ∈ lw_g := in_g 596 (by decide +kernel) rfl
theorem kF_WF_85 : Cond.fieldLink R_WF 85 "WaferForge$ByteRow" "length" "I" ∈ lw_g := in_g 57 (by decide +kernel) rfl
abbrev at_WF_end (dC : Nat → ClassId) (dI : Nat → Nat → Nat) (sa : Nat → Nat) (h0 ta rw ag h0_wafer_r h0_spare_r h0_program_r h0_coder_r h0_reader_r h0_validator_r h0_machine_r tab : Nat) (h0_argumentCount : Int32) (h0_reason : Int32) (h0_place : Int32) (h0_loaded : Int32) (A : Nat → Prop) (u : Int32) (t : State) : Prop := match u with | ta_length => va_P (dC, dI) cls [(h0, .inr (0, [.ref ta, .ref rw, .ref ag, .int h0_argumentCount, .int h0_reason, .int h0_place, .int h0_loaded, .ref h0_wafer_r, .ref h0_spare_r, .ref h0_program_r, .ref h0_coder_r, .ref h0_reader_r, .ref h0_validator_r, .ref h0_machine_r])), (ta, .inr (1, [.ref tab, .int ta_length]))] t.heap ∧ va_K (dC, dI) cls [] t ∧ va_D A [(h0, .inr (0, [.ref ta, .ref rw, .ref ag, .int h0_argumentCount, .int h0_reason, .int h0_place, .int h0_loaded, .ref h0_wafer_r, .ref h0_spare_r, .ref h0_program_r, .ref h0_coder_r, .ref h0_reader_r, .ref h0_validator_r, .ref h0_machine_r])), (ta, .inr (1, [.ref tab, .int ta_length]))]
set_option maxHeartbeats 4000000 in
set_option maxRecDepth 100000 in
theorem c_WF_end (l : Launch) (hlt : l.stackTraces = false) (dC : Nat → ClassId) (dI : Nat → Nat → Nat) (sz : Nat) (sa : Nat → Nat) (h0 ta rw ag h0_wafer_r h0_spare_r h0_program_r h0_coder_r h0_reader_r h0_validator_r h0_machine_r tab : Nat) (h0_argumentCount : Int32) (h0_reason : Int32) (h0_place : Int32) (h0_loaded : Int32) (ta_length : Int32)  (b_ta_length : 0 ≤ ta_length.toInt ∧ ta_length.toInt ≤ 2000) (p0 : Int32)   : tz_Met l y_WF_end w_WF_end ({ frames := 6, cells := 1, slots := 6, locals := 90 }) (va_Pc [.ref h0, .int p0] (fun U => U.heap.size = sz ∧ va_P (dC, dI) cls [(h0, .inr (0, [.ref ta, .ref rw, .ref ag, .int h0_argumentCount, .int h0_reason, .int h0_place, .int h0_loaded, .ref h0_wafer_r, .ref h0_spare_r, .ref h0_program_r, .ref h0_coder_r, .ref h0_reader_r, .ref h0_validator_r, .ref h0_machine_r])), (ta, .inr (1, [.ref tab, .int ta_length]))] U.heap ∧ va_K (dC, dI) cls [] U ∧ va_D (fun _ => True) [(h0, .inr (0, [.ref ta, .ref rw, .ref ag, .int h0_argumentCount, .int h0_reason, .int h0_place, .int h0_loaded, .ref h0_wafer_r, .ref h0_spare_r, .ref h0_program_r, .ref h0_coder_r, .ref h0_reader_r, .ref h0_validator_r, .ref h0_machine_r])), (ta, .inr (1, [.ref tab, .int ta_length]))] ∧ sw sa (va_A [(h0, .inr (0, [.ref ta, .ref rw, .ref ag, .int h0_argumentCount, .int h0_reason, .int h0_place, .int h0_loaded, .ref h0_wafer_r, .ref h0_spare_r, .ref h0_program_r, .ref h0_coder_r, .ref h0_reader_r, .ref h0_validator_r, .ref h0_machine_r])), (ta, .inr (1, [.ref tab, .int ta_length]))] sz) U U.heap)) (tq_Q (tq_i (fun (r : Int32) (u : Int32) => match u with | ta_length2 => (0 ≤ ta_length2.toInt ∧ ta_length2.toInt ≤ 2000) ∧ (ta_length2 = p0 ∧ r = p0 ∧ 0 ≤ p0.toInt ∧ p0.toInt ≤ ta_length.toInt)) "java/lang/IllegalArgumentException" (fun (u : Int32) => match u with | ta_length2 => (0 ≤ ta_length2.toInt ∧ ta_length2.toInt ≤ 2000) ∧ (ta_length2 = ta_length ∧ (p0.toInt < 0 ∨ ta_length.toInt < p0.toInt)))) (at_WF_end dC dI sa h0 ta rw ag h0_wafer_r h0_spare_r h0_program_r h0_coder_r h0_reader_r h0_validator_r h0_machine_r tab h0_argumentCount h0_reason h0_place h0_loaded (va_A [(h0, .inr (0, [.ref ta, .ref rw, .ref ag, .int h0_argumentCount, .int h0_reason, .int h0_place, .int h0_loaded, .ref h0_wafer_r, .ref h0_spare_r, .ref h0_program_r, .ref h0_coder_r, .ref h0_reader_r, .ref h0_validator_r, .ref h0_machine_r])), (ta, .inr (1, [.ref tab, .int ta_length]))] sz)) (va_A [(h0, .inr (0, [.ref ta, .ref rw, .ref ag, .int h0_argumentCount, .int h0_reason, .int h0_place, .int h0_loaded, .ref h0_wafer_r, .ref h0_spare_r, .ref h0_program_r, .ref h0_coder_r, .ref h0_reader_r, .ref h0_validator_r, .ref h0_machine_r])), (ta, .inr (1, [.ref tab, .int ta_length]))] sz)) (tz_k 0 0 1 6) (va_A [(h0, .inr (0, [.ref ta, .ref rw, .ref ag, .int h0_argumentCount, .int h0_reason, .int h0_place, .int h0_loaded, .ref h0_wafer_r, .ref h0_spare_r, .ref h0_program_r, .ref h0_coder_r, .ref h0_reader_r, .ref h0_validator_r, .ref h0_machine_r])), (ta, .inr (1, [.ref tab, .int ta_length]))] sz) := by
  refine tz_ofW (cc := b_WF_end) (maxL := 2) (ret := (Option.some .int)) (by decide) rfl ?_
  intro p e s m args below meth c s₁ B hml hno hv
  obtain ⟨rfl, hsz, hP, hK, hD0, hSW⟩ := hv
  have hx := B.exec
  have hb := B.bytes
  have hr := B.returns
  have hts0 := atoms_spec (ws := w_WF_end) B.pre
  have hts : ∀ w ∈ lw_g, w.before _ s = true := fun w h => hts0 w (List.mem_cons_of_mem _ h)
  have hown : s.vm.findClass R_WF = some m.cls := findClass_of_methodNamed B.named
  have hlocks := B.notSynchronized
  clear hts0
  subst hsz
  have hD := hD0.self (sz := s.heap.size)
  generalize hAe : va_A [(h0, .inr (0, [.ref ta, .ref rw, .ref ag, .int h0_argumentCount, .int h0_reason, .int h0_place, .int h0_loaded, .ref h0_wafer_r, .ref h0_spare_r, .ref h0_program_r, .ref h0_coder_r, .ref h0_reader_r, .ref h0_validator_r, .ref h0_machine_r])), (ta, .inr (1, [.ref tab, .int ta_length]))] s.heap.size = A at hD hSW ⊢
  have hA : ∀ q : Nat, s.heap.size ≤ q → A q := fun q h => by rw [← hAe]; exact Or.inr h
  clear hAe
  have hP : va_P (dC, dI) cls [(h0, .inr (0, [.ref ta, .ref rw, .ref ag, .int h0_argumentCount, .int h0_reason, .int h0_place, .int h0_loaded, .ref h0_wafer_r, .ref h0_spare_r, .ref h0_program_r, .ref h0_coder_r, .ref h0_reader_r, .ref h0_validator_r, .ref h0_machine_r])), (ta, .inr (1, [.ref tab, .int ta_length]))] s.heap := hP
  have hl := lv_entry ([.ref h0, .int p0]) (n := 2) (Nat.le_of_ble_eq_true rfl)
  rw [lg_entry_eq]
  generalize (lg_sl ([.ref h0, .int p0]) ++ List.replicate (2 - (lg_sl ([.ref h0, .int p0])).length) Slot.unset).toArray = ls at hl ⊢
  have hl : lv_has ls 2 [(0, .ref h0), (1, .int p0)] := hl
  have k0 : (0 : Int32).toInt = 0 := by decide
  refine w_gen (A := A) hP (fun H locs hP hS => ?_)
  have lo_p0 := i32_lo p0
  have hi_p0 := i32_hi p0
  refine lv_iload_n hx hb d_WF_end_0 rfl (lv_at hl 1 rfl) ?_
  refine w_cut (pc2 := 15) (σ := Unit) (fun u H locs ls => match u with | _ => (p0.toInt < 0 ∨ ta_length.toInt < p0.toInt) ∧ va_P (dC, dI) cls [(h0, .inr (0, [.ref ta, .ref rw, .ref ag, .int h0_argumentCount, .int h0_reason, .int h0_place, .int h0_loaded, .ref h0_wafer_r, .ref h0_spare_r, .ref h0_program_r, .ref h0_coder_r, .ref h0_reader_r, .ref h0_validator_r, .ref h0_machine_r])), (ta, .inr (1, [.ref tab, .int ta_length]))] H ∧ va_D A [(h0, .inr (0, [.ref ta, .ref rw, .ref ag, .int h0_argumentCount, .int h0_reason, .int h0_place, .int h0_loaded, .ref h0_wafer_r, .ref h0_spare_r, .ref h0_program_r, .ref h0_coder_r, .ref h0_reader_r, .ref h0_validator_r, .ref h0_machine_r])), (ta, .inr (1, [.ref tab, .int ta_length]))] ∧ va_S A s.heap H locs ∧ lv_has ls 2 []) (fun u => match u with | _ => []) ?_ (fun jn15 => ?_)
  · intro u H locs ls hI
    obtain ⟨y15, hP, hD, hS, hl⟩ := hI
    have hP9 := hP.sub (ws' := [(h0, .inr (0, [.ref ta, .ref rw, .ref ag, .int h0_argumentCount, .int h0_reason, .int h0_place, .int h0_loaded, .ref h0_wafer_r, .ref h0_spare_r, .ref h0_program_r, .ref h0_coder_r, .ref h0_reader_r, .ref h0_validator_r, .ref h0_machine_r])), (ta, .inr (1, [.ref tab, .int ta_length]))]) [0, 1] rfl
    have hD9 := hD.sub (ws' := [(h0, .inr (0, [.ref ta, .ref rw, .ref ag, .int h0_argumentCount, .int h0_reason, .int h0_place, .int h0_loaded, .ref h0_wafer_r, .ref h0_spare_r, .ref h0_program_r, .ref h0_coder_r, .ref h0_reader_r, .ref h0_validator_r, .ref h0_machine_r])), (ta, .inr (1, [.ref tab, .int ta_length]))]) [0, 1] (by decide) rfl
    exact tz_throwNew hx hb hno hlocks hlt (hl.1.trans hml.symm) hown (by decide +kernel) (by decide +kernel) (fun U hU hW => eb_WF_ia hts hSW hS U hU hW) d_WF_end_15 d_WF_end_18 d_WF_end_19 d_WF_end_22 (by decide) (Nat.le_of_ble_eq_true rfl) (Nat.le_of_ble_eq_true rfl) (Nat.le_of_ble_eq_true rfl) (fun _ => rfl) (fun x t h1 h2 h3 h4 => ⟨⟨ta_length, ⟨⟨b_ta_length, ⟨rfl, by omega⟩⟩, h3⟩, vp_ext hP9 h2, va_K.moved h4.alike hK, hD9⟩, vs_ext hS h1 h2⟩) hS.2.2
  · skip
    refine lv_if_lt (tgt := 15) hx hb d_WF_end_1 (by decide) (fun c1 => ?_) (fun c1 => ?_)
    · have q1 := ltI c1
      exact jn15 () _ _ _ ⟨by (try dsimp only) <;> omega, hP, hD, hS, lv_sub hl [] rfl⟩
    · have q1 := nltI c1
      refine lv_iload_n hx hb d_WF_end_4 rfl (lv_at hl 1 rfl) ?_
      refine lv_aload_n hx hb d_WF_end_5 rfl (lv_at hl 0 rfl) ?_
      refine va_get (D := (dC, dI)) (ci := 0) (v := .ref ta) (C := R_WF) (T := F_WF) (N := 14) hx hb hts i_WF hown hK hP 0 rfl rfl 0 (by decide) (hts _ kF_WF_16) (fun _ h9 => h9) rfl d_WF_end_6 ?_
      refine va_get (D := (dC, dI)) (ci := 1) (v := .int ta_length) (C := R_BR) (T := F_BR) (N := 2) hx hb hts i_BR hown hK hP 1 rfl rfl 1 (by decide) (hts _ kF_WF_85) (fun _ h9 => h9) rfl d_WF_end_9 ?_
      refine lv_icmp_le (tgt := 23) hx hb d_WF_end_12 (by decide) (fun c12 => ?_) (fun c12 => ?_)
      · have q12 := leI c12
        refine lv_aload_n hx hb d_WF_end_23 rfl (lv_at hl 0 rfl) ?_
        refine va_get (D := (dC, dI)) (ci := 0) (v := .ref ta) (C := R_WF) (T := F_WF) (N := 14) hx hb hts i_WF hown hK hP 0 rfl rfl 0 (by decide) (hts _ kF_WF_16) (fun _ h9 => h9) rfl d_WF_end_24 ?_
        refine lv_iload_n hx hb d_WF_end_27 rfl (lv_at hl 1 rfl) ?_
        refine va_put (D := (dC, dI)) (ci := 1) (v := .int p0) (ty := .int) (C := R_BR) (T := F_BR) (N := 2) hx hb hts i_BR t_BR t_BR_ok n_BR hown hK hP hD hS 1 rfl rfl 1 (by decide) (hts _ kF_WF_85) (fun _ h9 => h9) rfl (by decide +kernel) rfl rfl (Nat.le_of_ble_eq_true rfl) d_WF_end_28 (fun H locs hP hD hS => ?_)
        refine lv_iload_n hx hb d_WF_end_31 rfl (lv_at hl 1 rfl) ?_
        have hP9 := hP.sub (ws' := [(h0, .inr (0, [.ref ta, .ref rw, .ref ag, .int h0_argumentCount, .int h0_reason, .int h0_place, .int h0_loaded, .ref h0_wafer_r, .ref h0_spare_r, .ref h0_program_r, .ref h0_coder_r, .ref h0_reader_r, .ref h0_validator_r, .ref h0_machine_r])), (ta, .inr (1, [.ref tab, .int p0]))]) [0, 1] rfl
        have hD9 := hD.sub (ws' := [(h0, .inr (0, [.ref ta, .ref rw, .ref ag, .int h0_argumentCount, .int h0_reason, .int h0_place, .int h0_loaded, .ref h0_wafer_r, .ref h0_spare_r, .ref h0_program_r, .ref h0_coder_r, .ref h0_reader_r, .ref h0_validator_r, .ref h0_machine_r])), (ta, .inr (1, [.ref tab, .int p0]))]) [0, 1] (by decide) rfl
        exact tz_up (fun _ => rfl) (W.iret (v := p0) hx hb hr (fun t ht hW => ⟨⟨p0, ⟨p0, rfl, ⟨by (try dsimp only) <;> omega, ⟨rfl, rfl, by omega, by omega⟩⟩⟩, by rw [ht]; exact hP9, va_K.moved hW.alike hK, hD9⟩, hS.F ht⟩) hS.2.2 d_WF_end_32)
      · have q12 := nleI c12
        exact jn15 () _ _ _ ⟨by (try dsimp only) <;> omega, hP, hD, hS, lv_sub hl [] rfl⟩
abbrev b_WF_feed : ByteArray := prog_1_method_2_code
def y_WF_feed : MethodName := ⟨R_WF, "feed", "(IIIII)I"⟩
abbrev w_WF_feed : List Cond := .code y_WF_feed b_WF_feed 6 (Option.some .int) :: lw_g
theorem kC_WF_feed : Cond.code y_WF_feed b_WF_feed 6 (Option.some .int) ∈ lw_g := in_g 658 (by decide +kernel) rfl
theorem d_WF_feed_0 : decode b_WF_feed 0 = .ok (.aload_n 0, 1) := by decide +kernel
theorem d_WF_feed_1 : decode b_WF_feed 1 = .ok (.getfield 16, 3) := by decide +kernel
theorem d_WF_feed_4 : decode b_WF_feed 4 = .ok (.getfield 85, 3) := by decide +kernel
theorem d_WF_feed_7 : decode b_WF_feed 7 = .ok (.bipush 20, 2) := by decide +kernel
theorem d_WF_feed_9 : decode b_WF_feed 9 = .ok (.iadd, 1) := by decide +kernel
theorem d_WF_feed_10 : decode b_WF_feed 10 = .ok (.sipush 2000, 3) := by decide +kernel
theorem d_WF_feed_13 : decode b_WF_feed 13 = .ok (.if_icmp .le 11, 3) := by decide +kernel
theorem d_WF_feed_16 : decode b_WF_feed 16 = .ok (.new 88, 3) := by decide +kernel
theorem d_WF_feed_19 : decode b_WF_feed 19 = .ok (.dup, 1) := by decide +kernel
theorem d_WF_feed_20 : decode b_WF_feed 20 = .ok (.invokespecial 90, 3) := by decide +kernel
theorem d_WF_feed_23 : decode b_WF_feed 23 = .ok (.athrow, 1) := by decide +kernel
theorem d_WF_feed_24 : decode b_WF_feed 24 = .ok (.aload_n 0, 1) := by decide +kernel
theorem d_WF_feed_25 : decode b_WF_feed 25 = .ok (.getfield 16, 3) := by decide +kernel
theorem d_WF_feed_28 : decode b_WF_feed 28 = .ok (.iload_n 1, 1) := by decide +kernel
theorem d_WF_feed_29 : decode b_WF_feed 29 = .ok (.invokevirtual 91, 3) := by decide +kernel
theorem d_WF_feed_32 : decode b_WF_feed 32 = .ok (.aload_n 0, 1) := by decide +kernel
theorem d_WF_feed_33 : decode b_WF_feed 33 = .ok (.getfield 16, 3) := by decide +kernel
theorem d_WF_feed_36 : decode b_WF_feed 36 = .ok (.iload_n 2, 1) := by decide +kernel
theorem d_WF_feed_37 : decode b_WF_feed 37 = .ok (.invokevirtual 91, 3) := by decide +kernel
theorem d_WF_feed_40 : decode b_WF_feed 40 = .ok (.aload_n 0, 1) := by decide +kernel
theorem d_WF_feed_41 : decode b_WF_feed 41 = .ok (.getfield 16, 3) := by decide +kernel
theorem d_WF_feed_44 : decode b_WF_feed 44 = .ok (.iload_n 3, 1) := by decide +kernel
theorem d_WF_feed_45 : decode b_WF_feed 45 = .ok (.invokevirtual 91, 3) := by decide +kernel
theorem d_WF_feed_48 : decode b_WF_feed 48 = .ok (.aload_n 0, 1) := by decide +kernel
theorem d_WF_feed_49 : decode b_WF_feed 49 = .ok (.getfield 16, 3) := by decide +kernel
theorem d_WF_feed_52 : decode b_WF_feed 52 = .ok (.iload 4, 2) := by decide +kernel
theorem d_WF_feed_54 : decode b_WF_feed 54 = .ok (.invokevirtual 91, 3) := by decide +kernel
theorem d_WF_feed_57 : decode b_WF_feed 57 = .ok (.aload_n 0, 1) := by decide +kernel
theorem d_WF_feed_58 : decode b_WF_feed 58 = .ok (.getfield 16, 3) := by decide +kernel
theorem d_WF_feed_61 : decode b_WF_feed 61 = .ok (.iload 5, 2) := by decide +kernel
theorem d_WF_feed_63 : decode b_WF_feed 63 = .ok (.invokevirtual 91, 3) := by decide +kernel
theorem d_WF_feed_66 : decode b_WF_feed 66 = .ok (.aload_n 0, 1) := by decide +kernel
theorem d_WF_feed_67 : decode b_WF_feed 67 = .ok (.getfield 16, 3) := by decide +kernel
theorem d_WF_feed_70 : decode b_WF_feed 70 = .ok (.getfield 85, 3) := by decide +kernel
theorem d_WF_feed_73 : decode b_WF_feed 73 = .ok (.ireturn, 1) := by decide +kernel
theorem kM_WF_91 : Cond.methodLink R_WF 91 y_BR_putInt ∈ lw_g := in_g 726 (by decide +kernel) rfl
theorem kV_BR_putInt : Cond.instanceMethod y_BR_putInt ∈ lw_g := in_g 727 (by decide +kernel) rfl
theorem kS_BR_putInt : Cond.selects R_BR y_BR_putInt y_BR_putInt ∈ lw_g := in_g 728 (by decide +kernel) rfl
abbrev at_WF_feed (dC : Nat → ClassId) (dI : Nat → Nat → Nat) (sa : Nat → Nat) (h0 ta rw ag h0_wafer_r h0_spare_r h0_program_r h0_coder_r h0_reader_r h0_validator_r h0_machine_r tab : Nat) (ctab : ClassId) (h0_argumentCount : Int32) (h0_reason : Int32) (h0_place : Int32) (h0_loaded : Int32) (A : Nat → Prop) (u : (Nat → Int32) × Int32) (t : State) : Prop := match u with | (gtab, ta_length) => va_P (dC, dI) cls [(h0, .inr (0, [.ref ta, .ref rw, .ref ag, .int h0_argumentCount, .int h0_reason, .int h0_place, .int h0_loaded, .ref h0_wafer_r, .ref h0_spare_r, .ref h0_program_r, .ref h0_coder_r, .ref h0_reader_r, .ref h0_validator_r, .ref h0_machine_r])), (ta, .inr (1, [.ref tab, .int ta_length])), (tab, .inl (ctab, 2000, .inl gtab))] t.heap ∧ va_K (dC, dI) cls [(ctab, .byte)] t ∧ va_D A [(h0, .inr (0, [.ref ta, .ref rw, .ref ag, .int h0_argumentCount, .int h0_reason, .int h0_place, .int h0_loaded, .ref h0_wafer_r, .ref h0_spare_r, .ref h0_program_r, .ref h0_coder_r, .ref h0_reader_r, .ref h0_validator_r, .ref h0_machine_r])), (ta, .inr (1, [.ref tab, .int ta_length])), (tab, .inl (ctab, 2000, .inl gtab))]
set_option maxHeartbeats 4000000 in
set_option maxRecDepth 100000 in
theorem c_WF_feed (l : Launch) (hlt : l.stackTraces = false) (dC : Nat → ClassId) (dI : Nat → Nat → Nat) (sz : Nat) (sa : Nat → Nat) (h0 ta rw ag h0_wafer_r h0_spare_r h0_program_r h0_coder_r h0_reader_r h0_validator_r h0_machine_r tab : Nat) (ctab : ClassId) (h0_argumentCount : Int32) (h0_reason : Int32) (h0_place : Int32) (h0_loaded : Int32) (ta_length : Int32) (gtab : Nat → Int32)  (b_ta_length : 0 ≤ ta_length.toInt ∧ ta_length.toInt ≤ 2000) (p0 : Int32) (p1 : Int32) (p2 : Int32) (p3 : Int32) (p4 : Int32)   : tz_Met l y_WF_feed w_WF_feed ({ frames := 6, cells := 1, slots := 6, locals := 90 }) (va_Pc [.ref h0, .int p0, .int p1, .int p2, .int p3, .int p4] (fun U => U.heap.size = sz ∧ va_P (dC, dI) cls [(h0, .inr (0, [.ref ta, .ref rw, .ref ag, .int h0_argumentCount, .int h0_reason, .int h0_place, .int h0_loaded, .ref h0_wafer_r, .ref h0_spare_r, .ref h0_program_r, .ref h0_coder_r, .ref h0_reader_r, .ref h0_validator_r, .ref h0_machine_r])), (ta, .inr (1, [.ref tab, .int ta_length])), (tab, .inl (ctab, 2000, .inl gtab))] U.heap ∧ va_K (dC, dI) cls [(ctab, .byte)] U ∧ va_D (fun _ => True) [(h0, .inr (0, [.ref ta, .ref rw, .ref ag, .int h0_argumentCount, .int h0_reason, .int h0_place, .int h0_loaded, .ref h0_wafer_r, .ref h0_spare_r, .ref h0_program_r, .ref h0_coder_r, .ref h0_reader_r, .ref h0_validator_r, .ref h0_machine_r])), (ta, .inr (1, [.ref tab, .int ta_length])), (tab, .inl (ctab, 2000, .inl gtab))] ∧ sw sa (va_A [(h0, .inr (0, [.ref ta, .ref rw, .ref ag, .int h0_argumentCount, .int h0_reason, .int h0_place, .int h0_loaded, .ref h0_wafer_r, .ref h0_spare_r, .ref h0_program_r, .ref h0_coder_r, .ref h0_reader_r, .ref h0_validator_r, .ref h0_machine_r])), (ta, .inr (1, [.ref tab, .int ta_length])), (tab, .inl (ctab, 2000, .inl gtab))] sz) U U.heap)) (tq_Q (tq_i (fun (r : Int32) (u : (Nat → Int32) × Int32) => match u with | (gtab2, ta_length2) => (0 ≤ ta_length2.toInt ∧ ta_length2.toInt ≤ 2000) ∧ (ta_length2.toInt = ta_length.toInt + 20 ∧ r = ta_length2)) "java/lang/IndexOutOfBoundsException" (fun (u : (Nat → Int32) × Int32) => match u with | (gtab2, ta_length2) => (0 ≤ ta_length2.toInt ∧ ta_length2.toInt ≤ 2000) ∧ (ta_length2 = ta_length ∧ 1980 < ta_length.toInt))) (at_WF_feed dC dI sa h0 ta rw ag h0_wafer_r h0_spare_r h0_program_r h0_coder_r h0_reader_r h0_validator_r h0_machine_r tab ctab h0_argumentCount h0_reason h0_place h0_loaded (va_A [(h0, .inr (0, [.ref ta, .ref rw, .ref ag, .int h0_argumentCount, .int h0_reason, .int h0_place, .int h0_loaded, .ref h0_wafer_r, .ref h0_spare_r, .ref h0_program_r, .ref h0_coder_r, .ref h0_reader_r, .ref h0_validator_r, .ref h0_machine_r])), (ta, .inr (1, [.ref tab, .int ta_length])), (tab, .inl (ctab, 2000, .inl gtab))] sz)) (va_A [(h0, .inr (0, [.ref ta, .ref rw, .ref ag, .int h0_argumentCount, .int h0_reason, .int h0_place, .int h0_loaded, .ref h0_wafer_r, .ref h0_spare_r, .ref h0_program_r, .ref h0_coder_r, .ref h0_reader_r, .ref h0_validator_r, .ref h0_machine_r])), (ta, .inr (1, [.ref tab, .int ta_length])), (tab, .inl (ctab, 2000, .inl gtab))] sz)) (tz_k 0 0 1 6) (va_A [(h0, .inr (0, [.ref ta, .ref rw, .ref ag, .int h0_argumentCount, .int h0_reason, .int h0_place, .int h0_loaded, .ref h0_wafer_r, .ref h0_spare_r, .ref h0_program_r, .ref h0_coder_r, .ref h0_reader_r, .ref h0_validator_r, .ref h0_machine_r])), (ta, .inr (1, [.ref tab, .int ta_length])), (tab, .inl (ctab, 2000, .inl gtab))] sz) := by
  refine tz_ofW (cc := b_WF_feed) (maxL := 6) (ret := (Option.some .int)) (by decide) rfl ?_
  intro p e s m args below meth c s₁ B hml hno hv
  obtain ⟨rfl, hsz, hP, hK, hD0, hSW⟩ := hv
  have hx := B.exec
  have hb := B.bytes
  have hr := B.returns
  have hts0 := atoms_spec (ws := w_WF_feed) B.pre
  have hts : ∀ w ∈ lw_g, w.before _ s = true := fun w h => hts0 w (List.mem_cons_of_mem _ h)
  have hown : s.vm.findClass R_WF = some m.cls := findClass_of_methodNamed B.named
  have hlocks := B.notSynchronized
  clear hts0
  subst hsz
  have hD := hD0.self (sz := s.heap.size)
  generalize hAe : va_A [(h0, .inr (0, [.ref ta, .ref rw, .ref ag, .int h0_argumentCount, .int h0_reason, .int h0_place, .int h0_loaded, .ref h0_wafer_r, .ref h0_spare_r, .ref h0_program_r, .ref h0_coder_r, .ref h0_reader_r, .ref h0_validator_r, .ref h0_machine_r])), (ta, .inr (1, [.ref tab, .int ta_length])), (tab, .inl (ctab, 2000, .inl gtab))] s.heap.size = A at hD hSW ⊢
  have hA : ∀ q : Nat, s.heap.size ≤ q → A q := fun q h => by rw [← hAe]; exact Or.inr h
  clear hAe
  have hP : va_P (dC, dI) cls [(h0, .inr (0, [.ref ta, .ref rw, .ref ag, .int h0_argumentCount, .int h0_reason, .int h0_place, .int h0_loaded, .ref h0_wafer_r, .ref h0_spare_r, .ref h0_program_r, .ref h0_coder_r, .ref h0_reader_r, .ref h0_validator_r, .ref h0_machine_r])), (ta, .inr (1, [.ref tab, .int ta_length])), (tab, .inl (ctab, 2000, .inl gtab))] s.heap := hP
  have hl := lv_entry ([.ref h0, .int p0, .int p1, .int p2, .int p3, .int p4]) (n := 6) (Nat.le_of_ble_eq_true rfl)
  rw [lg_entry_eq]
  generalize (lg_sl ([.ref h0, .int p0, .int p1, .int p2, .int p3, .int p4]) ++ List.replicate (6 - (lg_sl ([.ref h0, .int p0, .int p1, .int p2, .int p3, .int p4])).length) Slot.unset).toArray = ls at hl ⊢
  have hl : lv_has ls 6 [(0, .ref h0), (1, .int p0), (2, .int p1), (3, .int p2), (4, .int p3), (5, .int p4)] := hl
  have k0 : (0 : Int32).toInt = 0 := by decide
  refine w_gen (A := A) hP (fun H locs hP hS => ?_)
  have k20 : (20 : Int32).toInt = 20 := by decide
  have k2000 : (2000 : Int32).toInt = 2000 := by decide
  have lo_p0 := i32_lo p0
  have hi_p0 := i32_hi p0
  have lo_p1 := i32_lo p1
  have hi_p1 := i32_hi p1
  have lo_p2 := i32_lo p2
  have hi_p2 := i32_hi p2
  have lo_p3 := i32_lo p3
  have hi_p3 := i32_hi p3
  have lo_p4 := i32_lo p4
  have hi_p4 := i32_hi p4
  refine lv_aload_n hx hb d_WF_feed_0 rfl (lv_at hl 0 rfl) ?_
  refine va_get (D := (dC, dI)) (ci := 0) (v := .ref ta) (C := R_WF) (T := F_WF) (N := 14) hx hb hts i_WF hown hK hP 0 rfl rfl 0 (by decide) (hts _ kF_WF_16) (fun _ h9 => h9) rfl d_WF_feed_1 ?_
  refine va_get (D := (dC, dI)) (ci := 1) (v := .int ta_length) (C := R_BR) (T := F_BR) (N := 2) hx hb hts i_BR hown hK hP 1 rfl rfl 1 (by decide) (hts _ kF_WF_85) (fun _ h9 => h9) rfl d_WF_feed_4 ?_
  refine lv_bipush (v := 20) hx hb d_WF_feed_7 (by decide) ?_
  refine lv_iadd hx hb d_WF_feed_9 ?_
  refine lv_topi (fun x1 ex1 => ?_)
  have tx1 : x1.toInt = ta_length.toInt + 20 := by have z := i32_add ex1 (by omega) (by omega); omega
  refine lv_sipush (v := 2000) hx hb d_WF_feed_10 (by decide) ?_
  refine lv_icmp_le (tgt := 24) hx hb d_WF_feed_13 (by decide) (fun c13 => ?_) (fun c13 => ?_)
  · have q13 := leI c13
    refine lv_aload_n hx hb d_WF_feed_24 rfl (lv_at hl 0 rfl) ?_
    refine va_get (D := (dC, dI)) (ci := 0) (v := .ref ta) (C := R_WF) (T := F_WF) (N := 14) hx hb hts i_WF hown hK hP 0 rfl rfl 0 (by decide) (hts _ kF_WF_16) (fun _ h9 => h9) rfl d_WF_feed_25 ?_
    refine lv_iload_n hx hb d_WF_feed_28 rfl (lv_at hl 1 rfl) ?_
    have hPc := hP.sub (ws' := [(ta, .inr (1, [.ref tab, .int ta_length])), (tab, .inl (ctab, 2000, .inl gtab))]) [1, 2] rfl
    have hDc := hD.sub (ws' := [(ta, .inr (1, [.ref tab, .int ta_length])), (tab, .inl (ctab, 2000, .inl gtab))]) [1, 2] (by decide) rfl
    have hKc := hK.sub (tys' := [(ctab, .byte)]) [0] rfl
    have hFc := va_free (wc := [(ta, .inr (1, [.ref tab, .int ta_length])), (tab, .inl (ctab, 2000, .inl gtab))]) hD hS hA [1, 2] rfl
    refine va_callv (va_runV (As := [.int p0]) (rest := []) ⟨hx, hb, hml, hown, hts⟩ (c_BR_putInt l dC dI ta tab H.size ctab 2000 ta_length gtab (by omega) (by omega) (by omega) p0) (cwV 1 hts (gV kM_WF_91 kV_BR_putInt kS_BR_putInt kI_BR kC_BR_putInt) rfl rfl rfl (by decide +kernel) ⟨Nat.le_of_ble_eq_true rfl, Nat.le_of_ble_eq_true rfl⟩) ⟨fun a U g mk z => by obtain ⟨z0, z1, zP, zK, zD⟩ := z; exact ⟨z0, z1, zP, va_K.moved (u := U) (U := U.calling g mk a) (Vm.Alike.refl U.vm) zK, zD⟩, va_recv hKc hPc (ci := 1) (q0 := 0) rfl rfl, fun U hU hW => ⟨rfl, by rw [hU], by rw [hU]; exact hPc, va_K.moved hW.alike hKc, hDc.weaken (fun _ _ _ _ => trivial)⟩⟩ rfl rfl hl.1 rfl (lv_room (Nat.le_of_ble_eq_true rfl)) d_WF_feed_29 ⟨(Nat.zero_le _), (Nat.zero_le _)⟩) hS (fun q _ h => hFc q h) hFc (fun u t H1 locs ht hvm hw hB hz1 hk1 hS => ?_)
    obtain ⟨n3, f4⟩ := u
    try dsimp only at hw
    have tn3 := hw
    obtain ⟨hP1, hK1, hD1⟩ := hB
    rw [ht] at hP1
    obtain ⟨hP, hD⟩ := va_join (wr := [(h0, .inr (0, [.ref ta, .ref rw, .ref ag, .int h0_argumentCount, .int h0_reason, .int h0_place, .int h0_loaded, .ref h0_wafer_r, .ref h0_spare_r, .ref h0_program_r, .ref h0_coder_r, .ref h0_reader_r, .ref h0_validator_r, .ref h0_machine_r]))]) (w1 := [(ta, .inr (1, [.ref tab, .int n3])), (tab, .inl (ctab, 2000, .inl f4))]) hP hD [1, 2] [0] rfl rfl (by decide) (by decide) hk1 hFc hP1 hD1
    clear hPc hDc hKc hFc hz1 hk1 hP1 hK1 hD1
    generalize H1 = H at hP hS ⊢
    have hP : va_P (dC, dI) cls [(h0, .inr (0, [.ref ta, .ref rw, .ref ag, .int h0_argumentCount, .int h0_reason, .int h0_place, .int h0_loaded, .ref h0_wafer_r, .ref h0_spare_r, .ref h0_program_r, .ref h0_coder_r, .ref h0_reader_r, .ref h0_validator_r, .ref h0_machine_r])), (ta, .inr (1, [.ref tab, .int n3])), (tab, .inl (ctab, 2000, .inl f4))] H := hP
    have hD : va_D A [(h0, .inr (0, [.ref ta, .ref rw, .ref ag, .int h0_argumentCount, .int h0_reason, .int h0_place, .int h0_loaded, .ref h0_wafer_r, .ref h0_spare_r, .ref h0_program_r, .ref h0_coder_r, .ref h0_reader_r, .ref h0_validator_r, .ref h0_machine_r])), (ta, .inr (1, [.ref tab, .int n3])), (tab, .inl (ctab, 2000, .inl f4))] := hD
    refine lv_aload_n hx hb d_WF_feed_32 rfl (lv_at hl 0 rfl) ?_
    refine va_get (D := (dC, dI)) (ci := 0) (v := .ref ta) (C := R_WF) (T := F_WF) (N := 14) hx hb hts i_WF hown hK hP 0 rfl rfl 0 (by decide) (hts _ kF_WF_16) (fun _ h9 => h9) rfl d_WF_feed_33 ?_
    refine lv_iload_n hx hb d_WF_feed_36 rfl (lv_at hl 2 rfl) ?_
    have hPc := hP.sub (ws' := [(ta, .inr (1, [.ref tab, .int n3])), (tab, .inl (ctab, 2000, .inl f4))]) [1, 2] rfl
    have hDc := hD.sub (ws' := [(ta, .inr (1, [.ref tab, .int n3])), (tab, .inl (ctab, 2000, .inl f4))]) [1, 2] (by decide) rfl
    have hKc := hK.sub (tys' := [(ctab, .byte)]) [0] rfl
    have hFc := va_free (wc := [(ta, .inr (1, [.ref tab, .int n3])), (tab, .inl (ctab, 2000, .inl f4))]) hD hS hA [1, 2] rfl
    refine va_callv (va_runV (As := [.int p1]) (rest := []) ⟨hx, hb, hml, hown, hts⟩ (c_BR_putInt l dC dI ta tab H.size ctab 2000 n3 f4 (by omega) (by omega) (by omega) p1) (cwV 1 hts (gV kM_WF_91 kV_BR_putInt kS_BR_putInt kI_BR kC_BR_putInt) rfl rfl rfl (by decide +kernel) ⟨Nat.le_of_ble_eq_true rfl, Nat.le_of_ble_eq_true rfl⟩) ⟨fun a U g mk z => by obtain ⟨z0, z1, zP, zK, zD⟩ := z; exact ⟨z0, z1, zP, va_K.moved (u := U) (U := U.calling g mk a) (Vm.Alike.refl U.vm) zK, zD⟩, va_recv hKc hPc (ci := 1) (q0 := 0) rfl rfl, fun U hU hW => ⟨rfl, by rw [hU], by rw [hU]; exact hPc, va_K.moved hW.alike hKc, hDc.weaken (fun _ _ _ _ => trivial)⟩⟩ rfl rfl hl.1 rfl (lv_room (Nat.le_of_ble_eq_true rfl)) d_WF_feed_37 ⟨(Nat.zero_le _), (Nat.zero_le _)⟩) hS (fun q _ h => hFc q h) hFc (fun u t H1 locs ht hvm hw hB hz1 hk1 hS => ?_)
    obtain ⟨n6, f7⟩ := u
    try dsimp only at hw
    have tn6 := hw
    obtain ⟨hP1, hK1, hD1⟩ := hB
    rw [ht] at hP1
    obtain ⟨hP, hD⟩ := va_join (wr := [(h0, .inr (0, [.ref ta, .ref rw, .ref ag, .int h0_argumentCount, .int h0_reason, .int h0_place, .int h0_loaded, .ref h0_wafer_r, .ref h0_spare_r, .ref h0_program_r, .ref h0_coder_r, .ref h0_reader_r, .ref h0_validator_r, .ref h0_machine_r]))]) (w1 := [(ta, .inr (1, [.ref tab, .int n6])), (tab, .inl (ctab, 2000, .inl f7))]) hP hD [1, 2] [0] rfl rfl (by decide) (by decide) hk1 hFc hP1 hD1
    clear hPc hDc hKc hFc hz1 hk1 hP1 hK1 hD1
    generalize H1 = H at hP hS ⊢
    have hP : va_P (dC, dI) cls [(h0, .inr (0, [.ref ta, .ref rw, .ref ag, .int h0_argumentCount, .int h0_reason, .int h0_place, .int h0_loaded, .ref h0_wafer_r, .ref h0_spare_r, .ref h0_program_r, .ref h0_coder_r, .ref h0_reader_r, .ref h0_validator_r, .ref h0_machine_r])), (ta, .inr (1, [.ref tab, .int n6])), (tab, .inl (ctab, 2000, .inl f7))] H := hP
    have hD : va_D A [(h0, .inr (0, [.ref ta, .ref rw, .ref ag, .int h0_argumentCount, .int h0_reason, .int h0_place, .int h0_loaded, .ref h0_wafer_r, .ref h0_spare_r, .ref h0_program_r, .ref h0_coder_r, .ref h0_reader_r, .ref h0_validator_r, .ref h0_machine_r])), (ta, .inr (1, [.ref tab, .int n6])), (tab, .inl (ctab, 2000, .inl f7))] := hD
    refine lv_aload_n hx hb d_WF_feed_40 rfl (lv_at hl 0 rfl) ?_
    refine va_get (D := (dC, dI)) (ci := 0) (v := .ref ta) (C := R_WF) (T := F_WF) (N := 14) hx hb hts i_WF hown hK hP 0 rfl rfl 0 (by decide) (hts _ kF_WF_16) (fun _ h9 => h9) rfl d_WF_feed_41 ?_
    refine lv_iload_n hx hb d_WF_feed_44 rfl (lv_at hl 3 rfl) ?_
    have hPc := hP.sub (ws' := [(ta, .inr (1, [.ref tab, .int n6])), (tab, .inl (ctab, 2000, .inl f7))]) [1, 2] rfl
    have hDc := hD.sub (ws' := [(ta, .inr (1, [.ref tab, .int n6])), (tab, .inl (ctab, 2000, .inl f7))]) [1, 2] (by decide) rfl
    have hKc := hK.sub (tys' := [(ctab, .byte)]) [0] rfl
    have hFc := va_free (wc := [(ta, .inr (1, [.ref tab, .int n6])), (tab, .inl (ctab, 2000, .inl f7))]) hD hS hA [1, 2] rfl
    refine va_callv (va_runV (As := [.int p2]) (rest := []) ⟨hx, hb, hml, hown, hts⟩ (c_BR_putInt l dC dI ta tab H.size ctab 2000 n6 f7 (by omega) (by omega) (by omega) p2) (cwV 1 hts (gV kM_WF_91 kV_BR_putInt kS_BR_putInt kI_BR kC_BR_putInt) rfl rfl rfl (by decide +kernel) ⟨Nat.le_of_ble_eq_true rfl, Nat.le_of_ble_eq_true rfl⟩) ⟨fun a U g mk z => by obtain ⟨z0, z1, zP, zK, zD⟩ := z; exact ⟨z0, z1, zP, va_K.moved (u := U) (U := U.calling g mk a) (Vm.Alike.refl U.vm) zK, zD⟩, va_recv hKc hPc (ci := 1) (q0 := 0) rfl rfl, fun U hU hW => ⟨rfl, by rw [hU], by rw [hU]; exact hPc, va_K.moved hW.alike hKc, hDc.weaken (fun _ _ _ _ => trivial)⟩⟩ rfl rfl hl.1 rfl (lv_room (Nat.le_of_ble_eq_true rfl)) d_WF_feed_45 ⟨(Nat.zero_le _), (Nat.zero_le _)⟩) hS (fun q _ h => hFc q h) hFc (fun u t H1 locs ht hvm hw hB hz1 hk1 hS => ?_)
    obtain ⟨n9, f10⟩ := u
    try dsimp only at hw
    have tn9 := hw
    obtain ⟨hP1, hK1, hD1⟩ := hB
    rw [ht] at hP1
    obtain ⟨hP, hD⟩ := va_join (wr := [(h0, .inr (0, [.ref ta, .ref rw, .ref ag, .int h0_argumentCount, .int h0_reason, .int h0_place, .int h0_loaded, .ref h0_wafer_r, .ref h0_spare_r, .ref h0_program_r, .ref h0_coder_r, .ref h0_reader_r, .ref h0_validator_r, .ref h0_machine_r]))]) (w1 := [(ta, .inr (1, [.ref tab, .int n9])), (tab, .inl (ctab, 2000, .inl f10))]) hP hD [1, 2] [0] rfl rfl (by decide) (by decide) hk1 hFc hP1 hD1
    clear hPc hDc hKc hFc hz1 hk1 hP1 hK1 hD1
    generalize H1 = H at hP hS ⊢
    have hP : va_P (dC, dI) cls [(h0, .inr (0, [.ref ta, .ref rw, .ref ag, .int h0_argumentCount, .int h0_reason, .int h0_place, .int h0_loaded, .ref h0_wafer_r, .ref h0_spare_r, .ref h0_program_r, .ref h0_coder_r, .ref h0_reader_r, .ref h0_validator_r, .ref h0_machine_r])), (ta, .inr (1, [.ref tab, .int n9])), (tab, .inl (ctab, 2000, .inl f10))] H := hP
    have hD : va_D A [(h0, .inr (0, [.ref ta, .ref rw, .ref ag, .int h0_argumentCount, .int h0_reason, .int h0_place, .int h0_loaded, .ref h0_wafer_r, .ref h0_spare_r, .ref h0_program_r, .ref h0_coder_r, .ref h0_reader_r, .ref h0_validator_r, .ref h0_machine_r])), (ta, .inr (1, [.ref tab, .int n9])), (tab, .inl (ctab, 2000, .inl f10))] := hD
    refine lv_aload_n hx hb d_WF_feed_48 rfl (lv_at hl 0 rfl) ?_
    refine va_get (D := (dC, dI)) (ci := 0) (v := .ref ta) (C := R_WF) (T := F_WF) (N := 14) hx hb hts i_WF hown hK hP 0 rfl rfl 0 (by decide) (hts _ kF_WF_16) (fun _ h9 => h9) rfl d_WF_feed_49 ?_
    refine lv_iload hx hb d_WF_feed_52 (lv_at hl 4 rfl) ?_
    have hPc := hP.sub (ws' := [(ta, .inr (1, [.ref tab, .int n9])), (tab, .inl (ctab, 2000, .inl f10))]) [1, 2] rfl
    have hDc := hD.sub (ws' := [(ta, .inr (1, [.ref tab, .int n9])), (tab, .inl (ctab, 2000, .inl f10))]) [1, 2] (by decide) rfl
    have hKc := hK.sub (tys' := [(ctab, .byte)]) [0] rfl
    have hFc := va_free (wc := [(ta, .inr (1, [.ref tab, .int n9])), (tab, .inl (ctab, 2000, .inl f10))]) hD hS hA [1, 2] rfl
    refine va_callv (va_runV (As := [.int p3]) (rest := []) ⟨hx, hb, hml, hown, hts⟩ (c_BR_putInt l dC dI ta tab H.size ctab 2000 n9 f10 (by omega) (by omega) (by omega) p3) (cwV 1 hts (gV kM_WF_91 kV_BR_putInt kS_BR_putInt kI_BR kC_BR_putInt) rfl rfl rfl (by decide +kernel) ⟨Nat.le_of_ble_eq_true rfl, Nat.le_of_ble_eq_true rfl⟩) ⟨fun a U g mk z => by obtain ⟨z0, z1, zP, zK, zD⟩ := z; exact ⟨z0, z1, zP, va_K.moved (u := U) (U := U.calling g mk a) (Vm.Alike.refl U.vm) zK, zD⟩, va_recv hKc hPc (ci := 1) (q0 := 0) rfl rfl, fun U hU hW => ⟨rfl, by rw [hU], by rw [hU]; exact hPc, va_K.moved hW.alike hKc, hDc.weaken (fun _ _ _ _ => trivial)⟩⟩ rfl rfl hl.1 rfl (lv_room (Nat.le_of_ble_eq_true rfl)) d_WF_feed_54 ⟨(Nat.zero_le _), (Nat.zero_le _)⟩) hS (fun q _ h => hFc q h) hFc (fun u t H1 locs ht hvm hw hB hz1 hk1 hS => ?_)
    obtain ⟨n12, f13⟩ := u
    try dsimp only at hw
    have tn12 := hw
    obtain ⟨hP1, hK1, hD1⟩ := hB
    rw [ht] at hP1
    obtain ⟨hP, hD⟩ := va_join (wr := [(h0, .inr (0, [.ref ta, .ref rw, .ref ag, .int h0_argumentCount, .int h0_reason, .int h0_place, .int h0_loaded, .ref h0_wafer_r, .ref h0_spare_r, .ref h0_program_r, .ref h0_coder_r, .ref h0_reader_r, .ref h0_validator_r, .ref h0_machine_r]))]) (w1 := [(ta, .inr (1, [.ref tab, .int n12])), (tab, .inl (ctab, 2000, .inl f13))]) hP hD [1, 2] [0] rfl rfl (by decide) (by decide) hk1 hFc hP1 hD1
    clear hPc hDc hKc hFc hz1 hk1 hP1 hK1 hD1
    generalize H1 = H at hP hS ⊢
    have hP : va_P (dC, dI) cls [(h0, .inr (0, [.ref ta, .ref rw, .ref ag, .int h0_argumentCount, .int h0_reason, .int h0_place, .int h0_loaded, .ref h0_wafer_r, .ref h0_spare_r, .ref h0_program_r, .ref h0_coder_r, .ref h0_reader_r, .ref h0_validator_r, .ref h0_machine_r])), (ta, .inr (1, [.ref tab, .int n12])), (tab, .inl (ctab, 2000, .inl f13))] H := hP
    have hD : va_D A [(h0, .inr (0, [.ref ta, .ref rw, .ref ag, .int h0_argumentCount, .int h0_reason, .int h0_place, .int h0_loaded, .ref h0_wafer_r, .ref h0_spare_r, .ref h0_program_r, .ref h0_coder_r, .ref h0_reader_r, .ref h0_validator_r, .ref h0_machine_r])), (ta, .inr (1, [.ref tab, .int n12])), (tab, .inl (ctab, 2000, .inl f13))] := hD
    refine lv_aload_n hx hb d_WF_feed_57 rfl (lv_at hl 0 rfl) ?_
    refine va_get (D := (dC, dI)) (ci := 0) (v := .ref ta) (C := R_WF) (T := F_WF) (N := 14) hx hb hts i_WF hown hK hP 0 rfl rfl 0 (by decide) (hts _ kF_WF_16) (fun _ h9 => h9) rfl d_WF_feed_58 ?_
    refine lv_iload hx hb d_WF_feed_61 (lv_at hl 5 rfl) ?_
    have hPc := hP.sub (ws' := [(ta, .inr (1, [.ref tab, .int n12])), (tab, .inl (ctab, 2000, .inl f13))]) [1, 2] rfl
    have hDc := hD.sub (ws' := [(ta, .inr (1, [.ref tab, .int n12])), (tab, .inl (ctab, 2000, .inl f13))]) [1, 2] (by decide) rfl
    have hKc := hK.sub (tys' := [(ctab, .byte)]) [0] rfl
    have hFc := va_free (wc := [(ta, .inr (1, [.ref tab, .int n12])), (tab, .inl (ctab, 2000, .inl f13))]) hD hS hA [1, 2] rfl
    refine va_callv (va_runV (As := [.int p4]) (rest := []) ⟨hx, hb, hml, hown, hts⟩ (c_BR_putInt l dC dI ta tab H.size ctab 2000 n12 f13 (by omega) (by omega) (by omega) p4) (cwV 1 hts (gV kM_WF_91 kV_BR_putInt kS_BR_putInt kI_BR kC_BR_putInt) rfl rfl rfl (by decide +kernel) ⟨Nat.le_of_ble_eq_true rfl, Nat.le_of_ble_eq_true rfl⟩) ⟨fun a U g mk z => by obtain ⟨z0, z1, zP, zK, zD⟩ := z; exact ⟨z0, z1, zP, va_K.moved (u := U) (U := U.calling g mk a) (Vm.Alike.refl U.vm) zK, zD⟩, va_recv hKc hPc (ci := 1) (q0 := 0) rfl rfl, fun U hU hW => ⟨rfl, by rw [hU], by rw [hU]; exact hPc, va_K.moved hW.alike hKc, hDc.weaken (fun _ _ _ _ => trivial)⟩⟩ rfl rfl hl.1 rfl (lv_room (Nat.le_of_ble_eq_true rfl)) d_WF_feed_63 ⟨(Nat.zero_le _), (Nat.zero_le _)⟩) hS (fun q _ h => hFc q h) hFc (fun u t H1 locs ht hvm hw hB hz1 hk1 hS => ?_)
    obtain ⟨n15, f16⟩ := u
    try dsimp only at hw
    have tn15 := hw
    obtain ⟨hP1, hK1, hD1⟩ := hB
    rw [ht] at hP1
    obtain ⟨hP, hD⟩ := va_join (wr := [(h0, .inr (0, [.ref ta, .ref rw, .ref ag, .int h0_argumentCount, .int h0_reason, .int h0_place, .int h0_loaded, .ref h0_wafer_r, .ref h0_spare_r, .ref h0_program_r, .ref h0_coder_r, .ref h0_reader_r, .ref h0_validator_r, .ref h0_machine_r]))]) (w1 := [(ta, .inr (1, [.ref tab, .int n15])), (tab, .inl (ctab, 2000, .inl f16))]) hP hD [1, 2] [0] rfl rfl (by decide) (by decide) hk1 hFc hP1 hD1
    clear hPc hDc hKc hFc hz1 hk1 hP1 hK1 hD1
    generalize H1 = H at hP hS ⊢
    have hP : va_P (dC, dI) cls [(h0, .inr (0, [.ref ta, .ref rw, .ref ag, .int h0_argumentCount, .int h0_reason, .int h0_place, .int h0_loaded, .ref h0_wafer_r, .ref h0_spare_r, .ref h0_program_r, .ref h0_coder_r, .ref h0_reader_r, .ref h0_validator_r, .ref h0_machine_r])), (ta, .inr (1, [.ref tab, .int n15])), (tab, .inl (ctab, 2000, .inl f16))] H := hP
    have hD : va_D A [(h0, .inr (0, [.ref ta, .ref rw, .ref ag, .int h0_argumentCount, .int h0_reason, .int h0_place, .int h0_loaded, .ref h0_wafer_r, .ref h0_spare_r, .ref h0_program_r, .ref h0_coder_r, .ref h0_reader_r, .ref h0_validator_r, .ref h0_machine_r])), (ta, .inr (1, [.ref tab, .int n15])), (tab, .inl (ctab, 2000, .inl f16))] := hD
    refine lv_aload_n hx hb d_WF_feed_66 rfl (lv_at hl 0 rfl) ?_
    refine va_get (D := (dC, dI)) (ci := 0) (v := .ref ta) (C := R_WF) (T := F_WF) (N := 14) hx hb hts i_WF hown hK hP 0 rfl rfl 0 (by decide) (hts _ kF_WF_16) (fun _ h9 => h9) rfl d_WF_feed_67 ?_
    refine va_get (D := (dC, dI)) (ci := 1) (v := .int n15) (C := R_BR) (T := F_BR) (N := 2) hx hb hts i_BR hown hK hP 1 rfl rfl 1 (by decide) (hts _ kF_WF_85) (fun _ h9 => h9) rfl d_WF_feed_70 ?_
    have hP9 := hP.sub (ws' := [(h0, .inr (0, [.ref ta, .ref rw, .ref ag, .int h0_argumentCount, .int h0_reason, .int h0_place, .int h0_loaded, .ref h0_wafer_r, .ref h0_spare_r, .ref h0_program_r, .ref h0_coder_r, .ref h0_reader_r, .ref h0_validator_r, .ref h0_machine_r])), (ta, .inr (1, [.ref tab, .int n15])), (tab, .inl (ctab, 2000, .inl f16))]) [0, 1, 2] rfl
    have hD9 := hD.sub (ws' := [(h0, .inr (0, [.ref ta, .ref rw, .ref ag, .int h0_argumentCount, .int h0_reason, .int h0_place, .int h0_loaded, .ref h0_wafer_r, .ref h0_spare_r, .ref h0_program_r, .ref h0_coder_r, .ref h0_reader_r, .ref h0_validator_r, .ref h0_machine_r])), (ta, .inr (1, [.ref tab, .int n15])), (tab, .inl (ctab, 2000, .inl f16))]) [0, 1, 2] (by decide) rfl
    exact tz_up (fun _ => rfl) (W.iret (v := n15) hx hb hr (fun t ht hW => ⟨⟨(f16, n15), ⟨n15, rfl, ⟨by (try dsimp only) <;> omega, ⟨by (try dsimp only) <;> omega, by (try dsimp only) <;> first | rfl | exact Int32.toInt_inj.mp (by omega)⟩⟩⟩, by rw [ht]; exact hP9, va_K.moved hW.alike hK, hD9⟩, hS.F ht⟩) hS.2.2 d_WF_feed_73)
  · have q13 := nleI c13
    have hP9 := hP.sub (ws' := [(h0, .inr (0, [.ref ta, .ref rw, .ref ag, .int h0_argumentCount, .int h0_reason, .int h0_place, .int h0_loaded, .ref h0_wafer_r, .ref h0_spare_r, .ref h0_program_r, .ref h0_coder_r, .ref h0_reader_r, .ref h0_validator_r, .ref h0_machine_r])), (ta, .inr (1, [.ref tab, .int ta_length])), (tab, .inl (ctab, 2000, .inl gtab))]) [0, 1, 2] rfl
    have hD9 := hD.sub (ws' := [(h0, .inr (0, [.ref ta, .ref rw, .ref ag, .int h0_argumentCount, .int h0_reason, .int h0_place, .int h0_loaded, .ref h0_wafer_r, .ref h0_spare_r, .ref h0_program_r, .ref h0_coder_r, .ref h0_reader_r, .ref h0_validator_r, .ref h0_machine_r])), (ta, .inr (1, [.ref tab, .int ta_length])), (tab, .inl (ctab, 2000, .inl gtab))]) [0, 1, 2] (by decide) rfl
    exact tz_throwNew hx hb hno hlocks hlt (hl.1.trans hml.symm) hown (by decide +kernel) (by decide +kernel) (fun U hU hW => eb_WF_io hts hSW hS U hU hW) d_WF_feed_16 d_WF_feed_19 d_WF_feed_20 d_WF_feed_23 (by decide) (Nat.le_of_ble_eq_true rfl) (Nat.le_of_ble_eq_true rfl) (Nat.le_of_ble_eq_true rfl) (fun _ => rfl) (fun x t h1 h2 h3 h4 => ⟨⟨(gtab, ta_length), ⟨⟨b_ta_length, ⟨rfl, by omega⟩⟩, h3⟩, vp_ext hP9 h2, va_K.moved h4.alike hK, hD9⟩, vs_ext hS h1 h2⟩) hS.2.2
abbrev b_WF_argument : ByteArray := prog_1_method_8_code
def y_WF_argument : MethodName := ⟨R_WF, "argument", "(J)I"⟩
abbrev w_WF_argument : List Cond := .code y_WF_argument b_WF_argument 3 (Option.some .int) :: lw_g
theorem kC_WF_argument : Cond.code y_WF_argument b_WF_argument 3 (Option.some .int) ∈ lw_g := in_g 1524 (by decide +kernel) rfl
theorem d_WF_argument_0 : decode b_WF_argument 0 = .ok (.aload_n 0, 1) := by decide +kernel
theorem d_WF_argument_1 : decode b_WF_argument 1 = .ok (.getfield 139, 3) := by decide +kernel
theorem d_WF_argument_4 : decode b_WF_argument 4 = .ok (.bipush 8, 2) := by decide +kernel
theorem d_WF_argument_6 : decode b_WF_argument 6 = .ok (.if_icmp .lt 11, 3) := by decide +kernel
theorem d_WF_argument_9 : decode b_WF_argument 9 = .ok (.new 88, 3) := by decide +kernel
theorem d_WF_argument_12 : decode b_WF_argument 12 = .ok (.dup, 1) := by decide +kernel
theorem d_WF_argument_13 : decode b_WF_argument 13 = .ok (.invokespecial 90, 3) := by decide +kernel
theorem d_WF_argument_16 : decode b_WF_argument 16 = .ok (.athrow, 1) := by decide +kernel
theorem d_WF_argument_17 : decode b_WF_argument 17 = .ok (.aload_n 0, 1) := by decide +kernel
theorem d_WF_argument_18 : decode b_WF_argument 18 = .ok (.getfield 23, 3) := by decide +kernel
theorem d_WF_argument_21 : decode b_WF_argument 21 = .ok (.aload_n 0, 1) := by decide +kernel
theorem d_WF_argument_22 : decode b_WF_argument 22 = .ok (.dup, 1) := by decide +kernel
theorem d_WF_argument_23 : decode b_WF_argument 23 = .ok (.getfield 139, 3) := by decide +kernel
theorem d_WF_argument_26 : decode b_WF_argument 26 = .ok (.dup_x1, 1) := by decide +kernel
theorem d_WF_argument_27 : decode b_WF_argument 27 = .ok (.iconst 1, 1) := by decide +kernel
theorem d_WF_argument_28 : decode b_WF_argument 28 = .ok (.iadd, 1) := by decide +kernel
theorem d_WF_argument_29 : decode b_WF_argument 29 = .ok (.putfield 139, 3) := by decide +kernel
theorem d_WF_argument_32 : decode b_WF_argument 32 = .ok (.lload_n 1, 1) := by decide +kernel
theorem d_WF_argument_33 : decode b_WF_argument 33 = .ok (.lastore, 1) := by decide +kernel
theorem d_WF_argument_34 : decode b_WF_argument 34 = .ok (.aload_n 0, 1) := by decide +kernel
theorem d_WF_argument_35 : decode b_WF_argument 35 = .ok (.getfield 139, 3) := by decide +kernel
theorem d_WF_argument_38 : decode b_WF_argument 38 = .ok (.ireturn, 1) := by decide +kernel
theorem kF_WF_139 : Cond.fieldLink R_WF 139 "WaferForge" "argumentCount" "I" ∈ lw_g := in_g 599 (by decide +kernel) rfl
theorem kF_WF_23 : Cond.fieldLink R_WF 23 "WaferForge" "arguments" "[J" ∈ lw_g := in_g 598 (by decide +kernel) rfl
abbrev at_WF_argument (dC : Nat → ClassId) (dI : Nat → Nat → Nat) (sa : Nat → Nat) (h0 ta rw ag h0_wafer_r h0_spare_r h0_program_r h0_coder_r h0_reader_r h0_validator_r h0_machine_r : Nat) (cag : ClassId) (h0_reason : Int32) (h0_place : Int32) (h0_loaded : Int32) (A : Nat → Prop) (u : (Nat → Int64) × Int32) (t : State) : Prop := match u with | (gag, h0_argumentCount) => va_P (dC, dI) cls [(h0, .inr (0, [.ref ta, .ref rw, .ref ag, .int h0_argumentCount, .int h0_reason, .int h0_place, .int h0_loaded, .ref h0_wafer_r, .ref h0_spare_r, .ref h0_program_r, .ref h0_coder_r, .ref h0_reader_r, .ref h0_validator_r, .ref h0_machine_r])), (ag, .inl (cag, 8, .inr (.inl gag)))] t.heap ∧ va_K (dC, dI) cls [(cag, .long)] t ∧ va_D A [(h0, .inr (0, [.ref ta, .ref rw, .ref ag, .int h0_argumentCount, .int h0_reason, .int h0_place, .int h0_loaded, .ref h0_wafer_r, .ref h0_spare_r, .ref h0_program_r, .ref h0_coder_r, .ref h0_reader_r, .ref h0_validator_r, .ref h0_machine_r])), (ag, .inl (cag, 8, .inr (.inl gag)))]
set_option maxHeartbeats 4000000 in
set_option maxRecDepth 100000 in
theorem c_WF_argument (l : Launch) (hlt : l.stackTraces = false) (dC : Nat → ClassId) (dI : Nat → Nat → Nat) (sz : Nat) (sa : Nat → Nat) (h0 ta rw ag h0_wafer_r h0_spare_r h0_program_r h0_coder_r h0_reader_r h0_validator_r h0_machine_r : Nat) (cag : ClassId) (h0_argumentCount : Int32) (h0_reason : Int32) (h0_place : Int32) (h0_loaded : Int32) (gag : Nat → Int64)  (b_h0_argumentCount : 0 ≤ h0_argumentCount.toInt ∧ h0_argumentCount.toInt ≤ 8) (p0 : Int64)   : tz_Met l y_WF_argument w_WF_argument ({ frames := 6, cells := 1, slots := 6, locals := 90 }) (va_Pc [.ref h0, .long p0] (fun U => U.heap.size = sz ∧ va_P (dC, dI) cls [(h0, .inr (0, [.ref ta, .ref rw, .ref ag, .int h0_argumentCount, .int h0_reason, .int h0_place, .int h0_loaded, .ref h0_wafer_r, .ref h0_spare_r, .ref h0_program_r, .ref h0_coder_r, .ref h0_reader_r, .ref h0_validator_r, .ref h0_machine_r])), (ag, .inl (cag, 8, .inr (.inl gag)))] U.heap ∧ va_K (dC, dI) cls [(cag, .long)] U ∧ va_D (fun _ => True) [(h0, .inr (0, [.ref ta, .ref rw, .ref ag, .int h0_argumentCount, .int h0_reason, .int h0_place, .int h0_loaded, .ref h0_wafer_r, .ref h0_spare_r, .ref h0_program_r, .ref h0_coder_r, .ref h0_reader_r, .ref h0_validator_r, .ref h0_machine_r])), (ag, .inl (cag, 8, .inr (.inl gag)))] ∧ sw sa (va_A [(h0, .inr (0, [.ref ta, .ref rw, .ref ag, .int h0_argumentCount, .int h0_reason, .int h0_place, .int h0_loaded, .ref h0_wafer_r, .ref h0_spare_r, .ref h0_program_r, .ref h0_coder_r, .ref h0_reader_r, .ref h0_validator_r, .ref h0_machine_r])), (ag, .inl (cag, 8, .inr (.inl gag)))] sz) U U.heap)) (tq_Q (tq_i (fun (r : Int32) (u : (Nat → Int64) × Int32) => match u with | (gag2, h0_argumentCount2) => (0 ≤ h0_argumentCount2.toInt ∧ h0_argumentCount2.toInt ≤ 8) ∧ (True)) "java/lang/IndexOutOfBoundsException" (fun (u : (Nat → Int64) × Int32) => match u with | (gag2, h0_argumentCount2) => (0 ≤ h0_argumentCount2.toInt ∧ h0_argumentCount2.toInt ≤ 8))) (at_WF_argument dC dI sa h0 ta rw ag h0_wafer_r h0_spare_r h0_program_r h0_coder_r h0_reader_r h0_validator_r h0_machine_r cag h0_reason h0_place h0_loaded (va_A [(h0, .inr (0, [.ref ta, .ref rw, .ref ag, .int h0_argumentCount, .int h0_reason, .int h0_place, .int h0_loaded, .ref h0_wafer_r, .ref h0_spare_r, .ref h0_program_r, .ref h0_coder_r, .ref h0_reader_r, .ref h0_validator_r, .ref h0_machine_r])), (ag, .inl (cag, 8, .inr (.inl gag)))] sz)) (va_A [(h0, .inr (0, [.ref ta, .ref rw, .ref ag, .int h0_argumentCount, .int h0_reason, .int h0_place, .int h0_loaded, .ref h0_wafer_r, .ref h0_spare_r, .ref h0_program_r, .ref h0_coder_r, .ref h0_reader_r, .ref h0_validator_r, .ref h0_machine_r])), (ag, .inl (cag, 8, .inr (.inl gag)))] sz)) (tz_k 0 0 1 6) (va_A [(h0, .inr (0, [.ref ta, .ref rw, .ref ag, .int h0_argumentCount, .int h0_reason, .int h0_place, .int h0_loaded, .ref h0_wafer_r, .ref h0_spare_r, .ref h0_program_r, .ref h0_coder_r, .ref h0_reader_r, .ref h0_validator_r, .ref h0_machine_r])), (ag, .inl (cag, 8, .inr (.inl gag)))] sz) := by
  refine tz_ofW (cc := b_WF_argument) (maxL := 3) (ret := (Option.some .int)) (by decide) rfl ?_
  intro p e s m args below meth c s₁ B hml hno hv
  obtain ⟨rfl, hsz, hP, hK, hD0, hSW⟩ := hv
  have hx := B.exec
  have hb := B.bytes
  have hr := B.returns
  have hts0 := atoms_spec (ws := w_WF_argument) B.pre
  have hts : ∀ w ∈ lw_g, w.before _ s = true := fun w h => hts0 w (List.mem_cons_of_mem _ h)
  have hown : s.vm.findClass R_WF = some m.cls := findClass_of_methodNamed B.named
  have hlocks := B.notSynchronized
  clear hts0
  subst hsz
  have hD := hD0.self (sz := s.heap.size)
  generalize hAe : va_A [(h0, .inr (0, [.ref ta, .ref rw, .ref ag, .int h0_argumentCount, .int h0_reason, .int h0_place, .int h0_loaded, .ref h0_wafer_r, .ref h0_spare_r, .ref h0_program_r, .ref h0_coder_r, .ref h0_reader_r, .ref h0_validator_r, .ref h0_machine_r])), (ag, .inl (cag, 8, .inr (.inl gag)))] s.heap.size = A at hD hSW ⊢
  have hA : ∀ q : Nat, s.heap.size ≤ q → A q := fun q h => by rw [← hAe]; exact Or.inr h
  clear hAe
  have hP : va_P (dC, dI) cls [(h0, .inr (0, [.ref ta, .ref rw, .ref ag, .int h0_argumentCount, .int h0_reason, .int h0_place, .int h0_loaded, .ref h0_wafer_r, .ref h0_spare_r, .ref h0_program_r, .ref h0_coder_r, .ref h0_reader_r, .ref h0_validator_r, .ref h0_machine_r])), (ag, .inl (cag, 8, .inr (.inl gag)))] s.heap := hP
  have hl := lv_entry ([.ref h0, .long p0]) (n := 3) (Nat.le_of_ble_eq_true rfl)
  rw [lg_entry_eq]
  generalize (lg_sl ([.ref h0, .long p0]) ++ List.replicate (3 - (lg_sl ([.ref h0, .long p0])).length) Slot.unset).toArray = ls at hl ⊢
  have hl : lv_has ls 3 [(0, .ref h0), (1, .long p0)] := hl
  have k0 : (0 : Int32).toInt = 0 := by decide
  refine w_gen (A := A) hP (fun H locs hP hS => ?_)
  have k1 : (1 : Int32).toInt = 1 := by decide
  have k8 : (8 : Int32).toInt = 8 := by decide
  refine lv_aload_n hx hb d_WF_argument_0 rfl (lv_at hl 0 rfl) ?_
  refine va_get (D := (dC, dI)) (ci := 0) (v := .int h0_argumentCount) (C := R_WF) (T := F_WF) (N := 14) hx hb hts i_WF hown hK hP 0 rfl rfl 3 (by decide) (hts _ kF_WF_139) (fun _ h9 => h9) rfl d_WF_argument_1 ?_
  refine lv_bipush (v := 8) hx hb d_WF_argument_4 (by decide) ?_
  refine lv_icmp_lt (tgt := 17) hx hb d_WF_argument_6 (by decide) (fun c6 => ?_) (fun c6 => ?_)
  · have q6 := ltI c6
    refine lv_aload_n hx hb d_WF_argument_17 rfl (lv_at hl 0 rfl) ?_
    refine va_get (D := (dC, dI)) (ci := 0) (v := .ref ag) (C := R_WF) (T := F_WF) (N := 14) hx hb hts i_WF hown hK hP 0 rfl rfl 2 (by decide) (hts _ kF_WF_23) (fun _ h9 => h9) rfl d_WF_argument_18 ?_
    refine lv_aload_n hx hb d_WF_argument_21 rfl (lv_at hl 0 rfl) ?_
    refine lv_dup hx hb d_WF_argument_22 rfl ?_
    refine va_get (D := (dC, dI)) (ci := 0) (v := .int h0_argumentCount) (C := R_WF) (T := F_WF) (N := 14) hx hb hts i_WF hown hK hP 0 rfl rfl 3 (by decide) (hts _ kF_WF_139) (fun _ h9 => h9) rfl d_WF_argument_23 ?_
    refine lv_dup_x1 hx hb d_WF_argument_26 rfl rfl ?_
    refine lv_iconst (v := 1) hx hb d_WF_argument_27 (by decide) ?_
    refine lv_iadd hx hb d_WF_argument_28 ?_
    refine lv_topi (fun x1 ex1 => ?_)
    have tx1 : x1.toInt = h0_argumentCount.toInt + 1 := by have z := i32_add ex1 (by omega) (by omega); omega
    refine va_put (D := (dC, dI)) (ci := 0) (v := .int x1) (ty := .int) (C := R_WF) (T := F_WF) (N := 14) hx hb hts i_WF t_WF t_WF_ok n_WF hown hK hP hD hS 0 rfl rfl 3 (by decide) (hts _ kF_WF_139) (fun _ h9 => h9) rfl (by decide +kernel) rfl rfl (Nat.le_of_ble_eq_true rfl) d_WF_argument_29 (fun H locs hP hD hS => ?_)
    refine lv_lload_n hx hb d_WF_argument_32 rfl (lv_at hl 1 rfl) ?_
    have g33 : vp_in h0_argumentCount 8 := vp_in_iff.mpr ⟨by omega, by omega⟩
    refine va_last hx hb hK hP hD hS 1 0 rfl rfl g33 d_WF_argument_33 (fun H locs hP hD hS => ?_)
    generalize ef2 : vp_updL gag h0_argumentCount.toNatClampNeg p0 = f2 at hP hD
    refine lv_aload_n hx hb d_WF_argument_34 rfl (lv_at hl 0 rfl) ?_
    refine va_get (D := (dC, dI)) (ci := 0) (v := .int x1) (C := R_WF) (T := F_WF) (N := 14) hx hb hts i_WF hown hK hP 0 rfl rfl 3 (by decide) (hts _ kF_WF_139) (fun _ h9 => h9) rfl d_WF_argument_35 ?_
    have hP9 := hP.sub (ws' := [(h0, .inr (0, [.ref ta, .ref rw, .ref ag, .int x1, .int h0_reason, .int h0_place, .int h0_loaded, .ref h0_wafer_r, .ref h0_spare_r, .ref h0_program_r, .ref h0_coder_r, .ref h0_reader_r, .ref h0_validator_r, .ref h0_machine_r])), (ag, .inl (cag, 8, .inr (.inl f2)))]) [0, 1] rfl
    have hD9 := hD.sub (ws' := [(h0, .inr (0, [.ref ta, .ref rw, .ref ag, .int x1, .int h0_reason, .int h0_place, .int h0_loaded, .ref h0_wafer_r, .ref h0_spare_r, .ref h0_program_r, .ref h0_coder_r, .ref h0_reader_r, .ref h0_validator_r, .ref h0_machine_r])), (ag, .inl (cag, 8, .inr (.inl f2)))]) [0, 1] (by decide) rfl
    exact tz_up (fun _ => rfl) (W.iret (v := x1) hx hb hr (fun t ht hW => ⟨⟨(f2, x1), ⟨x1, rfl, ⟨by (try dsimp only) <;> omega, trivial⟩⟩, by rw [ht]; exact hP9, va_K.moved hW.alike hK, hD9⟩, hS.F ht⟩) hS.2.2 d_WF_argument_38)
  · have q6 := nltI c6
    have hP9 := hP.sub (ws' := [(h0, .inr (0, [.ref ta, .ref rw, .ref ag, .int h0_argumentCount, .int h0_reason, .int h0_place, .int h0_loaded, .ref h0_wafer_r, .ref h0_spare_r, .ref h0_program_r, .ref h0_coder_r, .ref h0_reader_r, .ref h0_validator_r, .ref h0_machine_r])), (ag, .inl (cag, 8, .inr (.inl gag)))]) [0, 1] rfl
    have hD9 := hD.sub (ws' := [(h0, .inr (0, [.ref ta, .ref rw, .ref ag, .int h0_argumentCount, .int h0_reason, .int h0_place, .int h0_loaded, .ref h0_wafer_r, .ref h0_spare_r, .ref h0_program_r, .ref h0_coder_r, .ref h0_reader_r, .ref h0_validator_r, .ref h0_machine_r])), (ag, .inl (cag, 8, .inr (.inl gag)))]) [0, 1] (by decide) rfl
    exact tz_throwNew hx hb hno hlocks hlt (hl.1.trans hml.symm) hown (by decide +kernel) (by decide +kernel) (fun U hU hW => eb_WF_io hts hSW hS U hU hW) d_WF_argument_9 d_WF_argument_12 d_WF_argument_13 d_WF_argument_16 (by decide) (Nat.le_of_ble_eq_true rfl) (Nat.le_of_ble_eq_true rfl) (Nat.le_of_ble_eq_true rfl) (fun _ => rfl) (fun x t h1 h2 h3 h4 => ⟨⟨(gag, h0_argumentCount), ⟨(b_h0_argumentCount), h3⟩, vp_ext hP9 h2, va_K.moved h4.alike hK, hD9⟩, vs_ext hS h1 h2⟩) hS.2.2

/-! WaferForge: word; Wafer.exportedFunction -/
abbrev b_WF_word : ByteArray := prog_1_method_12_code
def y_WF_word : MethodName := ⟨R_WF, "word", "(I)J"⟩
abbrev w_WF_word : List Cond := .code y_WF_word b_WF_word 6 (Option.some .long) :: lw_g
theorem kC_WF_word : Cond.code y_WF_word b_WF_word 6 (Option.some .long) ∈ lw_g := in_g 1728 (by decide +kernel) rfl
theorem d_WF_word_0 : decode b_WF_word 0 = .ok (.iload_n 1, 1) := by decide +kernel
theorem d_WF_word_1 : decode b_WF_word 1 = .ok (.ifCond .lt 14, 3) := by decide +kernel
theorem d_WF_word_4 : decode b_WF_word 4 = .ok (.iload_n 1, 1) := by decide +kernel
theorem d_WF_word_5 : decode b_WF_word 5 = .ok (.aload_n 0, 1) := by decide +kernel
theorem d_WF_word_6 : decode b_WF_word 6 = .ok (.getfield 20, 3) := by decide +kernel
theorem d_WF_word_9 : decode b_WF_word 9 = .ok (.getfield 85, 3) := by decide +kernel
theorem d_WF_word_12 : decode b_WF_word 12 = .ok (.if_icmp .lt 11, 3) := by decide +kernel
theorem d_WF_word_15 : decode b_WF_word 15 = .ok (.new 88, 3) := by decide +kernel
theorem d_WF_word_18 : decode b_WF_word 18 = .ok (.dup, 1) := by decide +kernel
theorem d_WF_word_19 : decode b_WF_word 19 = .ok (.invokespecial 90, 3) := by decide +kernel
theorem d_WF_word_22 : decode b_WF_word 22 = .ok (.athrow, 1) := by decide +kernel
theorem d_WF_word_23 : decode b_WF_word 23 = .ok (.lconst 0, 1) := by decide +kernel
theorem d_WF_word_24 : decode b_WF_word 24 = .ok (.lstore_n 2, 1) := by decide +kernel
theorem d_WF_word_25 : decode b_WF_word 25 = .ok (.iconst 0, 1) := by decide +kernel
theorem d_WF_word_26 : decode b_WF_word 26 = .ok (.istore 4, 2) := by decide +kernel
theorem d_WF_word_28 : decode b_WF_word 28 = .ok (.iload 4, 2) := by decide +kernel
theorem d_WF_word_30 : decode b_WF_word 30 = .ok (.bipush 8, 2) := by decide +kernel
theorem d_WF_word_32 : decode b_WF_word 32 = .ok (.if_icmp .ge 49, 3) := by decide +kernel
theorem d_WF_word_35 : decode b_WF_word 35 = .ok (.iload_n 1, 1) := by decide +kernel
theorem d_WF_word_36 : decode b_WF_word 36 = .ok (.iload 4, 2) := by decide +kernel
theorem d_WF_word_38 : decode b_WF_word 38 = .ok (.iadd, 1) := by decide +kernel
theorem d_WF_word_39 : decode b_WF_word 39 = .ok (.aload_n 0, 1) := by decide +kernel
theorem d_WF_word_40 : decode b_WF_word 40 = .ok (.getfield 20, 3) := by decide +kernel
theorem d_WF_word_43 : decode b_WF_word 43 = .ok (.getfield 85, 3) := by decide +kernel
theorem d_WF_word_46 : decode b_WF_word 46 = .ok (.if_icmp .ge 17, 3) := by decide +kernel
theorem d_WF_word_49 : decode b_WF_word 49 = .ok (.aload_n 0, 1) := by decide +kernel
theorem d_WF_word_50 : decode b_WF_word 50 = .ok (.getfield 20, 3) := by decide +kernel
theorem d_WF_word_53 : decode b_WF_word 53 = .ok (.iload_n 1, 1) := by decide +kernel
theorem d_WF_word_54 : decode b_WF_word 54 = .ok (.iload 4, 2) := by decide +kernel
theorem d_WF_word_56 : decode b_WF_word 56 = .ok (.iadd, 1) := by decide +kernel
theorem d_WF_word_57 : decode b_WF_word 57 = .ok (.invokevirtual 167, 3) := by decide +kernel
theorem d_WF_word_60 : decode b_WF_word 60 = .ok (.goto 4, 3) := by decide +kernel
theorem d_WF_word_63 : decode b_WF_word 63 = .ok (.iconst 0, 1) := by decide +kernel
theorem d_WF_word_64 : decode b_WF_word 64 = .ok (.istore 5, 2) := by decide +kernel
theorem d_WF_word_66 : decode b_WF_word 66 = .ok (.lload_n 2, 1) := by decide +kernel
theorem d_WF_word_67 : decode b_WF_word 67 = .ok (.bipush 8, 2) := by decide +kernel
theorem d_WF_word_69 : decode b_WF_word 69 = .ok (.lshl, 1) := by decide +kernel
theorem d_WF_word_70 : decode b_WF_word 70 = .ok (.iload 5, 2) := by decide +kernel
theorem d_WF_word_72 : decode b_WF_word 72 = .ok (.i2l, 1) := by decide +kernel
theorem d_WF_word_73 : decode b_WF_word 73 = .ok (.lor, 1) := by decide +kernel
theorem d_WF_word_74 : decode b_WF_word 74 = .ok (.lstore_n 2, 1) := by decide +kernel
theorem d_WF_word_75 : decode b_WF_word 75 = .ok (.iinc 4 1, 3) := by decide +kernel
theorem d_WF_word_78 : decode b_WF_word 78 = .ok (.goto (-50), 3) := by decide +kernel
theorem d_WF_word_81 : decode b_WF_word 81 = .ok (.lload_n 2, 1) := by decide +kernel
theorem d_WF_word_82 : decode b_WF_word 82 = .ok (.lreturn, 1) := by decide +kernel
theorem kM_WF_167 : Cond.methodLink R_WF 167 y_BR_at ∈ lw_g := in_g 1729 (by decide +kernel) rfl
theorem kF_WF_20 : Cond.fieldLink R_WF 20 "WaferForge" "result" "LWaferForge$ByteRow;" ∈ lw_g := in_g 597 (by decide +kernel) rfl
abbrev at_WF_word (dC : Nat → ClassId) (dI : Nat → Nat → Nat) (sa : Nat → Nat) (h0 ta rw ag h0_wafer_r h0_spare_r h0_program_r h0_coder_r h0_reader_r h0_validator_r h0_machine_r rwb : Nat) (crwb : ClassId) (h0_argumentCount : Int32) (h0_reason : Int32) (h0_place : Int32) (h0_loaded : Int32) (rw_length : Int32) (grwb : Nat → Int32) (A : Nat → Prop) (u : Unit) (t : State) : Prop := match u with | _ => va_P (dC, dI) cls [(h0, .inr (0, [.ref ta, .ref rw, .ref ag, .int h0_argumentCount, .int h0_reason, .int h0_place, .int h0_loaded, .ref h0_wafer_r, .ref h0_spare_r, .ref h0_program_r, .ref h0_coder_r, .ref h0_reader_r, .ref h0_validator_r, .ref h0_machine_r])), (rw, .inr (1, [.ref rwb, .int rw_length])), (rwb, .inl (crwb, 8192, .inl grwb))] t.heap ∧ va_K (dC, dI) cls [(crwb, .byte)] t ∧ va_D A [(h0, .inr (0, [.ref ta, .ref rw, .ref ag, .int h0_argumentCount, .int h0_reason, .int h0_place, .int h0_loaded, .ref h0_wafer_r, .ref h0_spare_r, .ref h0_program_r, .ref h0_coder_r, .ref h0_reader_r, .ref h0_validator_r, .ref h0_machine_r])), (rw, .inr (1, [.ref rwb, .int rw_length])), (rwb, .inl (crwb, 8192, .inl grwb))]
set_option maxHeartbeats 4000000 in
set_option maxRecDepth 100000 in
theorem c_WF_word (l : Launch) (hlt : l.stackTraces = false) (dC : Nat → ClassId) (dI : Nat → Nat → Nat) (sz : Nat) (sa : Nat → Nat) (h0 ta rw ag h0_wafer_r h0_spare_r h0_program_r h0_coder_r h0_reader_r h0_validator_r h0_machine_r rwb : Nat) (crwb : ClassId) (h0_argumentCount : Int32) (h0_reason : Int32) (h0_place : Int32) (h0_loaded : Int32) (rw_length : Int32) (grwb : Nat → Int32)  (b_rw_length : 0 ≤ rw_length.toInt ∧ rw_length.toInt ≤ 8192) (p0 : Int32)   : tz_Met l y_WF_word w_WF_word ({ frames := 6, cells := 1, slots := 6, locals := 90 }) (va_Pc [.ref h0, .int p0] (fun U => U.heap.size = sz ∧ va_P (dC, dI) cls [(h0, .inr (0, [.ref ta, .ref rw, .ref ag, .int h0_argumentCount, .int h0_reason, .int h0_place, .int h0_loaded, .ref h0_wafer_r, .ref h0_spare_r, .ref h0_program_r, .ref h0_coder_r, .ref h0_reader_r, .ref h0_validator_r, .ref h0_machine_r])), (rw, .inr (1, [.ref rwb, .int rw_length])), (rwb, .inl (crwb, 8192, .inl grwb))] U.heap ∧ va_K (dC, dI) cls [(crwb, .byte)] U ∧ va_D (fun _ => True) [(h0, .inr (0, [.ref ta, .ref rw, .ref ag, .int h0_argumentCount, .int h0_reason, .int h0_place, .int h0_loaded, .ref h0_wafer_r, .ref h0_spare_r, .ref h0_program_r, .ref h0_coder_r, .ref h0_reader_r, .ref h0_validator_r, .ref h0_machine_r])), (rw, .inr (1, [.ref rwb, .int rw_length])), (rwb, .inl (crwb, 8192, .inl grwb))] ∧ sw sa (va_A [(h0, .inr (0, [.ref ta, .ref rw, .ref ag, .int h0_argumentCount, .int h0_reason, .int h0_place, .int h0_loaded, .ref h0_wafer_r, .ref h0_spare_r, .ref h0_program_r, .ref h0_coder_r, .ref h0_reader_r, .ref h0_validator_r, .ref h0_machine_r])), (rw, .inr (1, [.ref rwb, .int rw_length])), (rwb, .inl (crwb, 8192, .inl grwb))] sz) U U.heap)) (tq_Q (tq_l (fun (r : Int64) (u : Unit) => match u with | _ => (True)) "java/lang/IndexOutOfBoundsException" (fun (u : Unit) => match u with | _ => True)) (at_WF_word dC dI sa h0 ta rw ag h0_wafer_r h0_spare_r h0_program_r h0_coder_r h0_reader_r h0_validator_r h0_machine_r rwb crwb h0_argumentCount h0_reason h0_place h0_loaded rw_length grwb (va_A [(h0, .inr (0, [.ref ta, .ref rw, .ref ag, .int h0_argumentCount, .int h0_reason, .int h0_place, .int h0_loaded, .ref h0_wafer_r, .ref h0_spare_r, .ref h0_program_r, .ref h0_coder_r, .ref h0_reader_r, .ref h0_validator_r, .ref h0_machine_r])), (rw, .inr (1, [.ref rwb, .int rw_length])), (rwb, .inl (crwb, 8192, .inl grwb))] sz)) (va_A [(h0, .inr (0, [.ref ta, .ref rw, .ref ag, .int h0_argumentCount, .int h0_reason, .int h0_place, .int h0_loaded, .ref h0_wafer_r, .ref h0_spare_r, .ref h0_program_r, .ref h0_coder_r, .ref h0_reader_r, .ref h0_validator_r, .ref h0_machine_r])), (rw, .inr (1, [.ref rwb, .int rw_length])), (rwb, .inl (crwb, 8192, .inl grwb))] sz)) (tz_k 0 0 1 6) (va_A [(h0, .inr (0, [.ref ta, .ref rw, .ref ag, .int h0_argumentCount, .int h0_reason, .int h0_place, .int h0_loaded, .ref h0_wafer_r, .ref h0_spare_r, .ref h0_program_r, .ref h0_coder_r, .ref h0_reader_r, .ref h0_validator_r, .ref h0_machine_r])), (rw, .inr (1, [.ref rwb, .int rw_length])), (rwb, .inl (crwb, 8192, .inl grwb))] sz) := by
  refine tz_ofW (cc := b_WF_word) (maxL := 6) (ret := (Option.some .long)) (by decide) rfl ?_
  intro p e s m args below meth c s₁ B hml hno hv
  obtain ⟨rfl, hsz, hP, hK, hD0, hSW⟩ := hv
  have hx := B.exec
  have hb := B.bytes
  have hr := B.returns
  have hts0 := atoms_spec (ws := w_WF_word) B.pre
  have hts : ∀ w ∈ lw_g, w.before _ s = true := fun w h => hts0 w (List.mem_cons_of_mem _ h)
  have hown : s.vm.findClass R_WF = some m.cls := findClass_of_methodNamed B.named
  have hlocks := B.notSynchronized
  clear hts0
  subst hsz
  have hD := hD0.self (sz := s.heap.size)
  generalize hAe : va_A [(h0, .inr (0, [.ref ta, .ref rw, .ref ag, .int h0_argumentCount, .int h0_reason, .int h0_place, .int h0_loaded, .ref h0_wafer_r, .ref h0_spare_r, .ref h0_program_r, .ref h0_coder_r, .ref h0_reader_r, .ref h0_validator_r, .ref h0_machine_r])), (rw, .inr (1, [.ref rwb, .int rw_length])), (rwb, .inl (crwb, 8192, .inl grwb))] s.heap.size = A at hD hSW ⊢
  have hA : ∀ q : Nat, s.heap.size ≤ q → A q := fun q h => by rw [← hAe]; exact Or.inr h
  clear hAe
  have hP : va_P (dC, dI) cls [(h0, .inr (0, [.ref ta, .ref rw, .ref ag, .int h0_argumentCount, .int h0_reason, .int h0_place, .int h0_loaded, .ref h0_wafer_r, .ref h0_spare_r, .ref h0_program_r, .ref h0_coder_r, .ref h0_reader_r, .ref h0_validator_r, .ref h0_machine_r])), (rw, .inr (1, [.ref rwb, .int rw_length])), (rwb, .inl (crwb, 8192, .inl grwb))] s.heap := hP
  have hl := lv_entry ([.ref h0, .int p0]) (n := 6) (Nat.le_of_ble_eq_true rfl)
  rw [lg_entry_eq]
  generalize (lg_sl ([.ref h0, .int p0]) ++ List.replicate (6 - (lg_sl ([.ref h0, .int p0])).length) Slot.unset).toArray = ls at hl ⊢
  have hl : lv_has ls 6 [(0, .ref h0), (1, .int p0)] := hl
  have k0 : (0 : Int32).toInt = 0 := by decide
  refine w_gen (A := A) hP (fun H locs hP hS => ?_)
  have k1 : (1 : Int32).toInt = 1 := by decide
  have k8 : (8 : Int32).toInt = 8 := by decide
  have lo_p0 := i32_lo p0
  have hi_p0 := i32_hi p0
  refine lv_iload_n hx hb d_WF_word_0 rfl (lv_at hl 1 rfl) ?_
  refine w_cut (pc2 := 15) (σ := Unit) (fun u H locs ls => match u with | _ => va_P (dC, dI) cls [(h0, .inr (0, [.ref ta, .ref rw, .ref ag, .int h0_argumentCount, .int h0_reason, .int h0_place, .int h0_loaded, .ref h0_wafer_r, .ref h0_spare_r, .ref h0_program_r, .ref h0_coder_r, .ref h0_reader_r, .ref h0_validator_r, .ref h0_machine_r])), (rw, .inr (1, [.ref rwb, .int rw_length])), (rwb, .inl (crwb, 8192, .inl grwb))] H ∧ va_D A [(h0, .inr (0, [.ref ta, .ref rw, .ref ag, .int h0_argumentCount, .int h0_reason, .int h0_place, .int h0_loaded, .ref h0_wafer_r, .ref h0_spare_r, .ref h0_program_r, .ref h0_coder_r, .ref h0_reader_r, .ref h0_validator_r, .ref h0_machine_r])), (rw, .inr (1, [.ref rwb, .int rw_length])), (rwb, .inl (crwb, 8192, .inl grwb))] ∧ va_S A s.heap H locs ∧ lv_has ls 6 []) (fun u => match u with | _ => []) ?_ (fun jn15 => ?_)
  · intro u H locs ls hI
    obtain ⟨hP, hD, hS, hl⟩ := hI
    have hP9 := hP.sub (ws' := [(h0, .inr (0, [.ref ta, .ref rw, .ref ag, .int h0_argumentCount, .int h0_reason, .int h0_place, .int h0_loaded, .ref h0_wafer_r, .ref h0_spare_r, .ref h0_program_r, .ref h0_coder_r, .ref h0_reader_r, .ref h0_validator_r, .ref h0_machine_r])), (rw, .inr (1, [.ref rwb, .int rw_length])), (rwb, .inl (crwb, 8192, .inl grwb))]) [0, 1, 2] rfl
    have hD9 := hD.sub (ws' := [(h0, .inr (0, [.ref ta, .ref rw, .ref ag, .int h0_argumentCount, .int h0_reason, .int h0_place, .int h0_loaded, .ref h0_wafer_r, .ref h0_spare_r, .ref h0_program_r, .ref h0_coder_r, .ref h0_reader_r, .ref h0_validator_r, .ref h0_machine_r])), (rw, .inr (1, [.ref rwb, .int rw_length])), (rwb, .inl (crwb, 8192, .inl grwb))]) [0, 1, 2] (by decide) rfl
    exact tz_throwNew hx hb hno hlocks hlt (hl.1.trans hml.symm) hown (by decide +kernel) (by decide +kernel) (fun U hU hW => eb_WF_io hts hSW hS U hU hW) d_WF_word_15 d_WF_word_18 d_WF_word_19 d_WF_word_22 (by decide) (Nat.le_of_ble_eq_true rfl) (Nat.le_of_ble_eq_true rfl) (Nat.le_of_ble_eq_true rfl) (fun _ => rfl) (fun x t h1 h2 h3 h4 => ⟨⟨(), ⟨trivial, h3⟩, vp_ext hP9 h2, va_K.moved h4.alike hK, hD9⟩, vs_ext hS h1 h2⟩) hS.2.2
  · skip
    refine lv_if_lt (tgt := 15) hx hb d_WF_word_1 (by decide) (fun c1 => ?_) (fun c1 => ?_)
    · have q1 := ltI c1
      exact jn15 () _ _ _ ⟨hP, hD, hS, lv_sub hl [] rfl⟩
    · have q1 := nltI c1
      refine lv_iload_n hx hb d_WF_word_4 rfl (lv_at hl 1 rfl) ?_
      refine lv_aload_n hx hb d_WF_word_5 rfl (lv_at hl 0 rfl) ?_
      refine va_get (D := (dC, dI)) (ci := 0) (v := .ref rw) (C := R_WF) (T := F_WF) (N := 14) hx hb hts i_WF hown hK hP 0 rfl rfl 1 (by decide) (hts _ kF_WF_20) (fun _ h9 => h9) rfl d_WF_word_6 ?_
      refine va_get (D := (dC, dI)) (ci := 1) (v := .int rw_length) (C := R_BR) (T := F_BR) (N := 2) hx hb hts i_BR hown hK hP 1 rfl rfl 1 (by decide) (hts _ kF_WF_85) (fun _ h9 => h9) rfl d_WF_word_9 ?_
      refine lv_icmp_lt (tgt := 23) hx hb d_WF_word_12 (by decide) (fun c12 => ?_) (fun c12 => ?_)
      · have q12 := ltI c12
        refine lv_lconst (v := 0) hx hb d_WF_word_23 (by decide) ?_
        have kl0 : (0 : Int64).toInt = 0 := by decide
        refine lv_lstore_n (lv' := [(2, .long 0), (0, .ref h0), (1, .int p0)]) hx hb d_WF_word_24 rfl hl (by decide) rfl (fun ls hl => ?_)
        refine lv_iconst (v := 0) hx hb d_WF_word_25 (by decide) ?_
        refine lv_istore (lv' := [(4, .int 0), (2, .long 0), (0, .ref h0), (1, .int p0)]) hx hb d_WF_word_26 hl (by decide) rfl (fun ls hl => ?_)
        refine w_loop (σ := Int64 × Int32) (fun u H locs ls => match u with | (j28_l2, j28_l4) => (0 ≤ j28_l4.toInt ∧ j28_l4.toInt ≤ 8) ∧ va_P (dC, dI) cls [(h0, .inr (0, [.ref ta, .ref rw, .ref ag, .int h0_argumentCount, .int h0_reason, .int h0_place, .int h0_loaded, .ref h0_wafer_r, .ref h0_spare_r, .ref h0_program_r, .ref h0_coder_r, .ref h0_reader_r, .ref h0_validator_r, .ref h0_machine_r])), (rw, .inr (1, [.ref rwb, .int rw_length])), (rwb, .inl (crwb, 8192, .inl grwb))] H ∧ va_D A [(h0, .inr (0, [.ref ta, .ref rw, .ref ag, .int h0_argumentCount, .int h0_reason, .int h0_place, .int h0_loaded, .ref h0_wafer_r, .ref h0_spare_r, .ref h0_program_r, .ref h0_coder_r, .ref h0_reader_r, .ref h0_validator_r, .ref h0_machine_r])), (rw, .inr (1, [.ref rwb, .int rw_length])), (rwb, .inl (crwb, 8192, .inl grwb))] ∧ va_S A s.heap H locs ∧ lv_has ls 6 [(0, .ref h0), (1, .int p0), (2, .long j28_l2), (4, .int j28_l4)]) (fun u => match u with | (j28_l2, j28_l4) => (8 - j28_l4.toInt).toNat) ?_ (0, 0) ⟨by (try dsimp only) <;> omega, hP, hD, hS, lv_sub hl [2, 3, 1, 0] rfl⟩
        intro N28 ih28 u H locs ls hN28 hI
        obtain ⟨j28_l2, j28_l4⟩ := u
        obtain ⟨b_j28_l4, hP, hD, hS, hl⟩ := hI
        have hN28 : (8 - j28_l4.toInt).toNat < N28 + 1 := hN28
        refine lv_iload hx hb d_WF_word_28 (lv_at hl 3 rfl) ?_
        refine lv_bipush (v := 8) hx hb d_WF_word_30 (by decide) ?_
        refine lv_icmp_ge (tgt := 81) hx hb d_WF_word_32 (by decide) (fun c32 => ?_) (fun c32 => ?_)
        · have q32 := leI c32
          refine lv_lload_n hx hb d_WF_word_81 rfl (lv_at hl 2 rfl) ?_
          have hP9 := hP.sub (ws' := [(h0, .inr (0, [.ref ta, .ref rw, .ref ag, .int h0_argumentCount, .int h0_reason, .int h0_place, .int h0_loaded, .ref h0_wafer_r, .ref h0_spare_r, .ref h0_program_r, .ref h0_coder_r, .ref h0_reader_r, .ref h0_validator_r, .ref h0_machine_r])), (rw, .inr (1, [.ref rwb, .int rw_length])), (rwb, .inl (crwb, 8192, .inl grwb))]) [0, 1, 2] rfl
          have hD9 := hD.sub (ws' := [(h0, .inr (0, [.ref ta, .ref rw, .ref ag, .int h0_argumentCount, .int h0_reason, .int h0_place, .int h0_loaded, .ref h0_wafer_r, .ref h0_spare_r, .ref h0_program_r, .ref h0_coder_r, .ref h0_reader_r, .ref h0_validator_r, .ref h0_machine_r])), (rw, .inr (1, [.ref rwb, .int rw_length])), (rwb, .inl (crwb, 8192, .inl grwb))]) [0, 1, 2] (by decide) rfl
          exact tz_up (fun _ => rfl) (W.lret (v := j28_l2) hx hb hr (fun t ht hW => ⟨⟨(), ⟨j28_l2, rfl, (trivial)⟩, by rw [ht]; exact hP9, va_K.moved hW.alike hK, hD9⟩, hS.F ht⟩) hS.2.2 d_WF_word_82)
        · have q32 := nleI c32
          refine lv_iload_n hx hb d_WF_word_35 rfl (lv_at hl 1 rfl) ?_
          refine lv_iload hx hb d_WF_word_36 (lv_at hl 3 rfl) ?_
          refine lv_iadd hx hb d_WF_word_38 ?_
          refine lv_topi (fun x1 ex1 => ?_)
          have tx1 : x1.toInt = p0.toInt + j28_l4.toInt := by have z := i32_add ex1 (by omega) (by omega); omega
          refine lv_aload_n hx hb d_WF_word_39 rfl (lv_at hl 0 rfl) ?_
          refine va_get (D := (dC, dI)) (ci := 0) (v := .ref rw) (C := R_WF) (T := F_WF) (N := 14) hx hb hts i_WF hown hK hP 0 rfl rfl 1 (by decide) (hts _ kF_WF_20) (fun _ h9 => h9) rfl d_WF_word_40 ?_
          refine va_get (D := (dC, dI)) (ci := 1) (v := .int rw_length) (C := R_BR) (T := F_BR) (N := 2) hx hb hts i_BR hown hK hP 1 rfl rfl 1 (by decide) (hts _ kF_WF_85) (fun _ h9 => h9) rfl d_WF_word_43 ?_
          refine w_cut (pc2 := 64) (σ := Int32) (fun u H locs ls => match u with | j64_s0 => va_P (dC, dI) cls [(h0, .inr (0, [.ref ta, .ref rw, .ref ag, .int h0_argumentCount, .int h0_reason, .int h0_place, .int h0_loaded, .ref h0_wafer_r, .ref h0_spare_r, .ref h0_program_r, .ref h0_coder_r, .ref h0_reader_r, .ref h0_validator_r, .ref h0_machine_r])), (rw, .inr (1, [.ref rwb, .int rw_length])), (rwb, .inl (crwb, 8192, .inl grwb))] H ∧ va_D A [(h0, .inr (0, [.ref ta, .ref rw, .ref ag, .int h0_argumentCount, .int h0_reason, .int h0_place, .int h0_loaded, .ref h0_wafer_r, .ref h0_spare_r, .ref h0_program_r, .ref h0_coder_r, .ref h0_reader_r, .ref h0_validator_r, .ref h0_machine_r])), (rw, .inr (1, [.ref rwb, .int rw_length])), (rwb, .inl (crwb, 8192, .inl grwb))] ∧ va_S A s.heap H locs ∧ lv_has ls 6 [(0, .ref h0), (1, .int p0), (2, .long j28_l2), (4, .int j28_l4)]) (fun u => match u with | j64_s0 => [.int j64_s0]) ?_ (fun jn64 => ?_)
          · intro u H locs ls hI
            obtain ⟨j64_s0, rfl⟩ : ∃ z, z = u := ⟨_, rfl⟩
            obtain ⟨hP, hD, hS, hl⟩ := hI
            refine lv_istore (lv' := [(5, .int j64_s0), (0, .ref h0), (1, .int p0), (2, .long j28_l2), (4, .int j28_l4)]) hx hb d_WF_word_64 hl (by decide) rfl (fun ls hl => ?_)
            refine lv_lload_n hx hb d_WF_word_66 rfl (lv_at hl 3 rfl) ?_
            refine lv_bipush (v := 8) hx hb d_WF_word_67 (by decide) ?_
            refine lv_lshl hx hb d_WF_word_69 rfl ?_
            refine lv_topl (fun x2 ex2 => ?_)
            refine lv_iload hx hb d_WF_word_70 (lv_at hl 0 rfl) ?_
            refine lv_i2l hx hb d_WF_word_72 rfl ?_
            refine lv_topl (fun x3 ex3 => ?_)
            have tx3 := i2l_t ex3
            refine lv_lor hx hb d_WF_word_73 ?_
            refine lv_topl (fun x4 ex4 => ?_)
            refine lv_lstore_n (lv' := [(2, .long x4), (5, .int j64_s0), (0, .ref h0), (1, .int p0), (4, .int j28_l4)]) hx hb d_WF_word_74 rfl hl (by decide) rfl (fun ls hl => ?_)
            obtain ⟨x5, ex5⟩ : ∃ z : Int32, z = j28_l4 + 1 := ⟨_, rfl⟩
            have tx5 : x5.toInt = j28_l4.toInt + 1 := by have z := i32_add ex5 (by omega) (by omega); omega
            refine lv_iinc (v := x5) (lv' := [(4, .int x5), (2, .long x4), (5, .int j64_s0), (0, .ref h0), (1, .int p0)]) hx hb d_WF_word_75 hl (k := 4) rfl (by rw [ex5]; rfl) (by decide) rfl (fun ls hl => ?_)
            refine lv_goto (tgt := 28) hx hb d_WF_word_78 (by decide) ?_
            exact ih28 (x4, x5) _ _ _ (by show (8 - x5.toInt).toNat < N28; omega) ⟨by (try dsimp only) <;> omega, hP, hD, hS, lv_sub hl [3, 4, 1, 0] rfl⟩
          · skip
            refine lv_icmp_ge (tgt := 63) hx hb d_WF_word_46 (by decide) (fun c46 => ?_) (fun c46 => ?_)
            · have q46 := leI c46
              refine lv_iconst (v := 0) hx hb d_WF_word_63 (by decide) ?_
              exact jn64 0 _ _ _ ⟨hP, hD, hS, lv_sub hl [0, 1, 2, 3] rfl⟩
            · have q46 := nleI c46
              refine lv_aload_n hx hb d_WF_word_49 rfl (lv_at hl 0 rfl) ?_
              refine va_get (D := (dC, dI)) (ci := 0) (v := .ref rw) (C := R_WF) (T := F_WF) (N := 14) hx hb hts i_WF hown hK hP 0 rfl rfl 1 (by decide) (hts _ kF_WF_20) (fun _ h9 => h9) rfl d_WF_word_50 ?_
              refine lv_iload_n hx hb d_WF_word_53 rfl (lv_at hl 1 rfl) ?_
              refine lv_iload hx hb d_WF_word_54 (lv_at hl 3 rfl) ?_
              refine lv_iadd hx hb d_WF_word_56 ?_
              refine lv_topi (fun x6 ex6 => ?_)
              have tx6 : x6.toInt = p0.toInt + j28_l4.toInt := by have z := i32_add ex6 (by omega) (by omega); omega
              have hPc := hP.sub (ws' := [(rw, .inr (1, [.ref rwb, .int rw_length])), (rwb, .inl (crwb, 8192, .inl grwb))]) [1, 2] rfl
              have hDc := hD.sub (ws' := [(rw, .inr (1, [.ref rwb, .int rw_length])), (rwb, .inl (crwb, 8192, .inl grwb))]) [1, 2] (by decide) rfl
              have hKc := hK.sub (tys' := [(crwb, .byte)]) [0] rfl
              have hFc := va_free (wc := [(rw, .inr (1, [.ref rwb, .int rw_length])), (rwb, .inl (crwb, 8192, .inl grwb))]) hD hS hA [1, 2] rfl
              refine va_calli (va_runV (As := [.int x6]) (rest := []) ⟨hx, hb, hml, hown, hts⟩ (c_BR_at l dC dI rw rwb H.size crwb 8192 rw_length grwb (by omega) (by omega) (by omega) x6) (cwV 1 hts (gV kM_WF_167 kV_BR_at kS_BR_at kI_BR kC_BR_at) rfl rfl rfl (by decide +kernel) ⟨Nat.le_of_ble_eq_true rfl, Nat.le_of_ble_eq_true rfl⟩) ⟨fun a U g mk z => by obtain ⟨z0, z1, zP, zK, zD⟩ := z; exact ⟨z0, z1, zP, va_K.moved (u := U) (U := U.calling g mk a) (Vm.Alike.refl U.vm) zK, zD⟩, va_recv hKc hPc (ci := 1) (q0 := 0) rfl rfl, fun U hU hW => ⟨rfl, by rw [hU], by rw [hU]; exact hPc, va_K.moved hW.alike hKc, hDc.weaken (fun _ _ _ _ => trivial)⟩⟩ rfl rfl hl.1 rfl (lv_room (Nat.le_of_ble_eq_true rfl)) d_WF_word_57 ⟨(Nat.zero_le _), (Nat.zero_le _)⟩) hS (fun q _ h => hFc q h) hFc (fun r7 u t H1 locs ht hvm hw hB hz1 hk1 hS => ?_)
              obtain ⟨er7, rfl⟩ := hw
              have tr7 := br_get_in grwb rw_length x6
              rw [← er7] at tr7
              obtain ⟨hP1, hK1, hD1⟩ := hB
              rw [ht] at hP1
              obtain ⟨hP, hD⟩ := va_join (wr := [(h0, .inr (0, [.ref ta, .ref rw, .ref ag, .int h0_argumentCount, .int h0_reason, .int h0_place, .int h0_loaded, .ref h0_wafer_r, .ref h0_spare_r, .ref h0_program_r, .ref h0_coder_r, .ref h0_reader_r, .ref h0_validator_r, .ref h0_machine_r]))]) (w1 := [(rw, .inr (1, [.ref rwb, .int rw_length])), (rwb, .inl (crwb, 8192, .inl grwb))]) hP hD [1, 2] [0] rfl rfl (by decide) (by decide) hk1 hFc hP1 hD1
              clear hPc hDc hKc hFc hz1 hk1 hP1 hK1 hD1
              generalize H1 = H at hP hS ⊢
              have hP : va_P (dC, dI) cls [(h0, .inr (0, [.ref ta, .ref rw, .ref ag, .int h0_argumentCount, .int h0_reason, .int h0_place, .int h0_loaded, .ref h0_wafer_r, .ref h0_spare_r, .ref h0_program_r, .ref h0_coder_r, .ref h0_reader_r, .ref h0_validator_r, .ref h0_machine_r])), (rw, .inr (1, [.ref rwb, .int rw_length])), (rwb, .inl (crwb, 8192, .inl grwb))] H := hP
              have hD : va_D A [(h0, .inr (0, [.ref ta, .ref rw, .ref ag, .int h0_argumentCount, .int h0_reason, .int h0_place, .int h0_loaded, .ref h0_wafer_r, .ref h0_spare_r, .ref h0_program_r, .ref h0_coder_r, .ref h0_reader_r, .ref h0_validator_r, .ref h0_machine_r])), (rw, .inr (1, [.ref rwb, .int rw_length])), (rwb, .inl (crwb, 8192, .inl grwb))] := hD
              refine lv_goto (tgt := 64) hx hb d_WF_word_60 (by decide) ?_
              exact jn64 r7 _ _ _ ⟨hP, hD, hS, lv_sub hl [0, 1, 2, 3] rfl⟩
      · have q12 := nltI c12
        exact jn15 () _ _ _ ⟨hP, hD, hS, lv_sub hl [] rfl⟩
abbrev b_WA_exportedFunction : ByteArray := prog_13_method_3_code
def y_WA_exportedFunction : MethodName := ⟨R_WA, "exportedFunction", "(LWaferForge$ByteRow;)I"⟩
abbrev w_WA_exportedFunction : List Cond := .code y_WA_exportedFunction b_WA_exportedFunction 5 (Option.some .int) :: lw_g
theorem kC_WA_exportedFunction : Cond.code y_WA_exportedFunction b_WA_exportedFunction 5 (Option.some .int) ∈ lw_g := in_g 646 (by decide +kernel) rfl
theorem d_WA_exportedFunction_0 : decode b_WA_exportedFunction 0 = .ok (.iconst 0, 1) := by decide +kernel
theorem d_WA_exportedFunction_1 : decode b_WA_exportedFunction 1 = .ok (.istore_n 2, 1) := by decide +kernel
theorem d_WA_exportedFunction_2 : decode b_WA_exportedFunction 2 = .ok (.iload_n 2, 1) := by decide +kernel
theorem d_WA_exportedFunction_3 : decode b_WA_exportedFunction 3 = .ok (.aload_n 0, 1) := by decide +kernel
theorem d_WA_exportedFunction_4 : decode b_WA_exportedFunction 4 = .ok (.getfield 95, 3) := by decide +kernel
theorem d_WA_exportedFunction_7 : decode b_WA_exportedFunction 7 = .ok (.if_icmp .ge 101, 3) := by decide +kernel
theorem d_WA_exportedFunction_10 : decode b_WA_exportedFunction 10 = .ok (.aload_n 0, 1) := by decide +kernel
theorem d_WA_exportedFunction_11 : decode b_WA_exportedFunction 11 = .ok (.getfield 54, 3) := by decide +kernel
theorem d_WA_exportedFunction_14 : decode b_WA_exportedFunction 14 = .ok (.iload_n 2, 1) := by decide +kernel
theorem d_WA_exportedFunction_15 : decode b_WA_exportedFunction 15 = .ok (.iaload, 1) := by decide +kernel
theorem d_WA_exportedFunction_16 : decode b_WA_exportedFunction 16 = .ok (.ifCond .ne 20, 3) := by decide +kernel
theorem d_WA_exportedFunction_19 : decode b_WA_exportedFunction 19 = .ok (.aload_n 0, 1) := by decide +kernel
theorem d_WA_exportedFunction_20 : decode b_WA_exportedFunction 20 = .ok (.getfield 63, 3) := by decide +kernel
theorem d_WA_exportedFunction_23 : decode b_WA_exportedFunction 23 = .ok (.iload_n 2, 1) := by decide +kernel
theorem d_WA_exportedFunction_24 : decode b_WA_exportedFunction 24 = .ok (.iaload, 1) := by decide +kernel
theorem d_WA_exportedFunction_25 : decode b_WA_exportedFunction 25 = .ok (.aload_n 1, 1) := by decide +kernel
theorem d_WA_exportedFunction_26 : decode b_WA_exportedFunction 26 = .ok (.getfield 98, 3) := by decide +kernel
theorem d_WA_exportedFunction_29 : decode b_WA_exportedFunction 29 = .ok (.if_icmp .ne 7, 3) := by decide +kernel
theorem d_WA_exportedFunction_32 : decode b_WA_exportedFunction 32 = .ok (.iconst 1, 1) := by decide +kernel
theorem d_WA_exportedFunction_33 : decode b_WA_exportedFunction 33 = .ok (.goto 4, 3) := by decide +kernel
theorem d_WA_exportedFunction_36 : decode b_WA_exportedFunction 36 = .ok (.iconst 0, 1) := by decide +kernel
theorem d_WA_exportedFunction_37 : decode b_WA_exportedFunction 37 = .ok (.istore_n 3, 1) := by decide +kernel
theorem d_WA_exportedFunction_38 : decode b_WA_exportedFunction 38 = .ok (.iconst 0, 1) := by decide +kernel
theorem d_WA_exportedFunction_39 : decode b_WA_exportedFunction 39 = .ok (.istore 4, 2) := by decide +kernel
theorem d_WA_exportedFunction_41 : decode b_WA_exportedFunction 41 = .ok (.iload_n 3, 1) := by decide +kernel
theorem d_WA_exportedFunction_42 : decode b_WA_exportedFunction 42 = .ok (.ifCond .eq 49, 3) := by decide +kernel
theorem d_WA_exportedFunction_45 : decode b_WA_exportedFunction 45 = .ok (.iload 4, 2) := by decide +kernel
theorem d_WA_exportedFunction_47 : decode b_WA_exportedFunction 47 = .ok (.aload_n 1, 1) := by decide +kernel
theorem d_WA_exportedFunction_48 : decode b_WA_exportedFunction 48 = .ok (.getfield 98, 3) := by decide +kernel
theorem d_WA_exportedFunction_51 : decode b_WA_exportedFunction 51 = .ok (.if_icmp .ge 40, 3) := by decide +kernel
theorem d_WA_exportedFunction_54 : decode b_WA_exportedFunction 54 = .ok (.aload_n 0, 1) := by decide +kernel
theorem d_WA_exportedFunction_55 : decode b_WA_exportedFunction 55 = .ok (.getfield 14, 3) := by decide +kernel
theorem d_WA_exportedFunction_58 : decode b_WA_exportedFunction 58 = .ok (.aload_n 0, 1) := by decide +kernel
theorem d_WA_exportedFunction_59 : decode b_WA_exportedFunction 59 = .ok (.getfield 60, 3) := by decide +kernel
theorem d_WA_exportedFunction_62 : decode b_WA_exportedFunction 62 = .ok (.iload_n 2, 1) := by decide +kernel
theorem d_WA_exportedFunction_63 : decode b_WA_exportedFunction 63 = .ok (.iaload, 1) := by decide +kernel
theorem d_WA_exportedFunction_64 : decode b_WA_exportedFunction 64 = .ok (.iload 4, 2) := by decide +kernel
theorem d_WA_exportedFunction_66 : decode b_WA_exportedFunction 66 = .ok (.iadd, 1) := by decide +kernel
theorem d_WA_exportedFunction_67 : decode b_WA_exportedFunction 67 = .ok (.invokevirtual 99, 3) := by decide +kernel
theorem d_WA_exportedFunction_70 : decode b_WA_exportedFunction 70 = .ok (.aload_n 1, 1) := by decide +kernel
theorem d_WA_exportedFunction_71 : decode b_WA_exportedFunction 71 = .ok (.iload 4, 2) := by decide +kernel
theorem d_WA_exportedFunction_73 : decode b_WA_exportedFunction 73 = .ok (.invokevirtual 99, 3) := by decide +kernel
theorem d_WA_exportedFunction_76 : decode b_WA_exportedFunction 76 = .ok (.if_icmp .ne 7, 3) := by decide +kernel
theorem d_WA_exportedFunction_79 : decode b_WA_exportedFunction 79 = .ok (.iconst 1, 1) := by decide +kernel
theorem d_WA_exportedFunction_80 : decode b_WA_exportedFunction 80 = .ok (.goto 4, 3) := by decide +kernel
theorem d_WA_exportedFunction_83 : decode b_WA_exportedFunction 83 = .ok (.iconst 0, 1) := by decide +kernel
theorem d_WA_exportedFunction_84 : decode b_WA_exportedFunction 84 = .ok (.istore_n 3, 1) := by decide +kernel
theorem d_WA_exportedFunction_85 : decode b_WA_exportedFunction 85 = .ok (.iinc 4 1, 3) := by decide +kernel
theorem d_WA_exportedFunction_88 : decode b_WA_exportedFunction 88 = .ok (.goto (-47), 3) := by decide +kernel
theorem d_WA_exportedFunction_91 : decode b_WA_exportedFunction 91 = .ok (.iload_n 3, 1) := by decide +kernel
theorem d_WA_exportedFunction_92 : decode b_WA_exportedFunction 92 = .ok (.ifCond .eq 10, 3) := by decide +kernel
theorem d_WA_exportedFunction_95 : decode b_WA_exportedFunction 95 = .ok (.aload_n 0, 1) := by decide +kernel
theorem d_WA_exportedFunction_96 : decode b_WA_exportedFunction 96 = .ok (.getfield 57, 3) := by decide +kernel
theorem d_WA_exportedFunction_99 : decode b_WA_exportedFunction 99 = .ok (.iload_n 2, 1) := by decide +kernel
theorem d_WA_exportedFunction_100 : decode b_WA_exportedFunction 100 = .ok (.iaload, 1) := by decide +kernel
theorem d_WA_exportedFunction_101 : decode b_WA_exportedFunction 101 = .ok (.ireturn, 1) := by decide +kernel
theorem d_WA_exportedFunction_102 : decode b_WA_exportedFunction 102 = .ok (.iinc 2 1, 3) := by decide +kernel
theorem d_WA_exportedFunction_105 : decode b_WA_exportedFunction 105 = .ok (.goto (-103), 3) := by decide +kernel
theorem d_WA_exportedFunction_108 : decode b_WA_exportedFunction 108 = .ok (.iconst (-1), 1) := by decide +kernel
theorem d_WA_exportedFunction_109 : decode b_WA_exportedFunction 109 = .ok (.ireturn, 1) := by decide +kernel
theorem kM_WA_99 : Cond.methodLink R_WA 99 y_BR_at ∈ lw_g := in_g 647 (by decide +kernel) rfl
theorem kF_WA_54 : Cond.fieldLink R_WA 54 "WaferForge$Wafer" "exportKinds" "[I" ∈ lw_g := in_g 196 (by decide +kernel) rfl
theorem kF_WA_57 : Cond.fieldLink R_WA 57 "WaferForge$Wafer" "exportIndices" "[I" ∈ lw_g := in_g 199 (by decide +kernel) rfl
theorem kF_WA_98 : Cond.fieldLink R_WA 98 "WaferForge$ByteRow" "length" "I" ∈ lw_g := in_g 61 (by decide +kernel) rfl
theorem kF_WA_14 : Cond.fieldLink R_WA 14 "WaferForge$Wafer" "bytes" "LWaferForge$ByteRow;" ∈ lw_g := in_g 141 (by decide +kernel) rfl
theorem kF_WA_60 : Cond.fieldLink R_WA 60 "WaferForge$Wafer" "exportStarts" "[I" ∈ lw_g := in_g 202 (by decide +kernel) rfl
theorem kF_WA_63 : Cond.fieldLink R_WA 63 "WaferForge$Wafer" "exportSizes" "[I" ∈ lw_g := in_g 205 (by decide +kernel) rfl
abbrev at_WA_exportedFunction (dC : Nat → ClassId) (dI : Nat → Nat → Nat) (h0 ab h0_codes_r wat wap wag waf wgt wft wfv wgc wek wei wes wez ax tp tpb : Nat) (cax cwek cwei cwes cwez ctpb : ClassId) (h0_typeCount : Int32) (h0_functionCount : Int32) (h0_hasMemory : Int32) (h0_pagesLeast : Int64) (h0_pagesMost : Int64) (h0_globalCount : Int32) (h0_exportCount : Int32) (ab_length : Int32) (gax : Nat → Int32) (gwek : Nat → Int32) (gwei : Nat → Int32) (gwes : Nat → Int32) (gwez : Nat → Int32) (tp_length : Int32) (gtpb : Nat → Int32) (A : Nat → Prop) (u : Unit) (t : State) : Prop := match u with | _ => va_P (dC, dI) cls [(h0, .inr (10, [.ref ab, .ref h0_codes_r, .int h0_typeCount, .ref wat, .ref wap, .ref wag, .int h0_functionCount, .ref waf, .int h0_hasMemory, .long h0_pagesLeast, .long h0_pagesMost, .int h0_globalCount, .ref wgt, .ref wft, .ref wfv, .ref wgc, .int h0_exportCount, .ref wek, .ref wei, .ref wes, .ref wez])), (ab, .inr (1, [.ref ax, .int ab_length])), (ax, .inl (cax, 8192, .inl gax)), (wek, .inl (cwek, 40, .inl gwek)), (wei, .inl (cwei, 40, .inl gwei)), (wes, .inl (cwes, 40, .inl gwes)), (wez, .inl (cwez, 40, .inl gwez)), (tp, .inr (1, [.ref tpb, .int tp_length])), (tpb, .inl (ctpb, 2000, .inl gtpb))] t.heap ∧ va_K (dC, dI) cls [(cax, .byte), (cwek, .int), (cwei, .int), (cwes, .int), (cwez, .int), (ctpb, .byte)] t ∧ va_D A [(h0, .inr (10, [.ref ab, .ref h0_codes_r, .int h0_typeCount, .ref wat, .ref wap, .ref wag, .int h0_functionCount, .ref waf, .int h0_hasMemory, .long h0_pagesLeast, .long h0_pagesMost, .int h0_globalCount, .ref wgt, .ref wft, .ref wfv, .ref wgc, .int h0_exportCount, .ref wek, .ref wei, .ref wes, .ref wez])), (ab, .inr (1, [.ref ax, .int ab_length])), (ax, .inl (cax, 8192, .inl gax)), (wek, .inl (cwek, 40, .inl gwek)), (wei, .inl (cwei, 40, .inl gwei)), (wes, .inl (cwes, 40, .inl gwes)), (wez, .inl (cwez, 40, .inl gwez)), (tp, .inr (1, [.ref tpb, .int tp_length])), (tpb, .inl (ctpb, 2000, .inl gtpb))]
set_option maxHeartbeats 4000000 in
set_option maxRecDepth 100000 in
theorem c_WA_exportedFunction (l : Launch) (dC : Nat → ClassId) (dI : Nat → Nat → Nat) (sz : Nat) (h0 ab h0_codes_r wat wap wag waf wgt wft wfv wgc wek wei wes wez ax tp tpb : Nat) (cax cwek cwei cwes cwez ctpb : ClassId) (h0_typeCount : Int32) (h0_functionCount : Int32) (h0_hasMemory : Int32) (h0_pagesLeast : Int64) (h0_pagesMost : Int64) (h0_globalCount : Int32) (h0_exportCount : Int32) (ab_length : Int32) (gax : Nat → Int32) (gwek : Nat → Int32) (gwei : Nat → Int32) (gwes : Nat → Int32) (gwez : Nat → Int32) (tp_length : Int32) (gtpb : Nat → Int32)  (b_h0_exportCount : 0 ≤ h0_exportCount.toInt ∧ h0_exportCount.toInt ≤ 40) (b_tp_length : 0 ≤ tp_length.toInt ∧ tp_length.toInt ≤ 2000)   (hab : 0 ≤ ab_length.toInt ∧ ab_length.toInt ≤ 8192) : Met l y_WA_exportedFunction w_WA_exportedFunction ({ frames := 1, cells := 0, slots := 0, locals := 21 }) (va_Pc [.ref h0, .ref tp] (fun U => U.heap.size = sz ∧ va_P (dC, dI) cls [(h0, .inr (10, [.ref ab, .ref h0_codes_r, .int h0_typeCount, .ref wat, .ref wap, .ref wag, .int h0_functionCount, .ref waf, .int h0_hasMemory, .long h0_pagesLeast, .long h0_pagesMost, .int h0_globalCount, .ref wgt, .ref wft, .ref wfv, .ref wgc, .int h0_exportCount, .ref wek, .ref wei, .ref wes, .ref wez])), (ab, .inr (1, [.ref ax, .int ab_length])), (ax, .inl (cax, 8192, .inl gax)), (wek, .inl (cwek, 40, .inl gwek)), (wei, .inl (cwei, 40, .inl gwei)), (wes, .inl (cwes, 40, .inl gwes)), (wez, .inl (cwez, 40, .inl gwez)), (tp, .inr (1, [.ref tpb, .int tp_length])), (tpb, .inl (ctpb, 2000, .inl gtpb))] U.heap ∧ va_K (dC, dI) cls [(cax, .byte), (cwek, .int), (cwei, .int), (cwes, .int), (cwez, .int), (ctpb, .byte)] U ∧ va_D (fun _ => True) [(h0, .inr (10, [.ref ab, .ref h0_codes_r, .int h0_typeCount, .ref wat, .ref wap, .ref wag, .int h0_functionCount, .ref waf, .int h0_hasMemory, .long h0_pagesLeast, .long h0_pagesMost, .int h0_globalCount, .ref wgt, .ref wft, .ref wfv, .ref wgc, .int h0_exportCount, .ref wek, .ref wei, .ref wes, .ref wez])), (ab, .inr (1, [.ref ax, .int ab_length])), (ax, .inl (cax, 8192, .inl gax)), (wek, .inl (cwek, 40, .inl gwek)), (wei, .inl (cwei, 40, .inl gwei)), (wes, .inl (cwes, 40, .inl gwes)), (wez, .inl (cwez, 40, .inl gwez)), (tp, .inr (1, [.ref tpb, .int tp_length])), (tpb, .inl (ctpb, 2000, .inl gtpb))])) (va_Qi (fun (r : Int32) (u : Unit) => match u with | _ => (True)) (at_WA_exportedFunction dC dI h0 ab h0_codes_r wat wap wag waf wgt wft wfv wgc wek wei wes wez ax tp tpb cax cwek cwei cwes cwez ctpb h0_typeCount h0_functionCount h0_hasMemory h0_pagesLeast h0_pagesMost h0_globalCount h0_exportCount ab_length gax gwek gwei gwes gwez tp_length gtpb (va_A [(h0, .inr (10, [.ref ab, .ref h0_codes_r, .int h0_typeCount, .ref wat, .ref wap, .ref wag, .int h0_functionCount, .ref waf, .int h0_hasMemory, .long h0_pagesLeast, .long h0_pagesMost, .int h0_globalCount, .ref wgt, .ref wft, .ref wfv, .ref wgc, .int h0_exportCount, .ref wek, .ref wei, .ref wes, .ref wez])), (ab, .inr (1, [.ref ax, .int ab_length])), (ax, .inl (cax, 8192, .inl gax)), (wek, .inl (cwek, 40, .inl gwek)), (wei, .inl (cwei, 40, .inl gwei)), (wes, .inl (cwes, 40, .inl gwes)), (wez, .inl (cwez, 40, .inl gwez)), (tp, .inr (1, [.ref tpb, .int tp_length])), (tpb, .inl (ctpb, 2000, .inl gtpb))] sz)) (va_A [(h0, .inr (10, [.ref ab, .ref h0_codes_r, .int h0_typeCount, .ref wat, .ref wap, .ref wag, .int h0_functionCount, .ref waf, .int h0_hasMemory, .long h0_pagesLeast, .long h0_pagesMost, .int h0_globalCount, .ref wgt, .ref wft, .ref wfv, .ref wgc, .int h0_exportCount, .ref wek, .ref wei, .ref wes, .ref wez])), (ab, .inr (1, [.ref ax, .int ab_length])), (ax, .inl (cax, 8192, .inl gax)), (wek, .inl (cwek, 40, .inl gwek)), (wei, .inl (cwei, 40, .inl gwei)), (wes, .inl (cwes, 40, .inl gwes)), (wez, .inl (cwez, 40, .inl gwez)), (tp, .inr (1, [.ref tpb, .int tp_length])), (tpb, .inl (ctpb, 2000, .inl gtpb))] sz)) 0 0 (va_A [(h0, .inr (10, [.ref ab, .ref h0_codes_r, .int h0_typeCount, .ref wat, .ref wap, .ref wag, .int h0_functionCount, .ref waf, .int h0_hasMemory, .long h0_pagesLeast, .long h0_pagesMost, .int h0_globalCount, .ref wgt, .ref wft, .ref wfv, .ref wgc, .int h0_exportCount, .ref wek, .ref wei, .ref wes, .ref wez])), (ab, .inr (1, [.ref ax, .int ab_length])), (ax, .inl (cax, 8192, .inl gax)), (wek, .inl (cwek, 40, .inl gwek)), (wei, .inl (cwei, 40, .inl gwei)), (wes, .inl (cwes, 40, .inl gwes)), (wez, .inl (cwez, 40, .inl gwez)), (tp, .inr (1, [.ref tpb, .int tp_length])), (tpb, .inl (ctpb, 2000, .inl gtpb))] sz) := by
  refine Met.ofW (cc := b_WA_exportedFunction) (maxL := 5) (ret := (Option.some .int)) (by decide) rfl ?_
  intro p e s m args below meth c s₁ B hml hv
  obtain ⟨rfl, hsz, hP, hK, hD0⟩ := hv
  have hx := B.exec
  have hb := B.bytes
  have hr := B.returns
  have hts0 := atoms_spec (ws := w_WA_exportedFunction) B.pre
  have hts : ∀ w ∈ lw_g, w.before _ s = true := fun w h => hts0 w (List.mem_cons_of_mem _ h)
  have hown : s.vm.findClass R_WA = some m.cls := findClass_of_methodNamed B.named
  have hlocks := B.notSynchronized
  clear hts0
  subst hsz
  have hD := hD0.self (sz := s.heap.size)
  generalize hAe : va_A [(h0, .inr (10, [.ref ab, .ref h0_codes_r, .int h0_typeCount, .ref wat, .ref wap, .ref wag, .int h0_functionCount, .ref waf, .int h0_hasMemory, .long h0_pagesLeast, .long h0_pagesMost, .int h0_globalCount, .ref wgt, .ref wft, .ref wfv, .ref wgc, .int h0_exportCount, .ref wek, .ref wei, .ref wes, .ref wez])), (ab, .inr (1, [.ref ax, .int ab_length])), (ax, .inl (cax, 8192, .inl gax)), (wek, .inl (cwek, 40, .inl gwek)), (wei, .inl (cwei, 40, .inl gwei)), (wes, .inl (cwes, 40, .inl gwes)), (wez, .inl (cwez, 40, .inl gwez)), (tp, .inr (1, [.ref tpb, .int tp_length])), (tpb, .inl (ctpb, 2000, .inl gtpb))] s.heap.size = A at hD ⊢
  have hA : ∀ q : Nat, s.heap.size ≤ q → A q := fun q h => by rw [← hAe]; exact Or.inr h
  clear hAe
  have hP : va_P (dC, dI) cls [(h0, .inr (10, [.ref ab, .ref h0_codes_r, .int h0_typeCount, .ref wat, .ref wap, .ref wag, .int h0_functionCount, .ref waf, .int h0_hasMemory, .long h0_pagesLeast, .long h0_pagesMost, .int h0_globalCount, .ref wgt, .ref wft, .ref wfv, .ref wgc, .int h0_exportCount, .ref wek, .ref wei, .ref wes, .ref wez])), (ab, .inr (1, [.ref ax, .int ab_length])), (ax, .inl (cax, 8192, .inl gax)), (wek, .inl (cwek, 40, .inl gwek)), (wei, .inl (cwei, 40, .inl gwei)), (wes, .inl (cwes, 40, .inl gwes)), (wez, .inl (cwez, 40, .inl gwez)), (tp, .inr (1, [.ref tpb, .int tp_length])), (tpb, .inl (ctpb, 2000, .inl gtpb))] s.heap := hP
  have hl := lv_entry ([.ref h0, .ref tp]) (n := 5) (Nat.le_of_ble_eq_true rfl)
  rw [lg_entry_eq]
  generalize (lg_sl ([.ref h0, .ref tp]) ++ List.replicate (5 - (lg_sl ([.ref h0, .ref tp])).length) Slot.unset).toArray = ls at hl ⊢
  have hl : lv_has ls 5 [(0, .ref h0), (1, .ref tp)] := hl
  have k0 : (0 : Int32).toInt = 0 := by decide
  refine w_gen (A := A) hP (fun H locs hP hS => ?_)
  have km1 : (-1 : Int32).toInt = -1 := by decide
  have k1 : (1 : Int32).toInt = 1 := by decide
  refine lv_iconst (v := 0) hx hb d_WA_exportedFunction_0 (by decide) ?_
  refine lv_istore_n (lv' := [(2, .int 0), (0, .ref h0), (1, .ref tp)]) hx hb d_WA_exportedFunction_1 rfl hl (by decide) rfl (fun ls hl => ?_)
  refine w_loop (σ := Int32) (fun u H locs ls => match u with | j2_l2 => (0 ≤ j2_l2.toInt ∧ j2_l2.toInt ≤ 40) ∧ (j2_l2.toInt ≤ h0_exportCount.toInt) ∧ va_P (dC, dI) cls [(h0, .inr (10, [.ref ab, .ref h0_codes_r, .int h0_typeCount, .ref wat, .ref wap, .ref wag, .int h0_functionCount, .ref waf, .int h0_hasMemory, .long h0_pagesLeast, .long h0_pagesMost, .int h0_globalCount, .ref wgt, .ref wft, .ref wfv, .ref wgc, .int h0_exportCount, .ref wek, .ref wei, .ref wes, .ref wez])), (ab, .inr (1, [.ref ax, .int ab_length])), (ax, .inl (cax, 8192, .inl gax)), (wek, .inl (cwek, 40, .inl gwek)), (wei, .inl (cwei, 40, .inl gwei)), (wes, .inl (cwes, 40, .inl gwes)), (wez, .inl (cwez, 40, .inl gwez)), (tp, .inr (1, [.ref tpb, .int tp_length])), (tpb, .inl (ctpb, 2000, .inl gtpb))] H ∧ va_D A [(h0, .inr (10, [.ref ab, .ref h0_codes_r, .int h0_typeCount, .ref wat, .ref wap, .ref wag, .int h0_functionCount, .ref waf, .int h0_hasMemory, .long h0_pagesLeast, .long h0_pagesMost, .int h0_globalCount, .ref wgt, .ref wft, .ref wfv, .ref wgc, .int h0_exportCount, .ref wek, .ref wei, .ref wes, .ref wez])), (ab, .inr (1, [.ref ax, .int ab_length])), (ax, .inl (cax, 8192, .inl gax)), (wek, .inl (cwek, 40, .inl gwek)), (wei, .inl (cwei, 40, .inl gwei)), (wes, .inl (cwes, 40, .inl gwes)), (wez, .inl (cwez, 40, .inl gwez)), (tp, .inr (1, [.ref tpb, .int tp_length])), (tpb, .inl (ctpb, 2000, .inl gtpb))] ∧ va_S A s.heap H locs ∧ lv_has ls 5 [(0, .ref h0), (1, .ref tp), (2, .int j2_l2)]) (fun u => match u with | j2_l2 => (h0_exportCount.toInt - j2_l2.toInt).toNat) ?_ 0 ⟨by (try dsimp only) <;> omega, by (try dsimp only) <;> omega, hP, hD, hS, lv_sub hl [1, 2, 0] rfl⟩
  intro N2 ih2 u H locs ls hN2 hI
  obtain ⟨j2_l2, rfl⟩ : ∃ z, z = u := ⟨_, rfl⟩
  obtain ⟨b_j2_l2, v1, hP, hD, hS, hl⟩ := hI
  have hN2 : (h0_exportCount.toInt - j2_l2.toInt).toNat < N2 + 1 := hN2
  refine lv_iload_n hx hb d_WA_exportedFunction_2 rfl (lv_at hl 2 rfl) ?_
  refine lv_aload_n hx hb d_WA_exportedFunction_3 rfl (lv_at hl 0 rfl) ?_
  refine va_get (D := (dC, dI)) (ci := 10) (v := .int h0_exportCount) (C := R_WA) (T := F_WA) (N := 21) hx hb hts i_WA hown hK hP 0 rfl rfl 16 (by decide) (hts _ kF_WA_95) (fun _ h9 => h9) rfl d_WA_exportedFunction_4 ?_
  refine lv_icmp_ge (tgt := 108) hx hb d_WA_exportedFunction_7 (by decide) (fun c7 => ?_) (fun c7 => ?_)
  · have q7 := leI c7
    refine lv_iconst (v := (-1)) hx hb d_WA_exportedFunction_108 (by decide) ?_
    have hP9 := hP.sub (ws' := [(h0, .inr (10, [.ref ab, .ref h0_codes_r, .int h0_typeCount, .ref wat, .ref wap, .ref wag, .int h0_functionCount, .ref waf, .int h0_hasMemory, .long h0_pagesLeast, .long h0_pagesMost, .int h0_globalCount, .ref wgt, .ref wft, .ref wfv, .ref wgc, .int h0_exportCount, .ref wek, .ref wei, .ref wes, .ref wez])), (ab, .inr (1, [.ref ax, .int ab_length])), (ax, .inl (cax, 8192, .inl gax)), (wek, .inl (cwek, 40, .inl gwek)), (wei, .inl (cwei, 40, .inl gwei)), (wes, .inl (cwes, 40, .inl gwes)), (wez, .inl (cwez, 40, .inl gwez)), (tp, .inr (1, [.ref tpb, .int tp_length])), (tpb, .inl (ctpb, 2000, .inl gtpb))]) [0, 1, 2, 3, 4, 5, 6, 7, 8] rfl
    have hD9 := hD.sub (ws' := [(h0, .inr (10, [.ref ab, .ref h0_codes_r, .int h0_typeCount, .ref wat, .ref wap, .ref wag, .int h0_functionCount, .ref waf, .int h0_hasMemory, .long h0_pagesLeast, .long h0_pagesMost, .int h0_globalCount, .ref wgt, .ref wft, .ref wfv, .ref wgc, .int h0_exportCount, .ref wek, .ref wei, .ref wes, .ref wez])), (ab, .inr (1, [.ref ax, .int ab_length])), (ax, .inl (cax, 8192, .inl gax)), (wek, .inl (cwek, 40, .inl gwek)), (wei, .inl (cwei, 40, .inl gwei)), (wes, .inl (cwes, 40, .inl gwes)), (wez, .inl (cwez, 40, .inl gwez)), (tp, .inr (1, [.ref tpb, .int tp_length])), (tpb, .inl (ctpb, 2000, .inl gtpb))]) [0, 1, 2, 3, 4, 5, 6, 7, 8] (by decide) rfl
    exact W.iret (v := ((-1))) hx hb hr (fun t ht hW => ⟨⟨(-1), (), rfl, (trivial), by rw [ht]; exact hP9, va_K.moved hW.alike hK, hD9⟩, hS.F ht⟩) hS.2.2 d_WA_exportedFunction_109
  · have q7 := nleI c7
    refine lv_aload_n hx hb d_WA_exportedFunction_10 rfl (lv_at hl 0 rfl) ?_
    refine va_get (D := (dC, dI)) (ci := 10) (v := .ref wek) (C := R_WA) (T := F_WA) (N := 21) hx hb hts i_WA hown hK hP 0 rfl rfl 17 (by decide) (hts _ kF_WA_54) (fun _ h9 => h9) rfl d_WA_exportedFunction_11 ?_
    refine lv_iload_n hx hb d_WA_exportedFunction_14 rfl (lv_at hl 2 rfl) ?_
    have g15 : vp_in j2_l2 40 := vp_in_iff.mpr ⟨by omega, by omega⟩
    refine va_iald hx hb hK hP 3 1 rfl rfl g15 d_WA_exportedFunction_15 ?_
    refine lv_topi (fun x1 ex1 => ?_)
    refine w_cut (pc2 := 37) (σ := Int32) (fun u H locs ls => match u with | j37_s0 => (j37_s0 = 0 ∨ j37_s0 = 1) ∧ va_P (dC, dI) cls [(h0, .inr (10, [.ref ab, .ref h0_codes_r, .int h0_typeCount, .ref wat, .ref wap, .ref wag, .int h0_functionCount, .ref waf, .int h0_hasMemory, .long h0_pagesLeast, .long h0_pagesMost, .int h0_globalCount, .ref wgt, .ref wft, .ref wfv, .ref wgc, .int h0_exportCount, .ref wek, .ref wei, .ref wes, .ref wez])), (ab, .inr (1, [.ref ax, .int ab_length])), (ax, .inl (cax, 8192, .inl gax)), (wek, .inl (cwek, 40, .inl gwek)), (wei, .inl (cwei, 40, .inl gwei)), (wes, .inl (cwes, 40, .inl gwes)), (wez, .inl (cwez, 40, .inl gwez)), (tp, .inr (1, [.ref tpb, .int tp_length])), (tpb, .inl (ctpb, 2000, .inl gtpb))] H ∧ va_D A [(h0, .inr (10, [.ref ab, .ref h0_codes_r, .int h0_typeCount, .ref wat, .ref wap, .ref wag, .int h0_functionCount, .ref waf, .int h0_hasMemory, .long h0_pagesLeast, .long h0_pagesMost, .int h0_globalCount, .ref wgt, .ref wft, .ref wfv, .ref wgc, .int h0_exportCount, .ref wek, .ref wei, .ref wes, .ref wez])), (ab, .inr (1, [.ref ax, .int ab_length])), (ax, .inl (cax, 8192, .inl gax)), (wek, .inl (cwek, 40, .inl gwek)), (wei, .inl (cwei, 40, .inl gwei)), (wes, .inl (cwes, 40, .inl gwes)), (wez, .inl (cwez, 40, .inl gwez)), (tp, .inr (1, [.ref tpb, .int tp_length])), (tpb, .inl (ctpb, 2000, .inl gtpb))] ∧ va_S A s.heap H locs ∧ lv_has ls 5 [(0, .ref h0), (1, .ref tp), (2, .int j2_l2)]) (fun u => match u with | j37_s0 => [.int j37_s0]) ?_ (fun jn37 => ?_)
    · intro u H locs ls hI
      obtain ⟨j37_s0, rfl⟩ : ∃ z, z = u := ⟨_, rfl⟩
      obtain ⟨b_j37_s0, hP, hD, hS, hl⟩ := hI
      have tj37_s0 := b01 b_j37_s0
      refine lv_istore_n (lv' := [(3, .int j37_s0), (0, .ref h0), (1, .ref tp), (2, .int j2_l2)]) hx hb d_WA_exportedFunction_37 rfl hl (by decide) rfl (fun ls hl => ?_)
      refine lv_iconst (v := 0) hx hb d_WA_exportedFunction_38 (by decide) ?_
      refine lv_istore (lv' := [(4, .int 0), (3, .int j37_s0), (0, .ref h0), (1, .ref tp), (2, .int j2_l2)]) hx hb d_WA_exportedFunction_39 hl (by decide) rfl (fun ls hl => ?_)
      refine w_loop (σ := Int32 × Int32) (fun u H locs ls => match u with | (j41_l3, j41_l4) => (j41_l3 = 0 ∨ j41_l3 = 1) ∧ (0 ≤ j41_l4.toInt ∧ j41_l4.toInt ≤ 2000) ∧ (j41_l4.toInt ≤ tp_length.toInt) ∧ va_P (dC, dI) cls [(h0, .inr (10, [.ref ab, .ref h0_codes_r, .int h0_typeCount, .ref wat, .ref wap, .ref wag, .int h0_functionCount, .ref waf, .int h0_hasMemory, .long h0_pagesLeast, .long h0_pagesMost, .int h0_globalCount, .ref wgt, .ref wft, .ref wfv, .ref wgc, .int h0_exportCount, .ref wek, .ref wei, .ref wes, .ref wez])), (ab, .inr (1, [.ref ax, .int ab_length])), (ax, .inl (cax, 8192, .inl gax)), (wek, .inl (cwek, 40, .inl gwek)), (wei, .inl (cwei, 40, .inl gwei)), (wes, .inl (cwes, 40, .inl gwes)), (wez, .inl (cwez, 40, .inl gwez)), (tp, .inr (1, [.ref tpb, .int tp_length])), (tpb, .inl (ctpb, 2000, .inl gtpb))] H ∧ va_D A [(h0, .inr (10, [.ref ab, .ref h0_codes_r, .int h0_typeCount, .ref wat, .ref wap, .ref wag, .int h0_functionCount, .ref waf, .int h0_hasMemory, .long h0_pagesLeast, .long h0_pagesMost, .int h0_globalCount, .ref wgt, .ref wft, .ref wfv, .ref wgc, .int h0_exportCount, .ref wek, .ref wei, .ref wes, .ref wez])), (ab, .inr (1, [.ref ax, .int ab_length])), (ax, .inl (cax, 8192, .inl gax)), (wek, .inl (cwek, 40, .inl gwek)), (wei, .inl (cwei, 40, .inl gwei)), (wes, .inl (cwes, 40, .inl gwes)), (wez, .inl (cwez, 40, .inl gwez)), (tp, .inr (1, [.ref tpb, .int tp_length])), (tpb, .inl (ctpb, 2000, .inl gtpb))] ∧ va_S A s.heap H locs ∧ lv_has ls 5 [(0, .ref h0), (1, .ref tp), (2, .int j2_l2), (3, .int j41_l3), (4, .int j41_l4)]) (fun u => match u with | (j41_l3, j41_l4) => (tp_length.toInt - j41_l4.toInt).toNat) ?_ (j37_s0, 0) ⟨b_j37_s0, by (try dsimp only) <;> omega, by (try dsimp only) <;> omega, hP, hD, hS, lv_sub hl [2, 3, 4, 1, 0] rfl⟩
      intro N41 ih41 u H locs ls hN41 hI
      obtain ⟨j41_l3, j41_l4⟩ := u
      obtain ⟨b_j41_l3, b_j41_l4, u1, hP, hD, hS, hl⟩ := hI
      have tj41_l3 := b01 b_j41_l3
      have hN41 : (tp_length.toInt - j41_l4.toInt).toNat < N41 + 1 := hN41
      refine lv_iload_n hx hb d_WA_exportedFunction_41 rfl (lv_at hl 3 rfl) ?_
      refine w_cut (pc2 := 91) (σ := Unit) (fun u H locs ls => match u with | _ => va_P (dC, dI) cls [(h0, .inr (10, [.ref ab, .ref h0_codes_r, .int h0_typeCount, .ref wat, .ref wap, .ref wag, .int h0_functionCount, .ref waf, .int h0_hasMemory, .long h0_pagesLeast, .long h0_pagesMost, .int h0_globalCount, .ref wgt, .ref wft, .ref wfv, .ref wgc, .int h0_exportCount, .ref wek, .ref wei, .ref wes, .ref wez])), (ab, .inr (1, [.ref ax, .int ab_length])), (ax, .inl (cax, 8192, .inl gax)), (wek, .inl (cwek, 40, .inl gwek)), (wei, .inl (cwei, 40, .inl gwei)), (wes, .inl (cwes, 40, .inl gwes)), (wez, .inl (cwez, 40, .inl gwez)), (tp, .inr (1, [.ref tpb, .int tp_length])), (tpb, .inl (ctpb, 2000, .inl gtpb))] H ∧ va_D A [(h0, .inr (10, [.ref ab, .ref h0_codes_r, .int h0_typeCount, .ref wat, .ref wap, .ref wag, .int h0_functionCount, .ref waf, .int h0_hasMemory, .long h0_pagesLeast, .long h0_pagesMost, .int h0_globalCount, .ref wgt, .ref wft, .ref wfv, .ref wgc, .int h0_exportCount, .ref wek, .ref wei, .ref wes, .ref wez])), (ab, .inr (1, [.ref ax, .int ab_length])), (ax, .inl (cax, 8192, .inl gax)), (wek, .inl (cwek, 40, .inl gwek)), (wei, .inl (cwei, 40, .inl gwei)), (wes, .inl (cwes, 40, .inl gwes)), (wez, .inl (cwez, 40, .inl gwez)), (tp, .inr (1, [.ref tpb, .int tp_length])), (tpb, .inl (ctpb, 2000, .inl gtpb))] ∧ va_S A s.heap H locs ∧ lv_has ls 5 [(0, .ref h0), (1, .ref tp), (2, .int j2_l2), (3, .int j41_l3)]) (fun u => match u with | _ => []) ?_ (fun jn91 => ?_)
      · intro u H locs ls hI
        obtain ⟨hP, hD, hS, hl⟩ := hI
        refine lv_iload_n hx hb d_WA_exportedFunction_91 rfl (lv_at hl 3 rfl) ?_
        refine lv_if_eq (tgt := 102) hx hb d_WA_exportedFunction_92 (by decide) (fun c92 => ?_) (fun c92 => ?_)
        · have q92 := eqI c92
          obtain ⟨x2, ex2⟩ : ∃ z : Int32, z = j2_l2 + 1 := ⟨_, rfl⟩
          have tx2 : x2.toInt = j2_l2.toInt + 1 := by have z := i32_add ex2 (by omega) (by omega); omega
          refine lv_iinc (v := x2) (lv' := [(2, .int x2), (0, .ref h0), (1, .ref tp), (3, .int j41_l3)]) hx hb d_WA_exportedFunction_102 hl (k := 2) rfl (by rw [ex2]; rfl) (by decide) rfl (fun ls hl => ?_)
          refine lv_goto (tgt := 2) hx hb d_WA_exportedFunction_105 (by decide) ?_
          exact ih2 x2 _ _ _ (by show (h0_exportCount.toInt - x2.toInt).toNat < N2; omega) ⟨by (try dsimp only) <;> omega, by (try dsimp only) <;> omega, hP, hD, hS, lv_sub hl [1, 2, 0] rfl⟩
        · have q92 := neI c92
          refine lv_aload_n hx hb d_WA_exportedFunction_95 rfl (lv_at hl 0 rfl) ?_
          refine va_get (D := (dC, dI)) (ci := 10) (v := .ref wei) (C := R_WA) (T := F_WA) (N := 21) hx hb hts i_WA hown hK hP 0 rfl rfl 18 (by decide) (hts _ kF_WA_57) (fun _ h9 => h9) rfl d_WA_exportedFunction_96 ?_
          refine lv_iload_n hx hb d_WA_exportedFunction_99 rfl (lv_at hl 2 rfl) ?_
          have g100 : vp_in j2_l2 40 := vp_in_iff.mpr ⟨by omega, by omega⟩
          refine va_iald hx hb hK hP 4 2 rfl rfl g100 d_WA_exportedFunction_100 ?_
          refine lv_topi (fun x3 ex3 => ?_)
          have hP9 := hP.sub (ws' := [(h0, .inr (10, [.ref ab, .ref h0_codes_r, .int h0_typeCount, .ref wat, .ref wap, .ref wag, .int h0_functionCount, .ref waf, .int h0_hasMemory, .long h0_pagesLeast, .long h0_pagesMost, .int h0_globalCount, .ref wgt, .ref wft, .ref wfv, .ref wgc, .int h0_exportCount, .ref wek, .ref wei, .ref wes, .ref wez])), (ab, .inr (1, [.ref ax, .int ab_length])), (ax, .inl (cax, 8192, .inl gax)), (wek, .inl (cwek, 40, .inl gwek)), (wei, .inl (cwei, 40, .inl gwei)), (wes, .inl (cwes, 40, .inl gwes)), (wez, .inl (cwez, 40, .inl gwez)), (tp, .inr (1, [.ref tpb, .int tp_length])), (tpb, .inl (ctpb, 2000, .inl gtpb))]) [0, 1, 2, 3, 4, 5, 6, 7, 8] rfl
          have hD9 := hD.sub (ws' := [(h0, .inr (10, [.ref ab, .ref h0_codes_r, .int h0_typeCount, .ref wat, .ref wap, .ref wag, .int h0_functionCount, .ref waf, .int h0_hasMemory, .long h0_pagesLeast, .long h0_pagesMost, .int h0_globalCount, .ref wgt, .ref wft, .ref wfv, .ref wgc, .int h0_exportCount, .ref wek, .ref wei, .ref wes, .ref wez])), (ab, .inr (1, [.ref ax, .int ab_length])), (ax, .inl (cax, 8192, .inl gax)), (wek, .inl (cwek, 40, .inl gwek)), (wei, .inl (cwei, 40, .inl gwei)), (wes, .inl (cwes, 40, .inl gwes)), (wez, .inl (cwez, 40, .inl gwez)), (tp, .inr (1, [.ref tpb, .int tp_length])), (tpb, .inl (ctpb, 2000, .inl gtpb))]) [0, 1, 2, 3, 4, 5, 6, 7, 8] (by decide) rfl
          exact W.iret (v := x3) hx hb hr (fun t ht hW => ⟨⟨x3, (), rfl, (trivial), by rw [ht]; exact hP9, va_K.moved hW.alike hK, hD9⟩, hS.F ht⟩) hS.2.2 d_WA_exportedFunction_101
      · skip
        refine lv_if_eq (tgt := 91) hx hb d_WA_exportedFunction_42 (by decide) (fun c42 => ?_) (fun c42 => ?_)
        · have q42 := eqI c42
          exact jn91 () _ _ _ ⟨hP, hD, hS, lv_sub hl [0, 1, 2, 3] rfl⟩
        · have q42 := neI c42
          refine lv_iload hx hb d_WA_exportedFunction_45 (lv_at hl 4 rfl) ?_
          refine lv_aload_n hx hb d_WA_exportedFunction_47 rfl (lv_at hl 1 rfl) ?_
          refine va_get (D := (dC, dI)) (ci := 1) (v := .int tp_length) (C := R_BR) (T := F_BR) (N := 2) hx hb hts i_BR hown hK hP 7 rfl rfl 1 (by decide) (hts _ kF_WA_98) (fun _ h9 => h9) rfl d_WA_exportedFunction_48 ?_
          refine lv_icmp_ge (tgt := 91) hx hb d_WA_exportedFunction_51 (by decide) (fun c51 => ?_) (fun c51 => ?_)
          · have q51 := leI c51
            exact jn91 () _ _ _ ⟨hP, hD, hS, lv_sub hl [0, 1, 2, 3] rfl⟩
          · have q51 := nleI c51
            refine lv_aload_n hx hb d_WA_exportedFunction_54 rfl (lv_at hl 0 rfl) ?_
            refine va_get (D := (dC, dI)) (ci := 10) (v := .ref ab) (C := R_WA) (T := F_WA) (N := 21) hx hb hts i_WA hown hK hP 0 rfl rfl 0 (by decide) (hts _ kF_WA_14) (fun _ h9 => h9) rfl d_WA_exportedFunction_55 ?_
            refine lv_aload_n hx hb d_WA_exportedFunction_58 rfl (lv_at hl 0 rfl) ?_
            refine va_get (D := (dC, dI)) (ci := 10) (v := .ref wes) (C := R_WA) (T := F_WA) (N := 21) hx hb hts i_WA hown hK hP 0 rfl rfl 19 (by decide) (hts _ kF_WA_60) (fun _ h9 => h9) rfl d_WA_exportedFunction_59 ?_
            refine lv_iload_n hx hb d_WA_exportedFunction_62 rfl (lv_at hl 2 rfl) ?_
            have g63 : vp_in j2_l2 40 := vp_in_iff.mpr ⟨by omega, by omega⟩
            refine va_iald hx hb hK hP 5 3 rfl rfl g63 d_WA_exportedFunction_63 ?_
            refine lv_topi (fun x4 ex4 => ?_)
            refine lv_iload hx hb d_WA_exportedFunction_64 (lv_at hl 4 rfl) ?_
            refine lv_iadd hx hb d_WA_exportedFunction_66 ?_
            refine lv_topi (fun x5 ex5 => ?_)
            have hPc := hP.sub (ws' := [(ab, .inr (1, [.ref ax, .int ab_length])), (ax, .inl (cax, 8192, .inl gax))]) [1, 2] rfl
            have hDc := hD.sub (ws' := [(ab, .inr (1, [.ref ax, .int ab_length])), (ax, .inl (cax, 8192, .inl gax))]) [1, 2] (by decide) rfl
            have hKc := hK.sub (tys' := [(cax, .byte)]) [0] rfl
            have hFc := va_free (wc := [(ab, .inr (1, [.ref ax, .int ab_length])), (ax, .inl (cax, 8192, .inl gax))]) hD hS hA [1, 2] rfl
            refine va_calli (va_runV (As := [.int x5]) (rest := []) ⟨hx, hb, hml, hown, hts⟩ (c_BR_at l dC dI ab ax H.size cax 8192 ab_length gax (by omega) (by omega) (by omega) x5) (cwV 1 hts (gV kM_WA_99 kV_BR_at kS_BR_at kI_BR kC_BR_at) rfl rfl rfl (by decide +kernel) ⟨Nat.le_of_ble_eq_true rfl, Nat.le_of_ble_eq_true rfl⟩) ⟨fun a U g mk z => by obtain ⟨z0, z1, zP, zK, zD⟩ := z; exact ⟨z0, z1, zP, va_K.moved (u := U) (U := U.calling g mk a) (Vm.Alike.refl U.vm) zK, zD⟩, va_recv hKc hPc (ci := 1) (q0 := 0) rfl rfl, fun U hU hW => ⟨rfl, by rw [hU], by rw [hU]; exact hPc, va_K.moved hW.alike hKc, hDc.weaken (fun _ _ _ _ => trivial)⟩⟩ rfl rfl hl.1 rfl (lv_room (Nat.le_of_ble_eq_true rfl)) d_WA_exportedFunction_67 ⟨(Nat.zero_le _), (Nat.zero_le _)⟩) hS (fun q _ h => hFc q h) hFc (fun r6 u t H1 locs ht hvm hw hB hz1 hk1 hS => ?_)
            obtain ⟨er6, rfl⟩ := hw
            have tr6 := br_get_in gax ab_length x5
            rw [← er6] at tr6
            obtain ⟨hP1, hK1, hD1⟩ := hB
            rw [ht] at hP1
            obtain ⟨hP, hD⟩ := va_join (wr := [(h0, .inr (10, [.ref ab, .ref h0_codes_r, .int h0_typeCount, .ref wat, .ref wap, .ref wag, .int h0_functionCount, .ref waf, .int h0_hasMemory, .long h0_pagesLeast, .long h0_pagesMost, .int h0_globalCount, .ref wgt, .ref wft, .ref wfv, .ref wgc, .int h0_exportCount, .ref wek, .ref wei, .ref wes, .ref wez])), (wek, .inl (cwek, 40, .inl gwek)), (wei, .inl (cwei, 40, .inl gwei)), (wes, .inl (cwes, 40, .inl gwes)), (wez, .inl (cwez, 40, .inl gwez)), (tp, .inr (1, [.ref tpb, .int tp_length])), (tpb, .inl (ctpb, 2000, .inl gtpb))]) (w1 := [(ab, .inr (1, [.ref ax, .int ab_length])), (ax, .inl (cax, 8192, .inl gax))]) hP hD [1, 2] [0, 3, 4, 5, 6, 7, 8] rfl rfl (by decide) (by decide) hk1 hFc hP1 hD1
            clear hPc hDc hKc hFc hz1 hk1 hP1 hK1 hD1
            generalize H1 = H at hP hS ⊢
            have hP : va_P (dC, dI) cls [(h0, .inr (10, [.ref ab, .ref h0_codes_r, .int h0_typeCount, .ref wat, .ref wap, .ref wag, .int h0_functionCount, .ref waf, .int h0_hasMemory, .long h0_pagesLeast, .long h0_pagesMost, .int h0_globalCount, .ref wgt, .ref wft, .ref wfv, .ref wgc, .int h0_exportCount, .ref wek, .ref wei, .ref wes, .ref wez])), (wek, .inl (cwek, 40, .inl gwek)), (wei, .inl (cwei, 40, .inl gwei)), (wes, .inl (cwes, 40, .inl gwes)), (wez, .inl (cwez, 40, .inl gwez)), (tp, .inr (1, [.ref tpb, .int tp_length])), (tpb, .inl (ctpb, 2000, .inl gtpb)), (ab, .inr (1, [.ref ax, .int ab_length])), (ax, .inl (cax, 8192, .inl gax))] H := hP
            have hD : va_D A [(h0, .inr (10, [.ref ab, .ref h0_codes_r, .int h0_typeCount, .ref wat, .ref wap, .ref wag, .int h0_functionCount, .ref waf, .int h0_hasMemory, .long h0_pagesLeast, .long h0_pagesMost, .int h0_globalCount, .ref wgt, .ref wft, .ref wfv, .ref wgc, .int h0_exportCount, .ref wek, .ref wei, .ref wes, .ref wez])), (wek, .inl (cwek, 40, .inl gwek)), (wei, .inl (cwei, 40, .inl gwei)), (wes, .inl (cwes, 40, .inl gwes)), (wez, .inl (cwez, 40, .inl gwez)), (tp, .inr (1, [.ref tpb, .int tp_length])), (tpb, .inl (ctpb, 2000, .inl gtpb)), (ab, .inr (1, [.ref ax, .int ab_length])), (ax, .inl (cax, 8192, .inl gax))] := hD
            refine lv_aload_n hx hb d_WA_exportedFunction_70 rfl (lv_at hl 1 rfl) ?_
            refine lv_iload hx hb d_WA_exportedFunction_71 (lv_at hl 4 rfl) ?_
            have hPc := hP.sub (ws' := [(tp, .inr (1, [.ref tpb, .int tp_length])), (tpb, .inl (ctpb, 2000, .inl gtpb))]) [5, 6] rfl
            have hDc := hD.sub (ws' := [(tp, .inr (1, [.ref tpb, .int tp_length])), (tpb, .inl (ctpb, 2000, .inl gtpb))]) [5, 6] (by decide) rfl
            have hKc := hK.sub (tys' := [(ctpb, .byte)]) [5] rfl
            have hFc := va_free (wc := [(tp, .inr (1, [.ref tpb, .int tp_length])), (tpb, .inl (ctpb, 2000, .inl gtpb))]) hD hS hA [5, 6] rfl
            refine va_calli (va_runV (As := [.int j41_l4]) (rest := [.int r6]) ⟨hx, hb, hml, hown, hts⟩ (c_BR_at l dC dI tp tpb H.size ctpb 2000 tp_length gtpb (by omega) (by omega) (by omega) j41_l4) (cwV 1 hts (gV kM_WA_99 kV_BR_at kS_BR_at kI_BR kC_BR_at) rfl rfl rfl (by decide +kernel) ⟨Nat.le_of_ble_eq_true rfl, Nat.le_of_ble_eq_true rfl⟩) ⟨fun a U g mk z => by obtain ⟨z0, z1, zP, zK, zD⟩ := z; exact ⟨z0, z1, zP, va_K.moved (u := U) (U := U.calling g mk a) (Vm.Alike.refl U.vm) zK, zD⟩, va_recv hKc hPc (ci := 1) (q0 := 0) rfl rfl, fun U hU hW => ⟨rfl, by rw [hU], by rw [hU]; exact hPc, va_K.moved hW.alike hKc, hDc.weaken (fun _ _ _ _ => trivial)⟩⟩ rfl rfl hl.1 rfl (lv_room (Nat.le_of_ble_eq_true rfl)) d_WA_exportedFunction_73 ⟨(Nat.zero_le _), (Nat.zero_le _)⟩) hS (fun q _ h => hFc q h) hFc (fun r7 u t H1 locs ht hvm hw hB hz1 hk1 hS => ?_)
            obtain ⟨er7, rfl⟩ := hw
            have tr7 := br_get_in gtpb tp_length j41_l4
            rw [← er7] at tr7
            obtain ⟨hP1, hK1, hD1⟩ := hB
            rw [ht] at hP1
            obtain ⟨hP, hD⟩ := va_join (wr := [(h0, .inr (10, [.ref ab, .ref h0_codes_r, .int h0_typeCount, .ref wat, .ref wap, .ref wag, .int h0_functionCount, .ref waf, .int h0_hasMemory, .long h0_pagesLeast, .long h0_pagesMost, .int h0_globalCount, .ref wgt, .ref wft, .ref wfv, .ref wgc, .int h0_exportCount, .ref wek, .ref wei, .ref wes, .ref wez])), (wek, .inl (cwek, 40, .inl gwek)), (wei, .inl (cwei, 40, .inl gwei)), (wes, .inl (cwes, 40, .inl gwes)), (wez, .inl (cwez, 40, .inl gwez)), (ab, .inr (1, [.ref ax, .int ab_length])), (ax, .inl (cax, 8192, .inl gax))]) (w1 := [(tp, .inr (1, [.ref tpb, .int tp_length])), (tpb, .inl (ctpb, 2000, .inl gtpb))]) hP hD [5, 6] [0, 1, 2, 3, 4, 7, 8] rfl rfl (by decide) (by decide) hk1 hFc hP1 hD1
            clear hPc hDc hKc hFc hz1 hk1 hP1 hK1 hD1
            generalize H1 = H at hP hS ⊢
            have hP : va_P (dC, dI) cls [(h0, .inr (10, [.ref ab, .ref h0_codes_r, .int h0_typeCount, .ref wat, .ref wap, .ref wag, .int h0_functionCount, .ref waf, .int h0_hasMemory, .long h0_pagesLeast, .long h0_pagesMost, .int h0_globalCount, .ref wgt, .ref wft, .ref wfv, .ref wgc, .int h0_exportCount, .ref wek, .ref wei, .ref wes, .ref wez])), (wek, .inl (cwek, 40, .inl gwek)), (wei, .inl (cwei, 40, .inl gwei)), (wes, .inl (cwes, 40, .inl gwes)), (wez, .inl (cwez, 40, .inl gwez)), (ab, .inr (1, [.ref ax, .int ab_length])), (ax, .inl (cax, 8192, .inl gax)), (tp, .inr (1, [.ref tpb, .int tp_length])), (tpb, .inl (ctpb, 2000, .inl gtpb))] H := hP
            have hD : va_D A [(h0, .inr (10, [.ref ab, .ref h0_codes_r, .int h0_typeCount, .ref wat, .ref wap, .ref wag, .int h0_functionCount, .ref waf, .int h0_hasMemory, .long h0_pagesLeast, .long h0_pagesMost, .int h0_globalCount, .ref wgt, .ref wft, .ref wfv, .ref wgc, .int h0_exportCount, .ref wek, .ref wei, .ref wes, .ref wez])), (wek, .inl (cwek, 40, .inl gwek)), (wei, .inl (cwei, 40, .inl gwei)), (wes, .inl (cwes, 40, .inl gwes)), (wez, .inl (cwez, 40, .inl gwez)), (ab, .inr (1, [.ref ax, .int ab_length])), (ax, .inl (cax, 8192, .inl gax)), (tp, .inr (1, [.ref tpb, .int tp_length])), (tpb, .inl (ctpb, 2000, .inl gtpb))] := hD
            refine w_cut (pc2 := 84) (σ := Int32) (fun u H locs ls => match u with | j84_s0 => (j84_s0 = 0 ∨ j84_s0 = 1) ∧ va_P (dC, dI) cls [(h0, .inr (10, [.ref ab, .ref h0_codes_r, .int h0_typeCount, .ref wat, .ref wap, .ref wag, .int h0_functionCount, .ref waf, .int h0_hasMemory, .long h0_pagesLeast, .long h0_pagesMost, .int h0_globalCount, .ref wgt, .ref wft, .ref wfv, .ref wgc, .int h0_exportCount, .ref wek, .ref wei, .ref wes, .ref wez])), (wek, .inl (cwek, 40, .inl gwek)), (wei, .inl (cwei, 40, .inl gwei)), (wes, .inl (cwes, 40, .inl gwes)), (wez, .inl (cwez, 40, .inl gwez)), (ab, .inr (1, [.ref ax, .int ab_length])), (ax, .inl (cax, 8192, .inl gax)), (tp, .inr (1, [.ref tpb, .int tp_length])), (tpb, .inl (ctpb, 2000, .inl gtpb))] H ∧ va_D A [(h0, .inr (10, [.ref ab, .ref h0_codes_r, .int h0_typeCount, .ref wat, .ref wap, .ref wag, .int h0_functionCount, .ref waf, .int h0_hasMemory, .long h0_pagesLeast, .long h0_pagesMost, .int h0_globalCount, .ref wgt, .ref wft, .ref wfv, .ref wgc, .int h0_exportCount, .ref wek, .ref wei, .ref wes, .ref wez])), (wek, .inl (cwek, 40, .inl gwek)), (wei, .inl (cwei, 40, .inl gwei)), (wes, .inl (cwes, 40, .inl gwes)), (wez, .inl (cwez, 40, .inl gwez)), (ab, .inr (1, [.ref ax, .int ab_length])), (ax, .inl (cax, 8192, .inl gax)), (tp, .inr (1, [.ref tpb, .int tp_length])), (tpb, .inl (ctpb, 2000, .inl gtpb))] ∧ va_S A s.heap H locs ∧ lv_has ls 5 [(0, .ref h0), (1, .ref tp), (2, .int j2_l2), (4, .int j41_l4)]) (fun u => match u with | j84_s0 => [.int j84_s0]) ?_ (fun jn84 => ?_)
            · intro u H locs ls hI
              obtain ⟨j84_s0, rfl⟩ : ∃ z, z = u := ⟨_, rfl⟩
              obtain ⟨b_j84_s0, hP, hD, hS, hl⟩ := hI
              have tj84_s0 := b01 b_j84_s0
              refine lv_istore_n (lv' := [(3, .int j84_s0), (0, .ref h0), (1, .ref tp), (2, .int j2_l2), (4, .int j41_l4)]) hx hb d_WA_exportedFunction_84 rfl hl (by decide) rfl (fun ls hl => ?_)
              obtain ⟨x8, ex8⟩ : ∃ z : Int32, z = j41_l4 + 1 := ⟨_, rfl⟩
              have tx8 : x8.toInt = j41_l4.toInt + 1 := by have z := i32_add ex8 (by omega) (by omega); omega
              refine lv_iinc (v := x8) (lv' := [(4, .int x8), (3, .int j84_s0), (0, .ref h0), (1, .ref tp), (2, .int j2_l2)]) hx hb d_WA_exportedFunction_85 hl (k := 4) rfl (by rw [ex8]; rfl) (by decide) rfl (fun ls hl => ?_)
              refine lv_goto (tgt := 41) hx hb d_WA_exportedFunction_88 (by decide) ?_
              exact ih41 (j84_s0, x8) _ _ _ (by show (tp_length.toInt - x8.toInt).toNat < N41; omega) ⟨b_j84_s0, by (try dsimp only) <;> omega, by (try dsimp only) <;> omega, hP.sub [0, 5, 6, 1, 2, 3, 4, 7, 8] rfl, hD.sub [0, 5, 6, 1, 2, 3, 4, 7, 8] (by decide) rfl, hS, lv_sub hl [2, 3, 4, 1, 0] rfl⟩
            · skip
              refine lv_icmp_ne (tgt := 83) hx hb d_WA_exportedFunction_76 (by decide) (fun c76 => ?_) (fun c76 => ?_)
              · have q76 := neI c76
                refine lv_iconst (v := 0) hx hb d_WA_exportedFunction_83 (by decide) ?_
                exact jn84 0 _ _ _ ⟨Or.inl rfl, hP, hD, hS, lv_sub hl [0, 1, 2, 4] rfl⟩
              · have q76 := eqI c76
                refine lv_iconst (v := 1) hx hb d_WA_exportedFunction_79 (by decide) ?_
                refine lv_goto (tgt := 84) hx hb d_WA_exportedFunction_80 (by decide) ?_
                exact jn84 1 _ _ _ ⟨Or.inr rfl, hP, hD, hS, lv_sub hl [0, 1, 2, 4] rfl⟩
    · skip
      refine w_cut (pc2 := 36) (σ := Unit) (fun u H locs ls => match u with | _ => va_P (dC, dI) cls [(h0, .inr (10, [.ref ab, .ref h0_codes_r, .int h0_typeCount, .ref wat, .ref wap, .ref wag, .int h0_functionCount, .ref waf, .int h0_hasMemory, .long h0_pagesLeast, .long h0_pagesMost, .int h0_globalCount, .ref wgt, .ref wft, .ref wfv, .ref wgc, .int h0_exportCount, .ref wek, .ref wei, .ref wes, .ref wez])), (ab, .inr (1, [.ref ax, .int ab_length])), (ax, .inl (cax, 8192, .inl gax)), (wek, .inl (cwek, 40, .inl gwek)), (wei, .inl (cwei, 40, .inl gwei)), (wes, .inl (cwes, 40, .inl gwes)), (wez, .inl (cwez, 40, .inl gwez)), (tp, .inr (1, [.ref tpb, .int tp_length])), (tpb, .inl (ctpb, 2000, .inl gtpb))] H ∧ va_D A [(h0, .inr (10, [.ref ab, .ref h0_codes_r, .int h0_typeCount, .ref wat, .ref wap, .ref wag, .int h0_functionCount, .ref waf, .int h0_hasMemory, .long h0_pagesLeast, .long h0_pagesMost, .int h0_globalCount, .ref wgt, .ref wft, .ref wfv, .ref wgc, .int h0_exportCount, .ref wek, .ref wei, .ref wes, .ref wez])), (ab, .inr (1, [.ref ax, .int ab_length])), (ax, .inl (cax, 8192, .inl gax)), (wek, .inl (cwek, 40, .inl gwek)), (wei, .inl (cwei, 40, .inl gwei)), (wes, .inl (cwes, 40, .inl gwes)), (wez, .inl (cwez, 40, .inl gwez)), (tp, .inr (1, [.ref tpb, .int tp_length])), (tpb, .inl (ctpb, 2000, .inl gtpb))] ∧ va_S A s.heap H locs ∧ lv_has ls 5 [(0, .ref h0), (1, .ref tp), (2, .int j2_l2)]) (fun u => match u with | _ => []) ?_ (fun jn36 => ?_)
      · intro u H locs ls hI
        obtain ⟨hP, hD, hS, hl⟩ := hI
        refine lv_iconst (v := 0) hx hb d_WA_exportedFunction_36 (by decide) ?_
        exact jn37 0 _ _ _ ⟨Or.inl rfl, hP, hD, hS, lv_sub hl [0, 1, 2] rfl⟩
      · skip
        refine lv_if_ne (tgt := 36) hx hb d_WA_exportedFunction_16 (by decide) (fun c16 => ?_) (fun c16 => ?_)
        · have q16 := neI c16
          exact jn36 () _ _ _ ⟨hP, hD, hS, lv_sub hl [0, 1, 2] rfl⟩
        · have q16 := eqI c16
          refine lv_aload_n hx hb d_WA_exportedFunction_19 rfl (lv_at hl 0 rfl) ?_
          refine va_get (D := (dC, dI)) (ci := 10) (v := .ref wez) (C := R_WA) (T := F_WA) (N := 21) hx hb hts i_WA hown hK hP 0 rfl rfl 20 (by decide) (hts _ kF_WA_63) (fun _ h9 => h9) rfl d_WA_exportedFunction_20 ?_
          refine lv_iload_n hx hb d_WA_exportedFunction_23 rfl (lv_at hl 2 rfl) ?_
          have g24 : vp_in j2_l2 40 := vp_in_iff.mpr ⟨by omega, by omega⟩
          refine va_iald hx hb hK hP 6 4 rfl rfl g24 d_WA_exportedFunction_24 ?_
          refine lv_topi (fun x9 ex9 => ?_)
          refine lv_aload_n hx hb d_WA_exportedFunction_25 rfl (lv_at hl 1 rfl) ?_
          refine va_get (D := (dC, dI)) (ci := 1) (v := .int tp_length) (C := R_BR) (T := F_BR) (N := 2) hx hb hts i_BR hown hK hP 7 rfl rfl 1 (by decide) (hts _ kF_WA_98) (fun _ h9 => h9) rfl d_WA_exportedFunction_26 ?_
          refine lv_icmp_ne (tgt := 36) hx hb d_WA_exportedFunction_29 (by decide) (fun c29 => ?_) (fun c29 => ?_)
          · have q29 := neI c29
            exact jn36 () _ _ _ ⟨hP, hD, hS, lv_sub hl [0, 1, 2] rfl⟩
          · have q29 := eqI c29
            refine lv_iconst (v := 1) hx hb d_WA_exportedFunction_32 (by decide) ?_
            refine lv_goto (tgt := 37) hx hb d_WA_exportedFunction_33 (by decide) ?_
            exact jn37 1 _ _ _ ⟨Or.inr rfl, hP, hD, hS, lv_sub hl [0, 1, 2] rfl⟩

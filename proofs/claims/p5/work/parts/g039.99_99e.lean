section q_99
/-! WaferForge: word; Wafer.exportedFunction -/
abbrev b_WF_word : ByteArray := prog_1_method_12_code
def y_WF_word : MethodName := ⟨R_WF, "word", "(I)J"⟩
abbrev w_WF_word : List Cond := .code y_WF_word b_WF_word 6 (Option.some .long) :: lw_g
theorem kC_WF_word : Cond.code y_WF_word b_WF_word 6 (Option.some .long) ∈ lw_g := in_c8 48 rfl rfl
theorem d_WF_word_0 : decode b_WF_word 0 = .ok (.iload_n 1, 1) := bz_c27 (by decide +kernel)
theorem d_WF_word_1 : decode b_WF_word 1 = .ok (.ifCond .lt 14, 3) := bz_c155 (by decide +kernel)
theorem d_WF_word_4 : decode b_WF_word 4 = .ok (.iload_n 1, 1) := bz_c27 (by decide +kernel)
theorem d_WF_word_5 : decode b_WF_word 5 = .ok (.aload_n 0, 1) := bz_c42 (by decide +kernel)
theorem d_WF_word_6 : decode b_WF_word 6 = .ok (.getfield 20, 3) := bz_c180 (by decide +kernel)
theorem d_WF_word_9 : decode b_WF_word 9 = .ok (.getfield 85, 3) := bz_c180 (by decide +kernel)
theorem d_WF_word_12 : decode b_WF_word 12 = .ok (.if_icmp .lt 11, 3) := bz_c161 (by decide +kernel)
theorem d_WF_word_15 : decode b_WF_word 15 = .ok (.new 88, 3) := bz_c187 (by decide +kernel)
theorem d_WF_word_18 : decode b_WF_word 18 = .ok (.dup, 1) := bz_c89 (by decide +kernel)
theorem d_WF_word_19 : decode b_WF_word 19 = .ok (.invokespecial 90, 3) := bz_c183 (by decide +kernel)
theorem d_WF_word_22 : decode b_WF_word 22 = .ok (.athrow, 1) := bz_c191 (by decide +kernel)
theorem d_WF_word_23 : decode b_WF_word 23 = .ok (.lconst 0, 1) := bz_c9 (by decide +kernel)
theorem d_WF_word_24 : decode b_WF_word 24 = .ok (.lstore_n 2, 1) := bz_c65 (by decide +kernel)
theorem d_WF_word_25 : decode b_WF_word 25 = .ok (.iconst 0, 1) := bz_c3 (by decide +kernel)
theorem d_WF_word_26 : decode b_WF_word 26 = .ok (.istore 4, 2) := bz_c54 (by decide +kernel)
theorem d_WF_word_28 : decode b_WF_word 28 = .ok (.iload 4, 2) := bz_c21 (by decide +kernel)
theorem d_WF_word_30 : decode b_WF_word 30 = .ok (.bipush 8, 2) := bz_c16 (by decide +kernel)
theorem d_WF_word_32 : decode b_WF_word 32 = .ok (.if_icmp .ge 49, 3) := bz_c162 (by decide +kernel)
theorem d_WF_word_35 : decode b_WF_word 35 = .ok (.iload_n 1, 1) := bz_c27 (by decide +kernel)
theorem d_WF_word_36 : decode b_WF_word 36 = .ok (.iload 4, 2) := bz_c21 (by decide +kernel)
theorem d_WF_word_38 : decode b_WF_word 38 = .ok (.iadd, 1) := bz_c96 (by decide +kernel)
theorem d_WF_word_39 : decode b_WF_word 39 = .ok (.aload_n 0, 1) := bz_c42 (by decide +kernel)
theorem d_WF_word_40 : decode b_WF_word 40 = .ok (.getfield 20, 3) := bz_c180 (by decide +kernel)
theorem d_WF_word_43 : decode b_WF_word 43 = .ok (.getfield 85, 3) := bz_c180 (by decide +kernel)
theorem d_WF_word_46 : decode b_WF_word 46 = .ok (.if_icmp .ge 17, 3) := bz_c162 (by decide +kernel)
theorem d_WF_word_49 : decode b_WF_word 49 = .ok (.aload_n 0, 1) := bz_c42 (by decide +kernel)
theorem d_WF_word_50 : decode b_WF_word 50 = .ok (.getfield 20, 3) := bz_c180 (by decide +kernel)
theorem d_WF_word_53 : decode b_WF_word 53 = .ok (.iload_n 1, 1) := bz_c27 (by decide +kernel)
theorem d_WF_word_54 : decode b_WF_word 54 = .ok (.iload 4, 2) := bz_c21 (by decide +kernel)
theorem d_WF_word_56 : decode b_WF_word 56 = .ok (.iadd, 1) := bz_c96 (by decide +kernel)
theorem d_WF_word_57 : decode b_WF_word 57 = .ok (.invokevirtual 167, 3) := bz_c182 (by decide +kernel)
theorem d_WF_word_60 : decode b_WF_word 60 = .ok (.goto 4, 3) := bz_c167 (by decide +kernel)
theorem d_WF_word_63 : decode b_WF_word 63 = .ok (.iconst 0, 1) := bz_c3 (by decide +kernel)
theorem d_WF_word_64 : decode b_WF_word 64 = .ok (.istore 5, 2) := bz_c54 (by decide +kernel)
theorem d_WF_word_66 : decode b_WF_word 66 = .ok (.lload_n 2, 1) := bz_c32 (by decide +kernel)
theorem d_WF_word_67 : decode b_WF_word 67 = .ok (.bipush 8, 2) := bz_c16 (by decide +kernel)
theorem d_WF_word_69 : decode b_WF_word 69 = .ok (.lshl, 1) := bz_c121 (by decide +kernel)
theorem d_WF_word_70 : decode b_WF_word 70 = .ok (.iload 5, 2) := bz_c21 (by decide +kernel)
theorem d_WF_word_72 : decode b_WF_word 72 = .ok (.i2l, 1) := bz_c133 (by decide +kernel)
theorem d_WF_word_73 : decode b_WF_word 73 = .ok (.lor, 1) := bz_c129 (by decide +kernel)
theorem d_WF_word_74 : decode b_WF_word 74 = .ok (.lstore_n 2, 1) := bz_c65 (by decide +kernel)
theorem d_WF_word_75 : decode b_WF_word 75 = .ok (.iinc 4 1, 3) := by decide +kernel
theorem d_WF_word_78 : decode b_WF_word 78 = .ok (.goto (-50), 3) := bz_c167 (by decide +kernel)
theorem d_WF_word_81 : decode b_WF_word 81 = .ok (.lload_n 2, 1) := bz_c32 (by decide +kernel)
theorem d_WF_word_82 : decode b_WF_word 82 = .ok (.lreturn, 1) := bz_c173 (by decide +kernel)
theorem kM_WF_167 : Cond.methodLink R_WF 167 y_BR_at ∈ lw_g := in_c8 49 rfl rfl
theorem kF_WF_20 : Cond.fieldLink R_WF 20 "WaferForge" "result" "LWaferForge$ByteRow;" ∈ lw_g := in_c3 117 rfl rfl
abbrev at_WF_word (dC : Nat → ClassId) (dI : Nat → Nat → Nat) (sa : Nat → Nat) (h0 ta rw ag h0_wafer_r h0_spare_r h0_program_r h0_coder_r h0_reader_r h0_validator_r h0_machine_r rwb : Nat) (crwb : ClassId) (h0_argumentCount : Int32) (h0_reason : Int32) (h0_place : Int32) (h0_loaded : Int32) (rw_length : Int32) (grwb : Nat → Int32) (A : Nat → Prop) (u : Unit) (t : State) : Prop := match u with | _ => va_P (dC, dI) cls (wz_257 h0 ta rw ag h0_argumentCount h0_reason h0_place h0_loaded h0_wafer_r h0_spare_r h0_program_r h0_coder_r h0_reader_r h0_validator_r h0_machine_r rw rwb rw_length rwb crwb grwb) t.heap ∧ va_K (dC, dI) cls [(crwb, .byte)] t ∧ va_D A (wz_257 h0 ta rw ag h0_argumentCount h0_reason h0_place h0_loaded h0_wafer_r h0_spare_r h0_program_r h0_coder_r h0_reader_r h0_validator_r h0_machine_r rw rwb rw_length rwb crwb grwb)
set_option maxHeartbeats 4000000 in
set_option maxRecDepth 100000 in
theorem c_WF_word (l : Launch) (hlt : l.stackTraces = false) (dC : Nat → ClassId) (dI : Nat → Nat → Nat) (sz : Nat) (sa : Nat → Nat) (h0 ta rw ag h0_wafer_r h0_spare_r h0_program_r h0_coder_r h0_reader_r h0_validator_r h0_machine_r rwb : Nat) (crwb : ClassId) (h0_argumentCount : Int32) (h0_reason : Int32) (h0_place : Int32) (h0_loaded : Int32) (rw_length : Int32) (grwb : Nat → Int32)  (b_rw_length : 0 ≤ rw_length.toInt ∧ rw_length.toInt ≤ 8192) (p0 : Int32)   : tz_Met l y_WF_word w_WF_word ({ frames := 6, cells := 1, slots := 6, locals := 90 }) (va_Pc [.ref h0, .int p0] (fun U => U.heap.size = sz ∧ va_P (dC, dI) cls (wz_257 h0 ta rw ag h0_argumentCount h0_reason h0_place h0_loaded h0_wafer_r h0_spare_r h0_program_r h0_coder_r h0_reader_r h0_validator_r h0_machine_r rw rwb rw_length rwb crwb grwb) U.heap ∧ va_K (dC, dI) cls [(crwb, .byte)] U ∧ va_D (fun _ => True) (wz_257 h0 ta rw ag h0_argumentCount h0_reason h0_place h0_loaded h0_wafer_r h0_spare_r h0_program_r h0_coder_r h0_reader_r h0_validator_r h0_machine_r rw rwb rw_length rwb crwb grwb) ∧ sw sa (va_A (wz_257 h0 ta rw ag h0_argumentCount h0_reason h0_place h0_loaded h0_wafer_r h0_spare_r h0_program_r h0_coder_r h0_reader_r h0_validator_r h0_machine_r rw rwb rw_length rwb crwb grwb) sz) U U.heap)) (tq_Q (tq_l (fun (r : Int64) (u : Unit) => match u with | _ => (True)) "java/lang/IndexOutOfBoundsException" (fun (u : Unit) => match u with | _ => True)) (at_WF_word dC dI sa h0 ta rw ag h0_wafer_r h0_spare_r h0_program_r h0_coder_r h0_reader_r h0_validator_r h0_machine_r rwb crwb h0_argumentCount h0_reason h0_place h0_loaded rw_length grwb (va_A (wz_257 h0 ta rw ag h0_argumentCount h0_reason h0_place h0_loaded h0_wafer_r h0_spare_r h0_program_r h0_coder_r h0_reader_r h0_validator_r h0_machine_r rw rwb rw_length rwb crwb grwb) sz)) (va_A (wz_257 h0 ta rw ag h0_argumentCount h0_reason h0_place h0_loaded h0_wafer_r h0_spare_r h0_program_r h0_coder_r h0_reader_r h0_validator_r h0_machine_r rw rwb rw_length rwb crwb grwb) sz)) (tz_k 0 0 1 6) (va_A (wz_257 h0 ta rw ag h0_argumentCount h0_reason h0_place h0_loaded h0_wafer_r h0_spare_r h0_program_r h0_coder_r h0_reader_r h0_validator_r h0_machine_r rw rwb rw_length rwb crwb grwb) sz) := by
  refine tz_ofW (cc := b_WF_word) (maxL := 6) (ret := (Option.some .long)) (by decide) rfl ?_
  intro p e s m args below meth c s₁ B hml hno hv
  obtain ⟨rfl, hsz, hP, hK, hD0, hSW⟩ := hv
  have hx := B.exec
  have hb := B.bytes
  have hr := B.returns
  have hts0 := atoms_spec (ws := w_WF_word) B.pre
  have hts : ∀ w ∈ lw_g, w.before _ s = true := fun w h => hts0 w (List.mem_cons_of_mem _ h)
  have hown : s.vm.findClass R_WF = some m.cls := findClass_of_methodNamed B.named
  have hlocks := B.notSynchronized
  clear hts0
  subst hsz
  have hD := hD0.self (sz := s.heap.size)
  generalize hAe : va_A (wz_257 h0 ta rw ag h0_argumentCount h0_reason h0_place h0_loaded h0_wafer_r h0_spare_r h0_program_r h0_coder_r h0_reader_r h0_validator_r h0_machine_r rw rwb rw_length rwb crwb grwb) s.heap.size = A at hD hSW ⊢
  have hA : ∀ q : Nat, s.heap.size ≤ q → A q := fun q h => by rw [← hAe]; exact Or.inr h
  clear hAe
  have hP : va_P (dC, dI) cls (wz_257 h0 ta rw ag h0_argumentCount h0_reason h0_place h0_loaded h0_wafer_r h0_spare_r h0_program_r h0_coder_r h0_reader_r h0_validator_r h0_machine_r rw rwb rw_length rwb crwb grwb) s.heap := hP
  have hl := lv_entry ([.ref h0, .int p0]) (n := 6) (Nat.le_of_ble_eq_true rfl)
  rw [lg_entry_eq]
  generalize (lg_sl ([.ref h0, .int p0]) ++ List.replicate (6 - (lg_sl ([.ref h0, .int p0])).length) Slot.unset).toArray = ls at hl ⊢
  have hl : lv_has ls 6 [(0, .ref h0), (1, .int p0)] := hl
  have k0 : (0 : Int32).toInt = 0 := by decide
  refine w_gen (A := A) hP (fun H locs hP hS => ?_)
  have k1 : (1 : Int32).toInt = 1 := by decide
  have k8 : (8 : Int32).toInt = 8 := by decide
  have lo_p0 := i32_lo p0
  have hi_p0 := i32_hi p0
  refine lv_iload_n hx hb d_WF_word_0 rfl (lv_at hl 1 rfl) ?_
  refine w_cut (pc2 := 15) (σ := Unit) (fun u H locs ls => match u with | _ => va_P (dC, dI) cls (wz_257 h0 ta rw ag h0_argumentCount h0_reason h0_place h0_loaded h0_wafer_r h0_spare_r h0_program_r h0_coder_r h0_reader_r h0_validator_r h0_machine_r rw rwb rw_length rwb crwb grwb) H ∧ va_D A (wz_257 h0 ta rw ag h0_argumentCount h0_reason h0_place h0_loaded h0_wafer_r h0_spare_r h0_program_r h0_coder_r h0_reader_r h0_validator_r h0_machine_r rw rwb rw_length rwb crwb grwb) ∧ va_S A s.heap H locs ∧ lv_has ls 6 []) (fun u => match u with | _ => []) ?_ (fun jn15 => ?_)
  · intro u H locs ls hI
    obtain ⟨hP, hD, hS, hl⟩ := hI
    have hP9 := hP.sb (wq := (wz_257 h0 ta rw ag h0_argumentCount h0_reason h0_place h0_loaded h0_wafer_r h0_spare_r h0_program_r h0_coder_r h0_reader_r h0_validator_r h0_machine_r rw rwb rw_length rwb crwb grwb)) [0, 1, 2] rfl
    have hD9 := hD.sb (wq := (wz_257 h0 ta rw ag h0_argumentCount h0_reason h0_place h0_loaded h0_wafer_r h0_spare_r h0_program_r h0_coder_r h0_reader_r h0_validator_r h0_machine_r rw rwb rw_length rwb crwb grwb)) [0, 1, 2] (by decide) rfl
    exact tz_throwNew hx hb hno hlocks hlt (hl.1.trans hml.symm) hown (by decide +kernel) (by decide +kernel) (fun U hU hW => eb_WF_io hts hSW hS U hU hW) d_WF_word_15 d_WF_word_18 d_WF_word_19 d_WF_word_22 (by decide) (Nat.le_of_ble_eq_true rfl) (Nat.le_of_ble_eq_true rfl) (Nat.le_of_ble_eq_true rfl) (fun _ => rfl) (fun x t h1 h2 h3 h4 => ⟨⟨(), ⟨trivial, h3⟩, vp_ext hP9 h2, va_K.moved h4.alike hK, hD9⟩, vs_ext hS h1 h2⟩) hS.2.2
  · skip
    refine lv_if_lt (tgt := 15) hx hb d_WF_word_1 (by decide) (fun c1 => ?_) (fun c1 => ?_)
    · have q1 := ltI c1
      exact jn15 () _ _ _ ⟨hP, hD, hS, lv_sub hl [] rfl⟩
    · have q1 := nltI c1
      refine lv_iload_n hx hb d_WF_word_4 rfl (lv_at hl 1 rfl) ?_
      refine lv_aload_n hx hb d_WF_word_5 rfl (lv_at hl 0 rfl) ?_
      refine va_get (D := (dC, dI)) (ci := 0) (v := .ref rw) (C := R_WF) (T := F_WF) (N := 14) hx hb hts i_WF hown hK hP 0 rfl rfl 1 (by decide) (hts _ kF_WF_20) (fun _ h9 => h9) rfl d_WF_word_6 ?_
      refine va_get (D := (dC, dI)) (ci := 1) (v := .int rw_length) (C := R_BR) (T := F_BR) (N := 2) hx hb hts i_BR hown hK hP 1 rfl rfl 1 (by decide) (hts _ kF_WF_85) (fun _ h9 => h9) rfl d_WF_word_9 ?_
      refine lv_icmp_lt (tgt := 23) hx hb d_WF_word_12 (by decide) (fun c12 => ?_) (fun c12 => ?_)
      · have q12 := ltI c12
        refine lv_lconst (v := 0) hx hb d_WF_word_23 (by decide) ?_
        have kl0 : (0 : Int64).toInt = 0 := by decide
        refine lv_lstore_n (lv' := [(2, .long 0), (0, .ref h0), (1, .int p0)]) hx hb d_WF_word_24 rfl hl (by decide) rfl (fun ls hl => ?_)
        refine lv_iconst (v := 0) hx hb d_WF_word_25 (by decide) ?_
        refine lv_istore (lv' := [(4, .int 0), (2, .long 0), (0, .ref h0), (1, .int p0)]) hx hb d_WF_word_26 hl (by decide) rfl (fun ls hl => ?_)
        refine w_loop (σ := Int64 × Int32) (fun u H locs ls => match u with | (j28_l2, j28_l4) => (0 ≤ j28_l4.toInt ∧ j28_l4.toInt ≤ 8) ∧ va_P (dC, dI) cls (wz_257 h0 ta rw ag h0_argumentCount h0_reason h0_place h0_loaded h0_wafer_r h0_spare_r h0_program_r h0_coder_r h0_reader_r h0_validator_r h0_machine_r rw rwb rw_length rwb crwb grwb) H ∧ va_D A (wz_257 h0 ta rw ag h0_argumentCount h0_reason h0_place h0_loaded h0_wafer_r h0_spare_r h0_program_r h0_coder_r h0_reader_r h0_validator_r h0_machine_r rw rwb rw_length rwb crwb grwb) ∧ va_S A s.heap H locs ∧ lv_has ls 6 [(0, .ref h0), (1, .int p0), (2, .long j28_l2), (4, .int j28_l4)]) (fun u => match u with | (j28_l2, j28_l4) => (8 - j28_l4.toInt).toNat) ?_ (0, 0) ⟨by (try dsimp only) <;> (first | (apply Int.le_antisymm <;> omega) | omega), hP, hD, hS, lv_sub hl [2, 3, 1, 0] rfl⟩
        intro N28 ih28 u H locs ls hN28 hI
        obtain ⟨j28_l2, j28_l4⟩ := u
        obtain ⟨b_j28_l4, hP, hD, hS, hl⟩ := hI
        have hN28 : (8 - j28_l4.toInt).toNat < N28 + 1 := hN28
        refine lv_iload hx hb d_WF_word_28 (lv_at hl 3 rfl) ?_
        refine lv_bipush (v := 8) hx hb d_WF_word_30 (by decide) ?_
        refine lv_icmp_ge (tgt := 81) hx hb d_WF_word_32 (by decide) (fun c32 => ?_) (fun c32 => ?_)
        · have q32 := leI c32
          refine lv_lload_n hx hb d_WF_word_81 rfl (lv_at hl 2 rfl) ?_
          have hP9 := hP.sb (wq := (wz_257 h0 ta rw ag h0_argumentCount h0_reason h0_place h0_loaded h0_wafer_r h0_spare_r h0_program_r h0_coder_r h0_reader_r h0_validator_r h0_machine_r rw rwb rw_length rwb crwb grwb)) [0, 1, 2] rfl
          have hD9 := hD.sb (wq := (wz_257 h0 ta rw ag h0_argumentCount h0_reason h0_place h0_loaded h0_wafer_r h0_spare_r h0_program_r h0_coder_r h0_reader_r h0_validator_r h0_machine_r rw rwb rw_length rwb crwb grwb)) [0, 1, 2] (by decide) rfl
          exact tz_up (fun _ => rfl) (W.lret (v := j28_l2) hx hb hr (fun t ht hW => ⟨⟨(), ⟨j28_l2, rfl, (trivial)⟩, va_P.he ht.symm hP9, va_K.moved hW.alike hK, hD9⟩, hS.F ht⟩) hS.2.2 d_WF_word_82)
        · have q32 := nleI c32
          refine lv_iload_n hx hb d_WF_word_35 rfl (lv_at hl 1 rfl) ?_
          refine lv_iload hx hb d_WF_word_36 (lv_at hl 3 rfl) ?_
          refine lv_iadd hx hb d_WF_word_38 ?_
          refine lv_topi (fun x1 ex1 => ?_)
          have tx1 : x1.toInt = p0.toInt + j28_l4.toInt := by have z := i32_add ex1 (by (first | (apply Int.le_antisymm <;> omega) | omega)) (by (first | (apply Int.le_antisymm <;> omega) | omega)); first | exact z | (first | (apply Int.le_antisymm <;> omega) | omega)
          refine lv_aload_n hx hb d_WF_word_39 rfl (lv_at hl 0 rfl) ?_
          refine va_get (D := (dC, dI)) (ci := 0) (v := .ref rw) (C := R_WF) (T := F_WF) (N := 14) hx hb hts i_WF hown hK hP 0 rfl rfl 1 (by decide) (hts _ kF_WF_20) (fun _ h9 => h9) rfl d_WF_word_40 ?_
          refine va_get (D := (dC, dI)) (ci := 1) (v := .int rw_length) (C := R_BR) (T := F_BR) (N := 2) hx hb hts i_BR hown hK hP 1 rfl rfl 1 (by decide) (hts _ kF_WF_85) (fun _ h9 => h9) rfl d_WF_word_43 ?_
          refine w_cut (pc2 := 64) (σ := Int32) (fun u H locs ls => match u with | j64_s0 => va_P (dC, dI) cls (wz_257 h0 ta rw ag h0_argumentCount h0_reason h0_place h0_loaded h0_wafer_r h0_spare_r h0_program_r h0_coder_r h0_reader_r h0_validator_r h0_machine_r rw rwb rw_length rwb crwb grwb) H ∧ va_D A (wz_257 h0 ta rw ag h0_argumentCount h0_reason h0_place h0_loaded h0_wafer_r h0_spare_r h0_program_r h0_coder_r h0_reader_r h0_validator_r h0_machine_r rw rwb rw_length rwb crwb grwb) ∧ va_S A s.heap H locs ∧ lv_has ls 6 [(0, .ref h0), (1, .int p0), (2, .long j28_l2), (4, .int j28_l4)]) (fun u => match u with | j64_s0 => [.int j64_s0]) ?_ (fun jn64 => ?_)
          · intro u H locs ls hI
            obtain ⟨j64_s0, rfl⟩ : ∃ z, z = u := ⟨_, rfl⟩
            obtain ⟨hP, hD, hS, hl⟩ := hI
            refine lv_istore (lv' := [(5, .int j64_s0), (0, .ref h0), (1, .int p0), (2, .long j28_l2), (4, .int j28_l4)]) hx hb d_WF_word_64 hl (by decide) rfl (fun ls hl => ?_)
            refine lv_lload_n hx hb d_WF_word_66 rfl (lv_at hl 3 rfl) ?_
            refine lv_bipush (v := 8) hx hb d_WF_word_67 (by decide) ?_
            refine lv_lshl hx hb d_WF_word_69 rfl ?_
            refine lv_topl (fun x2 ex2 => ?_)
            refine lv_iload hx hb d_WF_word_70 (lv_at hl 0 rfl) ?_
            refine lv_i2l hx hb d_WF_word_72 rfl ?_
            refine lv_topl (fun x3 ex3 => ?_)
            have tx3 := i2l_t ex3
            refine lv_lor hx hb d_WF_word_73 ?_
            refine lv_topl (fun x4 ex4 => ?_)
            refine lv_lstore_n (lv' := [(2, .long x4), (5, .int j64_s0), (0, .ref h0), (1, .int p0), (4, .int j28_l4)]) hx hb d_WF_word_74 rfl hl (by decide) rfl (fun ls hl => ?_)
            obtain ⟨x5, ex5⟩ : ∃ z : Int32, z = j28_l4 + 1 := ⟨_, rfl⟩
            have tx5 : x5.toInt = j28_l4.toInt + 1 := by have z := i32_add ex5 (by (first | (apply Int.le_antisymm <;> omega) | omega)) (by (first | (apply Int.le_antisymm <;> omega) | omega)); first | exact z | (first | (apply Int.le_antisymm <;> omega) | omega)
            refine lv_iinc (v := x5) (lv' := [(4, .int x5), (2, .long x4), (5, .int j64_s0), (0, .ref h0), (1, .int p0)]) hx hb d_WF_word_75 hl (k := 4) rfl (by rw [ex5]; rfl) (by decide) rfl (fun ls hl => ?_)
            refine lv_goto (tgt := 28) hx hb d_WF_word_78 (by decide) ?_
            exact ih28 (x4, x5) _ _ _ (by show (8 - x5.toInt).toNat < N28; (first | (apply Int.le_antisymm <;> omega) | omega)) ⟨by (try dsimp only) <;> (first | (apply Int.le_antisymm <;> omega) | omega), hP, hD, hS, lv_sub hl [3, 4, 1, 0] rfl⟩
          · skip
            refine lv_icmp_ge (tgt := 63) hx hb d_WF_word_46 (by decide) (fun c46 => ?_) (fun c46 => ?_)
            · have q46 := leI c46
              refine lv_iconst (v := 0) hx hb d_WF_word_63 (by decide) ?_
              exact jn64 0 _ _ _ ⟨hP, hD, hS, lv_sub hl [0, 1, 2, 3] rfl⟩
            · have q46 := nleI c46
              refine lv_aload_n hx hb d_WF_word_49 rfl (lv_at hl 0 rfl) ?_
              refine va_get (D := (dC, dI)) (ci := 0) (v := .ref rw) (C := R_WF) (T := F_WF) (N := 14) hx hb hts i_WF hown hK hP 0 rfl rfl 1 (by decide) (hts _ kF_WF_20) (fun _ h9 => h9) rfl d_WF_word_50 ?_
              refine lv_iload_n hx hb d_WF_word_53 rfl (lv_at hl 1 rfl) ?_
              refine lv_iload hx hb d_WF_word_54 (lv_at hl 3 rfl) ?_
              refine lv_iadd hx hb d_WF_word_56 ?_
              refine lv_topi (fun x6 ex6 => ?_)
              have tx6 : x6.toInt = p0.toInt + j28_l4.toInt := by have z := i32_add ex6 (by (first | (apply Int.le_antisymm <;> omega) | omega)) (by (first | (apply Int.le_antisymm <;> omega) | omega)); first | exact z | (first | (apply Int.le_antisymm <;> omega) | omega)
              have hPc := hP.sb (wq := (wz_94 rw rwb rw_length rwb crwb grwb)) [1, 2] rfl
              have hDc := hD.sb (wq := (wz_94 rw rwb rw_length rwb crwb grwb)) [1, 2] (by decide) rfl
              have hKc := hK.sb (tyq := [(crwb, .byte)]) [0] rfl
              have hFc := va_free (wc := (wz_94 rw rwb rw_length rwb crwb grwb)) hD hS hA [1, 2] rfl
              refine va_calli (va_runV (As := [.int x6]) (rest := []) ⟨hx, hb, hml, hown, hts⟩ (c_BR_at l dC dI rw rwb H.size crwb 8192 rw_length grwb (by (first | (apply Int.le_antisymm <;> omega) | omega)) (by (first | (apply Int.le_antisymm <;> omega) | omega)) (by (first | (apply Int.le_antisymm <;> omega) | omega)) x6) (cwV 1 hts (gV kM_WF_167 kV_BR_at kS_BR_at kI_BR kC_BR_at) rfl rfl rfl (by decide +kernel) ⟨Nat.le_of_ble_eq_true rfl, Nat.le_of_ble_eq_true rfl⟩) ⟨fun a U g mk z => by obtain ⟨z0, z1, zP, zK, zD⟩ := z; exact ⟨z0, z1, zP, va_K.moved (u := U) (U := U.calling g mk a) (Vm.Alike.refl U.vm) zK, zD⟩, va_recv hKc hPc (ci := 1) (q0 := 0) rfl rfl, fun U hU hW => ⟨rfl, by rw [hU], va_P.he hU.symm hPc, va_K.moved hW.alike hKc, hDc.weaken (fun _ _ _ _ => trivial)⟩⟩ rfl rfl hl.1 rfl (lv_room (Nat.le_of_ble_eq_true rfl)) d_WF_word_57 ⟨(Nat.zero_le _), (Nat.zero_le _)⟩) hS (fun q _ h => hFc q h) hFc (fun r7 u t H1 locs ht hvm hw hB hz1 hk1 hS => ?_)
              obtain ⟨er7, rfl⟩ := hw
              have tr7 := br_get_in grwb rw_length x6
              rw [← er7] at tr7
              obtain ⟨hP1, hK1, hD1⟩ := hB
              replace hP1 := va_P.he ht hP1
              obtain ⟨hP, hD⟩ := va_join (wr := (wz_255 h0 ta rw ag h0_argumentCount h0_reason h0_place h0_loaded h0_wafer_r h0_spare_r h0_program_r h0_coder_r h0_reader_r h0_validator_r h0_machine_r)) (w1 := (wz_94 rw rwb rw_length rwb crwb grwb)) hP hD [1, 2] [0] rfl rfl (by decide) (by decide) hk1 hFc hP1 hD1
              clear hPc hDc hKc hFc hz1 hk1 hP1 hK1 hD1
              rename Heap => H
              have hP : va_P (dC, dI) cls (wz_257 h0 ta rw ag h0_argumentCount h0_reason h0_place h0_loaded h0_wafer_r h0_spare_r h0_program_r h0_coder_r h0_reader_r h0_validator_r h0_machine_r rw rwb rw_length rwb crwb grwb) H := hP
              have hD : va_D A (wz_257 h0 ta rw ag h0_argumentCount h0_reason h0_place h0_loaded h0_wafer_r h0_spare_r h0_program_r h0_coder_r h0_reader_r h0_validator_r h0_machine_r rw rwb rw_length rwb crwb grwb) := hD
              refine lv_goto (tgt := 64) hx hb d_WF_word_60 (by decide) ?_
              exact jn64 r7 _ _ _ ⟨hP, hD, hS, lv_sub hl [0, 1, 2, 3] rfl⟩
      · have q12 := nltI c12
        exact jn15 () _ _ _ ⟨hP, hD, hS, lv_sub hl [] rfl⟩
abbrev b_WA_exportedFunction : ByteArray := prog_13_method_3_code
def y_WA_exportedFunction : MethodName := ⟨R_WA, "exportedFunction", "(LWaferForge$ByteRow;)I"⟩
abbrev w_WA_exportedFunction : List Cond := .code y_WA_exportedFunction b_WA_exportedFunction 5 (Option.some .int) :: lw_g
theorem kC_WA_exportedFunction : Cond.code y_WA_exportedFunction b_WA_exportedFunction 5 (Option.some .int) ∈ lw_g := in_c3 166 rfl rfl
theorem d_WA_exportedFunction_0 : decode b_WA_exportedFunction 0 = .ok (.iconst 0, 1) := bz_c3 (by decide +kernel)
theorem d_WA_exportedFunction_1 : decode b_WA_exportedFunction 1 = .ok (.istore_n 2, 1) := bz_c61 (by decide +kernel)
theorem d_WA_exportedFunction_2 : decode b_WA_exportedFunction 2 = .ok (.iload_n 2, 1) := bz_c28 (by decide +kernel)
theorem d_WA_exportedFunction_3 : decode b_WA_exportedFunction 3 = .ok (.aload_n 0, 1) := bz_c42 (by decide +kernel)
theorem d_WA_exportedFunction_4 : decode b_WA_exportedFunction 4 = .ok (.getfield 95, 3) := bz_c180 (by decide +kernel)
theorem d_WA_exportedFunction_7 : decode b_WA_exportedFunction 7 = .ok (.if_icmp .ge 101, 3) := bz_c162 (by decide +kernel)
theorem d_WA_exportedFunction_10 : decode b_WA_exportedFunction 10 = .ok (.aload_n 0, 1) := bz_c42 (by decide +kernel)
theorem d_WA_exportedFunction_11 : decode b_WA_exportedFunction 11 = .ok (.getfield 54, 3) := bz_c180 (by decide +kernel)
theorem d_WA_exportedFunction_14 : decode b_WA_exportedFunction 14 = .ok (.iload_n 2, 1) := bz_c28 (by decide +kernel)
theorem d_WA_exportedFunction_15 : decode b_WA_exportedFunction 15 = .ok (.iaload, 1) := bz_c46 (by decide +kernel)
theorem d_WA_exportedFunction_16 : decode b_WA_exportedFunction 16 = .ok (.ifCond .ne 20, 3) := bz_c154 (by decide +kernel)
theorem d_WA_exportedFunction_19 : decode b_WA_exportedFunction 19 = .ok (.aload_n 0, 1) := bz_c42 (by decide +kernel)
theorem d_WA_exportedFunction_20 : decode b_WA_exportedFunction 20 = .ok (.getfield 63, 3) := bz_c180 (by decide +kernel)
theorem d_WA_exportedFunction_23 : decode b_WA_exportedFunction 23 = .ok (.iload_n 2, 1) := bz_c28 (by decide +kernel)
theorem d_WA_exportedFunction_24 : decode b_WA_exportedFunction 24 = .ok (.iaload, 1) := bz_c46 (by decide +kernel)
theorem d_WA_exportedFunction_25 : decode b_WA_exportedFunction 25 = .ok (.aload_n 1, 1) := bz_c43 (by decide +kernel)
theorem d_WA_exportedFunction_26 : decode b_WA_exportedFunction 26 = .ok (.getfield 98, 3) := bz_c180 (by decide +kernel)
theorem d_WA_exportedFunction_29 : decode b_WA_exportedFunction 29 = .ok (.if_icmp .ne 7, 3) := bz_c160 (by decide +kernel)
theorem d_WA_exportedFunction_32 : decode b_WA_exportedFunction 32 = .ok (.iconst 1, 1) := bz_c4 (by decide +kernel)
theorem d_WA_exportedFunction_33 : decode b_WA_exportedFunction 33 = .ok (.goto 4, 3) := bz_c167 (by decide +kernel)
theorem d_WA_exportedFunction_36 : decode b_WA_exportedFunction 36 = .ok (.iconst 0, 1) := bz_c3 (by decide +kernel)
theorem d_WA_exportedFunction_37 : decode b_WA_exportedFunction 37 = .ok (.istore_n 3, 1) := bz_c62 (by decide +kernel)
theorem d_WA_exportedFunction_38 : decode b_WA_exportedFunction 38 = .ok (.iconst 0, 1) := bz_c3 (by decide +kernel)
theorem d_WA_exportedFunction_39 : decode b_WA_exportedFunction 39 = .ok (.istore 4, 2) := bz_c54 (by decide +kernel)
theorem d_WA_exportedFunction_41 : decode b_WA_exportedFunction 41 = .ok (.iload_n 3, 1) := bz_c29 (by decide +kernel)
theorem d_WA_exportedFunction_42 : decode b_WA_exportedFunction 42 = .ok (.ifCond .eq 49, 3) := bz_c153 (by decide +kernel)
theorem d_WA_exportedFunction_45 : decode b_WA_exportedFunction 45 = .ok (.iload 4, 2) := bz_c21 (by decide +kernel)
theorem d_WA_exportedFunction_47 : decode b_WA_exportedFunction 47 = .ok (.aload_n 1, 1) := bz_c43 (by decide +kernel)
theorem d_WA_exportedFunction_48 : decode b_WA_exportedFunction 48 = .ok (.getfield 98, 3) := bz_c180 (by decide +kernel)
theorem d_WA_exportedFunction_51 : decode b_WA_exportedFunction 51 = .ok (.if_icmp .ge 40, 3) := bz_c162 (by decide +kernel)
theorem d_WA_exportedFunction_54 : decode b_WA_exportedFunction 54 = .ok (.aload_n 0, 1) := bz_c42 (by decide +kernel)
theorem d_WA_exportedFunction_55 : decode b_WA_exportedFunction 55 = .ok (.getfield 14, 3) := bz_c180 (by decide +kernel)
theorem d_WA_exportedFunction_58 : decode b_WA_exportedFunction 58 = .ok (.aload_n 0, 1) := bz_c42 (by decide +kernel)
theorem d_WA_exportedFunction_59 : decode b_WA_exportedFunction 59 = .ok (.getfield 60, 3) := bz_c180 (by decide +kernel)
theorem d_WA_exportedFunction_62 : decode b_WA_exportedFunction 62 = .ok (.iload_n 2, 1) := bz_c28 (by decide +kernel)
theorem d_WA_exportedFunction_63 : decode b_WA_exportedFunction 63 = .ok (.iaload, 1) := bz_c46 (by decide +kernel)
theorem d_WA_exportedFunction_64 : decode b_WA_exportedFunction 64 = .ok (.iload 4, 2) := bz_c21 (by decide +kernel)
theorem d_WA_exportedFunction_66 : decode b_WA_exportedFunction 66 = .ok (.iadd, 1) := bz_c96 (by decide +kernel)
theorem d_WA_exportedFunction_67 : decode b_WA_exportedFunction 67 = .ok (.invokevirtual 99, 3) := bz_c182 (by decide +kernel)
theorem d_WA_exportedFunction_70 : decode b_WA_exportedFunction 70 = .ok (.aload_n 1, 1) := bz_c43 (by decide +kernel)
theorem d_WA_exportedFunction_71 : decode b_WA_exportedFunction 71 = .ok (.iload 4, 2) := bz_c21 (by decide +kernel)
theorem d_WA_exportedFunction_73 : decode b_WA_exportedFunction 73 = .ok (.invokevirtual 99, 3) := bz_c182 (by decide +kernel)
theorem d_WA_exportedFunction_76 : decode b_WA_exportedFunction 76 = .ok (.if_icmp .ne 7, 3) := bz_c160 (by decide +kernel)
theorem d_WA_exportedFunction_79 : decode b_WA_exportedFunction 79 = .ok (.iconst 1, 1) := bz_c4 (by decide +kernel)
theorem d_WA_exportedFunction_80 : decode b_WA_exportedFunction 80 = .ok (.goto 4, 3) := bz_c167 (by decide +kernel)
theorem d_WA_exportedFunction_83 : decode b_WA_exportedFunction 83 = .ok (.iconst 0, 1) := bz_c3 (by decide +kernel)
theorem d_WA_exportedFunction_84 : decode b_WA_exportedFunction 84 = .ok (.istore_n 3, 1) := bz_c62 (by decide +kernel)
theorem d_WA_exportedFunction_85 : decode b_WA_exportedFunction 85 = .ok (.iinc 4 1, 3) := by decide +kernel
theorem d_WA_exportedFunction_88 : decode b_WA_exportedFunction 88 = .ok (.goto (-47), 3) := bz_c167 (by decide +kernel)
theorem d_WA_exportedFunction_91 : decode b_WA_exportedFunction 91 = .ok (.iload_n 3, 1) := bz_c29 (by decide +kernel)
theorem d_WA_exportedFunction_92 : decode b_WA_exportedFunction 92 = .ok (.ifCond .eq 10, 3) := bz_c153 (by decide +kernel)
theorem d_WA_exportedFunction_95 : decode b_WA_exportedFunction 95 = .ok (.aload_n 0, 1) := bz_c42 (by decide +kernel)
theorem d_WA_exportedFunction_96 : decode b_WA_exportedFunction 96 = .ok (.getfield 57, 3) := bz_c180 (by decide +kernel)
theorem d_WA_exportedFunction_99 : decode b_WA_exportedFunction 99 = .ok (.iload_n 2, 1) := bz_c28 (by decide +kernel)
theorem d_WA_exportedFunction_100 : decode b_WA_exportedFunction 100 = .ok (.iaload, 1) := bz_c46 (by decide +kernel)
theorem d_WA_exportedFunction_101 : decode b_WA_exportedFunction 101 = .ok (.ireturn, 1) := bz_c172 (by decide +kernel)
theorem d_WA_exportedFunction_102 : decode b_WA_exportedFunction 102 = .ok (.iinc 2 1, 3) := by decide +kernel
theorem d_WA_exportedFunction_105 : decode b_WA_exportedFunction 105 = .ok (.goto (-103), 3) := bz_c167 (by decide +kernel)
theorem d_WA_exportedFunction_108 : decode b_WA_exportedFunction 108 = .ok (.iconst (-1), 1) := bz_c2 (by decide +kernel)
theorem d_WA_exportedFunction_109 : decode b_WA_exportedFunction 109 = .ok (.ireturn, 1) := bz_c172 (by decide +kernel)
theorem kM_WA_99 : Cond.methodLink R_WA 99 y_BR_at ∈ lw_g := in_c3 167 rfl rfl
theorem kF_WA_54 : Cond.fieldLink R_WA 54 "WaferForge$Wafer" "exportKinds" "[I" ∈ lw_g := in_c1 196 rfl rfl
theorem kF_WA_57 : Cond.fieldLink R_WA 57 "WaferForge$Wafer" "exportIndices" "[I" ∈ lw_g := in_c1 199 rfl rfl
theorem kF_WA_98 : Cond.fieldLink R_WA 98 "WaferForge$ByteRow" "length" "I" ∈ lw_g := in_c1 61 rfl rfl
theorem kF_WA_14 : Cond.fieldLink R_WA 14 "WaferForge$Wafer" "bytes" "LWaferForge$ByteRow;" ∈ lw_g := in_c1 141 rfl rfl
theorem kF_WA_60 : Cond.fieldLink R_WA 60 "WaferForge$Wafer" "exportStarts" "[I" ∈ lw_g := in_c1 202 rfl rfl
theorem kF_WA_63 : Cond.fieldLink R_WA 63 "WaferForge$Wafer" "exportSizes" "[I" ∈ lw_g := in_c1 205 rfl rfl
abbrev at_WA_exportedFunction (dC : Nat → ClassId) (dI : Nat → Nat → Nat) (h0 ab h0_codes_r wat wap wag waf wgt wft wfv wgc wek wei wes wez ax tp tpb : Nat) (cax cwek cwei cwes cwez ctpb : ClassId) (h0_typeCount : Int32) (h0_functionCount : Int32) (h0_hasMemory : Int32) (h0_pagesLeast : Int64) (h0_pagesMost : Int64) (h0_globalCount : Int32) (h0_exportCount : Int32) (ab_length : Int32) (gax : Nat → Int32) (gwek : Nat → Int32) (gwei : Nat → Int32) (gwes : Nat → Int32) (gwez : Nat → Int32) (tp_length : Int32) (gtpb : Nat → Int32) (A : Nat → Prop) (u : Unit) (t : State) : Prop := match u with | _ => va_P (dC, dI) cls (wz_258 h0 ab h0_codes_r h0_typeCount wat wap wag h0_functionCount waf h0_hasMemory h0_pagesLeast h0_pagesMost h0_globalCount wgt wft wfv wgc h0_exportCount wek wei wes wez ab ax ab_length ax cax gax wek cwek gwek wei cwei gwei wes cwes gwes wez cwez gwez tp tpb tp_length tpb ctpb gtpb) t.heap ∧ va_K (dC, dI) cls [(cax, .byte), (cwek, .int), (cwei, .int), (cwes, .int), (cwez, .int), (ctpb, .byte)] t ∧ va_D A (wz_258 h0 ab h0_codes_r h0_typeCount wat wap wag h0_functionCount waf h0_hasMemory h0_pagesLeast h0_pagesMost h0_globalCount wgt wft wfv wgc h0_exportCount wek wei wes wez ab ax ab_length ax cax gax wek cwek gwek wei cwei gwei wes cwes gwes wez cwez gwez tp tpb tp_length tpb ctpb gtpb)
set_option maxHeartbeats 4000000 in
set_option maxRecDepth 100000 in
theorem c_WA_exportedFunction (l : Launch) (dC : Nat → ClassId) (dI : Nat → Nat → Nat) (sz : Nat) (h0 ab h0_codes_r wat wap wag waf wgt wft wfv wgc wek wei wes wez ax tp tpb : Nat) (cax cwek cwei cwes cwez ctpb : ClassId) (h0_typeCount : Int32) (h0_functionCount : Int32) (h0_hasMemory : Int32) (h0_pagesLeast : Int64) (h0_pagesMost : Int64) (h0_globalCount : Int32) (h0_exportCount : Int32) (ab_length : Int32) (gax : Nat → Int32) (gwek : Nat → Int32) (gwei : Nat → Int32) (gwes : Nat → Int32) (gwez : Nat → Int32) (tp_length : Int32) (gtpb : Nat → Int32)  (b_h0_exportCount : 0 ≤ h0_exportCount.toInt ∧ h0_exportCount.toInt ≤ 40) (b_tp_length : 0 ≤ tp_length.toInt ∧ tp_length.toInt ≤ 2000)   (hab : 0 ≤ ab_length.toInt ∧ ab_length.toInt ≤ 8192) : Met l y_WA_exportedFunction w_WA_exportedFunction ({ frames := 1, cells := 0, slots := 0, locals := 21 }) (va_Pc [.ref h0, .ref tp] (fun U => U.heap.size = sz ∧ va_P (dC, dI) cls (wz_258 h0 ab h0_codes_r h0_typeCount wat wap wag h0_functionCount waf h0_hasMemory h0_pagesLeast h0_pagesMost h0_globalCount wgt wft wfv wgc h0_exportCount wek wei wes wez ab ax ab_length ax cax gax wek cwek gwek wei cwei gwei wes cwes gwes wez cwez gwez tp tpb tp_length tpb ctpb gtpb) U.heap ∧ va_K (dC, dI) cls [(cax, .byte), (cwek, .int), (cwei, .int), (cwes, .int), (cwez, .int), (ctpb, .byte)] U ∧ va_D (fun _ => True) (wz_258 h0 ab h0_codes_r h0_typeCount wat wap wag h0_functionCount waf h0_hasMemory h0_pagesLeast h0_pagesMost h0_globalCount wgt wft wfv wgc h0_exportCount wek wei wes wez ab ax ab_length ax cax gax wek cwek gwek wei cwei gwei wes cwes gwes wez cwez gwez tp tpb tp_length tpb ctpb gtpb))) (va_Qi (fun (r : Int32) (u : Unit) => match u with | _ => (True)) (at_WA_exportedFunction dC dI h0 ab h0_codes_r wat wap wag waf wgt wft wfv wgc wek wei wes wez ax tp tpb cax cwek cwei cwes cwez ctpb h0_typeCount h0_functionCount h0_hasMemory h0_pagesLeast h0_pagesMost h0_globalCount h0_exportCount ab_length gax gwek gwei gwes gwez tp_length gtpb (va_A (wz_258 h0 ab h0_codes_r h0_typeCount wat wap wag h0_functionCount waf h0_hasMemory h0_pagesLeast h0_pagesMost h0_globalCount wgt wft wfv wgc h0_exportCount wek wei wes wez ab ax ab_length ax cax gax wek cwek gwek wei cwei gwei wes cwes gwes wez cwez gwez tp tpb tp_length tpb ctpb gtpb) sz)) (va_A (wz_258 h0 ab h0_codes_r h0_typeCount wat wap wag h0_functionCount waf h0_hasMemory h0_pagesLeast h0_pagesMost h0_globalCount wgt wft wfv wgc h0_exportCount wek wei wes wez ab ax ab_length ax cax gax wek cwek gwek wei cwei gwei wes cwes gwes wez cwez gwez tp tpb tp_length tpb ctpb gtpb) sz)) 0 0 (va_A (wz_258 h0 ab h0_codes_r h0_typeCount wat wap wag h0_functionCount waf h0_hasMemory h0_pagesLeast h0_pagesMost h0_globalCount wgt wft wfv wgc h0_exportCount wek wei wes wez ab ax ab_length ax cax gax wek cwek gwek wei cwei gwei wes cwes gwes wez cwez gwez tp tpb tp_length tpb ctpb gtpb) sz) := by
  refine Met.ofW (cc := b_WA_exportedFunction) (maxL := 5) (ret := (Option.some .int)) (by decide) rfl ?_
  intro p e s m args below meth c s₁ B hml hv
  obtain ⟨rfl, hsz, hP, hK, hD0⟩ := hv
  have hx := B.exec
  have hb := B.bytes
  have hr := B.returns
  have hts0 := atoms_spec (ws := w_WA_exportedFunction) B.pre
  have hts : ∀ w ∈ lw_g, w.before _ s = true := fun w h => hts0 w (List.mem_cons_of_mem _ h)
  have hown : s.vm.findClass R_WA = some m.cls := findClass_of_methodNamed B.named
  have hlocks := B.notSynchronized
  clear hts0
  subst hsz
  have hD := hD0.self (sz := s.heap.size)
  generalize hAe : va_A (wz_258 h0 ab h0_codes_r h0_typeCount wat wap wag h0_functionCount waf h0_hasMemory h0_pagesLeast h0_pagesMost h0_globalCount wgt wft wfv wgc h0_exportCount wek wei wes wez ab ax ab_length ax cax gax wek cwek gwek wei cwei gwei wes cwes gwes wez cwez gwez tp tpb tp_length tpb ctpb gtpb) s.heap.size = A at hD ⊢
  have hA : ∀ q : Nat, s.heap.size ≤ q → A q := fun q h => by rw [← hAe]; exact Or.inr h
  clear hAe
  have hP : va_P (dC, dI) cls (wz_258 h0 ab h0_codes_r h0_typeCount wat wap wag h0_functionCount waf h0_hasMemory h0_pagesLeast h0_pagesMost h0_globalCount wgt wft wfv wgc h0_exportCount wek wei wes wez ab ax ab_length ax cax gax wek cwek gwek wei cwei gwei wes cwes gwes wez cwez gwez tp tpb tp_length tpb ctpb gtpb) s.heap := hP
  have hl := lv_entry ([.ref h0, .ref tp]) (n := 5) (Nat.le_of_ble_eq_true rfl)
  rw [lg_entry_eq]
  generalize (lg_sl ([.ref h0, .ref tp]) ++ List.replicate (5 - (lg_sl ([.ref h0, .ref tp])).length) Slot.unset).toArray = ls at hl ⊢
  have hl : lv_has ls 5 [(0, .ref h0), (1, .ref tp)] := hl
  have k0 : (0 : Int32).toInt = 0 := by decide
  refine w_gen (A := A) hP (fun H locs hP hS => ?_)
  have km1 : (-1 : Int32).toInt = -1 := by decide
  have k1 : (1 : Int32).toInt = 1 := by decide
  refine lv_iconst (v := 0) hx hb d_WA_exportedFunction_0 (by decide) ?_
  refine lv_istore_n (lv' := [(2, .int 0), (0, .ref h0), (1, .ref tp)]) hx hb d_WA_exportedFunction_1 rfl hl (by decide) rfl (fun ls hl => ?_)
  refine w_loop (σ := Int32) (fun u H locs ls => match u with | j2_l2 => (0 ≤ j2_l2.toInt ∧ j2_l2.toInt ≤ 40) ∧ (j2_l2.toInt ≤ h0_exportCount.toInt) ∧ va_P (dC, dI) cls (wz_258 h0 ab h0_codes_r h0_typeCount wat wap wag h0_functionCount waf h0_hasMemory h0_pagesLeast h0_pagesMost h0_globalCount wgt wft wfv wgc h0_exportCount wek wei wes wez ab ax ab_length ax cax gax wek cwek gwek wei cwei gwei wes cwes gwes wez cwez gwez tp tpb tp_length tpb ctpb gtpb) H ∧ va_D A (wz_258 h0 ab h0_codes_r h0_typeCount wat wap wag h0_functionCount waf h0_hasMemory h0_pagesLeast h0_pagesMost h0_globalCount wgt wft wfv wgc h0_exportCount wek wei wes wez ab ax ab_length ax cax gax wek cwek gwek wei cwei gwei wes cwes gwes wez cwez gwez tp tpb tp_length tpb ctpb gtpb) ∧ va_S A s.heap H locs ∧ lv_has ls 5 [(0, .ref h0), (1, .ref tp), (2, .int j2_l2)]) (fun u => match u with | j2_l2 => (h0_exportCount.toInt - j2_l2.toInt).toNat) ?_ 0 ⟨by (try dsimp only) <;> (first | (apply Int.le_antisymm <;> omega) | omega), by (try dsimp only) <;> (first | (apply Int.le_antisymm <;> omega) | omega), hP, hD, hS, lv_sub hl [1, 2, 0] rfl⟩
  intro N2 ih2 u H locs ls hN2 hI
  obtain ⟨j2_l2, rfl⟩ : ∃ z, z = u := ⟨_, rfl⟩
  obtain ⟨b_j2_l2, v1, hP, hD, hS, hl⟩ := hI
  have hN2 : (h0_exportCount.toInt - j2_l2.toInt).toNat < N2 + 1 := hN2
  refine lv_iload_n hx hb d_WA_exportedFunction_2 rfl (lv_at hl 2 rfl) ?_
  refine lv_aload_n hx hb d_WA_exportedFunction_3 rfl (lv_at hl 0 rfl) ?_
  refine va_get (D := (dC, dI)) (ci := 10) (v := .int h0_exportCount) (C := R_WA) (T := F_WA) (N := 21) hx hb hts i_WA hown hK hP 0 rfl rfl 16 (by decide) (hts _ kF_WA_95) (fun _ h9 => h9) rfl d_WA_exportedFunction_4 ?_
  refine lv_icmp_ge (tgt := 108) hx hb d_WA_exportedFunction_7 (by decide) (fun c7 => ?_) (fun c7 => ?_)
  · have q7 := leI c7
    refine lv_iconst (v := (-1)) hx hb d_WA_exportedFunction_108 (by decide) ?_
    have hP9 := hP.sb (wq := (wz_258 h0 ab h0_codes_r h0_typeCount wat wap wag h0_functionCount waf h0_hasMemory h0_pagesLeast h0_pagesMost h0_globalCount wgt wft wfv wgc h0_exportCount wek wei wes wez ab ax ab_length ax cax gax wek cwek gwek wei cwei gwei wes cwes gwes wez cwez gwez tp tpb tp_length tpb ctpb gtpb)) [0, 1, 2, 3, 4, 5, 6, 7, 8] rfl
    have hD9 := hD.sb (wq := (wz_258 h0 ab h0_codes_r h0_typeCount wat wap wag h0_functionCount waf h0_hasMemory h0_pagesLeast h0_pagesMost h0_globalCount wgt wft wfv wgc h0_exportCount wek wei wes wez ab ax ab_length ax cax gax wek cwek gwek wei cwei gwei wes cwes gwes wez cwez gwez tp tpb tp_length tpb ctpb gtpb)) [0, 1, 2, 3, 4, 5, 6, 7, 8] (by decide) rfl
    exact W.iret (v := ((-1))) hx hb hr (fun t ht hW => ⟨⟨(-1), (), rfl, (trivial), va_P.he ht.symm hP9, va_K.moved hW.alike hK, hD9⟩, hS.F ht⟩) hS.2.2 d_WA_exportedFunction_109
  · have q7 := nleI c7
    refine lv_aload_n hx hb d_WA_exportedFunction_10 rfl (lv_at hl 0 rfl) ?_
    refine va_get (D := (dC, dI)) (ci := 10) (v := .ref wek) (C := R_WA) (T := F_WA) (N := 21) hx hb hts i_WA hown hK hP 0 rfl rfl 17 (by decide) (hts _ kF_WA_54) (fun _ h9 => h9) rfl d_WA_exportedFunction_11 ?_
    refine lv_iload_n hx hb d_WA_exportedFunction_14 rfl (lv_at hl 2 rfl) ?_
    have g15 : vp_in j2_l2 40 := vp_in_iff.mpr ⟨by (first | (apply Int.le_antisymm <;> omega) | omega), by (first | (apply Int.le_antisymm <;> omega) | omega)⟩
    refine va_iald hx hb hK hP 3 1 rfl rfl g15 d_WA_exportedFunction_15 ?_
    refine lv_topi (fun x1 ex1 => ?_)
    refine w_cut (pc2 := 37) (σ := Int32) (fun u H locs ls => match u with | j37_s0 => (j37_s0 = 0 ∨ j37_s0 = 1) ∧ va_P (dC, dI) cls (wz_258 h0 ab h0_codes_r h0_typeCount wat wap wag h0_functionCount waf h0_hasMemory h0_pagesLeast h0_pagesMost h0_globalCount wgt wft wfv wgc h0_exportCount wek wei wes wez ab ax ab_length ax cax gax wek cwek gwek wei cwei gwei wes cwes gwes wez cwez gwez tp tpb tp_length tpb ctpb gtpb) H ∧ va_D A (wz_258 h0 ab h0_codes_r h0_typeCount wat wap wag h0_functionCount waf h0_hasMemory h0_pagesLeast h0_pagesMost h0_globalCount wgt wft wfv wgc h0_exportCount wek wei wes wez ab ax ab_length ax cax gax wek cwek gwek wei cwei gwei wes cwes gwes wez cwez gwez tp tpb tp_length tpb ctpb gtpb) ∧ va_S A s.heap H locs ∧ lv_has ls 5 [(0, .ref h0), (1, .ref tp), (2, .int j2_l2)]) (fun u => match u with | j37_s0 => [.int j37_s0]) ?_ (fun jn37 => ?_)
    · intro u H locs ls hI
      obtain ⟨j37_s0, rfl⟩ : ∃ z, z = u := ⟨_, rfl⟩
      obtain ⟨b_j37_s0, hP, hD, hS, hl⟩ := hI
      have tj37_s0 := b01 b_j37_s0
      refine lv_istore_n (lv' := [(3, .int j37_s0), (0, .ref h0), (1, .ref tp), (2, .int j2_l2)]) hx hb d_WA_exportedFunction_37 rfl hl (by decide) rfl (fun ls hl => ?_)
      refine lv_iconst (v := 0) hx hb d_WA_exportedFunction_38 (by decide) ?_
      refine lv_istore (lv' := [(4, .int 0), (3, .int j37_s0), (0, .ref h0), (1, .ref tp), (2, .int j2_l2)]) hx hb d_WA_exportedFunction_39 hl (by decide) rfl (fun ls hl => ?_)
      refine w_loop (σ := Int32 × Int32) (fun u H locs ls => match u with | (j41_l3, j41_l4) => (j41_l3 = 0 ∨ j41_l3 = 1) ∧ (0 ≤ j41_l4.toInt ∧ j41_l4.toInt ≤ 2000) ∧ (j41_l4.toInt ≤ tp_length.toInt) ∧ va_P (dC, dI) cls (wz_258 h0 ab h0_codes_r h0_typeCount wat wap wag h0_functionCount waf h0_hasMemory h0_pagesLeast h0_pagesMost h0_globalCount wgt wft wfv wgc h0_exportCount wek wei wes wez ab ax ab_length ax cax gax wek cwek gwek wei cwei gwei wes cwes gwes wez cwez gwez tp tpb tp_length tpb ctpb gtpb) H ∧ va_D A (wz_258 h0 ab h0_codes_r h0_typeCount wat wap wag h0_functionCount waf h0_hasMemory h0_pagesLeast h0_pagesMost h0_globalCount wgt wft wfv wgc h0_exportCount wek wei wes wez ab ax ab_length ax cax gax wek cwek gwek wei cwei gwei wes cwes gwes wez cwez gwez tp tpb tp_length tpb ctpb gtpb) ∧ va_S A s.heap H locs ∧ lv_has ls 5 [(0, .ref h0), (1, .ref tp), (2, .int j2_l2), (3, .int j41_l3), (4, .int j41_l4)]) (fun u => match u with | (j41_l3, j41_l4) => (tp_length.toInt - j41_l4.toInt).toNat) ?_ (j37_s0, 0) ⟨b_j37_s0, by (try dsimp only) <;> (first | (apply Int.le_antisymm <;> omega) | omega), by (try dsimp only) <;> (first | (apply Int.le_antisymm <;> omega) | omega), hP, hD, hS, lv_sub hl [2, 3, 4, 1, 0] rfl⟩
      intro N41 ih41 u H locs ls hN41 hI
      obtain ⟨j41_l3, j41_l4⟩ := u
      obtain ⟨b_j41_l3, b_j41_l4, u1, hP, hD, hS, hl⟩ := hI
      have tj41_l3 := b01 b_j41_l3
      have hN41 : (tp_length.toInt - j41_l4.toInt).toNat < N41 + 1 := hN41
      refine lv_iload_n hx hb d_WA_exportedFunction_41 rfl (lv_at hl 3 rfl) ?_
      refine w_cut (pc2 := 91) (σ := Unit) (fun u H locs ls => match u with | _ => va_P (dC, dI) cls (wz_258 h0 ab h0_codes_r h0_typeCount wat wap wag h0_functionCount waf h0_hasMemory h0_pagesLeast h0_pagesMost h0_globalCount wgt wft wfv wgc h0_exportCount wek wei wes wez ab ax ab_length ax cax gax wek cwek gwek wei cwei gwei wes cwes gwes wez cwez gwez tp tpb tp_length tpb ctpb gtpb) H ∧ va_D A (wz_258 h0 ab h0_codes_r h0_typeCount wat wap wag h0_functionCount waf h0_hasMemory h0_pagesLeast h0_pagesMost h0_globalCount wgt wft wfv wgc h0_exportCount wek wei wes wez ab ax ab_length ax cax gax wek cwek gwek wei cwei gwei wes cwes gwes wez cwez gwez tp tpb tp_length tpb ctpb gtpb) ∧ va_S A s.heap H locs ∧ lv_has ls 5 [(0, .ref h0), (1, .ref tp), (2, .int j2_l2), (3, .int j41_l3)]) (fun u => match u with | _ => []) ?_ (fun jn91 => ?_)
      · intro u H locs ls hI
        obtain ⟨hP, hD, hS, hl⟩ := hI
        refine lv_iload_n hx hb d_WA_exportedFunction_91 rfl (lv_at hl 3 rfl) ?_
        refine lv_if_eq (tgt := 102) hx hb d_WA_exportedFunction_92 (by decide) (fun c92 => ?_) (fun c92 => ?_)
        · have q92 := eqI c92
          obtain ⟨x2, ex2⟩ : ∃ z : Int32, z = j2_l2 + 1 := ⟨_, rfl⟩
          have tx2 : x2.toInt = j2_l2.toInt + 1 := by have z := i32_add ex2 (by (first | (apply Int.le_antisymm <;> omega) | omega)) (by (first | (apply Int.le_antisymm <;> omega) | omega)); first | exact z | (first | (apply Int.le_antisymm <;> omega) | omega)
          refine lv_iinc (v := x2) (lv' := [(2, .int x2), (0, .ref h0), (1, .ref tp), (3, .int j41_l3)]) hx hb d_WA_exportedFunction_102 hl (k := 2) rfl (by rw [ex2]; rfl) (by decide) rfl (fun ls hl => ?_)
          refine lv_goto (tgt := 2) hx hb d_WA_exportedFunction_105 (by decide) ?_
          exact ih2 x2 _ _ _ (by show (h0_exportCount.toInt - x2.toInt).toNat < N2; (first | (apply Int.le_antisymm <;> omega) | omega)) ⟨by (try dsimp only) <;> (first | (apply Int.le_antisymm <;> omega) | omega), by (try dsimp only) <;> (first | (apply Int.le_antisymm <;> omega) | omega), hP, hD, hS, lv_sub hl [1, 2, 0] rfl⟩
        · have q92 := neI c92
          refine lv_aload_n hx hb d_WA_exportedFunction_95 rfl (lv_at hl 0 rfl) ?_
          refine va_get (D := (dC, dI)) (ci := 10) (v := .ref wei) (C := R_WA) (T := F_WA) (N := 21) hx hb hts i_WA hown hK hP 0 rfl rfl 18 (by decide) (hts _ kF_WA_57) (fun _ h9 => h9) rfl d_WA_exportedFunction_96 ?_
          refine lv_iload_n hx hb d_WA_exportedFunction_99 rfl (lv_at hl 2 rfl) ?_
          have g100 : vp_in j2_l2 40 := vp_in_iff.mpr ⟨by (first | (apply Int.le_antisymm <;> omega) | omega), by (first | (apply Int.le_antisymm <;> omega) | omega)⟩
          refine va_iald hx hb hK hP 4 2 rfl rfl g100 d_WA_exportedFunction_100 ?_
          refine lv_topi (fun x3 ex3 => ?_)
          have hP9 := hP.sb (wq := (wz_258 h0 ab h0_codes_r h0_typeCount wat wap wag h0_functionCount waf h0_hasMemory h0_pagesLeast h0_pagesMost h0_globalCount wgt wft wfv wgc h0_exportCount wek wei wes wez ab ax ab_length ax cax gax wek cwek gwek wei cwei gwei wes cwes gwes wez cwez gwez tp tpb tp_length tpb ctpb gtpb)) [0, 1, 2, 3, 4, 5, 6, 7, 8] rfl
          have hD9 := hD.sb (wq := (wz_258 h0 ab h0_codes_r h0_typeCount wat wap wag h0_functionCount waf h0_hasMemory h0_pagesLeast h0_pagesMost h0_globalCount wgt wft wfv wgc h0_exportCount wek wei wes wez ab ax ab_length ax cax gax wek cwek gwek wei cwei gwei wes cwes gwes wez cwez gwez tp tpb tp_length tpb ctpb gtpb)) [0, 1, 2, 3, 4, 5, 6, 7, 8] (by decide) rfl
          exact W.iret (v := x3) hx hb hr (fun t ht hW => ⟨⟨x3, (), rfl, (trivial), va_P.he ht.symm hP9, va_K.moved hW.alike hK, hD9⟩, hS.F ht⟩) hS.2.2 d_WA_exportedFunction_101
      · skip
        refine lv_if_eq (tgt := 91) hx hb d_WA_exportedFunction_42 (by decide) (fun c42 => ?_) (fun c42 => ?_)
        · have q42 := eqI c42
          exact jn91 () _ _ _ ⟨hP, hD, hS, lv_sub hl [0, 1, 2, 3] rfl⟩
        · have q42 := neI c42
          refine lv_iload hx hb d_WA_exportedFunction_45 (lv_at hl 4 rfl) ?_
          refine lv_aload_n hx hb d_WA_exportedFunction_47 rfl (lv_at hl 1 rfl) ?_
          refine va_get (D := (dC, dI)) (ci := 1) (v := .int tp_length) (C := R_BR) (T := F_BR) (N := 2) hx hb hts i_BR hown hK hP 7 rfl rfl 1 (by decide) (hts _ kF_WA_98) (fun _ h9 => h9) rfl d_WA_exportedFunction_48 ?_
          refine lv_icmp_ge (tgt := 91) hx hb d_WA_exportedFunction_51 (by decide) (fun c51 => ?_) (fun c51 => ?_)
          · have q51 := leI c51
            exact jn91 () _ _ _ ⟨hP, hD, hS, lv_sub hl [0, 1, 2, 3] rfl⟩
          · have q51 := nleI c51
            refine lv_aload_n hx hb d_WA_exportedFunction_54 rfl (lv_at hl 0 rfl) ?_
            refine va_get (D := (dC, dI)) (ci := 10) (v := .ref ab) (C := R_WA) (T := F_WA) (N := 21) hx hb hts i_WA hown hK hP 0 rfl rfl 0 (by decide) (hts _ kF_WA_14) (fun _ h9 => h9) rfl d_WA_exportedFunction_55 ?_
            refine lv_aload_n hx hb d_WA_exportedFunction_58 rfl (lv_at hl 0 rfl) ?_
            refine va_get (D := (dC, dI)) (ci := 10) (v := .ref wes) (C := R_WA) (T := F_WA) (N := 21) hx hb hts i_WA hown hK hP 0 rfl rfl 19 (by decide) (hts _ kF_WA_60) (fun _ h9 => h9) rfl d_WA_exportedFunction_59 ?_
            refine lv_iload_n hx hb d_WA_exportedFunction_62 rfl (lv_at hl 2 rfl) ?_
            have g63 : vp_in j2_l2 40 := vp_in_iff.mpr ⟨by (first | (apply Int.le_antisymm <;> omega) | omega), by (first | (apply Int.le_antisymm <;> omega) | omega)⟩
            refine va_iald hx hb hK hP 5 3 rfl rfl g63 d_WA_exportedFunction_63 ?_
            refine lv_topi (fun x4 ex4 => ?_)
            refine lv_iload hx hb d_WA_exportedFunction_64 (lv_at hl 4 rfl) ?_
            refine lv_iadd hx hb d_WA_exportedFunction_66 ?_
            refine lv_topi (fun x5 ex5 => ?_)
            have hPc := hP.sb (wq := (wz_94 ab ax ab_length ax cax gax)) [1, 2] rfl
            have hDc := hD.sb (wq := (wz_94 ab ax ab_length ax cax gax)) [1, 2] (by decide) rfl
            have hKc := hK.sb (tyq := [(cax, .byte)]) [0] rfl
            have hFc := va_free (wc := (wz_94 ab ax ab_length ax cax gax)) hD hS hA [1, 2] rfl
            refine va_calli (va_runV (As := [.int x5]) (rest := []) ⟨hx, hb, hml, hown, hts⟩ (c_BR_at l dC dI ab ax H.size cax 8192 ab_length gax (by (first | (apply Int.le_antisymm <;> omega) | omega)) (by (first | (apply Int.le_antisymm <;> omega) | omega)) (by (first | (apply Int.le_antisymm <;> omega) | omega)) x5) (cwV 1 hts (gV kM_WA_99 kV_BR_at kS_BR_at kI_BR kC_BR_at) rfl rfl rfl (by decide +kernel) ⟨Nat.le_of_ble_eq_true rfl, Nat.le_of_ble_eq_true rfl⟩) ⟨fun a U g mk z => by obtain ⟨z0, z1, zP, zK, zD⟩ := z; exact ⟨z0, z1, zP, va_K.moved (u := U) (U := U.calling g mk a) (Vm.Alike.refl U.vm) zK, zD⟩, va_recv hKc hPc (ci := 1) (q0 := 0) rfl rfl, fun U hU hW => ⟨rfl, by rw [hU], va_P.he hU.symm hPc, va_K.moved hW.alike hKc, hDc.weaken (fun _ _ _ _ => trivial)⟩⟩ rfl rfl hl.1 rfl (lv_room (Nat.le_of_ble_eq_true rfl)) d_WA_exportedFunction_67 ⟨(Nat.zero_le _), (Nat.zero_le _)⟩) hS (fun q _ h => hFc q h) hFc (fun r6 u t H1 locs ht hvm hw hB hz1 hk1 hS => ?_)
            obtain ⟨er6, rfl⟩ := hw
            have tr6 := br_get_in gax ab_length x5
            rw [← er6] at tr6
            obtain ⟨hP1, hK1, hD1⟩ := hB
            replace hP1 := va_P.he ht hP1
            obtain ⟨hP, hD⟩ := va_join (wr := [(h0, .inr (10, [.ref ab, .ref h0_codes_r, .int h0_typeCount, .ref wat, .ref wap, .ref wag, .int h0_functionCount, .ref waf, .int h0_hasMemory, .long h0_pagesLeast, .long h0_pagesMost, .int h0_globalCount, .ref wgt, .ref wft, .ref wfv, .ref wgc, .int h0_exportCount, .ref wek, .ref wei, .ref wes, .ref wez])), (wek, .inl (cwek, 40, .inl gwek)), (wei, .inl (cwei, 40, .inl gwei)), (wes, .inl (cwes, 40, .inl gwes)), (wez, .inl (cwez, 40, .inl gwez)), (tp, .inr (1, [.ref tpb, .int tp_length])), (tpb, .inl (ctpb, 2000, .inl gtpb))]) (w1 := (wz_94 ab ax ab_length ax cax gax)) hP hD [1, 2] [0, 3, 4, 5, 6, 7, 8] rfl rfl (by decide) (by decide) hk1 hFc hP1 hD1
            clear hPc hDc hKc hFc hz1 hk1 hP1 hK1 hD1
            rename Heap => H
            have hP : va_P (dC, dI) cls [(h0, .inr (10, [.ref ab, .ref h0_codes_r, .int h0_typeCount, .ref wat, .ref wap, .ref wag, .int h0_functionCount, .ref waf, .int h0_hasMemory, .long h0_pagesLeast, .long h0_pagesMost, .int h0_globalCount, .ref wgt, .ref wft, .ref wfv, .ref wgc, .int h0_exportCount, .ref wek, .ref wei, .ref wes, .ref wez])), (wek, .inl (cwek, 40, .inl gwek)), (wei, .inl (cwei, 40, .inl gwei)), (wes, .inl (cwes, 40, .inl gwes)), (wez, .inl (cwez, 40, .inl gwez)), (tp, .inr (1, [.ref tpb, .int tp_length])), (tpb, .inl (ctpb, 2000, .inl gtpb)), (ab, .inr (1, [.ref ax, .int ab_length])), (ax, .inl (cax, 8192, .inl gax))] H := hP
            have hD : va_D A [(h0, .inr (10, [.ref ab, .ref h0_codes_r, .int h0_typeCount, .ref wat, .ref wap, .ref wag, .int h0_functionCount, .ref waf, .int h0_hasMemory, .long h0_pagesLeast, .long h0_pagesMost, .int h0_globalCount, .ref wgt, .ref wft, .ref wfv, .ref wgc, .int h0_exportCount, .ref wek, .ref wei, .ref wes, .ref wez])), (wek, .inl (cwek, 40, .inl gwek)), (wei, .inl (cwei, 40, .inl gwei)), (wes, .inl (cwes, 40, .inl gwes)), (wez, .inl (cwez, 40, .inl gwez)), (tp, .inr (1, [.ref tpb, .int tp_length])), (tpb, .inl (ctpb, 2000, .inl gtpb)), (ab, .inr (1, [.ref ax, .int ab_length])), (ax, .inl (cax, 8192, .inl gax))] := hD
            refine lv_aload_n hx hb d_WA_exportedFunction_70 rfl (lv_at hl 1 rfl) ?_
            refine lv_iload hx hb d_WA_exportedFunction_71 (lv_at hl 4 rfl) ?_
            have hPc := hP.sb (wq := [(tp, .inr (1, [.ref tpb, .int tp_length])), (tpb, .inl (ctpb, 2000, .inl gtpb))]) [5, 6] rfl
            have hDc := hD.sb (wq := [(tp, .inr (1, [.ref tpb, .int tp_length])), (tpb, .inl (ctpb, 2000, .inl gtpb))]) [5, 6] (by decide) rfl
            have hKc := hK.sb (tyq := [(ctpb, .byte)]) [5] rfl
            have hFc := va_free (wc := [(tp, .inr (1, [.ref tpb, .int tp_length])), (tpb, .inl (ctpb, 2000, .inl gtpb))]) hD hS hA [5, 6] rfl
            refine va_calli (va_runV (As := [.int j41_l4]) (rest := [.int r6]) ⟨hx, hb, hml, hown, hts⟩ (c_BR_at l dC dI tp tpb H.size ctpb 2000 tp_length gtpb (by (first | (apply Int.le_antisymm <;> omega) | omega)) (by (first | (apply Int.le_antisymm <;> omega) | omega)) (by (first | (apply Int.le_antisymm <;> omega) | omega)) j41_l4) (cwV 1 hts (gV kM_WA_99 kV_BR_at kS_BR_at kI_BR kC_BR_at) rfl rfl rfl (by decide +kernel) ⟨Nat.le_of_ble_eq_true rfl, Nat.le_of_ble_eq_true rfl⟩) ⟨fun a U g mk z => by obtain ⟨z0, z1, zP, zK, zD⟩ := z; exact ⟨z0, z1, zP, va_K.moved (u := U) (U := U.calling g mk a) (Vm.Alike.refl U.vm) zK, zD⟩, va_recv hKc hPc (ci := 1) (q0 := 0) rfl rfl, fun U hU hW => ⟨rfl, by rw [hU], va_P.he hU.symm hPc, va_K.moved hW.alike hKc, hDc.weaken (fun _ _ _ _ => trivial)⟩⟩ rfl rfl hl.1 rfl (lv_room (Nat.le_of_ble_eq_true rfl)) d_WA_exportedFunction_73 ⟨(Nat.zero_le _), (Nat.zero_le _)⟩) hS (fun q _ h => hFc q h) hFc (fun r7 u t H1 locs ht hvm hw hB hz1 hk1 hS => ?_)
            obtain ⟨er7, rfl⟩ := hw
            have tr7 := br_get_in gtpb tp_length j41_l4
            rw [← er7] at tr7
            obtain ⟨hP1, hK1, hD1⟩ := hB
            replace hP1 := va_P.he ht hP1
            obtain ⟨hP, hD⟩ := va_join (wr := [(h0, .inr (10, [.ref ab, .ref h0_codes_r, .int h0_typeCount, .ref wat, .ref wap, .ref wag, .int h0_functionCount, .ref waf, .int h0_hasMemory, .long h0_pagesLeast, .long h0_pagesMost, .int h0_globalCount, .ref wgt, .ref wft, .ref wfv, .ref wgc, .int h0_exportCount, .ref wek, .ref wei, .ref wes, .ref wez])), (wek, .inl (cwek, 40, .inl gwek)), (wei, .inl (cwei, 40, .inl gwei)), (wes, .inl (cwes, 40, .inl gwes)), (wez, .inl (cwez, 40, .inl gwez)), (ab, .inr (1, [.ref ax, .int ab_length])), (ax, .inl (cax, 8192, .inl gax))]) (w1 := [(tp, .inr (1, [.ref tpb, .int tp_length])), (tpb, .inl (ctpb, 2000, .inl gtpb))]) hP hD [5, 6] [0, 1, 2, 3, 4, 7, 8] rfl rfl (by decide) (by decide) hk1 hFc hP1 hD1
            clear hPc hDc hKc hFc hz1 hk1 hP1 hK1 hD1
            rename Heap => H
            have hP : va_P (dC, dI) cls (wz_259 h0 ab h0_codes_r h0_typeCount wat wap wag h0_functionCount waf h0_hasMemory h0_pagesLeast h0_pagesMost h0_globalCount wgt wft wfv wgc h0_exportCount wek wei wes wez wek cwek gwek wei cwei gwei wes cwes gwes wez cwez gwez ab ax ab_length ax cax gax tp tpb tp_length tpb ctpb gtpb) H := hP
            have hD : va_D A (wz_259 h0 ab h0_codes_r h0_typeCount wat wap wag h0_functionCount waf h0_hasMemory h0_pagesLeast h0_pagesMost h0_globalCount wgt wft wfv wgc h0_exportCount wek wei wes wez wek cwek gwek wei cwei gwei wes cwes gwes wez cwez gwez ab ax ab_length ax cax gax tp tpb tp_length tpb ctpb gtpb) := hD
            refine w_cut (pc2 := 84) (σ := Int32) (fun u H locs ls => match u with | j84_s0 => (j84_s0 = 0 ∨ j84_s0 = 1) ∧ va_P (dC, dI) cls (wz_259 h0 ab h0_codes_r h0_typeCount wat wap wag h0_functionCount waf h0_hasMemory h0_pagesLeast h0_pagesMost h0_globalCount wgt wft wfv wgc h0_exportCount wek wei wes wez wek cwek gwek wei cwei gwei wes cwes gwes wez cwez gwez ab ax ab_length ax cax gax tp tpb tp_length tpb ctpb gtpb) H ∧ va_D A (wz_259 h0 ab h0_codes_r h0_typeCount wat wap wag h0_functionCount waf h0_hasMemory h0_pagesLeast h0_pagesMost h0_globalCount wgt wft wfv wgc h0_exportCount wek wei wes wez wek cwek gwek wei cwei gwei wes cwes gwes wez cwez gwez ab ax ab_length ax cax gax tp tpb tp_length tpb ctpb gtpb) ∧ va_S A s.heap H locs ∧ lv_has ls 5 [(0, .ref h0), (1, .ref tp), (2, .int j2_l2), (4, .int j41_l4)]) (fun u => match u with | j84_s0 => [.int j84_s0]) ?_ (fun jn84 => ?_)
            · intro u H locs ls hI
              obtain ⟨j84_s0, rfl⟩ : ∃ z, z = u := ⟨_, rfl⟩
              obtain ⟨b_j84_s0, hP, hD, hS, hl⟩ := hI
              have tj84_s0 := b01 b_j84_s0
              refine lv_istore_n (lv' := [(3, .int j84_s0), (0, .ref h0), (1, .ref tp), (2, .int j2_l2), (4, .int j41_l4)]) hx hb d_WA_exportedFunction_84 rfl hl (by decide) rfl (fun ls hl => ?_)
              obtain ⟨x8, ex8⟩ : ∃ z : Int32, z = j41_l4 + 1 := ⟨_, rfl⟩
              have tx8 : x8.toInt = j41_l4.toInt + 1 := by have z := i32_add ex8 (by (first | (apply Int.le_antisymm <;> omega) | omega)) (by (first | (apply Int.le_antisymm <;> omega) | omega)); first | exact z | (first | (apply Int.le_antisymm <;> omega) | omega)
              refine lv_iinc (v := x8) (lv' := [(4, .int x8), (3, .int j84_s0), (0, .ref h0), (1, .ref tp), (2, .int j2_l2)]) hx hb d_WA_exportedFunction_85 hl (k := 4) rfl (by rw [ex8]; rfl) (by decide) rfl (fun ls hl => ?_)
              refine lv_goto (tgt := 41) hx hb d_WA_exportedFunction_88 (by decide) ?_
              exact ih41 (j84_s0, x8) _ _ _ (by show (tp_length.toInt - x8.toInt).toNat < N41; (first | (apply Int.le_antisymm <;> omega) | omega)) ⟨b_j84_s0, by (try dsimp only) <;> (first | (apply Int.le_antisymm <;> omega) | omega), by (try dsimp only) <;> (first | (apply Int.le_antisymm <;> omega) | omega), hP.sub [0, 5, 6, 1, 2, 3, 4, 7, 8] rfl, hD.sub [0, 5, 6, 1, 2, 3, 4, 7, 8] (by decide) rfl, hS, lv_sub hl [2, 3, 4, 1, 0] rfl⟩
            · skip
              refine lv_icmp_ne (tgt := 83) hx hb d_WA_exportedFunction_76 (by decide) (fun c76 => ?_) (fun c76 => ?_)
              · have q76 := neI c76
                refine lv_iconst (v := 0) hx hb d_WA_exportedFunction_83 (by decide) ?_
                exact jn84 0 _ _ _ ⟨Or.inl rfl, hP, hD, hS, lv_sub hl [0, 1, 2, 4] rfl⟩
              · have q76 := eqI c76
                refine lv_iconst (v := 1) hx hb d_WA_exportedFunction_79 (by decide) ?_
                refine lv_goto (tgt := 84) hx hb d_WA_exportedFunction_80 (by decide) ?_
                exact jn84 1 _ _ _ ⟨Or.inr rfl, hP, hD, hS, lv_sub hl [0, 1, 2, 4] rfl⟩
    · skip
      refine w_cut (pc2 := 36) (σ := Unit) (fun u H locs ls => match u with | _ => va_P (dC, dI) cls (wz_258 h0 ab h0_codes_r h0_typeCount wat wap wag h0_functionCount waf h0_hasMemory h0_pagesLeast h0_pagesMost h0_globalCount wgt wft wfv wgc h0_exportCount wek wei wes wez ab ax ab_length ax cax gax wek cwek gwek wei cwei gwei wes cwes gwes wez cwez gwez tp tpb tp_length tpb ctpb gtpb) H ∧ va_D A (wz_258 h0 ab h0_codes_r h0_typeCount wat wap wag h0_functionCount waf h0_hasMemory h0_pagesLeast h0_pagesMost h0_globalCount wgt wft wfv wgc h0_exportCount wek wei wes wez ab ax ab_length ax cax gax wek cwek gwek wei cwei gwei wes cwes gwes wez cwez gwez tp tpb tp_length tpb ctpb gtpb) ∧ va_S A s.heap H locs ∧ lv_has ls 5 [(0, .ref h0), (1, .ref tp), (2, .int j2_l2)]) (fun u => match u with | _ => []) ?_ (fun jn36 => ?_)
      · intro u H locs ls hI
        obtain ⟨hP, hD, hS, hl⟩ := hI
        refine lv_iconst (v := 0) hx hb d_WA_exportedFunction_36 (by decide) ?_
        exact jn37 0 _ _ _ ⟨Or.inl rfl, hP, hD, hS, lv_sub hl [0, 1, 2] rfl⟩
      · skip
        refine lv_if_ne (tgt := 36) hx hb d_WA_exportedFunction_16 (by decide) (fun c16 => ?_) (fun c16 => ?_)
        · have q16 := neI c16
          exact jn36 () _ _ _ ⟨hP, hD, hS, lv_sub hl [0, 1, 2] rfl⟩
        · have q16 := eqI c16
          refine lv_aload_n hx hb d_WA_exportedFunction_19 rfl (lv_at hl 0 rfl) ?_
          refine va_get (D := (dC, dI)) (ci := 10) (v := .ref wez) (C := R_WA) (T := F_WA) (N := 21) hx hb hts i_WA hown hK hP 0 rfl rfl 20 (by decide) (hts _ kF_WA_63) (fun _ h9 => h9) rfl d_WA_exportedFunction_20 ?_
          refine lv_iload_n hx hb d_WA_exportedFunction_23 rfl (lv_at hl 2 rfl) ?_
          have g24 : vp_in j2_l2 40 := vp_in_iff.mpr ⟨by (first | (apply Int.le_antisymm <;> omega) | omega), by (first | (apply Int.le_antisymm <;> omega) | omega)⟩
          refine va_iald hx hb hK hP 6 4 rfl rfl g24 d_WA_exportedFunction_24 ?_
          refine lv_topi (fun x9 ex9 => ?_)
          refine lv_aload_n hx hb d_WA_exportedFunction_25 rfl (lv_at hl 1 rfl) ?_
          refine va_get (D := (dC, dI)) (ci := 1) (v := .int tp_length) (C := R_BR) (T := F_BR) (N := 2) hx hb hts i_BR hown hK hP 7 rfl rfl 1 (by decide) (hts _ kF_WA_98) (fun _ h9 => h9) rfl d_WA_exportedFunction_26 ?_
          refine lv_icmp_ne (tgt := 36) hx hb d_WA_exportedFunction_29 (by decide) (fun c29 => ?_) (fun c29 => ?_)
          · have q29 := neI c29
            exact jn36 () _ _ _ ⟨hP, hD, hS, lv_sub hl [0, 1, 2] rfl⟩
          · have q29 := eqI c29
            refine lv_iconst (v := 1) hx hb d_WA_exportedFunction_32 (by decide) ?_
            refine lv_goto (tgt := 37) hx hb d_WA_exportedFunction_33 (by decide) ?_
            exact jn37 1 _ _ _ ⟨Or.inr rfl, hP, hD, hS, lv_sub hl [0, 1, 2] rfl⟩
end q_99
section q_99b
/-! Arrays.fill; Machine.load -/
def R_JA : String := "java/util/Arrays"
theorem kI_JA : Cond.initialized R_JA ∈ lw_g := in_c1 29 rfl rfl
abbrev b_JA_fill : ByteArray := prog_40_method_101_code
def y_JA_fill : MethodName := ⟨R_JA, "fill", "([JJ)V"⟩
abbrev w_JA_fill : List Cond := .code y_JA_fill b_JA_fill 5 none :: lw_g
theorem kC_JA_fill : Cond.code y_JA_fill b_JA_fill 5 none ∈ lw_g := in_c6 176 rfl rfl
theorem d_JA_fill_0 : decode b_JA_fill 0 = .ok (.iconst 0, 1) := bz_c3 (by decide +kernel)
theorem d_JA_fill_1 : decode b_JA_fill 1 = .ok (.istore_n 3, 1) := bz_c62 (by decide +kernel)
theorem d_JA_fill_2 : decode b_JA_fill 2 = .ok (.aload_n 0, 1) := bz_c42 (by decide +kernel)
theorem d_JA_fill_3 : decode b_JA_fill 3 = .ok (.arraylength, 1) := bz_c190 (by decide +kernel)
theorem d_JA_fill_4 : decode b_JA_fill 4 = .ok (.istore 4, 2) := bz_c54 (by decide +kernel)
theorem d_JA_fill_6 : decode b_JA_fill 6 = .ok (.iload_n 3, 1) := bz_c29 (by decide +kernel)
theorem d_JA_fill_7 : decode b_JA_fill 7 = .ok (.iload 4, 2) := bz_c21 (by decide +kernel)
theorem d_JA_fill_9 : decode b_JA_fill 9 = .ok (.if_icmp .ge 13, 3) := bz_c162 (by decide +kernel)
theorem d_JA_fill_12 : decode b_JA_fill 12 = .ok (.aload_n 0, 1) := bz_c42 (by decide +kernel)
theorem d_JA_fill_13 : decode b_JA_fill 13 = .ok (.iload_n 3, 1) := bz_c29 (by decide +kernel)
theorem d_JA_fill_14 : decode b_JA_fill 14 = .ok (.lload_n 1, 1) := bz_c31 (by decide +kernel)
theorem d_JA_fill_15 : decode b_JA_fill 15 = .ok (.lastore, 1) := bz_c80 (by decide +kernel)
theorem d_JA_fill_16 : decode b_JA_fill 16 = .ok (.iinc 3 1, 3) := by decide +kernel
theorem d_JA_fill_19 : decode b_JA_fill 19 = .ok (.goto (-13), 3) := bz_c167 (by decide +kernel)
theorem d_JA_fill_22 : decode b_JA_fill 22 = .ok (.return_, 1) := bz_c177 (by decide +kernel)
abbrev at_JA_fill (dC : Nat → ClassId) (dI : Nat → Nat → Nat) (fa : Nat) (cfa : ClassId)  (A : Nat → Prop) (u : (Nat → Int64)) (t : State) : Prop := match u with | gfa => va_P (dC, dI) cls [(fa, .inl (cfa, 16384, .inr (.inl gfa)))] t.heap ∧ va_K (dC, dI) cls [(cfa, .long)] t ∧ va_D A [(fa, .inl (cfa, 16384, .inr (.inl gfa)))]
set_option maxHeartbeats 4000000 in
set_option maxRecDepth 100000 in
theorem c_JA_fill (l : Launch) (dC : Nat → ClassId) (dI : Nat → Nat → Nat) (sz : Nat) (fa : Nat) (cfa : ClassId) (gfa : Nat → Int64)   (p1 : Int64)   : Met l y_JA_fill w_JA_fill ({ frames := 0, cells := 0, slots := 0, locals := 0 }) (va_Pc [.ref fa, .long p1] (fun U => U.heap.size = sz ∧ va_P (dC, dI) cls [(fa, .inl (cfa, 16384, .inr (.inl gfa)))] U.heap ∧ va_K (dC, dI) cls [(cfa, .long)] U ∧ va_D (fun _ => True) [(fa, .inl (cfa, 16384, .inr (.inl gfa)))])) (va_Qv (fun (u : (Nat → Int64)) => match u with | gfa2 => (True)) (at_JA_fill dC dI fa cfa (va_A [(fa, .inl (cfa, 16384, .inr (.inl gfa)))] sz)) (va_A [(fa, .inl (cfa, 16384, .inr (.inl gfa)))] sz)) 0 0 (va_A [(fa, .inl (cfa, 16384, .inr (.inl gfa)))] sz) := by
  refine Met.ofW (cc := b_JA_fill) (maxL := 5) (ret := none) (by decide) rfl ?_
  intro p e s m args below meth c s₁ B hml hv
  obtain ⟨rfl, hsz, hP, hK, hD0⟩ := hv
  have hx := B.exec
  have hb := B.bytes
  have hr := B.returns
  have hts0 := atoms_spec (ws := w_JA_fill) B.pre
  have hts : ∀ w ∈ lw_g, w.before _ s = true := fun w h => hts0 w (List.mem_cons_of_mem _ h)
  have hown : s.vm.findClass R_JA = some m.cls := findClass_of_methodNamed B.named
  have hlocks := B.notSynchronized
  clear hts0
  subst hsz
  have hD := hD0.self (sz := s.heap.size)
  generalize hAe : va_A [(fa, .inl (cfa, 16384, .inr (.inl gfa)))] s.heap.size = A at hD ⊢
  have hA : ∀ q : Nat, s.heap.size ≤ q → A q := fun q h => by rw [← hAe]; exact Or.inr h
  clear hAe
  have hP : va_P (dC, dI) cls [(fa, .inl (cfa, 16384, .inr (.inl gfa)))] s.heap := hP
  have hl := lv_entry ([.ref fa, .long p1]) (n := 5) (Nat.le_of_ble_eq_true rfl)
  rw [lg_entry_eq]
  generalize (lg_sl ([.ref fa, .long p1]) ++ List.replicate (5 - (lg_sl ([.ref fa, .long p1])).length) Slot.unset).toArray = ls at hl ⊢
  have hl : lv_has ls 5 [(0, .ref fa), (1, .long p1)] := hl
  have k0 : (0 : Int32).toInt = 0 := by decide
  refine w_gen (A := A) hP (fun H locs hP hS => ?_)
  have k1 : (1 : Int32).toInt = 1 := by decide
  refine lv_iconst (v := 0) hx hb d_JA_fill_0 (by decide) ?_
  refine lv_istore_n (lv' := [(3, .int 0), (0, .ref fa), (1, .long p1)]) hx hb d_JA_fill_1 rfl hl (by decide) rfl (fun ls hl => ?_)
  refine lv_aload_n hx hb d_JA_fill_2 rfl (lv_at hl 1 rfl) ?_
  refine va_alen hx hb hK hP 0 0 rfl rfl rfl d_JA_fill_3 ?_
  refine lv_topi (fun x1 ex1 => ?_)
  have tx1 : x1.toInt = 16384 := by rw [ex1]; exact i32_len (by (first | (apply Int.le_antisymm <;> omega) | omega))
  refine lv_istore (lv' := [(4, .int x1), (3, .int 0), (0, .ref fa), (1, .long p1)]) hx hb d_JA_fill_4 hl (by decide) rfl (fun ls hl => ?_)
  refine w_loop (σ := Int32 × (Nat → Int64)) (fun u H locs ls => match u with | (j6_l3, j6_fa) => (0 ≤ j6_l3.toInt ∧ j6_l3.toInt ≤ 16384) ∧ va_P (dC, dI) cls [(fa, .inl (cfa, 16384, .inr (.inl j6_fa)))] H ∧ va_D A [(fa, .inl (cfa, 16384, .inr (.inl j6_fa)))] ∧ va_S A s.heap H locs ∧ lv_has ls 5 [(0, .ref fa), (1, .long p1), (3, .int j6_l3), (4, .int x1)]) (fun u => match u with | (j6_l3, j6_fa) => (16384 - j6_l3.toInt).toNat) ?_ (0, gfa) ⟨by (try dsimp only) <;> (first | (apply Int.le_antisymm <;> omega) | omega), hP, hD, hS, lv_sub hl [2, 3, 1, 0] rfl⟩
  intro N6 ih6 u H locs ls hN6 hI
  obtain ⟨j6_l3, j6_fa⟩ := u
  obtain ⟨b_j6_l3, hP, hD, hS, hl⟩ := hI
  have hN6 : (16384 - j6_l3.toInt).toNat < N6 + 1 := hN6
  refine lv_iload_n hx hb d_JA_fill_6 rfl (lv_at hl 2 rfl) ?_
  refine lv_iload hx hb d_JA_fill_7 (lv_at hl 3 rfl) ?_
  refine lv_icmp_ge (tgt := 22) hx hb d_JA_fill_9 (by decide) (fun c9 => ?_) (fun c9 => ?_)
  · have q9 := leI c9
    have hP9 := hP.sb (wq := [(fa, .inl (cfa, 16384, .inr (.inl j6_fa)))]) [0] rfl
    have hD9 := hD.sb (wq := [(fa, .inl (cfa, 16384, .inr (.inl j6_fa)))]) [0] (by decide) rfl
    exact W.vret hx hb hr (fun t ht hW => ⟨⟨j6_fa, rfl, (trivial), va_P.he ht.symm hP9, va_K.moved hW.alike hK, hD9⟩, hS.F ht⟩) hS.2.2 d_JA_fill_22
  · have q9 := nleI c9
    refine lv_aload_n hx hb d_JA_fill_12 rfl (lv_at hl 0 rfl) ?_
    refine lv_iload_n hx hb d_JA_fill_13 rfl (lv_at hl 2 rfl) ?_
    refine lv_lload_n hx hb d_JA_fill_14 rfl (lv_at hl 1 rfl) ?_
    have g15 : vp_in j6_l3 16384 := vp_in_iff.mpr ⟨by (first | (apply Int.le_antisymm <;> omega) | omega), by (first | (apply Int.le_antisymm <;> omega) | omega)⟩
    refine va_last hx hb hK hP hD hS 0 0 rfl rfl g15 d_JA_fill_15 (fun H locs hP hD hS => ?_)
    generalize ef2 : vp_updL j6_fa j6_l3.toNatClampNeg p1 = f2 at hP hD
    obtain ⟨x3, ex3⟩ : ∃ z : Int32, z = j6_l3 + 1 := ⟨_, rfl⟩
    have tx3 : x3.toInt = j6_l3.toInt + 1 := by have z := i32_add ex3 (by (first | (apply Int.le_antisymm <;> omega) | omega)) (by (first | (apply Int.le_antisymm <;> omega) | omega)); first | exact z | (first | (apply Int.le_antisymm <;> omega) | omega)
    refine lv_iinc (v := x3) (lv' := [(3, .int x3), (0, .ref fa), (1, .long p1), (4, .int x1)]) hx hb d_JA_fill_16 hl (k := 2) rfl (by rw [ex3]; rfl) (by decide) rfl (fun ls hl => ?_)
    refine lv_goto (tgt := 6) hx hb d_JA_fill_19 (by decide) ?_
    exact ih6 (x3, f2) _ _ _ (by show (16384 - x3.toInt).toNat < N6; (first | (apply Int.le_antisymm <;> omega) | omega)) ⟨by (try dsimp only) <;> (first | (apply Int.le_antisymm <;> omega) | omega), hP, hD, hS, lv_sub hl [1, 2, 0, 3] rfl⟩
abbrev b_MA_load1 : ByteArray := prog_6_method_2_code
def y_MA_load1 : MethodName := ⟨R_MA, "load", "(LWaferForge$Wafer;)V"⟩
abbrev w_MA_load1 : List Cond := .code y_MA_load1 b_MA_load1 3 none :: lw_g
theorem kC_MA_load1 : Cond.code y_MA_load1 b_MA_load1 3 none ∈ lw_g := in_c6 173 rfl rfl
theorem d_MA_load1_0 : decode b_MA_load1 0 = .ok (.aload_n 0, 1) := bz_c42 (by decide +kernel)
theorem d_MA_load1_1 : decode b_MA_load1 1 = .ok (.aload_n 1, 1) := bz_c43 (by decide +kernel)
theorem d_MA_load1_2 : decode b_MA_load1 2 = .ok (.putfield 40, 3) := bz_c181 (by decide +kernel)
theorem d_MA_load1_5 : decode b_MA_load1 5 = .ok (.aload_n 0, 1) := bz_c42 (by decide +kernel)
theorem d_MA_load1_6 : decode b_MA_load1 6 = .ok (.aload_n 1, 1) := bz_c43 (by decide +kernel)
theorem d_MA_load1_7 : decode b_MA_load1 7 = .ok (.getfield 44, 3) := bz_c180 (by decide +kernel)
theorem d_MA_load1_10 : decode b_MA_load1 10 = .ok (.putfield 50, 3) := bz_c181 (by decide +kernel)
theorem d_MA_load1_13 : decode b_MA_load1 13 = .ok (.aload_n 0, 1) := bz_c42 (by decide +kernel)
theorem d_MA_load1_14 : decode b_MA_load1 14 = .ok (.aload_n 0, 1) := bz_c42 (by decide +kernel)
theorem d_MA_load1_15 : decode b_MA_load1 15 = .ok (.getfield 40, 3) := bz_c180 (by decide +kernel)
theorem d_MA_load1_18 : decode b_MA_load1 18 = .ok (.getfield 51, 3) := bz_c180 (by decide +kernel)
theorem d_MA_load1_21 : decode b_MA_load1 21 = .ok (.l2i, 1) := bz_c136 (by decide +kernel)
theorem d_MA_load1_22 : decode b_MA_load1 22 = .ok (.putfield 55, 3) := bz_c181 (by decide +kernel)
theorem d_MA_load1_25 : decode b_MA_load1 25 = .ok (.aload_n 0, 1) := bz_c42 (by decide +kernel)
theorem d_MA_load1_26 : decode b_MA_load1 26 = .ok (.getfield 15, 3) := bz_c180 (by decide +kernel)
theorem d_MA_load1_29 : decode b_MA_load1 29 = .ok (.lconst 0, 1) := bz_c9 (by decide +kernel)
theorem d_MA_load1_30 : decode b_MA_load1 30 = .ok (.invokestatic 59, 3) := bz_c184 (by decide +kernel)
theorem d_MA_load1_33 : decode b_MA_load1 33 = .ok (.iconst 0, 1) := bz_c3 (by decide +kernel)
theorem d_MA_load1_34 : decode b_MA_load1 34 = .ok (.istore_n 2, 1) := bz_c61 (by decide +kernel)
theorem d_MA_load1_35 : decode b_MA_load1 35 = .ok (.iload_n 2, 1) := bz_c28 (by decide +kernel)
theorem d_MA_load1_36 : decode b_MA_load1 36 = .ok (.aload_n 0, 1) := bz_c42 (by decide +kernel)
theorem d_MA_load1_37 : decode b_MA_load1 37 = .ok (.getfield 40, 3) := bz_c180 (by decide +kernel)
theorem d_MA_load1_40 : decode b_MA_load1 40 = .ok (.getfield 65, 3) := bz_c180 (by decide +kernel)
theorem d_MA_load1_43 : decode b_MA_load1 43 = .ok (.if_icmp .ge 24, 3) := bz_c162 (by decide +kernel)
theorem d_MA_load1_46 : decode b_MA_load1 46 = .ok (.aload_n 0, 1) := bz_c42 (by decide +kernel)
theorem d_MA_load1_47 : decode b_MA_load1 47 = .ok (.getfield 9, 3) := bz_c180 (by decide +kernel)
theorem d_MA_load1_50 : decode b_MA_load1 50 = .ok (.iload_n 2, 1) := bz_c28 (by decide +kernel)
theorem d_MA_load1_51 : decode b_MA_load1 51 = .ok (.aload_n 0, 1) := bz_c42 (by decide +kernel)
theorem d_MA_load1_52 : decode b_MA_load1 52 = .ok (.getfield 40, 3) := bz_c180 (by decide +kernel)
theorem d_MA_load1_55 : decode b_MA_load1 55 = .ok (.getfield 68, 3) := bz_c180 (by decide +kernel)
theorem d_MA_load1_58 : decode b_MA_load1 58 = .ok (.iload_n 2, 1) := bz_c28 (by decide +kernel)
theorem d_MA_load1_59 : decode b_MA_load1 59 = .ok (.laload, 1) := bz_c47 (by decide +kernel)
theorem d_MA_load1_60 : decode b_MA_load1 60 = .ok (.lastore, 1) := bz_c80 (by decide +kernel)
theorem d_MA_load1_61 : decode b_MA_load1 61 = .ok (.iinc 2 1, 3) := by decide +kernel
theorem d_MA_load1_64 : decode b_MA_load1 64 = .ok (.goto (-29), 3) := bz_c167 (by decide +kernel)
theorem d_MA_load1_67 : decode b_MA_load1 67 = .ok (.return_, 1) := bz_c177 (by decide +kernel)
theorem kM_MA_59 : Cond.methodLink R_MA 59 y_JA_fill ∈ lw_g := in_c6 174 rfl rfl
theorem kT_JA_fill : Cond.static y_JA_fill ∈ lw_g := in_c6 175 rfl rfl
theorem kF_MA_51 : Cond.fieldLink R_MA 51 "WaferForge$Wafer" "pagesLeast" "J" ∈ lw_g := in_c1 168 rfl rfl
theorem kF_MA_65 : Cond.fieldLink R_MA 65 "WaferForge$Wafer" "globalCount" "I" ∈ lw_g := in_c1 176 rfl rfl
theorem kF_MA_68 : Cond.fieldLink R_MA 68 "WaferForge$Wafer" "firstValues" "[J" ∈ lw_g := in_c1 188 rfl rfl
abbrev at_MA_load1 (dC : Nat → ClassId) (dI : Nat → Nat → Nat) (h0 gl ce sk fb fs ff fl lb lh aw aw_bytes_r ac aw_typeTakes_r aw_typeParameters_r aw_typeGives_r aw_functionType_r aw_globalTypes_r aw_firstTypes_r wfv aw_globalChanges_r aw_exportKinds_r aw_exportIndices_r aw_exportStarts_r aw_exportSizes_r : Nat) (cce cgl cwfv : ClassId) (h0_steps : Int32) (h0_reason : Int32) (h0_wafer : Value) (h0_codes : Value) (h0_height : Int32) (h0_frameCount : Int32) (h0_labelCount : Int32) (h0_at : Int32) (aw_typeCount : Int32) (aw_functionCount : Int32) (aw_hasMemory : Int32) (aw_pagesLeast : Int64) (aw_pagesMost : Int64) (aw_globalCount : Int32) (aw_exportCount : Int32) (gwfv : Nat → Int64) (A : Nat → Prop) (u : (Nat → Int64) × (Nat → Int64) × Int32) (t : State) : Prop := match u with | (gce, ggl, h0_pages) => va_P (dC, dI) cls (wz_260 h0 h0_pages h0_steps h0_reason gl aw ac ce sk h0_height fb fs ff fl h0_frameCount lb lh h0_labelCount h0_at ce cce gce gl cgl ggl aw aw_bytes_r ac aw_typeCount aw_typeTakes_r aw_typeParameters_r aw_typeGives_r aw_functionCount aw_functionType_r aw_hasMemory aw_pagesLeast aw_pagesMost aw_globalCount aw_globalTypes_r aw_firstTypes_r wfv aw_globalChanges_r aw_exportCount aw_exportKinds_r aw_exportIndices_r aw_exportStarts_r aw_exportSizes_r wfv cwfv gwfv) t.heap ∧ va_K (dC, dI) cls [(cce, .long), (cgl, .long), (cwfv, .long)] t ∧ va_D A (wz_260 h0 h0_pages h0_steps h0_reason gl aw ac ce sk h0_height fb fs ff fl h0_frameCount lb lh h0_labelCount h0_at ce cce gce gl cgl ggl aw aw_bytes_r ac aw_typeCount aw_typeTakes_r aw_typeParameters_r aw_typeGives_r aw_functionCount aw_functionType_r aw_hasMemory aw_pagesLeast aw_pagesMost aw_globalCount aw_globalTypes_r aw_firstTypes_r wfv aw_globalChanges_r aw_exportCount aw_exportKinds_r aw_exportIndices_r aw_exportStarts_r aw_exportSizes_r wfv cwfv gwfv)
set_option maxHeartbeats 4000000 in
set_option maxRecDepth 100000 in
theorem c_MA_load1 (l : Launch) (dC : Nat → ClassId) (dI : Nat → Nat → Nat) (sz : Nat) (h0 gl ce sk fb fs ff fl lb lh aw aw_bytes_r ac aw_typeTakes_r aw_typeParameters_r aw_typeGives_r aw_functionType_r aw_globalTypes_r aw_firstTypes_r wfv aw_globalChanges_r aw_exportKinds_r aw_exportIndices_r aw_exportStarts_r aw_exportSizes_r : Nat) (cce cgl cwfv : ClassId) (h0_pages : Int32) (h0_steps : Int32) (h0_reason : Int32) (h0_wafer : Value) (h0_codes : Value) (h0_height : Int32) (h0_frameCount : Int32) (h0_labelCount : Int32) (h0_at : Int32) (gce : Nat → Int64) (ggl : Nat → Int64) (aw_typeCount : Int32) (aw_functionCount : Int32) (aw_hasMemory : Int32) (aw_pagesLeast : Int64) (aw_pagesMost : Int64) (aw_globalCount : Int32) (aw_exportCount : Int32) (gwfv : Nat → Int64)  (b_h0_pages : 0 ≤ h0_pages.toInt ∧ h0_pages.toInt ≤ 2) (b_aw_globalCount : 0 ≤ aw_globalCount.toInt ∧ aw_globalCount.toInt ≤ 20)   (hpg : 0 ≤ aw_pagesLeast.toInt ∧ aw_pagesLeast.toInt ≤ 2) : Met l y_MA_load1 w_MA_load1 ({ frames := 1, cells := 0, slots := 0, locals := 24 }) (va_Pc [.ref h0, .ref aw] (fun U => U.heap.size = sz ∧ va_P (dC, dI) cls (wz_261 h0 h0_pages h0_steps h0_reason gl h0_wafer h0_codes ce sk h0_height fb fs ff fl h0_frameCount lb lh h0_labelCount h0_at ce cce gce gl cgl ggl aw aw_bytes_r ac aw_typeCount aw_typeTakes_r aw_typeParameters_r aw_typeGives_r aw_functionCount aw_functionType_r aw_hasMemory aw_pagesLeast aw_pagesMost aw_globalCount aw_globalTypes_r aw_firstTypes_r wfv aw_globalChanges_r aw_exportCount aw_exportKinds_r aw_exportIndices_r aw_exportStarts_r aw_exportSizes_r wfv cwfv gwfv) U.heap ∧ va_K (dC, dI) cls [(cce, .long), (cgl, .long), (cwfv, .long)] U ∧ va_D (fun _ => True) (wz_261 h0 h0_pages h0_steps h0_reason gl h0_wafer h0_codes ce sk h0_height fb fs ff fl h0_frameCount lb lh h0_labelCount h0_at ce cce gce gl cgl ggl aw aw_bytes_r ac aw_typeCount aw_typeTakes_r aw_typeParameters_r aw_typeGives_r aw_functionCount aw_functionType_r aw_hasMemory aw_pagesLeast aw_pagesMost aw_globalCount aw_globalTypes_r aw_firstTypes_r wfv aw_globalChanges_r aw_exportCount aw_exportKinds_r aw_exportIndices_r aw_exportStarts_r aw_exportSizes_r wfv cwfv gwfv))) (va_Qv (fun (u : (Nat → Int64) × (Nat → Int64) × Int32) => match u with | (gce2, ggl2, h0_pages2) => (0 ≤ h0_pages2.toInt ∧ h0_pages2.toInt ≤ 2) ∧ (h0_pages2.toInt = aw_pagesLeast.toInt)) (at_MA_load1 dC dI h0 gl ce sk fb fs ff fl lb lh aw aw_bytes_r ac aw_typeTakes_r aw_typeParameters_r aw_typeGives_r aw_functionType_r aw_globalTypes_r aw_firstTypes_r wfv aw_globalChanges_r aw_exportKinds_r aw_exportIndices_r aw_exportStarts_r aw_exportSizes_r cce cgl cwfv h0_steps h0_reason h0_wafer h0_codes h0_height h0_frameCount h0_labelCount h0_at aw_typeCount aw_functionCount aw_hasMemory aw_pagesLeast aw_pagesMost aw_globalCount aw_exportCount gwfv (va_A (wz_261 h0 h0_pages h0_steps h0_reason gl h0_wafer h0_codes ce sk h0_height fb fs ff fl h0_frameCount lb lh h0_labelCount h0_at ce cce gce gl cgl ggl aw aw_bytes_r ac aw_typeCount aw_typeTakes_r aw_typeParameters_r aw_typeGives_r aw_functionCount aw_functionType_r aw_hasMemory aw_pagesLeast aw_pagesMost aw_globalCount aw_globalTypes_r aw_firstTypes_r wfv aw_globalChanges_r aw_exportCount aw_exportKinds_r aw_exportIndices_r aw_exportStarts_r aw_exportSizes_r wfv cwfv gwfv) sz)) (va_A (wz_261 h0 h0_pages h0_steps h0_reason gl h0_wafer h0_codes ce sk h0_height fb fs ff fl h0_frameCount lb lh h0_labelCount h0_at ce cce gce gl cgl ggl aw aw_bytes_r ac aw_typeCount aw_typeTakes_r aw_typeParameters_r aw_typeGives_r aw_functionCount aw_functionType_r aw_hasMemory aw_pagesLeast aw_pagesMost aw_globalCount aw_globalTypes_r aw_firstTypes_r wfv aw_globalChanges_r aw_exportCount aw_exportKinds_r aw_exportIndices_r aw_exportStarts_r aw_exportSizes_r wfv cwfv gwfv) sz)) 0 0 (va_A (wz_261 h0 h0_pages h0_steps h0_reason gl h0_wafer h0_codes ce sk h0_height fb fs ff fl h0_frameCount lb lh h0_labelCount h0_at ce cce gce gl cgl ggl aw aw_bytes_r ac aw_typeCount aw_typeTakes_r aw_typeParameters_r aw_typeGives_r aw_functionCount aw_functionType_r aw_hasMemory aw_pagesLeast aw_pagesMost aw_globalCount aw_globalTypes_r aw_firstTypes_r wfv aw_globalChanges_r aw_exportCount aw_exportKinds_r aw_exportIndices_r aw_exportStarts_r aw_exportSizes_r wfv cwfv gwfv) sz) := by
  refine Met.ofW (cc := b_MA_load1) (maxL := 3) (ret := none) (by decide) rfl ?_
  intro p e s m args below meth c s₁ B hml hv
  obtain ⟨rfl, hsz, hP, hK, hD0⟩ := hv
  have hx := B.exec
  have hb := B.bytes
  have hr := B.returns
  have hts0 := atoms_spec (ws := w_MA_load1) B.pre
  have hts : ∀ w ∈ lw_g, w.before _ s = true := fun w h => hts0 w (List.mem_cons_of_mem _ h)
  have hown : s.vm.findClass R_MA = some m.cls := findClass_of_methodNamed B.named
  have hlocks := B.notSynchronized
  clear hts0
  subst hsz
  have hD := hD0.self (sz := s.heap.size)
  generalize hAe : va_A (wz_261 h0 h0_pages h0_steps h0_reason gl h0_wafer h0_codes ce sk h0_height fb fs ff fl h0_frameCount lb lh h0_labelCount h0_at ce cce gce gl cgl ggl aw aw_bytes_r ac aw_typeCount aw_typeTakes_r aw_typeParameters_r aw_typeGives_r aw_functionCount aw_functionType_r aw_hasMemory aw_pagesLeast aw_pagesMost aw_globalCount aw_globalTypes_r aw_firstTypes_r wfv aw_globalChanges_r aw_exportCount aw_exportKinds_r aw_exportIndices_r aw_exportStarts_r aw_exportSizes_r wfv cwfv gwfv) s.heap.size = A at hD ⊢
  have hA : ∀ q : Nat, s.heap.size ≤ q → A q := fun q h => by rw [← hAe]; exact Or.inr h
  clear hAe
  have hP : va_P (dC, dI) cls (wz_261 h0 h0_pages h0_steps h0_reason gl h0_wafer h0_codes ce sk h0_height fb fs ff fl h0_frameCount lb lh h0_labelCount h0_at ce cce gce gl cgl ggl aw aw_bytes_r ac aw_typeCount aw_typeTakes_r aw_typeParameters_r aw_typeGives_r aw_functionCount aw_functionType_r aw_hasMemory aw_pagesLeast aw_pagesMost aw_globalCount aw_globalTypes_r aw_firstTypes_r wfv aw_globalChanges_r aw_exportCount aw_exportKinds_r aw_exportIndices_r aw_exportStarts_r aw_exportSizes_r wfv cwfv gwfv) s.heap := hP
  have hl := lv_entry ([.ref h0, .ref aw]) (n := 3) (Nat.le_of_ble_eq_true rfl)
  rw [lg_entry_eq]
  generalize (lg_sl ([.ref h0, .ref aw]) ++ List.replicate (3 - (lg_sl ([.ref h0, .ref aw])).length) Slot.unset).toArray = ls at hl ⊢
  have hl : lv_has ls 3 [(0, .ref h0), (1, .ref aw)] := hl
  have k0 : (0 : Int32).toInt = 0 := by decide
  refine w_gen (A := A) hP (fun H locs hP hS => ?_)
  have k1 : (1 : Int32).toInt = 1 := by decide
  refine lv_aload_n hx hb d_MA_load1_0 rfl (lv_at hl 0 rfl) ?_
  refine lv_aload_n hx hb d_MA_load1_1 rfl (lv_at hl 1 rfl) ?_
  refine va_put (D := (dC, dI)) (ci := 4) (v := .ref aw) (ty := .object "WaferForge$Wafer") (C := R_MA) (T := F_MA) (N := 18) hx hb hts i_MA t_MA t_MA_ok n_MA hown hK hP hD hS 0 rfl rfl 4 (by decide) (hts _ kF_MA_40) (fun _ h9 => h9) rfl (by decide +kernel) rfl rfl (Nat.le_of_ble_eq_true rfl) d_MA_load1_2 (fun H locs hP hD hS => ?_)
  refine lv_aload_n hx hb d_MA_load1_5 rfl (lv_at hl 0 rfl) ?_
  refine lv_aload_n hx hb d_MA_load1_6 rfl (lv_at hl 1 rfl) ?_
  refine va_get (D := (dC, dI)) (ci := 10) (v := .ref ac) (C := R_WA) (T := F_WA) (N := 21) hx hb hts i_WA hown hK hP 3 rfl rfl 1 (by decide) (hts _ kF_MA_44) (fun _ h9 => h9) rfl d_MA_load1_7 ?_
  refine va_put (D := (dC, dI)) (ci := 4) (v := .ref ac) (ty := .object "WaferForge$Codes") (C := R_MA) (T := F_MA) (N := 18) hx hb hts i_MA t_MA t_MA_ok n_MA hown hK hP hD hS 0 rfl rfl 5 (by decide) (hts _ kF_MA_50) (fun _ h9 => h9) rfl (by decide +kernel) rfl rfl (Nat.le_of_ble_eq_true rfl) d_MA_load1_10 (fun H locs hP hD hS => ?_)
  refine lv_aload_n hx hb d_MA_load1_13 rfl (lv_at hl 0 rfl) ?_
  refine lv_aload_n hx hb d_MA_load1_14 rfl (lv_at hl 0 rfl) ?_
  refine va_get (D := (dC, dI)) (ci := 4) (v := .ref aw) (C := R_MA) (T := F_MA) (N := 18) hx hb hts i_MA hown hK hP 0 rfl rfl 4 (by decide) (hts _ kF_MA_40) (fun _ h9 => h9) rfl d_MA_load1_15 ?_
  refine va_get (D := (dC, dI)) (ci := 10) (v := .long aw_pagesLeast) (C := R_WA) (T := F_WA) (N := 21) hx hb hts i_WA hown hK hP 3 rfl rfl 9 (by decide) (hts _ kF_MA_51) (fun _ h9 => h9) rfl d_MA_load1_18 ?_
  refine lv_l2i hx hb d_MA_load1_21 rfl ?_
  refine lv_topi (fun x1 ex1 => ?_)
  have tx1 := l2i_t ex1 (by (first | (apply Int.le_antisymm <;> omega) | omega)) (by (first | (apply Int.le_antisymm <;> omega) | omega))
  refine va_put (D := (dC, dI)) (ci := 4) (v := .int x1) (ty := .int) (C := R_MA) (T := F_MA) (N := 18) hx hb hts i_MA t_MA t_MA_ok n_MA hown hK hP hD hS 0 rfl rfl 0 (by decide) (hts _ kF_MA_55) (fun _ h9 => h9) rfl (by decide +kernel) rfl rfl (Nat.le_of_ble_eq_true rfl) d_MA_load1_22 (fun H locs hP hD hS => ?_)
  refine lv_aload_n hx hb d_MA_load1_25 rfl (lv_at hl 0 rfl) ?_
  refine va_get (D := (dC, dI)) (ci := 4) (v := .ref ce) (C := R_MA) (T := F_MA) (N := 18) hx hb hts i_MA hown hK hP 0 rfl rfl 6 (by decide) (hts _ kF_MA_15) (fun _ h9 => h9) rfl d_MA_load1_26 ?_
  refine lv_lconst (v := 0) hx hb d_MA_load1_29 (by decide) ?_
  have kl0 : (0 : Int64).toInt = 0 := by decide
  have hPc := hP.sb (wq := [(ce, .inl (cce, 16384, .inr (.inl gce)))]) [1] rfl
  have hDc := hD.sb (wq := [(ce, .inl (cce, 16384, .inr (.inl gce)))]) [1] (by decide) rfl
  have hKc := hK.sb (tyq := [(cce, .long)]) [0] rfl
  have hFc := va_free (wc := [(ce, .inl (cce, 16384, .inr (.inl gce)))]) hD hS hA [1] rfl
  refine va_callv (va_runS (As := [.ref ce, .long 0]) (rest := []) ⟨hx, hb, hml, hown, hts⟩ (c_JA_fill l dC dI H.size ce cce gce 0) ⟨callB_of 2 hts (gW kC_JA_fill) rfl rfl rfl (hts _ kI_JA) (hts _ kM_MA_59) (by decide +kernel) ⟨Nat.le_of_ble_eq_true rfl, Nat.le_of_ble_eq_true rfl⟩, hts _ kT_JA_fill⟩ ⟨fun a U g mk z => by obtain ⟨z0, z1, zP, zK, zD⟩ := z; exact ⟨z0, z1, zP, va_K.moved (u := U) (U := U.calling g mk a) (Vm.Alike.refl U.vm) zK, zD⟩, fun U hU hW => ⟨rfl, by rw [hU], va_P.he hU.symm hPc, va_K.moved hW.alike hKc, hDc.weaken (fun _ _ _ _ => trivial)⟩⟩ rfl rfl hl.1 rfl (lv_room (Nat.le_of_ble_eq_true rfl)) d_MA_load1_30 ⟨(Nat.zero_le _), (Nat.zero_le _)⟩) hS (fun q _ h => hFc q h) hFc (fun u t H1 locs ht hvm hw hB hz1 hk1 hS => ?_)
  obtain ⟨n3, rfl⟩ : ∃ z, z = u := ⟨_, rfl⟩
  try dsimp only at hw
  have xr2 := hw
  try clear hw
  obtain ⟨hP1, hK1, hD1⟩ := hB
  replace hP1 := va_P.he ht hP1
  obtain ⟨hP, hD⟩ := va_join (wr := [(h0, .inr (4, [.int x1, .int h0_steps, .int h0_reason, .ref gl, .ref aw, .ref ac, .ref ce, .ref sk, .int h0_height, .ref fb, .ref fs, .ref ff, .ref fl, .int h0_frameCount, .ref lb, .ref lh, .int h0_labelCount, .int h0_at])), (gl, .inl (cgl, 20, .inr (.inl ggl))), (aw, .inr (10, [.ref aw_bytes_r, .ref ac, .int aw_typeCount, .ref aw_typeTakes_r, .ref aw_typeParameters_r, .ref aw_typeGives_r, .int aw_functionCount, .ref aw_functionType_r, .int aw_hasMemory, .long aw_pagesLeast, .long aw_pagesMost, .int aw_globalCount, .ref aw_globalTypes_r, .ref aw_firstTypes_r, .ref wfv, .ref aw_globalChanges_r, .int aw_exportCount, .ref aw_exportKinds_r, .ref aw_exportIndices_r, .ref aw_exportStarts_r, .ref aw_exportSizes_r])), (wfv, .inl (cwfv, 20, .inr (.inl gwfv)))]) (w1 := [(ce, .inl (cce, 16384, .inr (.inl n3)))]) hP hD [1] [0, 2, 3, 4] rfl rfl (by decide) (by decide) hk1 hFc hP1 hD1
  clear hPc hDc hKc hFc hz1 hk1 hP1 hK1 hD1
  rename Heap => H
  have hP : va_P (dC, dI) cls (wz_262 h0 x1 h0_steps h0_reason gl aw ac ce sk h0_height fb fs ff fl h0_frameCount lb lh h0_labelCount h0_at gl cgl ggl aw aw_bytes_r ac aw_typeCount aw_typeTakes_r aw_typeParameters_r aw_typeGives_r aw_functionCount aw_functionType_r aw_hasMemory aw_pagesLeast aw_pagesMost aw_globalCount aw_globalTypes_r aw_firstTypes_r wfv aw_globalChanges_r aw_exportCount aw_exportKinds_r aw_exportIndices_r aw_exportStarts_r aw_exportSizes_r wfv cwfv gwfv ce cce n3) H := hP
  have hD : va_D A (wz_262 h0 x1 h0_steps h0_reason gl aw ac ce sk h0_height fb fs ff fl h0_frameCount lb lh h0_labelCount h0_at gl cgl ggl aw aw_bytes_r ac aw_typeCount aw_typeTakes_r aw_typeParameters_r aw_typeGives_r aw_functionCount aw_functionType_r aw_hasMemory aw_pagesLeast aw_pagesMost aw_globalCount aw_globalTypes_r aw_firstTypes_r wfv aw_globalChanges_r aw_exportCount aw_exportKinds_r aw_exportIndices_r aw_exportStarts_r aw_exportSizes_r wfv cwfv gwfv ce cce n3) := hD
  refine lv_iconst (v := 0) hx hb d_MA_load1_33 (by decide) ?_
  refine lv_istore_n (lv' := [(2, .int 0), (0, .ref h0), (1, .ref aw)]) hx hb d_MA_load1_34 rfl hl (by decide) rfl (fun ls hl => ?_)
  refine w_loop (σ := Int32 × (Nat → Int64)) (fun u H locs ls => match u with | (j35_l2, j35_gl) => (0 ≤ j35_l2.toInt ∧ j35_l2.toInt ≤ 20) ∧ (j35_l2.toInt ≤ aw_globalCount.toInt) ∧ va_P (dC, dI) cls (wz_262 h0 x1 h0_steps h0_reason gl aw ac ce sk h0_height fb fs ff fl h0_frameCount lb lh h0_labelCount h0_at gl cgl j35_gl aw aw_bytes_r ac aw_typeCount aw_typeTakes_r aw_typeParameters_r aw_typeGives_r aw_functionCount aw_functionType_r aw_hasMemory aw_pagesLeast aw_pagesMost aw_globalCount aw_globalTypes_r aw_firstTypes_r wfv aw_globalChanges_r aw_exportCount aw_exportKinds_r aw_exportIndices_r aw_exportStarts_r aw_exportSizes_r wfv cwfv gwfv ce cce n3) H ∧ va_D A (wz_262 h0 x1 h0_steps h0_reason gl aw ac ce sk h0_height fb fs ff fl h0_frameCount lb lh h0_labelCount h0_at gl cgl j35_gl aw aw_bytes_r ac aw_typeCount aw_typeTakes_r aw_typeParameters_r aw_typeGives_r aw_functionCount aw_functionType_r aw_hasMemory aw_pagesLeast aw_pagesMost aw_globalCount aw_globalTypes_r aw_firstTypes_r wfv aw_globalChanges_r aw_exportCount aw_exportKinds_r aw_exportIndices_r aw_exportStarts_r aw_exportSizes_r wfv cwfv gwfv ce cce n3) ∧ va_S A s.heap H locs ∧ lv_has ls 3 [(0, .ref h0), (2, .int j35_l2)]) (fun u => match u with | (j35_l2, j35_gl) => (aw_globalCount.toInt - j35_l2.toInt).toNat) ?_ (0, ggl) ⟨by (try dsimp only) <;> (first | (apply Int.le_antisymm <;> omega) | omega), by (try dsimp only) <;> (first | (apply Int.le_antisymm <;> omega) | omega), hP, hD, hS, lv_sub hl [1, 0] rfl⟩
  intro N35 ih35 u H locs ls hN35 hI
  obtain ⟨j35_l2, j35_gl⟩ := u
  obtain ⟨b_j35_l2, v1, hP, hD, hS, hl⟩ := hI
  have hN35 : (aw_globalCount.toInt - j35_l2.toInt).toNat < N35 + 1 := hN35
  refine lv_iload_n hx hb d_MA_load1_35 rfl (lv_at hl 1 rfl) ?_
  refine lv_aload_n hx hb d_MA_load1_36 rfl (lv_at hl 0 rfl) ?_
  refine va_get (D := (dC, dI)) (ci := 4) (v := .ref aw) (C := R_MA) (T := F_MA) (N := 18) hx hb hts i_MA hown hK hP 0 rfl rfl 4 (by decide) (hts _ kF_MA_40) (fun _ h9 => h9) rfl d_MA_load1_37 ?_
  refine va_get (D := (dC, dI)) (ci := 10) (v := .int aw_globalCount) (C := R_WA) (T := F_WA) (N := 21) hx hb hts i_WA hown hK hP 2 rfl rfl 11 (by decide) (hts _ kF_MA_65) (fun _ h9 => h9) rfl d_MA_load1_40 ?_
  refine lv_icmp_ge (tgt := 67) hx hb d_MA_load1_43 (by decide) (fun c43 => ?_) (fun c43 => ?_)
  · have q43 := leI c43
    have hP9 := hP.sb (wq := (wz_260 h0 x1 h0_steps h0_reason gl aw ac ce sk h0_height fb fs ff fl h0_frameCount lb lh h0_labelCount h0_at ce cce n3 gl cgl j35_gl aw aw_bytes_r ac aw_typeCount aw_typeTakes_r aw_typeParameters_r aw_typeGives_r aw_functionCount aw_functionType_r aw_hasMemory aw_pagesLeast aw_pagesMost aw_globalCount aw_globalTypes_r aw_firstTypes_r wfv aw_globalChanges_r aw_exportCount aw_exportKinds_r aw_exportIndices_r aw_exportStarts_r aw_exportSizes_r wfv cwfv gwfv)) [0, 4, 1, 2, 3] rfl
    have hD9 := hD.sb (wq := (wz_260 h0 x1 h0_steps h0_reason gl aw ac ce sk h0_height fb fs ff fl h0_frameCount lb lh h0_labelCount h0_at ce cce n3 gl cgl j35_gl aw aw_bytes_r ac aw_typeCount aw_typeTakes_r aw_typeParameters_r aw_typeGives_r aw_functionCount aw_functionType_r aw_hasMemory aw_pagesLeast aw_pagesMost aw_globalCount aw_globalTypes_r aw_firstTypes_r wfv aw_globalChanges_r aw_exportCount aw_exportKinds_r aw_exportIndices_r aw_exportStarts_r aw_exportSizes_r wfv cwfv gwfv)) [0, 4, 1, 2, 3] (by decide) rfl
    exact W.vret hx hb hr (fun t ht hW => ⟨⟨(n3, j35_gl, x1), rfl, ⟨by (try dsimp only) <;> (first | (apply Int.le_antisymm <;> omega) | omega), by (try dsimp only) <;> (first | (apply Int.le_antisymm <;> omega) | omega)⟩, va_P.he ht.symm hP9, va_K.moved hW.alike hK, hD9⟩, hS.F ht⟩) hS.2.2 d_MA_load1_67
  · have q43 := nleI c43
    refine lv_aload_n hx hb d_MA_load1_46 rfl (lv_at hl 0 rfl) ?_
    refine va_get (D := (dC, dI)) (ci := 4) (v := .ref gl) (C := R_MA) (T := F_MA) (N := 18) hx hb hts i_MA hown hK hP 0 rfl rfl 3 (by decide) (hts _ kF_MA_9) (fun _ h9 => h9) rfl d_MA_load1_47 ?_
    refine lv_iload_n hx hb d_MA_load1_50 rfl (lv_at hl 1 rfl) ?_
    refine lv_aload_n hx hb d_MA_load1_51 rfl (lv_at hl 0 rfl) ?_
    refine va_get (D := (dC, dI)) (ci := 4) (v := .ref aw) (C := R_MA) (T := F_MA) (N := 18) hx hb hts i_MA hown hK hP 0 rfl rfl 4 (by decide) (hts _ kF_MA_40) (fun _ h9 => h9) rfl d_MA_load1_52 ?_
    refine va_get (D := (dC, dI)) (ci := 10) (v := .ref wfv) (C := R_WA) (T := F_WA) (N := 21) hx hb hts i_WA hown hK hP 2 rfl rfl 14 (by decide) (hts _ kF_MA_68) (fun _ h9 => h9) rfl d_MA_load1_55 ?_
    refine lv_iload_n hx hb d_MA_load1_58 rfl (lv_at hl 1 rfl) ?_
    have g59 : vp_in j35_l2 20 := vp_in_iff.mpr ⟨by (first | (apply Int.le_antisymm <;> omega) | omega), by (first | (apply Int.le_antisymm <;> omega) | omega)⟩
    refine va_lald hx hb hK hP 3 2 rfl rfl g59 d_MA_load1_59 ?_
    refine lv_topl (fun x4 ex4 => ?_)
    have g60 : vp_in j35_l2 20 := vp_in_iff.mpr ⟨by (first | (apply Int.le_antisymm <;> omega) | omega), by (first | (apply Int.le_antisymm <;> omega) | omega)⟩
    refine va_last hx hb hK hP hD hS 1 1 rfl rfl g60 d_MA_load1_60 (fun H locs hP hD hS => ?_)
    generalize ef5 : vp_updL j35_gl j35_l2.toNatClampNeg x4 = f5 at hP hD
    obtain ⟨x6, ex6⟩ : ∃ z : Int32, z = j35_l2 + 1 := ⟨_, rfl⟩
    have tx6 : x6.toInt = j35_l2.toInt + 1 := by have z := i32_add ex6 (by (first | (apply Int.le_antisymm <;> omega) | omega)) (by (first | (apply Int.le_antisymm <;> omega) | omega)); first | exact z | (first | (apply Int.le_antisymm <;> omega) | omega)
    refine lv_iinc (v := x6) (lv' := [(2, .int x6), (0, .ref h0)]) hx hb d_MA_load1_61 hl (k := 1) rfl (by rw [ex6]; rfl) (by decide) rfl (fun ls hl => ?_)
    refine lv_goto (tgt := 35) hx hb d_MA_load1_64 (by decide) ?_
    exact ih35 (x6, f5) _ _ _ (by show (aw_globalCount.toInt - x6.toInt).toNat < N35; (first | (apply Int.le_antisymm <;> omega) | omega)) ⟨by (try dsimp only) <;> (first | (apply Int.le_antisymm <;> omega) | omega), by (try dsimp only) <;> (first | (apply Int.le_antisymm <;> omega) | omega), hP, hD, hS, lv_sub hl [1, 0] rfl⟩
end q_99b
section q_99c
/-! WaferForge: find, count -/
abbrev b_WF_find : ByteArray := prog_1_method_7_code
def y_WF_find : MethodName := ⟨R_WF, "find", "()I"⟩
abbrev w_WF_find : List Cond := .code y_WF_find b_WF_find 2 (Option.some .int) :: lw_g
theorem kC_WF_find : Cond.code y_WF_find b_WF_find 2 (Option.some .int) ∈ lw_g := in_c3 162 rfl rfl
theorem d_WF_find_0 : decode b_WF_find 0 = .ok (.aload_n 0, 1) := bz_c42 (by decide +kernel)
theorem d_WF_find_1 : decode b_WF_find 1 = .ok (.getfield 128, 3) := bz_c180 (by decide +kernel)
theorem d_WF_find_4 : decode b_WF_find 4 = .ok (.ifCond .eq 17, 3) := bz_c153 (by decide +kernel)
theorem d_WF_find_7 : decode b_WF_find 7 = .ok (.aload_n 0, 1) := bz_c42 (by decide +kernel)
theorem d_WF_find_8 : decode b_WF_find 8 = .ok (.getfield 34, 3) := bz_c180 (by decide +kernel)
theorem d_WF_find_11 : decode b_WF_find 11 = .ok (.aload_n 0, 1) := bz_c42 (by decide +kernel)
theorem d_WF_find_12 : decode b_WF_find 12 = .ok (.getfield 16, 3) := bz_c180 (by decide +kernel)
theorem d_WF_find_15 : decode b_WF_find 15 = .ok (.invokevirtual 135, 3) := bz_c182 (by decide +kernel)
theorem d_WF_find_18 : decode b_WF_find 18 = .ok (.goto 4, 3) := bz_c167 (by decide +kernel)
theorem d_WF_find_21 : decode b_WF_find 21 = .ok (.iconst (-1), 1) := bz_c2 (by decide +kernel)
theorem d_WF_find_22 : decode b_WF_find 22 = .ok (.istore_n 1, 1) := bz_c60 (by decide +kernel)
theorem d_WF_find_23 : decode b_WF_find 23 = .ok (.aload_n 0, 1) := bz_c42 (by decide +kernel)
theorem d_WF_find_24 : decode b_WF_find 24 = .ok (.getfield 16, 3) := bz_c180 (by decide +kernel)
theorem d_WF_find_27 : decode b_WF_find 27 = .ok (.iconst 0, 1) := bz_c3 (by decide +kernel)
theorem d_WF_find_28 : decode b_WF_find 28 = .ok (.putfield 85, 3) := bz_c181 (by decide +kernel)
theorem d_WF_find_31 : decode b_WF_find 31 = .ok (.iload_n 1, 1) := bz_c27 (by decide +kernel)
theorem d_WF_find_32 : decode b_WF_find 32 = .ok (.ireturn, 1) := bz_c172 (by decide +kernel)
theorem kM_WF_135 : Cond.methodLink R_WF 135 y_WA_exportedFunction ∈ lw_g := in_c3 163 rfl rfl
theorem kV_WA_exportedFunction : Cond.instanceMethod y_WA_exportedFunction ∈ lw_g := in_c3 164 rfl rfl
theorem kS_WA_exportedFunction : Cond.selects R_WA y_WA_exportedFunction y_WA_exportedFunction ∈ lw_g := in_c3 165 rfl rfl
theorem kF_WF_128 : Cond.fieldLink R_WF 128 "WaferForge" "loaded" "Z" ∈ lw_g := in_c3 122 rfl rfl
theorem kF_WF_34 : Cond.fieldLink R_WF 34 "WaferForge" "wafer" "LWaferForge$Wafer;" ∈ lw_g := in_c3 123 rfl rfl
abbrev at_WF_find (dC : Nat → ClassId) (dI : Nat → Nat → Nat) (h0 ta rw ag wa ws h0_program_r h0_coder_r h0_reader_r h0_validator_r ma tab wab wac watt watp watg waft wagt wafy wafv wagc waek waei waes waez wabb : Nat) (ctab cwabb cwaek cwaei cwaes cwaez : ClassId) (h0_argumentCount : Int32) (h0_reason : Int32) (h0_place : Int32) (h0_loaded : Int32) (gtab : Nat → Int32) (wa_typeCount : Int32) (wa_functionCount : Int32) (wa_hasMemory : Int32) (wa_pagesLeast : Int64) (wa_pagesMost : Int64) (wa_globalCount : Int32) (wa_exportCount : Int32) (wab_length : Int32) (gwabb : Nat → Int32) (gwaek : Nat → Int32) (gwaei : Nat → Int32) (gwaes : Nat → Int32) (gwaez : Nat → Int32) (A : Nat → Prop) (u : Int32) (t : State) : Prop := match u with | ta_length => va_P (dC, dI) cls (wz_263 h0 ta rw ag h0_argumentCount h0_reason h0_place h0_loaded wa ws h0_program_r h0_coder_r h0_reader_r h0_validator_r ma ta tab ta_length tab ctab gtab wa wab wac wa_typeCount watt watp watg wa_functionCount waft wa_hasMemory wa_pagesLeast wa_pagesMost wa_globalCount wagt wafy wafv wagc wa_exportCount waek waei waes waez wab wabb wab_length wabb cwabb gwabb waek cwaek gwaek waei cwaei gwaei waes cwaes gwaes waez cwaez gwaez) t.heap ∧ va_K (dC, dI) cls [(ctab, .byte), (cwabb, .byte), (cwaek, .int), (cwaei, .int), (cwaes, .int), (cwaez, .int)] t ∧ va_D A (wz_263 h0 ta rw ag h0_argumentCount h0_reason h0_place h0_loaded wa ws h0_program_r h0_coder_r h0_reader_r h0_validator_r ma ta tab ta_length tab ctab gtab wa wab wac wa_typeCount watt watp watg wa_functionCount waft wa_hasMemory wa_pagesLeast wa_pagesMost wa_globalCount wagt wafy wafv wagc wa_exportCount waek waei waes waez wab wabb wab_length wabb cwabb gwabb waek cwaek gwaek waei cwaei gwaei waes cwaes gwaes waez cwaez gwaez)
set_option maxHeartbeats 4000000 in
set_option maxRecDepth 100000 in
theorem c_WF_find (l : Launch) (dC : Nat → ClassId) (dI : Nat → Nat → Nat) (sz : Nat) (h0 ta rw ag wa ws h0_program_r h0_coder_r h0_reader_r h0_validator_r ma tab wab wac watt watp watg waft wagt wafy wafv wagc waek waei waes waez wabb : Nat) (ctab cwabb cwaek cwaei cwaes cwaez : ClassId) (h0_argumentCount : Int32) (h0_reason : Int32) (h0_place : Int32) (h0_loaded : Int32) (ta_length : Int32) (gtab : Nat → Int32) (wa_typeCount : Int32) (wa_functionCount : Int32) (wa_hasMemory : Int32) (wa_pagesLeast : Int64) (wa_pagesMost : Int64) (wa_globalCount : Int32) (wa_exportCount : Int32) (wab_length : Int32) (gwabb : Nat → Int32) (gwaek : Nat → Int32) (gwaei : Nat → Int32) (gwaes : Nat → Int32) (gwaez : Nat → Int32)  (b_h0_loaded : h0_loaded = 0 ∨ h0_loaded = 1) (b_ta_length : 0 ≤ ta_length.toInt ∧ ta_length.toInt ≤ 2000) (b_wa_exportCount : 0 ≤ wa_exportCount.toInt ∧ wa_exportCount.toInt ≤ 40) (b_wab_length : 0 ≤ wab_length.toInt ∧ wab_length.toInt ≤ 8192)    : Met l y_WF_find w_WF_find ({ frames := 2, cells := 0, slots := 0, locals := 45 }) (va_Pc [.ref h0] (fun U => U.heap.size = sz ∧ va_P (dC, dI) cls (wz_263 h0 ta rw ag h0_argumentCount h0_reason h0_place h0_loaded wa ws h0_program_r h0_coder_r h0_reader_r h0_validator_r ma ta tab ta_length tab ctab gtab wa wab wac wa_typeCount watt watp watg wa_functionCount waft wa_hasMemory wa_pagesLeast wa_pagesMost wa_globalCount wagt wafy wafv wagc wa_exportCount waek waei waes waez wab wabb wab_length wabb cwabb gwabb waek cwaek gwaek waei cwaei gwaei waes cwaes gwaes waez cwaez gwaez) U.heap ∧ va_K (dC, dI) cls [(ctab, .byte), (cwabb, .byte), (cwaek, .int), (cwaei, .int), (cwaes, .int), (cwaez, .int)] U ∧ va_D (fun _ => True) (wz_263 h0 ta rw ag h0_argumentCount h0_reason h0_place h0_loaded wa ws h0_program_r h0_coder_r h0_reader_r h0_validator_r ma ta tab ta_length tab ctab gtab wa wab wac wa_typeCount watt watp watg wa_functionCount waft wa_hasMemory wa_pagesLeast wa_pagesMost wa_globalCount wagt wafy wafv wagc wa_exportCount waek waei waes waez wab wabb wab_length wabb cwabb gwabb waek cwaek gwaek waei cwaei gwaei waes cwaes gwaes waez cwaez gwaez))) (va_Qi (fun (r : Int32) (u : Int32) => match u with | ta_length2 => (0 ≤ ta_length2.toInt ∧ ta_length2.toInt ≤ 2000) ∧ (ta_length2.toInt = 0)) (at_WF_find dC dI h0 ta rw ag wa ws h0_program_r h0_coder_r h0_reader_r h0_validator_r ma tab wab wac watt watp watg waft wagt wafy wafv wagc waek waei waes waez wabb ctab cwabb cwaek cwaei cwaes cwaez h0_argumentCount h0_reason h0_place h0_loaded gtab wa_typeCount wa_functionCount wa_hasMemory wa_pagesLeast wa_pagesMost wa_globalCount wa_exportCount wab_length gwabb gwaek gwaei gwaes gwaez (va_A (wz_263 h0 ta rw ag h0_argumentCount h0_reason h0_place h0_loaded wa ws h0_program_r h0_coder_r h0_reader_r h0_validator_r ma ta tab ta_length tab ctab gtab wa wab wac wa_typeCount watt watp watg wa_functionCount waft wa_hasMemory wa_pagesLeast wa_pagesMost wa_globalCount wagt wafy wafv wagc wa_exportCount waek waei waes waez wab wabb wab_length wabb cwabb gwabb waek cwaek gwaek waei cwaei gwaei waes cwaes gwaes waez cwaez gwaez) sz)) (va_A (wz_263 h0 ta rw ag h0_argumentCount h0_reason h0_place h0_loaded wa ws h0_program_r h0_coder_r h0_reader_r h0_validator_r ma ta tab ta_length tab ctab gtab wa wab wac wa_typeCount watt watp watg wa_functionCount waft wa_hasMemory wa_pagesLeast wa_pagesMost wa_globalCount wagt wafy wafv wagc wa_exportCount waek waei waes waez wab wabb wab_length wabb cwabb gwabb waek cwaek gwaek waei cwaei gwaei waes cwaes gwaes waez cwaez gwaez) sz)) 0 0 (va_A (wz_263 h0 ta rw ag h0_argumentCount h0_reason h0_place h0_loaded wa ws h0_program_r h0_coder_r h0_reader_r h0_validator_r ma ta tab ta_length tab ctab gtab wa wab wac wa_typeCount watt watp watg wa_functionCount waft wa_hasMemory wa_pagesLeast wa_pagesMost wa_globalCount wagt wafy wafv wagc wa_exportCount waek waei waes waez wab wabb wab_length wabb cwabb gwabb waek cwaek gwaek waei cwaei gwaei waes cwaes gwaes waez cwaez gwaez) sz) := by
  refine Met.ofW (cc := b_WF_find) (maxL := 2) (ret := (Option.some .int)) (by decide) rfl ?_
  intro p e s m args below meth c s₁ B hml hv
  obtain ⟨rfl, hsz, hP, hK, hD0⟩ := hv
  have hx := B.exec
  have hb := B.bytes
  have hr := B.returns
  have hts0 := atoms_spec (ws := w_WF_find) B.pre
  have hts : ∀ w ∈ lw_g, w.before _ s = true := fun w h => hts0 w (List.mem_cons_of_mem _ h)
  have hown : s.vm.findClass R_WF = some m.cls := findClass_of_methodNamed B.named
  have hlocks := B.notSynchronized
  clear hts0
  subst hsz
  have hD := hD0.self (sz := s.heap.size)
  generalize hAe : va_A (wz_263 h0 ta rw ag h0_argumentCount h0_reason h0_place h0_loaded wa ws h0_program_r h0_coder_r h0_reader_r h0_validator_r ma ta tab ta_length tab ctab gtab wa wab wac wa_typeCount watt watp watg wa_functionCount waft wa_hasMemory wa_pagesLeast wa_pagesMost wa_globalCount wagt wafy wafv wagc wa_exportCount waek waei waes waez wab wabb wab_length wabb cwabb gwabb waek cwaek gwaek waei cwaei gwaei waes cwaes gwaes waez cwaez gwaez) s.heap.size = A at hD ⊢
  have hA : ∀ q : Nat, s.heap.size ≤ q → A q := fun q h => by rw [← hAe]; exact Or.inr h
  clear hAe
  have hP : va_P (dC, dI) cls (wz_263 h0 ta rw ag h0_argumentCount h0_reason h0_place h0_loaded wa ws h0_program_r h0_coder_r h0_reader_r h0_validator_r ma ta tab ta_length tab ctab gtab wa wab wac wa_typeCount watt watp watg wa_functionCount waft wa_hasMemory wa_pagesLeast wa_pagesMost wa_globalCount wagt wafy wafv wagc wa_exportCount waek waei waes waez wab wabb wab_length wabb cwabb gwabb waek cwaek gwaek waei cwaei gwaei waes cwaes gwaes waez cwaez gwaez) s.heap := hP
  have hl := lv_entry ([.ref h0]) (n := 2) (Nat.le_of_ble_eq_true rfl)
  rw [lg_entry_eq]
  generalize (lg_sl ([.ref h0]) ++ List.replicate (2 - (lg_sl ([.ref h0])).length) Slot.unset).toArray = ls at hl ⊢
  have hl : lv_has ls 2 [(0, .ref h0)] := hl
  have k0 : (0 : Int32).toInt = 0 := by decide
  refine w_gen (A := A) hP (fun H locs hP hS => ?_)
  have km1 : (-1 : Int32).toInt = -1 := by decide
  have th0_loaded := b01 b_h0_loaded
  refine lv_aload_n hx hb d_WF_find_0 rfl (lv_at hl 0 rfl) ?_
  refine va_get (D := (dC, dI)) (ci := 0) (v := .int h0_loaded) (C := R_WF) (T := F_WF) (N := 14) hx hb hts i_WF hown hK hP 0 rfl rfl 6 (by decide) (hts _ kF_WF_128) (fun _ h9 => h9) rfl d_WF_find_1 ?_
  refine w_cut (pc2 := 22) (σ := Int32) (fun u H locs ls => match u with | j22_s0 => va_P (dC, dI) cls (wz_263 h0 ta rw ag h0_argumentCount h0_reason h0_place h0_loaded wa ws h0_program_r h0_coder_r h0_reader_r h0_validator_r ma ta tab ta_length tab ctab gtab wa wab wac wa_typeCount watt watp watg wa_functionCount waft wa_hasMemory wa_pagesLeast wa_pagesMost wa_globalCount wagt wafy wafv wagc wa_exportCount waek waei waes waez wab wabb wab_length wabb cwabb gwabb waek cwaek gwaek waei cwaei gwaei waes cwaes gwaes waez cwaez gwaez) H ∧ va_D A (wz_263 h0 ta rw ag h0_argumentCount h0_reason h0_place h0_loaded wa ws h0_program_r h0_coder_r h0_reader_r h0_validator_r ma ta tab ta_length tab ctab gtab wa wab wac wa_typeCount watt watp watg wa_functionCount waft wa_hasMemory wa_pagesLeast wa_pagesMost wa_globalCount wagt wafy wafv wagc wa_exportCount waek waei waes waez wab wabb wab_length wabb cwabb gwabb waek cwaek gwaek waei cwaei gwaei waes cwaes gwaes waez cwaez gwaez) ∧ va_S A s.heap H locs ∧ lv_has ls 2 [(0, .ref h0)]) (fun u => match u with | j22_s0 => [.int j22_s0]) ?_ (fun jn22 => ?_)
  · intro u H locs ls hI
    obtain ⟨j22_s0, rfl⟩ : ∃ z, z = u := ⟨_, rfl⟩
    obtain ⟨hP, hD, hS, hl⟩ := hI
    refine lv_istore_n (lv' := [(1, .int j22_s0), (0, .ref h0)]) hx hb d_WF_find_22 rfl hl (by decide) rfl (fun ls hl => ?_)
    refine lv_aload_n hx hb d_WF_find_23 rfl (lv_at hl 1 rfl) ?_
    refine va_get (D := (dC, dI)) (ci := 0) (v := .ref ta) (C := R_WF) (T := F_WF) (N := 14) hx hb hts i_WF hown hK hP 0 rfl rfl 0 (by decide) (hts _ kF_WF_16) (fun _ h9 => h9) rfl d_WF_find_24 ?_
    refine lv_iconst (v := 0) hx hb d_WF_find_27 (by decide) ?_
    refine va_put (D := (dC, dI)) (ci := 1) (v := .int 0) (ty := .int) (C := R_BR) (T := F_BR) (N := 2) hx hb hts i_BR t_BR t_BR_ok n_BR hown hK hP hD hS 1 rfl rfl 1 (by decide) (hts _ kF_WF_85) (fun _ h9 => h9) rfl (by decide +kernel) rfl rfl (Nat.le_of_ble_eq_true rfl) d_WF_find_28 (fun H locs hP hD hS => ?_)
    refine lv_iload_n hx hb d_WF_find_31 rfl (lv_at hl 0 rfl) ?_
    have hP9 := hP.sb (wq := (wz_263 h0 ta rw ag h0_argumentCount h0_reason h0_place h0_loaded wa ws h0_program_r h0_coder_r h0_reader_r h0_validator_r ma ta tab 0 tab ctab gtab wa wab wac wa_typeCount watt watp watg wa_functionCount waft wa_hasMemory wa_pagesLeast wa_pagesMost wa_globalCount wagt wafy wafv wagc wa_exportCount waek waei waes waez wab wabb wab_length wabb cwabb gwabb waek cwaek gwaek waei cwaei gwaei waes cwaes gwaes waez cwaez gwaez)) [0, 1, 2, 3, 4, 5, 6, 7, 8, 9] rfl
    have hD9 := hD.sb (wq := (wz_263 h0 ta rw ag h0_argumentCount h0_reason h0_place h0_loaded wa ws h0_program_r h0_coder_r h0_reader_r h0_validator_r ma ta tab 0 tab ctab gtab wa wab wac wa_typeCount watt watp watg wa_functionCount waft wa_hasMemory wa_pagesLeast wa_pagesMost wa_globalCount wagt wafy wafv wagc wa_exportCount waek waei waes waez wab wabb wab_length wabb cwabb gwabb waek cwaek gwaek waei cwaei gwaei waes cwaes gwaes waez cwaez gwaez)) [0, 1, 2, 3, 4, 5, 6, 7, 8, 9] (by decide) rfl
    exact W.iret (v := j22_s0) hx hb hr (fun t ht hW => ⟨⟨j22_s0, 0, rfl, ⟨by (try dsimp only) <;> (first | (apply Int.le_antisymm <;> omega) | omega), by decide⟩, va_P.he ht.symm hP9, va_K.moved hW.alike hK, hD9⟩, hS.F ht⟩) hS.2.2 d_WF_find_32
  · skip
    refine lv_if_eq (tgt := 21) hx hb d_WF_find_4 (by decide) (fun c4 => ?_) (fun c4 => ?_)
    · have q4 := eqI c4
      refine lv_iconst (v := (-1)) hx hb d_WF_find_21 (by decide) ?_
      exact jn22 ((-1)) _ _ _ ⟨hP, hD, hS, lv_sub hl [0] rfl⟩
    · have q4 := neI c4
      refine lv_aload_n hx hb d_WF_find_7 rfl (lv_at hl 0 rfl) ?_
      refine va_get (D := (dC, dI)) (ci := 0) (v := .ref wa) (C := R_WF) (T := F_WF) (N := 14) hx hb hts i_WF hown hK hP 0 rfl rfl 7 (by decide) (hts _ kF_WF_34) (fun _ h9 => h9) rfl d_WF_find_8 ?_
      refine lv_aload_n hx hb d_WF_find_11 rfl (lv_at hl 0 rfl) ?_
      refine va_get (D := (dC, dI)) (ci := 0) (v := .ref ta) (C := R_WF) (T := F_WF) (N := 14) hx hb hts i_WF hown hK hP 0 rfl rfl 0 (by decide) (hts _ kF_WF_16) (fun _ h9 => h9) rfl d_WF_find_12 ?_
      have hPc := hP.sb (wq := (wz_258 wa wab wac wa_typeCount watt watp watg wa_functionCount waft wa_hasMemory wa_pagesLeast wa_pagesMost wa_globalCount wagt wafy wafv wagc wa_exportCount waek waei waes waez wab wabb wab_length wabb cwabb gwabb waek cwaek gwaek waei cwaei gwaei waes cwaes gwaes waez cwaez gwaez ta tab ta_length tab ctab gtab)) [3, 4, 5, 6, 7, 8, 9, 1, 2] rfl
      have hDc := hD.sb (wq := (wz_258 wa wab wac wa_typeCount watt watp watg wa_functionCount waft wa_hasMemory wa_pagesLeast wa_pagesMost wa_globalCount wagt wafy wafv wagc wa_exportCount waek waei waes waez wab wabb wab_length wabb cwabb gwabb waek cwaek gwaek waei cwaei gwaei waes cwaes gwaes waez cwaez gwaez ta tab ta_length tab ctab gtab)) [3, 4, 5, 6, 7, 8, 9, 1, 2] (by decide) rfl
      have hKc := hK.sb (tyq := [(cwabb, .byte), (cwaek, .int), (cwaei, .int), (cwaes, .int), (cwaez, .int), (ctab, .byte)]) [1, 2, 3, 4, 5, 0] rfl
      have hFc := va_free (wc := (wz_258 wa wab wac wa_typeCount watt watp watg wa_functionCount waft wa_hasMemory wa_pagesLeast wa_pagesMost wa_globalCount wagt wafy wafv wagc wa_exportCount waek waei waes waez wab wabb wab_length wabb cwabb gwabb waek cwaek gwaek waei cwaei gwaei waes cwaes gwaes waez cwaez gwaez ta tab ta_length tab ctab gtab)) hD hS hA [3, 4, 5, 6, 7, 8, 9, 1, 2] rfl
      refine va_calli (va_runV (As := [.ref ta]) (rest := []) ⟨hx, hb, hml, hown, hts⟩ (c_WA_exportedFunction l dC dI H.size wa wab wac watt watp watg waft wagt wafy wafv wagc waek waei waes waez wabb ta tab cwabb cwaek cwaei cwaes cwaez ctab wa_typeCount wa_functionCount wa_hasMemory wa_pagesLeast wa_pagesMost wa_globalCount wa_exportCount wab_length gwabb gwaek gwaei gwaes gwaez ta_length gtab (b_wa_exportCount) (b_ta_length) (by (first | (apply Int.le_antisymm <;> omega) | omega))) (cwV 1 hts (gV kM_WF_135 kV_WA_exportedFunction kS_WA_exportedFunction kI_WA kC_WA_exportedFunction) rfl rfl rfl (by decide +kernel) ⟨Nat.le_of_ble_eq_true rfl, Nat.le_of_ble_eq_true rfl⟩) ⟨fun a U g mk z => by obtain ⟨z0, z1, zP, zK, zD⟩ := z; exact ⟨z0, z1, zP, va_K.moved (u := U) (U := U.calling g mk a) (Vm.Alike.refl U.vm) zK, zD⟩, va_recv hKc hPc (ci := 10) (q0 := 0) rfl rfl, fun U hU hW => ⟨rfl, by rw [hU], va_P.he hU.symm hPc, va_K.moved hW.alike hKc, hDc.weaken (fun _ _ _ _ => trivial)⟩⟩ rfl rfl hl.1 rfl (lv_room (Nat.le_of_ble_eq_true rfl)) d_WF_find_15 ⟨(Nat.zero_le _), (Nat.zero_le _)⟩) hS (fun q _ h => hFc q h) hFc (fun r1 u t H1 locs ht hvm hw hB hz1 hk1 hS => ?_)
      try dsimp only at hw
      have xr1 := hw
      try clear hw
      obtain ⟨hP1, hK1, hD1⟩ := hB
      replace hP1 := va_P.he ht hP1
      obtain ⟨hP, hD⟩ := va_join (wr := (wz_255 h0 ta rw ag h0_argumentCount h0_reason h0_place h0_loaded wa ws h0_program_r h0_coder_r h0_reader_r h0_validator_r ma)) (w1 := (wz_258 wa wab wac wa_typeCount watt watp watg wa_functionCount waft wa_hasMemory wa_pagesLeast wa_pagesMost wa_globalCount wagt wafy wafv wagc wa_exportCount waek waei waes waez wab wabb wab_length wabb cwabb gwabb waek cwaek gwaek waei cwaei gwaei waes cwaes gwaes waez cwaez gwaez ta tab ta_length tab ctab gtab)) hP hD [3, 4, 5, 6, 7, 8, 9, 1, 2] [0] rfl rfl (by decide) (by decide) hk1 hFc hP1 hD1
      clear hPc hDc hKc hFc hz1 hk1 hP1 hK1 hD1
      rename Heap => H
      have hP : va_P (dC, dI) cls [(h0, .inr (0, [.ref ta, .ref rw, .ref ag, .int h0_argumentCount, .int h0_reason, .int h0_place, .int h0_loaded, .ref wa, .ref ws, .ref h0_program_r, .ref h0_coder_r, .ref h0_reader_r, .ref h0_validator_r, .ref ma])), (wa, .inr (10, [.ref wab, .ref wac, .int wa_typeCount, .ref watt, .ref watp, .ref watg, .int wa_functionCount, .ref waft, .int wa_hasMemory, .long wa_pagesLeast, .long wa_pagesMost, .int wa_globalCount, .ref wagt, .ref wafy, .ref wafv, .ref wagc, .int wa_exportCount, .ref waek, .ref waei, .ref waes, .ref waez])), (wab, .inr (1, [.ref wabb, .int wab_length])), (wabb, .inl (cwabb, 8192, .inl gwabb)), (waek, .inl (cwaek, 40, .inl gwaek)), (waei, .inl (cwaei, 40, .inl gwaei)), (waes, .inl (cwaes, 40, .inl gwaes)), (waez, .inl (cwaez, 40, .inl gwaez)), (ta, .inr (1, [.ref tab, .int ta_length])), (tab, .inl (ctab, 2000, .inl gtab))] H := hP
      have hD : va_D A [(h0, .inr (0, [.ref ta, .ref rw, .ref ag, .int h0_argumentCount, .int h0_reason, .int h0_place, .int h0_loaded, .ref wa, .ref ws, .ref h0_program_r, .ref h0_coder_r, .ref h0_reader_r, .ref h0_validator_r, .ref ma])), (wa, .inr (10, [.ref wab, .ref wac, .int wa_typeCount, .ref watt, .ref watp, .ref watg, .int wa_functionCount, .ref waft, .int wa_hasMemory, .long wa_pagesLeast, .long wa_pagesMost, .int wa_globalCount, .ref wagt, .ref wafy, .ref wafv, .ref wagc, .int wa_exportCount, .ref waek, .ref waei, .ref waes, .ref waez])), (wab, .inr (1, [.ref wabb, .int wab_length])), (wabb, .inl (cwabb, 8192, .inl gwabb)), (waek, .inl (cwaek, 40, .inl gwaek)), (waei, .inl (cwaei, 40, .inl gwaei)), (waes, .inl (cwaes, 40, .inl gwaes)), (waez, .inl (cwaez, 40, .inl gwaez)), (ta, .inr (1, [.ref tab, .int ta_length])), (tab, .inl (ctab, 2000, .inl gtab))] := hD
      refine lv_goto (tgt := 22) hx hb d_WF_find_18 (by decide) ?_
      exact jn22 r1 _ _ _ ⟨hP.sub [0, 8, 9, 1, 2, 3, 4, 5, 6, 7] rfl, hD.sub [0, 8, 9, 1, 2, 3, 4, 5, 6, 7] (by decide) rfl, hS, lv_sub hl [0] rfl⟩
abbrev b_WF_count : ByteArray := prog_1_method_13_code
def y_WF_count : MethodName := ⟨R_WF, "count", "(I)I"⟩
abbrev w_WF_count : List Cond := .code y_WF_count b_WF_count 2 (Option.some .int) :: lw_g
theorem kC_WF_count : Cond.code y_WF_count b_WF_count 2 (Option.some .int) ∈ lw_g := in_c8 56 rfl rfl
theorem d_WF_count_0 : decode b_WF_count 0 = .ok (.iload_n 1, 1) := bz_c27 (by decide +kernel)
theorem d_WF_count_1 : decode b_WF_count 1 = .ok (.tableswitch 147 0 8 #[51, 59, 67, 72, 77, 96, 115, 134, 142], 51) := by decide +kernel
theorem d_WF_count_52 : decode b_WF_count 52 = .ok (.aload_n 0, 1) := bz_c42 (by decide +kernel)
theorem d_WF_count_53 : decode b_WF_count 53 = .ok (.getfield 16, 3) := bz_c180 (by decide +kernel)
theorem d_WF_count_56 : decode b_WF_count 56 = .ok (.getfield 85, 3) := bz_c180 (by decide +kernel)
theorem d_WF_count_59 : decode b_WF_count 59 = .ok (.ireturn, 1) := bz_c172 (by decide +kernel)
theorem d_WF_count_60 : decode b_WF_count 60 = .ok (.aload_n 0, 1) := bz_c42 (by decide +kernel)
theorem d_WF_count_61 : decode b_WF_count 61 = .ok (.getfield 20, 3) := bz_c180 (by decide +kernel)
theorem d_WF_count_64 : decode b_WF_count 64 = .ok (.getfield 85, 3) := bz_c180 (by decide +kernel)
theorem d_WF_count_67 : decode b_WF_count 67 = .ok (.ireturn, 1) := bz_c172 (by decide +kernel)
theorem d_WF_count_68 : decode b_WF_count 68 = .ok (.aload_n 0, 1) := bz_c42 (by decide +kernel)
theorem d_WF_count_69 : decode b_WF_count 69 = .ok (.getfield 104, 3) := bz_c180 (by decide +kernel)
theorem d_WF_count_72 : decode b_WF_count 72 = .ok (.ireturn, 1) := bz_c172 (by decide +kernel)
theorem d_WF_count_73 : decode b_WF_count 73 = .ok (.aload_n 0, 1) := bz_c42 (by decide +kernel)
theorem d_WF_count_74 : decode b_WF_count 74 = .ok (.getfield 27, 3) := bz_c180 (by decide +kernel)
theorem d_WF_count_77 : decode b_WF_count 77 = .ok (.ireturn, 1) := bz_c172 (by decide +kernel)
theorem d_WF_count_78 : decode b_WF_count 78 = .ok (.aload_n 0, 1) := bz_c42 (by decide +kernel)
theorem d_WF_count_79 : decode b_WF_count 79 = .ok (.getfield 128, 3) := bz_c180 (by decide +kernel)
theorem d_WF_count_82 : decode b_WF_count 82 = .ok (.ifCond .eq 13, 3) := bz_c153 (by decide +kernel)
theorem d_WF_count_85 : decode b_WF_count 85 = .ok (.aload_n 0, 1) := bz_c42 (by decide +kernel)
theorem d_WF_count_86 : decode b_WF_count 86 = .ok (.getfield 34, 3) := bz_c180 (by decide +kernel)
theorem d_WF_count_89 : decode b_WF_count 89 = .ok (.getfield 125, 3) := bz_c180 (by decide +kernel)
theorem d_WF_count_92 : decode b_WF_count 92 = .ok (.goto 4, 3) := bz_c167 (by decide +kernel)
theorem d_WF_count_95 : decode b_WF_count 95 = .ok (.iconst (-1), 1) := bz_c2 (by decide +kernel)
theorem d_WF_count_96 : decode b_WF_count 96 = .ok (.ireturn, 1) := bz_c172 (by decide +kernel)
theorem d_WF_count_97 : decode b_WF_count 97 = .ok (.aload_n 0, 1) := bz_c42 (by decide +kernel)
theorem d_WF_count_98 : decode b_WF_count 98 = .ok (.getfield 128, 3) := bz_c180 (by decide +kernel)
theorem d_WF_count_101 : decode b_WF_count 101 = .ok (.ifCond .eq 13, 3) := bz_c153 (by decide +kernel)
theorem d_WF_count_104 : decode b_WF_count 104 = .ok (.aload_n 0, 1) := bz_c42 (by decide +kernel)
theorem d_WF_count_105 : decode b_WF_count 105 = .ok (.getfield 34, 3) := bz_c180 (by decide +kernel)
theorem d_WF_count_108 : decode b_WF_count 108 = .ok (.getfield 154, 3) := bz_c180 (by decide +kernel)
theorem d_WF_count_111 : decode b_WF_count 111 = .ok (.goto 4, 3) := bz_c167 (by decide +kernel)
theorem d_WF_count_114 : decode b_WF_count 114 = .ok (.iconst (-1), 1) := bz_c2 (by decide +kernel)
theorem d_WF_count_115 : decode b_WF_count 115 = .ok (.ireturn, 1) := bz_c172 (by decide +kernel)
theorem d_WF_count_116 : decode b_WF_count 116 = .ok (.aload_n 0, 1) := bz_c42 (by decide +kernel)
theorem d_WF_count_117 : decode b_WF_count 117 = .ok (.getfield 128, 3) := bz_c180 (by decide +kernel)
theorem d_WF_count_120 : decode b_WF_count 120 = .ok (.ifCond .eq 13, 3) := bz_c153 (by decide +kernel)
theorem d_WF_count_123 : decode b_WF_count 123 = .ok (.aload_n 0, 1) := bz_c42 (by decide +kernel)
theorem d_WF_count_124 : decode b_WF_count 124 = .ok (.getfield 81, 3) := bz_c180 (by decide +kernel)
theorem d_WF_count_127 : decode b_WF_count 127 = .ok (.getfield 160, 3) := bz_c180 (by decide +kernel)
theorem d_WF_count_130 : decode b_WF_count 130 = .ok (.goto 4, 3) := bz_c167 (by decide +kernel)
theorem d_WF_count_133 : decode b_WF_count 133 = .ok (.iconst (-1), 1) := bz_c2 (by decide +kernel)
theorem d_WF_count_134 : decode b_WF_count 134 = .ok (.ireturn, 1) := bz_c172 (by decide +kernel)
theorem d_WF_count_135 : decode b_WF_count 135 = .ok (.aload_n 0, 1) := bz_c42 (by decide +kernel)
theorem d_WF_count_136 : decode b_WF_count 136 = .ok (.getfield 81, 3) := bz_c180 (by decide +kernel)
theorem d_WF_count_139 : decode b_WF_count 139 = .ok (.getfield 170, 3) := bz_c180 (by decide +kernel)
theorem d_WF_count_142 : decode b_WF_count 142 = .ok (.ireturn, 1) := bz_c172 (by decide +kernel)
theorem d_WF_count_143 : decode b_WF_count 143 = .ok (.aload_n 0, 1) := bz_c42 (by decide +kernel)
theorem d_WF_count_144 : decode b_WF_count 144 = .ok (.getfield 139, 3) := bz_c180 (by decide +kernel)
theorem d_WF_count_147 : decode b_WF_count 147 = .ok (.ireturn, 1) := bz_c172 (by decide +kernel)
theorem d_WF_count_148 : decode b_WF_count 148 = .ok (.new 94, 3) := bz_c187 (by decide +kernel)
theorem d_WF_count_151 : decode b_WF_count 151 = .ok (.dup, 1) := bz_c89 (by decide +kernel)
theorem d_WF_count_152 : decode b_WF_count 152 = .ok (.invokespecial 96, 3) := bz_c183 (by decide +kernel)
theorem d_WF_count_155 : decode b_WF_count 155 = .ok (.athrow, 1) := bz_c191 (by decide +kernel)
theorem kF_WF_104 : Cond.fieldLink R_WF 104 "WaferForge" "reason" "I" ∈ lw_g := in_c3 120 rfl rfl
theorem kF_WF_27 : Cond.fieldLink R_WF 27 "WaferForge" "place" "I" ∈ lw_g := in_c3 121 rfl rfl
theorem kF_WF_125 : Cond.fieldLink R_WF 125 "WaferForge$Wafer" "functionCount" "I" ∈ lw_g := in_c1 161 rfl rfl
theorem kF_WF_154 : Cond.fieldLink R_WF 154 "WaferForge$Wafer" "globalCount" "I" ∈ lw_g := in_c1 180 rfl rfl
theorem kF_WF_81 : Cond.fieldLink R_WF 81 "WaferForge" "machine" "LWaferForge$Machine;" ∈ lw_g := in_c3 129 rfl rfl
theorem kF_WF_160 : Cond.fieldLink R_WF 160 "WaferForge$Machine" "pages" "I" ∈ lw_g := in_c3 58 rfl rfl
theorem kF_WF_170 : Cond.fieldLink R_WF 170 "WaferForge$Machine" "steps" "I" ∈ lw_g := in_c3 60 rfl rfl
abbrev at_WF_count (dC : Nat → ClassId) (dI : Nat → Nat → Nat) (sa : Nat → Nat) (h0 ta rw ag wa ws h0_program_r h0_coder_r h0_reader_r h0_validator_r ma tab rwb wab wac watt watp watg waft wagt wafy wafv wagc waek waei waes waez magl mace mask mafb mafs maff mafl malb malh : Nat) (h0_argumentCount : Int32) (h0_reason : Int32) (h0_place : Int32) (h0_loaded : Int32) (ta_length : Int32) (rw_length : Int32) (wa_typeCount : Int32) (wa_functionCount : Int32) (wa_hasMemory : Int32) (wa_pagesLeast : Int64) (wa_pagesMost : Int64) (wa_globalCount : Int32) (wa_exportCount : Int32) (ma_pages : Int32) (ma_steps : Int32) (ma_reason : Int32) (ma_wafer : Value) (ma_codes : Value) (ma_height : Int32) (ma_frameCount : Int32) (ma_labelCount : Int32) (ma_at : Int32) (A : Nat → Prop) (u : Unit) (t : State) : Prop := match u with | _ => va_P (dC, dI) cls (wz_264 h0 ta rw ag h0_argumentCount h0_reason h0_place h0_loaded wa ws h0_program_r h0_coder_r h0_reader_r h0_validator_r ma ta tab ta_length rw rwb rw_length wa wab wac wa_typeCount watt watp watg wa_functionCount waft wa_hasMemory wa_pagesLeast wa_pagesMost wa_globalCount wagt wafy wafv wagc wa_exportCount waek waei waes waez ma ma_pages ma_steps ma_reason magl ma_wafer ma_codes mace mask ma_height mafb mafs maff mafl ma_frameCount malb malh ma_labelCount ma_at) t.heap ∧ va_K (dC, dI) cls [] t ∧ va_D A (wz_264 h0 ta rw ag h0_argumentCount h0_reason h0_place h0_loaded wa ws h0_program_r h0_coder_r h0_reader_r h0_validator_r ma ta tab ta_length rw rwb rw_length wa wab wac wa_typeCount watt watp watg wa_functionCount waft wa_hasMemory wa_pagesLeast wa_pagesMost wa_globalCount wagt wafy wafv wagc wa_exportCount waek waei waes waez ma ma_pages ma_steps ma_reason magl ma_wafer ma_codes mace mask ma_height mafb mafs maff mafl ma_frameCount malb malh ma_labelCount ma_at)
set_option maxHeartbeats 4000000 in
set_option maxRecDepth 100000 in
theorem c_WF_count (l : Launch) (hlt : l.stackTraces = false) (dC : Nat → ClassId) (dI : Nat → Nat → Nat) (sz : Nat) (sa : Nat → Nat) (h0 ta rw ag wa ws h0_program_r h0_coder_r h0_reader_r h0_validator_r ma tab rwb wab wac watt watp watg waft wagt wafy wafv wagc waek waei waes waez magl mace mask mafb mafs maff mafl malb malh : Nat) (h0_argumentCount : Int32) (h0_reason : Int32) (h0_place : Int32) (h0_loaded : Int32) (ta_length : Int32) (rw_length : Int32) (wa_typeCount : Int32) (wa_functionCount : Int32) (wa_hasMemory : Int32) (wa_pagesLeast : Int64) (wa_pagesMost : Int64) (wa_globalCount : Int32) (wa_exportCount : Int32) (ma_pages : Int32) (ma_steps : Int32) (ma_reason : Int32) (ma_wafer : Value) (ma_codes : Value) (ma_height : Int32) (ma_frameCount : Int32) (ma_labelCount : Int32) (ma_at : Int32)  (b_h0_argumentCount : 0 ≤ h0_argumentCount.toInt ∧ h0_argumentCount.toInt ≤ 8) (b_h0_loaded : h0_loaded = 0 ∨ h0_loaded = 1) (b_ta_length : 0 ≤ ta_length.toInt ∧ ta_length.toInt ≤ 2000) (b_rw_length : 0 ≤ rw_length.toInt ∧ rw_length.toInt ≤ 8192) (b_wa_functionCount : 0 ≤ wa_functionCount.toInt ∧ wa_functionCount.toInt ≤ 30) (b_wa_globalCount : 0 ≤ wa_globalCount.toInt ∧ wa_globalCount.toInt ≤ 20) (b_ma_pages : 0 ≤ ma_pages.toInt ∧ ma_pages.toInt ≤ 2) (b_ma_steps : 0 ≤ ma_steps.toInt ∧ ma_steps.toInt ≤ 100001) (p0 : Int32)   : tz_Met l y_WF_count w_WF_count ({ frames := 6, cells := 1, slots := 6, locals := 90 }) (va_Pc [.ref h0, .int p0] (fun U => U.heap.size = sz ∧ va_P (dC, dI) cls (wz_264 h0 ta rw ag h0_argumentCount h0_reason h0_place h0_loaded wa ws h0_program_r h0_coder_r h0_reader_r h0_validator_r ma ta tab ta_length rw rwb rw_length wa wab wac wa_typeCount watt watp watg wa_functionCount waft wa_hasMemory wa_pagesLeast wa_pagesMost wa_globalCount wagt wafy wafv wagc wa_exportCount waek waei waes waez ma ma_pages ma_steps ma_reason magl ma_wafer ma_codes mace mask ma_height mafb mafs maff mafl ma_frameCount malb malh ma_labelCount ma_at) U.heap ∧ va_K (dC, dI) cls [] U ∧ va_D (fun _ => True) (wz_264 h0 ta rw ag h0_argumentCount h0_reason h0_place h0_loaded wa ws h0_program_r h0_coder_r h0_reader_r h0_validator_r ma ta tab ta_length rw rwb rw_length wa wab wac wa_typeCount watt watp watg wa_functionCount waft wa_hasMemory wa_pagesLeast wa_pagesMost wa_globalCount wagt wafy wafv wagc wa_exportCount waek waei waes waez ma ma_pages ma_steps ma_reason magl ma_wafer ma_codes mace mask ma_height mafb mafs maff mafl ma_frameCount malb malh ma_labelCount ma_at) ∧ sw sa (va_A (wz_264 h0 ta rw ag h0_argumentCount h0_reason h0_place h0_loaded wa ws h0_program_r h0_coder_r h0_reader_r h0_validator_r ma ta tab ta_length rw rwb rw_length wa wab wac wa_typeCount watt watp watg wa_functionCount waft wa_hasMemory wa_pagesLeast wa_pagesMost wa_globalCount wagt wafy wafv wagc wa_exportCount waek waei waes waez ma ma_pages ma_steps ma_reason magl ma_wafer ma_codes mace mask ma_height mafb mafs maff mafl ma_frameCount malb malh ma_labelCount ma_at) sz) U U.heap)) (tq_Q (tq_i (fun (r : Int32) (u : Unit) => match u with | _ => (True)) "java/lang/IllegalArgumentException" (fun (u : Unit) => match u with | _ => True)) (at_WF_count dC dI sa h0 ta rw ag wa ws h0_program_r h0_coder_r h0_reader_r h0_validator_r ma tab rwb wab wac watt watp watg waft wagt wafy wafv wagc waek waei waes waez magl mace mask mafb mafs maff mafl malb malh h0_argumentCount h0_reason h0_place h0_loaded ta_length rw_length wa_typeCount wa_functionCount wa_hasMemory wa_pagesLeast wa_pagesMost wa_globalCount wa_exportCount ma_pages ma_steps ma_reason ma_wafer ma_codes ma_height ma_frameCount ma_labelCount ma_at (va_A (wz_264 h0 ta rw ag h0_argumentCount h0_reason h0_place h0_loaded wa ws h0_program_r h0_coder_r h0_reader_r h0_validator_r ma ta tab ta_length rw rwb rw_length wa wab wac wa_typeCount watt watp watg wa_functionCount waft wa_hasMemory wa_pagesLeast wa_pagesMost wa_globalCount wagt wafy wafv wagc wa_exportCount waek waei waes waez ma ma_pages ma_steps ma_reason magl ma_wafer ma_codes mace mask ma_height mafb mafs maff mafl ma_frameCount malb malh ma_labelCount ma_at) sz)) (va_A (wz_264 h0 ta rw ag h0_argumentCount h0_reason h0_place h0_loaded wa ws h0_program_r h0_coder_r h0_reader_r h0_validator_r ma ta tab ta_length rw rwb rw_length wa wab wac wa_typeCount watt watp watg wa_functionCount waft wa_hasMemory wa_pagesLeast wa_pagesMost wa_globalCount wagt wafy wafv wagc wa_exportCount waek waei waes waez ma ma_pages ma_steps ma_reason magl ma_wafer ma_codes mace mask ma_height mafb mafs maff mafl ma_frameCount malb malh ma_labelCount ma_at) sz)) (tz_k 0 0 1 6) (va_A (wz_264 h0 ta rw ag h0_argumentCount h0_reason h0_place h0_loaded wa ws h0_program_r h0_coder_r h0_reader_r h0_validator_r ma ta tab ta_length rw rwb rw_length wa wab wac wa_typeCount watt watp watg wa_functionCount waft wa_hasMemory wa_pagesLeast wa_pagesMost wa_globalCount wagt wafy wafv wagc wa_exportCount waek waei waes waez ma ma_pages ma_steps ma_reason magl ma_wafer ma_codes mace mask ma_height mafb mafs maff mafl ma_frameCount malb malh ma_labelCount ma_at) sz) := by
  refine tz_ofW (cc := b_WF_count) (maxL := 2) (ret := (Option.some .int)) (by decide) rfl ?_
  intro p e s m args below meth c s₁ B hml hno hv
  obtain ⟨rfl, hsz, hP, hK, hD0, hSW⟩ := hv
  have hx := B.exec
  have hb := B.bytes
  have hr := B.returns
  have hts0 := atoms_spec (ws := w_WF_count) B.pre
  have hts : ∀ w ∈ lw_g, w.before _ s = true := fun w h => hts0 w (List.mem_cons_of_mem _ h)
  have hown : s.vm.findClass R_WF = some m.cls := findClass_of_methodNamed B.named
  have hlocks := B.notSynchronized
  clear hts0
  subst hsz
  have hD := hD0.self (sz := s.heap.size)
  generalize hAe : va_A (wz_264 h0 ta rw ag h0_argumentCount h0_reason h0_place h0_loaded wa ws h0_program_r h0_coder_r h0_reader_r h0_validator_r ma ta tab ta_length rw rwb rw_length wa wab wac wa_typeCount watt watp watg wa_functionCount waft wa_hasMemory wa_pagesLeast wa_pagesMost wa_globalCount wagt wafy wafv wagc wa_exportCount waek waei waes waez ma ma_pages ma_steps ma_reason magl ma_wafer ma_codes mace mask ma_height mafb mafs maff mafl ma_frameCount malb malh ma_labelCount ma_at) s.heap.size = A at hD hSW ⊢
  have hA : ∀ q : Nat, s.heap.size ≤ q → A q := fun q h => by rw [← hAe]; exact Or.inr h
  clear hAe
  have hP : va_P (dC, dI) cls (wz_264 h0 ta rw ag h0_argumentCount h0_reason h0_place h0_loaded wa ws h0_program_r h0_coder_r h0_reader_r h0_validator_r ma ta tab ta_length rw rwb rw_length wa wab wac wa_typeCount watt watp watg wa_functionCount waft wa_hasMemory wa_pagesLeast wa_pagesMost wa_globalCount wagt wafy wafv wagc wa_exportCount waek waei waes waez ma ma_pages ma_steps ma_reason magl ma_wafer ma_codes mace mask ma_height mafb mafs maff mafl ma_frameCount malb malh ma_labelCount ma_at) s.heap := hP
  have hl := lv_entry ([.ref h0, .int p0]) (n := 2) (Nat.le_of_ble_eq_true rfl)
  rw [lg_entry_eq]
  generalize (lg_sl ([.ref h0, .int p0]) ++ List.replicate (2 - (lg_sl ([.ref h0, .int p0])).length) Slot.unset).toArray = ls at hl ⊢
  have hl : lv_has ls 2 [(0, .ref h0), (1, .int p0)] := hl
  have k0 : (0 : Int32).toInt = 0 := by decide
  refine w_gen (A := A) hP (fun H locs hP hS => ?_)
  have km1 : (-1 : Int32).toInt = -1 := by decide
  have lo_p0 := i32_lo p0
  have hi_p0 := i32_hi p0
  have th0_loaded := b01 b_h0_loaded
  refine lv_iload_n hx hb d_WF_count_0 rfl (lv_at hl 1 rfl) ?_
  by_cases g1_52 : p0.toInt = 0
  · have ho1 : tab_off 147 0 8 #[51, 59, 67, 72, 77, 96, 115, 134, 142] p0.toInt = 51 := by rw [g1_52]; rfl
    refine lv_tab (tgt := 52) hx hb d_WF_count_1 (by decide) ho1 (by decide) ?_
    clear ho1
    refine lv_aload_n hx hb d_WF_count_52 rfl (lv_at hl 0 rfl) ?_
    refine va_get (D := (dC, dI)) (ci := 0) (v := .ref ta) (C := R_WF) (T := F_WF) (N := 14) hx hb hts i_WF hown hK hP 0 rfl rfl 0 (by decide) (hts _ kF_WF_16) (fun _ h9 => h9) rfl d_WF_count_53 ?_
    refine va_get (D := (dC, dI)) (ci := 1) (v := .int ta_length) (C := R_BR) (T := F_BR) (N := 2) hx hb hts i_BR hown hK hP 1 rfl rfl 1 (by decide) (hts _ kF_WF_85) (fun _ h9 => h9) rfl d_WF_count_56 ?_
    have hP9 := hP.sb (wq := (wz_264 h0 ta rw ag h0_argumentCount h0_reason h0_place h0_loaded wa ws h0_program_r h0_coder_r h0_reader_r h0_validator_r ma ta tab ta_length rw rwb rw_length wa wab wac wa_typeCount watt watp watg wa_functionCount waft wa_hasMemory wa_pagesLeast wa_pagesMost wa_globalCount wagt wafy wafv wagc wa_exportCount waek waei waes waez ma ma_pages ma_steps ma_reason magl ma_wafer ma_codes mace mask ma_height mafb mafs maff mafl ma_frameCount malb malh ma_labelCount ma_at)) [0, 1, 2, 3, 4] rfl
    have hD9 := hD.sb (wq := (wz_264 h0 ta rw ag h0_argumentCount h0_reason h0_place h0_loaded wa ws h0_program_r h0_coder_r h0_reader_r h0_validator_r ma ta tab ta_length rw rwb rw_length wa wab wac wa_typeCount watt watp watg wa_functionCount waft wa_hasMemory wa_pagesLeast wa_pagesMost wa_globalCount wagt wafy wafv wagc wa_exportCount waek waei waes waez ma ma_pages ma_steps ma_reason magl ma_wafer ma_codes mace mask ma_height mafb mafs maff mafl ma_frameCount malb malh ma_labelCount ma_at)) [0, 1, 2, 3, 4] (by decide) rfl
    exact tz_up (fun _ => rfl) (W.iret (v := ta_length) hx hb hr (fun t ht hW => ⟨⟨(), ⟨ta_length, rfl, (trivial)⟩, va_P.he ht.symm hP9, va_K.moved hW.alike hK, hD9⟩, hS.F ht⟩) hS.2.2 d_WF_count_59)
  · skip
    by_cases g1_60 : p0.toInt = 1
    · have ho1 : tab_off 147 0 8 #[51, 59, 67, 72, 77, 96, 115, 134, 142] p0.toInt = 59 := by rw [g1_60]; rfl
      refine lv_tab (tgt := 60) hx hb d_WF_count_1 (by decide) ho1 (by decide) ?_
      clear ho1
      refine lv_aload_n hx hb d_WF_count_60 rfl (lv_at hl 0 rfl) ?_
      refine va_get (D := (dC, dI)) (ci := 0) (v := .ref rw) (C := R_WF) (T := F_WF) (N := 14) hx hb hts i_WF hown hK hP 0 rfl rfl 1 (by decide) (hts _ kF_WF_20) (fun _ h9 => h9) rfl d_WF_count_61 ?_
      refine va_get (D := (dC, dI)) (ci := 1) (v := .int rw_length) (C := R_BR) (T := F_BR) (N := 2) hx hb hts i_BR hown hK hP 2 rfl rfl 1 (by decide) (hts _ kF_WF_85) (fun _ h9 => h9) rfl d_WF_count_64 ?_
      have hP9 := hP.sb (wq := (wz_264 h0 ta rw ag h0_argumentCount h0_reason h0_place h0_loaded wa ws h0_program_r h0_coder_r h0_reader_r h0_validator_r ma ta tab ta_length rw rwb rw_length wa wab wac wa_typeCount watt watp watg wa_functionCount waft wa_hasMemory wa_pagesLeast wa_pagesMost wa_globalCount wagt wafy wafv wagc wa_exportCount waek waei waes waez ma ma_pages ma_steps ma_reason magl ma_wafer ma_codes mace mask ma_height mafb mafs maff mafl ma_frameCount malb malh ma_labelCount ma_at)) [0, 1, 2, 3, 4] rfl
      have hD9 := hD.sb (wq := (wz_264 h0 ta rw ag h0_argumentCount h0_reason h0_place h0_loaded wa ws h0_program_r h0_coder_r h0_reader_r h0_validator_r ma ta tab ta_length rw rwb rw_length wa wab wac wa_typeCount watt watp watg wa_functionCount waft wa_hasMemory wa_pagesLeast wa_pagesMost wa_globalCount wagt wafy wafv wagc wa_exportCount waek waei waes waez ma ma_pages ma_steps ma_reason magl ma_wafer ma_codes mace mask ma_height mafb mafs maff mafl ma_frameCount malb malh ma_labelCount ma_at)) [0, 1, 2, 3, 4] (by decide) rfl
      exact tz_up (fun _ => rfl) (W.iret (v := rw_length) hx hb hr (fun t ht hW => ⟨⟨(), ⟨rw_length, rfl, (trivial)⟩, va_P.he ht.symm hP9, va_K.moved hW.alike hK, hD9⟩, hS.F ht⟩) hS.2.2 d_WF_count_67)
    · skip
      by_cases g1_68 : p0.toInt = 2
      · have ho1 : tab_off 147 0 8 #[51, 59, 67, 72, 77, 96, 115, 134, 142] p0.toInt = 67 := by rw [g1_68]; rfl
        refine lv_tab (tgt := 68) hx hb d_WF_count_1 (by decide) ho1 (by decide) ?_
        clear ho1
        refine lv_aload_n hx hb d_WF_count_68 rfl (lv_at hl 0 rfl) ?_
        refine va_get (D := (dC, dI)) (ci := 0) (v := .int h0_reason) (C := R_WF) (T := F_WF) (N := 14) hx hb hts i_WF hown hK hP 0 rfl rfl 4 (by decide) (hts _ kF_WF_104) (fun _ h9 => h9) rfl d_WF_count_69 ?_
        have hP9 := hP.sb (wq := (wz_264 h0 ta rw ag h0_argumentCount h0_reason h0_place h0_loaded wa ws h0_program_r h0_coder_r h0_reader_r h0_validator_r ma ta tab ta_length rw rwb rw_length wa wab wac wa_typeCount watt watp watg wa_functionCount waft wa_hasMemory wa_pagesLeast wa_pagesMost wa_globalCount wagt wafy wafv wagc wa_exportCount waek waei waes waez ma ma_pages ma_steps ma_reason magl ma_wafer ma_codes mace mask ma_height mafb mafs maff mafl ma_frameCount malb malh ma_labelCount ma_at)) [0, 1, 2, 3, 4] rfl
        have hD9 := hD.sb (wq := (wz_264 h0 ta rw ag h0_argumentCount h0_reason h0_place h0_loaded wa ws h0_program_r h0_coder_r h0_reader_r h0_validator_r ma ta tab ta_length rw rwb rw_length wa wab wac wa_typeCount watt watp watg wa_functionCount waft wa_hasMemory wa_pagesLeast wa_pagesMost wa_globalCount wagt wafy wafv wagc wa_exportCount waek waei waes waez ma ma_pages ma_steps ma_reason magl ma_wafer ma_codes mace mask ma_height mafb mafs maff mafl ma_frameCount malb malh ma_labelCount ma_at)) [0, 1, 2, 3, 4] (by decide) rfl
        exact tz_up (fun _ => rfl) (W.iret (v := h0_reason) hx hb hr (fun t ht hW => ⟨⟨(), ⟨h0_reason, rfl, (trivial)⟩, va_P.he ht.symm hP9, va_K.moved hW.alike hK, hD9⟩, hS.F ht⟩) hS.2.2 d_WF_count_72)
      · skip
        by_cases g1_73 : p0.toInt = 3
        · have ho1 : tab_off 147 0 8 #[51, 59, 67, 72, 77, 96, 115, 134, 142] p0.toInt = 72 := by rw [g1_73]; rfl
          refine lv_tab (tgt := 73) hx hb d_WF_count_1 (by decide) ho1 (by decide) ?_
          clear ho1
          refine lv_aload_n hx hb d_WF_count_73 rfl (lv_at hl 0 rfl) ?_
          refine va_get (D := (dC, dI)) (ci := 0) (v := .int h0_place) (C := R_WF) (T := F_WF) (N := 14) hx hb hts i_WF hown hK hP 0 rfl rfl 5 (by decide) (hts _ kF_WF_27) (fun _ h9 => h9) rfl d_WF_count_74 ?_
          have hP9 := hP.sb (wq := (wz_264 h0 ta rw ag h0_argumentCount h0_reason h0_place h0_loaded wa ws h0_program_r h0_coder_r h0_reader_r h0_validator_r ma ta tab ta_length rw rwb rw_length wa wab wac wa_typeCount watt watp watg wa_functionCount waft wa_hasMemory wa_pagesLeast wa_pagesMost wa_globalCount wagt wafy wafv wagc wa_exportCount waek waei waes waez ma ma_pages ma_steps ma_reason magl ma_wafer ma_codes mace mask ma_height mafb mafs maff mafl ma_frameCount malb malh ma_labelCount ma_at)) [0, 1, 2, 3, 4] rfl
          have hD9 := hD.sb (wq := (wz_264 h0 ta rw ag h0_argumentCount h0_reason h0_place h0_loaded wa ws h0_program_r h0_coder_r h0_reader_r h0_validator_r ma ta tab ta_length rw rwb rw_length wa wab wac wa_typeCount watt watp watg wa_functionCount waft wa_hasMemory wa_pagesLeast wa_pagesMost wa_globalCount wagt wafy wafv wagc wa_exportCount waek waei waes waez ma ma_pages ma_steps ma_reason magl ma_wafer ma_codes mace mask ma_height mafb mafs maff mafl ma_frameCount malb malh ma_labelCount ma_at)) [0, 1, 2, 3, 4] (by decide) rfl
          exact tz_up (fun _ => rfl) (W.iret (v := h0_place) hx hb hr (fun t ht hW => ⟨⟨(), ⟨h0_place, rfl, (trivial)⟩, va_P.he ht.symm hP9, va_K.moved hW.alike hK, hD9⟩, hS.F ht⟩) hS.2.2 d_WF_count_77)
        · skip
          by_cases g1_78 : p0.toInt = 4
          · have ho1 : tab_off 147 0 8 #[51, 59, 67, 72, 77, 96, 115, 134, 142] p0.toInt = 77 := by rw [g1_78]; rfl
            refine lv_tab (tgt := 78) hx hb d_WF_count_1 (by decide) ho1 (by decide) ?_
            clear ho1
            refine lv_aload_n hx hb d_WF_count_78 rfl (lv_at hl 0 rfl) ?_
            refine va_get (D := (dC, dI)) (ci := 0) (v := .int h0_loaded) (C := R_WF) (T := F_WF) (N := 14) hx hb hts i_WF hown hK hP 0 rfl rfl 6 (by decide) (hts _ kF_WF_128) (fun _ h9 => h9) rfl d_WF_count_79 ?_
            refine lv_if_eq (tgt := 95) hx hb d_WF_count_82 (by decide) (fun c82 => ?_) (fun c82 => ?_)
            · have q82 := eqI c82
              refine lv_iconst (v := (-1)) hx hb d_WF_count_95 (by decide) ?_
              have hP9 := hP.sb (wq := (wz_264 h0 ta rw ag h0_argumentCount h0_reason h0_place h0_loaded wa ws h0_program_r h0_coder_r h0_reader_r h0_validator_r ma ta tab ta_length rw rwb rw_length wa wab wac wa_typeCount watt watp watg wa_functionCount waft wa_hasMemory wa_pagesLeast wa_pagesMost wa_globalCount wagt wafy wafv wagc wa_exportCount waek waei waes waez ma ma_pages ma_steps ma_reason magl ma_wafer ma_codes mace mask ma_height mafb mafs maff mafl ma_frameCount malb malh ma_labelCount ma_at)) [0, 1, 2, 3, 4] rfl
              have hD9 := hD.sb (wq := (wz_264 h0 ta rw ag h0_argumentCount h0_reason h0_place h0_loaded wa ws h0_program_r h0_coder_r h0_reader_r h0_validator_r ma ta tab ta_length rw rwb rw_length wa wab wac wa_typeCount watt watp watg wa_functionCount waft wa_hasMemory wa_pagesLeast wa_pagesMost wa_globalCount wagt wafy wafv wagc wa_exportCount waek waei waes waez ma ma_pages ma_steps ma_reason magl ma_wafer ma_codes mace mask ma_height mafb mafs maff mafl ma_frameCount malb malh ma_labelCount ma_at)) [0, 1, 2, 3, 4] (by decide) rfl
              exact tz_up (fun _ => rfl) (W.iret (v := ((-1))) hx hb hr (fun t ht hW => ⟨⟨(), ⟨(-1), rfl, (trivial)⟩, va_P.he ht.symm hP9, va_K.moved hW.alike hK, hD9⟩, hS.F ht⟩) hS.2.2 d_WF_count_96)
            · have q82 := neI c82
              refine lv_aload_n hx hb d_WF_count_85 rfl (lv_at hl 0 rfl) ?_
              refine va_get (D := (dC, dI)) (ci := 0) (v := .ref wa) (C := R_WF) (T := F_WF) (N := 14) hx hb hts i_WF hown hK hP 0 rfl rfl 7 (by decide) (hts _ kF_WF_34) (fun _ h9 => h9) rfl d_WF_count_86 ?_
              refine va_get (D := (dC, dI)) (ci := 10) (v := .int wa_functionCount) (C := R_WA) (T := F_WA) (N := 21) hx hb hts i_WA hown hK hP 3 rfl rfl 6 (by decide) (hts _ kF_WF_125) (fun _ h9 => h9) rfl d_WF_count_89 ?_
              refine lv_goto (tgt := 96) hx hb d_WF_count_92 (by decide) ?_
              have hP9 := hP.sb (wq := (wz_264 h0 ta rw ag h0_argumentCount h0_reason h0_place h0_loaded wa ws h0_program_r h0_coder_r h0_reader_r h0_validator_r ma ta tab ta_length rw rwb rw_length wa wab wac wa_typeCount watt watp watg wa_functionCount waft wa_hasMemory wa_pagesLeast wa_pagesMost wa_globalCount wagt wafy wafv wagc wa_exportCount waek waei waes waez ma ma_pages ma_steps ma_reason magl ma_wafer ma_codes mace mask ma_height mafb mafs maff mafl ma_frameCount malb malh ma_labelCount ma_at)) [0, 1, 2, 3, 4] rfl
              have hD9 := hD.sb (wq := (wz_264 h0 ta rw ag h0_argumentCount h0_reason h0_place h0_loaded wa ws h0_program_r h0_coder_r h0_reader_r h0_validator_r ma ta tab ta_length rw rwb rw_length wa wab wac wa_typeCount watt watp watg wa_functionCount waft wa_hasMemory wa_pagesLeast wa_pagesMost wa_globalCount wagt wafy wafv wagc wa_exportCount waek waei waes waez ma ma_pages ma_steps ma_reason magl ma_wafer ma_codes mace mask ma_height mafb mafs maff mafl ma_frameCount malb malh ma_labelCount ma_at)) [0, 1, 2, 3, 4] (by decide) rfl
              exact tz_up (fun _ => rfl) (W.iret (v := wa_functionCount) hx hb hr (fun t ht hW => ⟨⟨(), ⟨wa_functionCount, rfl, (trivial)⟩, va_P.he ht.symm hP9, va_K.moved hW.alike hK, hD9⟩, hS.F ht⟩) hS.2.2 d_WF_count_96)
          · skip
            by_cases g1_97 : p0.toInt = 5
            · have ho1 : tab_off 147 0 8 #[51, 59, 67, 72, 77, 96, 115, 134, 142] p0.toInt = 96 := by rw [g1_97]; rfl
              refine lv_tab (tgt := 97) hx hb d_WF_count_1 (by decide) ho1 (by decide) ?_
              clear ho1
              refine lv_aload_n hx hb d_WF_count_97 rfl (lv_at hl 0 rfl) ?_
              refine va_get (D := (dC, dI)) (ci := 0) (v := .int h0_loaded) (C := R_WF) (T := F_WF) (N := 14) hx hb hts i_WF hown hK hP 0 rfl rfl 6 (by decide) (hts _ kF_WF_128) (fun _ h9 => h9) rfl d_WF_count_98 ?_
              refine lv_if_eq (tgt := 114) hx hb d_WF_count_101 (by decide) (fun c101 => ?_) (fun c101 => ?_)
              · have q101 := eqI c101
                refine lv_iconst (v := (-1)) hx hb d_WF_count_114 (by decide) ?_
                have hP9 := hP.sb (wq := (wz_264 h0 ta rw ag h0_argumentCount h0_reason h0_place h0_loaded wa ws h0_program_r h0_coder_r h0_reader_r h0_validator_r ma ta tab ta_length rw rwb rw_length wa wab wac wa_typeCount watt watp watg wa_functionCount waft wa_hasMemory wa_pagesLeast wa_pagesMost wa_globalCount wagt wafy wafv wagc wa_exportCount waek waei waes waez ma ma_pages ma_steps ma_reason magl ma_wafer ma_codes mace mask ma_height mafb mafs maff mafl ma_frameCount malb malh ma_labelCount ma_at)) [0, 1, 2, 3, 4] rfl
                have hD9 := hD.sb (wq := (wz_264 h0 ta rw ag h0_argumentCount h0_reason h0_place h0_loaded wa ws h0_program_r h0_coder_r h0_reader_r h0_validator_r ma ta tab ta_length rw rwb rw_length wa wab wac wa_typeCount watt watp watg wa_functionCount waft wa_hasMemory wa_pagesLeast wa_pagesMost wa_globalCount wagt wafy wafv wagc wa_exportCount waek waei waes waez ma ma_pages ma_steps ma_reason magl ma_wafer ma_codes mace mask ma_height mafb mafs maff mafl ma_frameCount malb malh ma_labelCount ma_at)) [0, 1, 2, 3, 4] (by decide) rfl
                exact tz_up (fun _ => rfl) (W.iret (v := ((-1))) hx hb hr (fun t ht hW => ⟨⟨(), ⟨(-1), rfl, (trivial)⟩, va_P.he ht.symm hP9, va_K.moved hW.alike hK, hD9⟩, hS.F ht⟩) hS.2.2 d_WF_count_115)
              · have q101 := neI c101
                refine lv_aload_n hx hb d_WF_count_104 rfl (lv_at hl 0 rfl) ?_
                refine va_get (D := (dC, dI)) (ci := 0) (v := .ref wa) (C := R_WF) (T := F_WF) (N := 14) hx hb hts i_WF hown hK hP 0 rfl rfl 7 (by decide) (hts _ kF_WF_34) (fun _ h9 => h9) rfl d_WF_count_105 ?_
                refine va_get (D := (dC, dI)) (ci := 10) (v := .int wa_globalCount) (C := R_WA) (T := F_WA) (N := 21) hx hb hts i_WA hown hK hP 3 rfl rfl 11 (by decide) (hts _ kF_WF_154) (fun _ h9 => h9) rfl d_WF_count_108 ?_
                refine lv_goto (tgt := 115) hx hb d_WF_count_111 (by decide) ?_
                have hP9 := hP.sb (wq := (wz_264 h0 ta rw ag h0_argumentCount h0_reason h0_place h0_loaded wa ws h0_program_r h0_coder_r h0_reader_r h0_validator_r ma ta tab ta_length rw rwb rw_length wa wab wac wa_typeCount watt watp watg wa_functionCount waft wa_hasMemory wa_pagesLeast wa_pagesMost wa_globalCount wagt wafy wafv wagc wa_exportCount waek waei waes waez ma ma_pages ma_steps ma_reason magl ma_wafer ma_codes mace mask ma_height mafb mafs maff mafl ma_frameCount malb malh ma_labelCount ma_at)) [0, 1, 2, 3, 4] rfl
                have hD9 := hD.sb (wq := (wz_264 h0 ta rw ag h0_argumentCount h0_reason h0_place h0_loaded wa ws h0_program_r h0_coder_r h0_reader_r h0_validator_r ma ta tab ta_length rw rwb rw_length wa wab wac wa_typeCount watt watp watg wa_functionCount waft wa_hasMemory wa_pagesLeast wa_pagesMost wa_globalCount wagt wafy wafv wagc wa_exportCount waek waei waes waez ma ma_pages ma_steps ma_reason magl ma_wafer ma_codes mace mask ma_height mafb mafs maff mafl ma_frameCount malb malh ma_labelCount ma_at)) [0, 1, 2, 3, 4] (by decide) rfl
                exact tz_up (fun _ => rfl) (W.iret (v := wa_globalCount) hx hb hr (fun t ht hW => ⟨⟨(), ⟨wa_globalCount, rfl, (trivial)⟩, va_P.he ht.symm hP9, va_K.moved hW.alike hK, hD9⟩, hS.F ht⟩) hS.2.2 d_WF_count_115)
            · skip
              by_cases g1_116 : p0.toInt = 6
              · have ho1 : tab_off 147 0 8 #[51, 59, 67, 72, 77, 96, 115, 134, 142] p0.toInt = 115 := by rw [g1_116]; rfl
                refine lv_tab (tgt := 116) hx hb d_WF_count_1 (by decide) ho1 (by decide) ?_
                clear ho1
                refine lv_aload_n hx hb d_WF_count_116 rfl (lv_at hl 0 rfl) ?_
                refine va_get (D := (dC, dI)) (ci := 0) (v := .int h0_loaded) (C := R_WF) (T := F_WF) (N := 14) hx hb hts i_WF hown hK hP 0 rfl rfl 6 (by decide) (hts _ kF_WF_128) (fun _ h9 => h9) rfl d_WF_count_117 ?_
                refine lv_if_eq (tgt := 133) hx hb d_WF_count_120 (by decide) (fun c120 => ?_) (fun c120 => ?_)
                · have q120 := eqI c120
                  refine lv_iconst (v := (-1)) hx hb d_WF_count_133 (by decide) ?_
                  have hP9 := hP.sb (wq := (wz_264 h0 ta rw ag h0_argumentCount h0_reason h0_place h0_loaded wa ws h0_program_r h0_coder_r h0_reader_r h0_validator_r ma ta tab ta_length rw rwb rw_length wa wab wac wa_typeCount watt watp watg wa_functionCount waft wa_hasMemory wa_pagesLeast wa_pagesMost wa_globalCount wagt wafy wafv wagc wa_exportCount waek waei waes waez ma ma_pages ma_steps ma_reason magl ma_wafer ma_codes mace mask ma_height mafb mafs maff mafl ma_frameCount malb malh ma_labelCount ma_at)) [0, 1, 2, 3, 4] rfl
                  have hD9 := hD.sb (wq := (wz_264 h0 ta rw ag h0_argumentCount h0_reason h0_place h0_loaded wa ws h0_program_r h0_coder_r h0_reader_r h0_validator_r ma ta tab ta_length rw rwb rw_length wa wab wac wa_typeCount watt watp watg wa_functionCount waft wa_hasMemory wa_pagesLeast wa_pagesMost wa_globalCount wagt wafy wafv wagc wa_exportCount waek waei waes waez ma ma_pages ma_steps ma_reason magl ma_wafer ma_codes mace mask ma_height mafb mafs maff mafl ma_frameCount malb malh ma_labelCount ma_at)) [0, 1, 2, 3, 4] (by decide) rfl
                  exact tz_up (fun _ => rfl) (W.iret (v := ((-1))) hx hb hr (fun t ht hW => ⟨⟨(), ⟨(-1), rfl, (trivial)⟩, va_P.he ht.symm hP9, va_K.moved hW.alike hK, hD9⟩, hS.F ht⟩) hS.2.2 d_WF_count_134)
                · have q120 := neI c120
                  refine lv_aload_n hx hb d_WF_count_123 rfl (lv_at hl 0 rfl) ?_
                  refine va_get (D := (dC, dI)) (ci := 0) (v := .ref ma) (C := R_WF) (T := F_WF) (N := 14) hx hb hts i_WF hown hK hP 0 rfl rfl 13 (by decide) (hts _ kF_WF_81) (fun _ h9 => h9) rfl d_WF_count_124 ?_
                  refine va_get (D := (dC, dI)) (ci := 4) (v := .int ma_pages) (C := R_MA) (T := F_MA) (N := 18) hx hb hts i_MA hown hK hP 4 rfl rfl 0 (by decide) (hts _ kF_WF_160) (fun _ h9 => h9) rfl d_WF_count_127 ?_
                  refine lv_goto (tgt := 134) hx hb d_WF_count_130 (by decide) ?_
                  have hP9 := hP.sb (wq := (wz_264 h0 ta rw ag h0_argumentCount h0_reason h0_place h0_loaded wa ws h0_program_r h0_coder_r h0_reader_r h0_validator_r ma ta tab ta_length rw rwb rw_length wa wab wac wa_typeCount watt watp watg wa_functionCount waft wa_hasMemory wa_pagesLeast wa_pagesMost wa_globalCount wagt wafy wafv wagc wa_exportCount waek waei waes waez ma ma_pages ma_steps ma_reason magl ma_wafer ma_codes mace mask ma_height mafb mafs maff mafl ma_frameCount malb malh ma_labelCount ma_at)) [0, 1, 2, 3, 4] rfl
                  have hD9 := hD.sb (wq := (wz_264 h0 ta rw ag h0_argumentCount h0_reason h0_place h0_loaded wa ws h0_program_r h0_coder_r h0_reader_r h0_validator_r ma ta tab ta_length rw rwb rw_length wa wab wac wa_typeCount watt watp watg wa_functionCount waft wa_hasMemory wa_pagesLeast wa_pagesMost wa_globalCount wagt wafy wafv wagc wa_exportCount waek waei waes waez ma ma_pages ma_steps ma_reason magl ma_wafer ma_codes mace mask ma_height mafb mafs maff mafl ma_frameCount malb malh ma_labelCount ma_at)) [0, 1, 2, 3, 4] (by decide) rfl
                  exact tz_up (fun _ => rfl) (W.iret (v := ma_pages) hx hb hr (fun t ht hW => ⟨⟨(), ⟨ma_pages, rfl, (trivial)⟩, va_P.he ht.symm hP9, va_K.moved hW.alike hK, hD9⟩, hS.F ht⟩) hS.2.2 d_WF_count_134)
              · skip
                by_cases g1_135 : p0.toInt = 7
                · have ho1 : tab_off 147 0 8 #[51, 59, 67, 72, 77, 96, 115, 134, 142] p0.toInt = 134 := by rw [g1_135]; rfl
                  refine lv_tab (tgt := 135) hx hb d_WF_count_1 (by decide) ho1 (by decide) ?_
                  clear ho1
                  refine lv_aload_n hx hb d_WF_count_135 rfl (lv_at hl 0 rfl) ?_
                  refine va_get (D := (dC, dI)) (ci := 0) (v := .ref ma) (C := R_WF) (T := F_WF) (N := 14) hx hb hts i_WF hown hK hP 0 rfl rfl 13 (by decide) (hts _ kF_WF_81) (fun _ h9 => h9) rfl d_WF_count_136 ?_
                  refine va_get (D := (dC, dI)) (ci := 4) (v := .int ma_steps) (C := R_MA) (T := F_MA) (N := 18) hx hb hts i_MA hown hK hP 4 rfl rfl 1 (by decide) (hts _ kF_WF_170) (fun _ h9 => h9) rfl d_WF_count_139 ?_
                  have hP9 := hP.sb (wq := (wz_264 h0 ta rw ag h0_argumentCount h0_reason h0_place h0_loaded wa ws h0_program_r h0_coder_r h0_reader_r h0_validator_r ma ta tab ta_length rw rwb rw_length wa wab wac wa_typeCount watt watp watg wa_functionCount waft wa_hasMemory wa_pagesLeast wa_pagesMost wa_globalCount wagt wafy wafv wagc wa_exportCount waek waei waes waez ma ma_pages ma_steps ma_reason magl ma_wafer ma_codes mace mask ma_height mafb mafs maff mafl ma_frameCount malb malh ma_labelCount ma_at)) [0, 1, 2, 3, 4] rfl
                  have hD9 := hD.sb (wq := (wz_264 h0 ta rw ag h0_argumentCount h0_reason h0_place h0_loaded wa ws h0_program_r h0_coder_r h0_reader_r h0_validator_r ma ta tab ta_length rw rwb rw_length wa wab wac wa_typeCount watt watp watg wa_functionCount waft wa_hasMemory wa_pagesLeast wa_pagesMost wa_globalCount wagt wafy wafv wagc wa_exportCount waek waei waes waez ma ma_pages ma_steps ma_reason magl ma_wafer ma_codes mace mask ma_height mafb mafs maff mafl ma_frameCount malb malh ma_labelCount ma_at)) [0, 1, 2, 3, 4] (by decide) rfl
                  exact tz_up (fun _ => rfl) (W.iret (v := ma_steps) hx hb hr (fun t ht hW => ⟨⟨(), ⟨ma_steps, rfl, (trivial)⟩, va_P.he ht.symm hP9, va_K.moved hW.alike hK, hD9⟩, hS.F ht⟩) hS.2.2 d_WF_count_142)
                · skip
                  by_cases g1_143 : p0.toInt = 8
                  · have ho1 : tab_off 147 0 8 #[51, 59, 67, 72, 77, 96, 115, 134, 142] p0.toInt = 142 := by rw [g1_143]; rfl
                    refine lv_tab (tgt := 143) hx hb d_WF_count_1 (by decide) ho1 (by decide) ?_
                    clear ho1
                    refine lv_aload_n hx hb d_WF_count_143 rfl (lv_at hl 0 rfl) ?_
                    refine va_get (D := (dC, dI)) (ci := 0) (v := .int h0_argumentCount) (C := R_WF) (T := F_WF) (N := 14) hx hb hts i_WF hown hK hP 0 rfl rfl 3 (by decide) (hts _ kF_WF_139) (fun _ h9 => h9) rfl d_WF_count_144 ?_
                    have hP9 := hP.sb (wq := (wz_264 h0 ta rw ag h0_argumentCount h0_reason h0_place h0_loaded wa ws h0_program_r h0_coder_r h0_reader_r h0_validator_r ma ta tab ta_length rw rwb rw_length wa wab wac wa_typeCount watt watp watg wa_functionCount waft wa_hasMemory wa_pagesLeast wa_pagesMost wa_globalCount wagt wafy wafv wagc wa_exportCount waek waei waes waez ma ma_pages ma_steps ma_reason magl ma_wafer ma_codes mace mask ma_height mafb mafs maff mafl ma_frameCount malb malh ma_labelCount ma_at)) [0, 1, 2, 3, 4] rfl
                    have hD9 := hD.sb (wq := (wz_264 h0 ta rw ag h0_argumentCount h0_reason h0_place h0_loaded wa ws h0_program_r h0_coder_r h0_reader_r h0_validator_r ma ta tab ta_length rw rwb rw_length wa wab wac wa_typeCount watt watp watg wa_functionCount waft wa_hasMemory wa_pagesLeast wa_pagesMost wa_globalCount wagt wafy wafv wagc wa_exportCount waek waei waes waez ma ma_pages ma_steps ma_reason magl ma_wafer ma_codes mace mask ma_height mafb mafs maff mafl ma_frameCount malb malh ma_labelCount ma_at)) [0, 1, 2, 3, 4] (by decide) rfl
                    exact tz_up (fun _ => rfl) (W.iret (v := h0_argumentCount) hx hb hr (fun t ht hW => ⟨⟨(), ⟨h0_argumentCount, rfl, (trivial)⟩, va_P.he ht.symm hP9, va_K.moved hW.alike hK, hD9⟩, hS.F ht⟩) hS.2.2 d_WF_count_147)
                  · skip
                    have ho1 : tab_off 147 0 8 #[51, 59, 67, 72, 77, 96, 115, 134, 142] p0.toInt = 147 := by
                      unfold tab_off
                      split
                      · rfl
                      · exfalso; (first | (apply Int.le_antisymm <;> omega) | omega)
                    refine lv_tab (tgt := 148) hx hb d_WF_count_1 (by decide) ho1 (by decide) ?_
                    clear ho1
                    have hP9 := hP.sb (wq := (wz_264 h0 ta rw ag h0_argumentCount h0_reason h0_place h0_loaded wa ws h0_program_r h0_coder_r h0_reader_r h0_validator_r ma ta tab ta_length rw rwb rw_length wa wab wac wa_typeCount watt watp watg wa_functionCount waft wa_hasMemory wa_pagesLeast wa_pagesMost wa_globalCount wagt wafy wafv wagc wa_exportCount waek waei waes waez ma ma_pages ma_steps ma_reason magl ma_wafer ma_codes mace mask ma_height mafb mafs maff mafl ma_frameCount malb malh ma_labelCount ma_at)) [0, 1, 2, 3, 4] rfl
                    have hD9 := hD.sb (wq := (wz_264 h0 ta rw ag h0_argumentCount h0_reason h0_place h0_loaded wa ws h0_program_r h0_coder_r h0_reader_r h0_validator_r ma ta tab ta_length rw rwb rw_length wa wab wac wa_typeCount watt watp watg wa_functionCount waft wa_hasMemory wa_pagesLeast wa_pagesMost wa_globalCount wagt wafy wafv wagc wa_exportCount waek waei waes waez ma ma_pages ma_steps ma_reason magl ma_wafer ma_codes mace mask ma_height mafb mafs maff mafl ma_frameCount malb malh ma_labelCount ma_at)) [0, 1, 2, 3, 4] (by decide) rfl
                    exact tz_throwNew hx hb hno hlocks hlt (hl.1.trans hml.symm) hown (by decide +kernel) (by decide +kernel) (fun U hU hW => eb_WF_ia hts hSW hS U hU hW) d_WF_count_148 d_WF_count_151 d_WF_count_152 d_WF_count_155 (by decide) (Nat.le_of_ble_eq_true rfl) (Nat.le_of_ble_eq_true rfl) (Nat.le_of_ble_eq_true rfl) (fun _ => rfl) (fun x t h1 h2 h3 h4 => ⟨⟨(), ⟨trivial, h3⟩, vp_ext hP9 h2, va_K.moved h4.alike hK, hD9⟩, vs_ext hS h1 h2⟩) hS.2.2
end q_99c
section q_99d
/-! WaferForge: emit, global, memory: several classes thrown -/
def tm_i {S : Type} (pr : Int32 → S → Prop) (C : List String) (pt : S → Prop) : Outcome → S → State → Prop := fun o u t => match o with | .returned v => (∃ r : Int32, v = some (.int r) ∧ pr r u) | .threw x => pt u ∧ ∃ c, c ∈ C ∧ xo c x t t.heap
def tm_l {S : Type} (pr : Int64 → S → Prop) (C : List String) (pt : S → Prop) : Outcome → S → State → Prop := fun o u t => match o with | .returned v => (∃ r : Int64, v = some (.long r) ∧ pr r u) | .threw x => pt u ∧ ∃ c, c ∈ C ∧ xo c x t t.heap
abbrev b_WF_emit : ByteArray := prog_1_method_6_code
def y_WF_emit : MethodName := ⟨R_WF, "emit", "()I"⟩
abbrev w_WF_emit : List Cond := .code y_WF_emit b_WF_emit 1 (Option.some .int) :: lw_g
theorem kC_WF_emit : Cond.code y_WF_emit b_WF_emit 1 (Option.some .int) ∈ lw_g := in_c7 62 rfl rfl
theorem d_WF_emit_0 : decode b_WF_emit 0 = .ok (.aload_n 0, 1) := bz_c42 (by decide +kernel)
theorem d_WF_emit_1 : decode b_WF_emit 1 = .ok (.getfield 128, 3) := bz_c180 (by decide +kernel)
theorem d_WF_emit_4 : decode b_WF_emit 4 = .ok (.ifCond .ne 11, 3) := bz_c154 (by decide +kernel)
theorem d_WF_emit_7 : decode b_WF_emit 7 = .ok (.new 132, 3) := bz_c187 (by decide +kernel)
theorem d_WF_emit_10 : decode b_WF_emit 10 = .ok (.dup, 1) := bz_c89 (by decide +kernel)
theorem d_WF_emit_11 : decode b_WF_emit 11 = .ok (.invokespecial 134, 3) := bz_c183 (by decide +kernel)
theorem d_WF_emit_14 : decode b_WF_emit 14 = .ok (.athrow, 1) := bz_c191 (by decide +kernel)
theorem d_WF_emit_15 : decode b_WF_emit 15 = .ok (.aload_n 0, 1) := bz_c42 (by decide +kernel)
theorem d_WF_emit_16 : decode b_WF_emit 16 = .ok (.getfield 20, 3) := bz_c180 (by decide +kernel)
theorem d_WF_emit_19 : decode b_WF_emit 19 = .ok (.aload_n 0, 1) := bz_c42 (by decide +kernel)
theorem d_WF_emit_20 : decode b_WF_emit 20 = .ok (.getfield 34, 3) := bz_c180 (by decide +kernel)
theorem d_WF_emit_23 : decode b_WF_emit 23 = .ok (.getfield 116, 3) := bz_c180 (by decide +kernel)
theorem d_WF_emit_26 : decode b_WF_emit 26 = .ok (.invokevirtual 119, 3) := bz_c182 (by decide +kernel)
theorem d_WF_emit_29 : decode b_WF_emit 29 = .ok (.aload_n 0, 1) := bz_c42 (by decide +kernel)
theorem d_WF_emit_30 : decode b_WF_emit 30 = .ok (.getfield 20, 3) := bz_c180 (by decide +kernel)
theorem d_WF_emit_33 : decode b_WF_emit 33 = .ok (.getfield 85, 3) := bz_c180 (by decide +kernel)
theorem d_WF_emit_36 : decode b_WF_emit 36 = .ok (.ireturn, 1) := bz_c172 (by decide +kernel)
theorem kM_WF_119 : Cond.methodLink R_WF 119 y_BR_copy ∈ lw_g := in_c6 184 rfl rfl
theorem kV_BR_copy : Cond.instanceMethod y_BR_copy ∈ lw_g := in_c6 185 rfl rfl
theorem kS_BR_copy : Cond.selects R_BR y_BR_copy y_BR_copy ∈ lw_g := in_c6 186 rfl rfl
theorem kF_WF_116 : Cond.fieldLink R_WF 116 "WaferForge$Wafer" "bytes" "LWaferForge$ByteRow;" ∈ lw_g := in_c1 143 rfl rfl
abbrev at_WF_emit (dC : Nat → ClassId) (dI : Nat → Nat → Nat) (sa : Nat → Nat) (h0 ta rw ag wa ws h0_program_r h0_coder_r h0_reader_r h0_validator_r ma rwb wab wac watt watp watg waft wagt wafy wafv wagc waek waei waes waez wabb : Nat) (crwb cwabb : ClassId) (h0_argumentCount : Int32) (h0_reason : Int32) (h0_place : Int32) (h0_loaded : Int32) (wa_typeCount : Int32) (wa_functionCount : Int32) (wa_hasMemory : Int32) (wa_pagesLeast : Int64) (wa_pagesMost : Int64) (wa_globalCount : Int32) (wa_exportCount : Int32) (wab_length : Int32) (gwabb : Nat → Int32) (A : Nat → Prop) (u : (Nat → Int32) × Int32) (t : State) : Prop := match u with | (grwb, rw_length) => va_P (dC, dI) cls (wz_265 h0 ta rw ag h0_argumentCount h0_reason h0_place h0_loaded wa ws h0_program_r h0_coder_r h0_reader_r h0_validator_r ma rw rwb rw_length rwb crwb grwb wa wab wac wa_typeCount watt watp watg wa_functionCount waft wa_hasMemory wa_pagesLeast wa_pagesMost wa_globalCount wagt wafy wafv wagc wa_exportCount waek waei waes waez wab wabb wab_length wabb cwabb gwabb) t.heap ∧ va_K (dC, dI) cls [(crwb, .byte), (cwabb, .byte)] t ∧ va_D A (wz_265 h0 ta rw ag h0_argumentCount h0_reason h0_place h0_loaded wa ws h0_program_r h0_coder_r h0_reader_r h0_validator_r ma rw rwb rw_length rwb crwb grwb wa wab wac wa_typeCount watt watp watg wa_functionCount waft wa_hasMemory wa_pagesLeast wa_pagesMost wa_globalCount wagt wafy wafv wagc wa_exportCount waek waei waes waez wab wabb wab_length wabb cwabb gwabb)
set_option maxHeartbeats 4000000 in
set_option maxRecDepth 100000 in
theorem c_WF_emit (l : Launch) (hlt : l.stackTraces = false) (dC : Nat → ClassId) (dI : Nat → Nat → Nat) (sz : Nat) (sa : Nat → Nat) (h0 ta rw ag wa ws h0_program_r h0_coder_r h0_reader_r h0_validator_r ma rwb wab wac watt watp watg waft wagt wafy wafv wagc waek waei waes waez wabb : Nat) (crwb cwabb : ClassId) (h0_argumentCount : Int32) (h0_reason : Int32) (h0_place : Int32) (h0_loaded : Int32) (rw_length : Int32) (grwb : Nat → Int32) (wa_typeCount : Int32) (wa_functionCount : Int32) (wa_hasMemory : Int32) (wa_pagesLeast : Int64) (wa_pagesMost : Int64) (wa_globalCount : Int32) (wa_exportCount : Int32) (wab_length : Int32) (gwabb : Nat → Int32)  (b_h0_loaded : h0_loaded = 0 ∨ h0_loaded = 1) (b_rw_length : 0 ≤ rw_length.toInt ∧ rw_length.toInt ≤ 8192) (b_wab_length : 0 ≤ wab_length.toInt ∧ wab_length.toInt ≤ 8192)    : tz_Met l y_WF_emit w_WF_emit ({ frames := 6, cells := 1, slots := 6, locals := 90 }) (va_Pc [.ref h0] (fun U => U.heap.size = sz ∧ va_P (dC, dI) cls (wz_265 h0 ta rw ag h0_argumentCount h0_reason h0_place h0_loaded wa ws h0_program_r h0_coder_r h0_reader_r h0_validator_r ma rw rwb rw_length rwb crwb grwb wa wab wac wa_typeCount watt watp watg wa_functionCount waft wa_hasMemory wa_pagesLeast wa_pagesMost wa_globalCount wagt wafy wafv wagc wa_exportCount waek waei waes waez wab wabb wab_length wabb cwabb gwabb) U.heap ∧ va_K (dC, dI) cls [(crwb, .byte), (cwabb, .byte)] U ∧ va_D (fun _ => True) (wz_265 h0 ta rw ag h0_argumentCount h0_reason h0_place h0_loaded wa ws h0_program_r h0_coder_r h0_reader_r h0_validator_r ma rw rwb rw_length rwb crwb grwb wa wab wac wa_typeCount watt watp watg wa_functionCount waft wa_hasMemory wa_pagesLeast wa_pagesMost wa_globalCount wagt wafy wafv wagc wa_exportCount waek waei waes waez wab wabb wab_length wabb cwabb gwabb) ∧ sw sa (va_A (wz_265 h0 ta rw ag h0_argumentCount h0_reason h0_place h0_loaded wa ws h0_program_r h0_coder_r h0_reader_r h0_validator_r ma rw rwb rw_length rwb crwb grwb wa wab wac wa_typeCount watt watp watg wa_functionCount waft wa_hasMemory wa_pagesLeast wa_pagesMost wa_globalCount wagt wafy wafv wagc wa_exportCount waek waei waes waez wab wabb wab_length wabb cwabb gwabb) sz) U U.heap)) (tq_Q (tq_i (fun (r : Int32) (u : (Nat → Int32) × Int32) => match u with | (grwb2, rw_length2) => (0 ≤ rw_length2.toInt ∧ rw_length2.toInt ≤ 8192) ∧ (True)) "java/lang/IllegalStateException" (fun (u : (Nat → Int32) × Int32) => match u with | (grwb2, rw_length2) => (0 ≤ rw_length2.toInt ∧ rw_length2.toInt ≤ 8192))) (at_WF_emit dC dI sa h0 ta rw ag wa ws h0_program_r h0_coder_r h0_reader_r h0_validator_r ma rwb wab wac watt watp watg waft wagt wafy wafv wagc waek waei waes waez wabb crwb cwabb h0_argumentCount h0_reason h0_place h0_loaded wa_typeCount wa_functionCount wa_hasMemory wa_pagesLeast wa_pagesMost wa_globalCount wa_exportCount wab_length gwabb (va_A (wz_265 h0 ta rw ag h0_argumentCount h0_reason h0_place h0_loaded wa ws h0_program_r h0_coder_r h0_reader_r h0_validator_r ma rw rwb rw_length rwb crwb grwb wa wab wac wa_typeCount watt watp watg wa_functionCount waft wa_hasMemory wa_pagesLeast wa_pagesMost wa_globalCount wagt wafy wafv wagc wa_exportCount waek waei waes waez wab wabb wab_length wabb cwabb gwabb) sz)) (va_A (wz_265 h0 ta rw ag h0_argumentCount h0_reason h0_place h0_loaded wa ws h0_program_r h0_coder_r h0_reader_r h0_validator_r ma rw rwb rw_length rwb crwb grwb wa wab wac wa_typeCount watt watp watg wa_functionCount waft wa_hasMemory wa_pagesLeast wa_pagesMost wa_globalCount wagt wafy wafv wagc wa_exportCount waek waei waes waez wab wabb wab_length wabb cwabb gwabb) sz)) (tz_k 0 0 1 6) (va_A (wz_265 h0 ta rw ag h0_argumentCount h0_reason h0_place h0_loaded wa ws h0_program_r h0_coder_r h0_reader_r h0_validator_r ma rw rwb rw_length rwb crwb grwb wa wab wac wa_typeCount watt watp watg wa_functionCount waft wa_hasMemory wa_pagesLeast wa_pagesMost wa_globalCount wagt wafy wafv wagc wa_exportCount waek waei waes waez wab wabb wab_length wabb cwabb gwabb) sz) := by
  refine tz_ofW (cc := b_WF_emit) (maxL := 1) (ret := (Option.some .int)) (by decide) rfl ?_
  intro p e s m args below meth c s₁ B hml hno hv
  obtain ⟨rfl, hsz, hP, hK, hD0, hSW⟩ := hv
  have hx := B.exec
  have hb := B.bytes
  have hr := B.returns
  have hts0 := atoms_spec (ws := w_WF_emit) B.pre
  have hts : ∀ w ∈ lw_g, w.before _ s = true := fun w h => hts0 w (List.mem_cons_of_mem _ h)
  have hown : s.vm.findClass R_WF = some m.cls := findClass_of_methodNamed B.named
  have hlocks := B.notSynchronized
  clear hts0
  subst hsz
  have hD := hD0.self (sz := s.heap.size)
  generalize hAe : va_A (wz_265 h0 ta rw ag h0_argumentCount h0_reason h0_place h0_loaded wa ws h0_program_r h0_coder_r h0_reader_r h0_validator_r ma rw rwb rw_length rwb crwb grwb wa wab wac wa_typeCount watt watp watg wa_functionCount waft wa_hasMemory wa_pagesLeast wa_pagesMost wa_globalCount wagt wafy wafv wagc wa_exportCount waek waei waes waez wab wabb wab_length wabb cwabb gwabb) s.heap.size = A at hD hSW ⊢
  have hA : ∀ q : Nat, s.heap.size ≤ q → A q := fun q h => by rw [← hAe]; exact Or.inr h
  clear hAe
  have hP : va_P (dC, dI) cls (wz_265 h0 ta rw ag h0_argumentCount h0_reason h0_place h0_loaded wa ws h0_program_r h0_coder_r h0_reader_r h0_validator_r ma rw rwb rw_length rwb crwb grwb wa wab wac wa_typeCount watt watp watg wa_functionCount waft wa_hasMemory wa_pagesLeast wa_pagesMost wa_globalCount wagt wafy wafv wagc wa_exportCount waek waei waes waez wab wabb wab_length wabb cwabb gwabb) s.heap := hP
  have hl := lv_entry ([.ref h0]) (n := 1) (Nat.le_of_ble_eq_true rfl)
  rw [lg_entry_eq]
  generalize (lg_sl ([.ref h0]) ++ List.replicate (1 - (lg_sl ([.ref h0])).length) Slot.unset).toArray = ls at hl ⊢
  have hl : lv_has ls 1 [(0, .ref h0)] := hl
  have k0 : (0 : Int32).toInt = 0 := by decide
  refine w_gen (A := A) hP (fun H locs hP hS => ?_)
  have th0_loaded := b01 b_h0_loaded
  refine lv_aload_n hx hb d_WF_emit_0 rfl (lv_at hl 0 rfl) ?_
  refine va_get (D := (dC, dI)) (ci := 0) (v := .int h0_loaded) (C := R_WF) (T := F_WF) (N := 14) hx hb hts i_WF hown hK hP 0 rfl rfl 6 (by decide) (hts _ kF_WF_128) (fun _ h9 => h9) rfl d_WF_emit_1 ?_
  refine lv_if_ne (tgt := 15) hx hb d_WF_emit_4 (by decide) (fun c4 => ?_) (fun c4 => ?_)
  · have q4 := neI c4
    refine lv_aload_n hx hb d_WF_emit_15 rfl (lv_at hl 0 rfl) ?_
    refine va_get (D := (dC, dI)) (ci := 0) (v := .ref rw) (C := R_WF) (T := F_WF) (N := 14) hx hb hts i_WF hown hK hP 0 rfl rfl 1 (by decide) (hts _ kF_WF_20) (fun _ h9 => h9) rfl d_WF_emit_16 ?_
    refine lv_aload_n hx hb d_WF_emit_19 rfl (lv_at hl 0 rfl) ?_
    refine va_get (D := (dC, dI)) (ci := 0) (v := .ref wa) (C := R_WF) (T := F_WF) (N := 14) hx hb hts i_WF hown hK hP 0 rfl rfl 7 (by decide) (hts _ kF_WF_34) (fun _ h9 => h9) rfl d_WF_emit_20 ?_
    refine va_get (D := (dC, dI)) (ci := 10) (v := .ref wab) (C := R_WA) (T := F_WA) (N := 21) hx hb hts i_WA hown hK hP 3 rfl rfl 0 (by decide) (hts _ kF_WF_116) (fun _ h9 => h9) rfl d_WF_emit_23 ?_
    have hPc := hP.sb (wq := (wz_214 rw rwb rw_length rwb crwb grwb wab wabb wab_length wabb cwabb gwabb)) [1, 2, 4, 5] rfl
    have hDc := hD.sb (wq := (wz_214 rw rwb rw_length rwb crwb grwb wab wabb wab_length wabb cwabb gwabb)) [1, 2, 4, 5] (by decide) rfl
    have hKc := hK.sb (tyq := [(crwb, .byte), (cwabb, .byte)]) [0, 1] rfl
    have hFc := va_free (wc := (wz_214 rw rwb rw_length rwb crwb grwb wab wabb wab_length wabb cwabb gwabb)) hD hS hA [1, 2, 4, 5] rfl
    refine va_callv (va_runV (As := [.ref wab]) (rest := []) ⟨hx, hb, hml, hown, hts⟩ (c_BR_copy l dC dI rw rwb wab wabb H.size crwb cwabb 8192 8192 rw_length wab_length grwb gwabb (by (first | (apply Int.le_antisymm <;> omega) | omega)) (by (first | (apply Int.le_antisymm <;> omega) | omega)) (by (first | (apply Int.le_antisymm <;> omega) | omega)) (by (first | (apply Int.le_antisymm <;> omega) | omega)) (by (first | (apply Int.le_antisymm <;> omega) | omega)) (by (first | (apply Int.le_antisymm <;> omega) | omega))  (by (first | (apply Int.le_antisymm <;> omega) | omega))) (cwV 1 hts (gV kM_WF_119 kV_BR_copy kS_BR_copy kI_BR kC_BR_copy) rfl rfl rfl (by decide +kernel) ⟨Nat.le_of_ble_eq_true rfl, Nat.le_of_ble_eq_true rfl⟩) ⟨fun a U g mk z => by obtain ⟨z0, z1, zP, zK, zD⟩ := z; exact ⟨z0, z1, zP, va_K.moved (u := U) (U := U.calling g mk a) (Vm.Alike.refl U.vm) zK, zD⟩, va_recv hKc hPc (ci := 1) (q0 := 0) rfl rfl, fun U hU hW => ⟨rfl, by rw [hU], va_P.he hU.symm hPc, va_K.moved hW.alike hKc, hDc.weaken (fun _ _ _ _ => trivial)⟩⟩ rfl rfl hl.1 rfl (lv_room (Nat.le_of_ble_eq_true rfl)) d_WF_emit_26 ⟨(Nat.zero_le _), (Nat.zero_le _)⟩) hS (fun q _ h => hFc q h) hFc (fun u t H1 locs ht hvm hw hB hz1 hk1 hS => ?_)
    obtain ⟨n2, f3⟩ := u
    try dsimp only at hw
    obtain ⟨tn2, bn2⟩ := hw
    obtain ⟨hP1, hK1, hD1⟩ := hB
    replace hP1 := va_P.he ht hP1
    obtain ⟨hP, hD⟩ := va_join (wr := [(h0, .inr (0, [.ref ta, .ref rw, .ref ag, .int h0_argumentCount, .int h0_reason, .int h0_place, .int h0_loaded, .ref wa, .ref ws, .ref h0_program_r, .ref h0_coder_r, .ref h0_reader_r, .ref h0_validator_r, .ref ma])), (wa, .inr (10, [.ref wab, .ref wac, .int wa_typeCount, .ref watt, .ref watp, .ref watg, .int wa_functionCount, .ref waft, .int wa_hasMemory, .long wa_pagesLeast, .long wa_pagesMost, .int wa_globalCount, .ref wagt, .ref wafy, .ref wafv, .ref wagc, .int wa_exportCount, .ref waek, .ref waei, .ref waes, .ref waez]))]) (w1 := (wz_214 rw rwb n2 rwb crwb f3 wab wabb wab_length wabb cwabb gwabb)) hP hD [1, 2, 4, 5] [0, 3] rfl rfl (by decide) (by decide) hk1 hFc hP1 hD1
    clear hPc hDc hKc hFc hz1 hk1 hP1 hK1 hD1
    rename Heap => H
    have hP : va_P (dC, dI) cls [(h0, .inr (0, [.ref ta, .ref rw, .ref ag, .int h0_argumentCount, .int h0_reason, .int h0_place, .int h0_loaded, .ref wa, .ref ws, .ref h0_program_r, .ref h0_coder_r, .ref h0_reader_r, .ref h0_validator_r, .ref ma])), (wa, .inr (10, [.ref wab, .ref wac, .int wa_typeCount, .ref watt, .ref watp, .ref watg, .int wa_functionCount, .ref waft, .int wa_hasMemory, .long wa_pagesLeast, .long wa_pagesMost, .int wa_globalCount, .ref wagt, .ref wafy, .ref wafv, .ref wagc, .int wa_exportCount, .ref waek, .ref waei, .ref waes, .ref waez])), (rw, .inr (1, [.ref rwb, .int n2])), (rwb, .inl (crwb, 8192, .inl f3)), (wab, .inr (1, [.ref wabb, .int wab_length])), (wabb, .inl (cwabb, 8192, .inl gwabb))] H := hP
    have hD : va_D A [(h0, .inr (0, [.ref ta, .ref rw, .ref ag, .int h0_argumentCount, .int h0_reason, .int h0_place, .int h0_loaded, .ref wa, .ref ws, .ref h0_program_r, .ref h0_coder_r, .ref h0_reader_r, .ref h0_validator_r, .ref ma])), (wa, .inr (10, [.ref wab, .ref wac, .int wa_typeCount, .ref watt, .ref watp, .ref watg, .int wa_functionCount, .ref waft, .int wa_hasMemory, .long wa_pagesLeast, .long wa_pagesMost, .int wa_globalCount, .ref wagt, .ref wafy, .ref wafv, .ref wagc, .int wa_exportCount, .ref waek, .ref waei, .ref waes, .ref waez])), (rw, .inr (1, [.ref rwb, .int n2])), (rwb, .inl (crwb, 8192, .inl f3)), (wab, .inr (1, [.ref wabb, .int wab_length])), (wabb, .inl (cwabb, 8192, .inl gwabb))] := hD
    refine lv_aload_n hx hb d_WF_emit_29 rfl (lv_at hl 0 rfl) ?_
    refine va_get (D := (dC, dI)) (ci := 0) (v := .ref rw) (C := R_WF) (T := F_WF) (N := 14) hx hb hts i_WF hown hK hP 0 rfl rfl 1 (by decide) (hts _ kF_WF_20) (fun _ h9 => h9) rfl d_WF_emit_30 ?_
    refine va_get (D := (dC, dI)) (ci := 1) (v := .int n2) (C := R_BR) (T := F_BR) (N := 2) hx hb hts i_BR hown hK hP 2 rfl rfl 1 (by decide) (hts _ kF_WF_85) (fun _ h9 => h9) rfl d_WF_emit_33 ?_
    have hP9 := hP.sb (wq := (wz_265 h0 ta rw ag h0_argumentCount h0_reason h0_place h0_loaded wa ws h0_program_r h0_coder_r h0_reader_r h0_validator_r ma rw rwb n2 rwb crwb f3 wa wab wac wa_typeCount watt watp watg wa_functionCount waft wa_hasMemory wa_pagesLeast wa_pagesMost wa_globalCount wagt wafy wafv wagc wa_exportCount waek waei waes waez wab wabb wab_length wabb cwabb gwabb)) [0, 2, 3, 1, 4, 5] rfl
    have hD9 := hD.sb (wq := (wz_265 h0 ta rw ag h0_argumentCount h0_reason h0_place h0_loaded wa ws h0_program_r h0_coder_r h0_reader_r h0_validator_r ma rw rwb n2 rwb crwb f3 wa wab wac wa_typeCount watt watp watg wa_functionCount waft wa_hasMemory wa_pagesLeast wa_pagesMost wa_globalCount wagt wafy wafv wagc wa_exportCount waek waei waes waez wab wabb wab_length wabb cwabb gwabb)) [0, 2, 3, 1, 4, 5] (by decide) rfl
    exact tz_up (fun _ => rfl) (W.iret (v := n2) hx hb hr (fun t ht hW => ⟨⟨(f3, n2), ⟨n2, rfl, ⟨by (try dsimp only) <;> (first | (apply Int.le_antisymm <;> omega) | omega), trivial⟩⟩, va_P.he ht.symm hP9, va_K.moved hW.alike hK, hD9⟩, hS.F ht⟩) hS.2.2 d_WF_emit_36)
  · have q4 := eqI c4
    have hP9 := hP.sb (wq := (wz_265 h0 ta rw ag h0_argumentCount h0_reason h0_place h0_loaded wa ws h0_program_r h0_coder_r h0_reader_r h0_validator_r ma rw rwb rw_length rwb crwb grwb wa wab wac wa_typeCount watt watp watg wa_functionCount waft wa_hasMemory wa_pagesLeast wa_pagesMost wa_globalCount wagt wafy wafv wagc wa_exportCount waek waei waes waez wab wabb wab_length wabb cwabb gwabb)) [0, 1, 2, 3, 4, 5] rfl
    have hD9 := hD.sb (wq := (wz_265 h0 ta rw ag h0_argumentCount h0_reason h0_place h0_loaded wa ws h0_program_r h0_coder_r h0_reader_r h0_validator_r ma rw rwb rw_length rwb crwb grwb wa wab wac wa_typeCount watt watp watg wa_functionCount waft wa_hasMemory wa_pagesLeast wa_pagesMost wa_globalCount wagt wafy wafv wagc wa_exportCount waek waei waes waez wab wabb wab_length wabb cwabb gwabb)) [0, 1, 2, 3, 4, 5] (by decide) rfl
    exact tz_throwNew hx hb hno hlocks hlt (hl.1.trans hml.symm) hown (by decide +kernel) (by decide +kernel) (fun U hU hW => eb_WF_is hts hSW hS U hU hW) d_WF_emit_7 d_WF_emit_10 d_WF_emit_11 d_WF_emit_14 (by decide) (Nat.le_of_ble_eq_true rfl) (Nat.le_of_ble_eq_true rfl) (Nat.le_of_ble_eq_true rfl) (fun _ => rfl) (fun x t h1 h2 h3 h4 => ⟨⟨(grwb, rw_length), ⟨(b_rw_length), h3⟩, vp_ext hP9 h2, va_K.moved h4.alike hK, hD9⟩, vs_ext hS h1 h2⟩) hS.2.2
abbrev b_WF_global : ByteArray := prog_1_method_10_code
def y_WF_global : MethodName := ⟨R_WF, "global", "(I)J"⟩
abbrev w_WF_global : List Cond := .code y_WF_global b_WF_global 2 (Option.some .long) :: lw_g
theorem kC_WF_global : Cond.code y_WF_global b_WF_global 2 (Option.some .long) ∈ lw_g := in_c8 32 rfl rfl
theorem d_WF_global_0 : decode b_WF_global 0 = .ok (.aload_n 0, 1) := bz_c42 (by decide +kernel)
theorem d_WF_global_1 : decode b_WF_global 1 = .ok (.getfield 128, 3) := bz_c180 (by decide +kernel)
theorem d_WF_global_4 : decode b_WF_global 4 = .ok (.ifCond .ne 11, 3) := bz_c154 (by decide +kernel)
theorem d_WF_global_7 : decode b_WF_global 7 = .ok (.new 132, 3) := bz_c187 (by decide +kernel)
theorem d_WF_global_10 : decode b_WF_global 10 = .ok (.dup, 1) := bz_c89 (by decide +kernel)
theorem d_WF_global_11 : decode b_WF_global 11 = .ok (.invokespecial 134, 3) := bz_c183 (by decide +kernel)
theorem d_WF_global_14 : decode b_WF_global 14 = .ok (.athrow, 1) := bz_c191 (by decide +kernel)
theorem d_WF_global_15 : decode b_WF_global 15 = .ok (.iload_n 1, 1) := bz_c27 (by decide +kernel)
theorem d_WF_global_16 : decode b_WF_global 16 = .ok (.ifCond .lt 14, 3) := bz_c155 (by decide +kernel)
theorem d_WF_global_19 : decode b_WF_global 19 = .ok (.iload_n 1, 1) := bz_c27 (by decide +kernel)
theorem d_WF_global_20 : decode b_WF_global 20 = .ok (.aload_n 0, 1) := bz_c42 (by decide +kernel)
theorem d_WF_global_21 : decode b_WF_global 21 = .ok (.getfield 34, 3) := bz_c180 (by decide +kernel)
theorem d_WF_global_24 : decode b_WF_global 24 = .ok (.getfield 154, 3) := bz_c180 (by decide +kernel)
theorem d_WF_global_27 : decode b_WF_global 27 = .ok (.if_icmp .lt 11, 3) := bz_c161 (by decide +kernel)
theorem d_WF_global_30 : decode b_WF_global 30 = .ok (.new 94, 3) := bz_c187 (by decide +kernel)
theorem d_WF_global_33 : decode b_WF_global 33 = .ok (.dup, 1) := bz_c89 (by decide +kernel)
theorem d_WF_global_34 : decode b_WF_global 34 = .ok (.invokespecial 96, 3) := bz_c183 (by decide +kernel)
theorem d_WF_global_37 : decode b_WF_global 37 = .ok (.athrow, 1) := bz_c191 (by decide +kernel)
theorem d_WF_global_38 : decode b_WF_global 38 = .ok (.aload_n 0, 1) := bz_c42 (by decide +kernel)
theorem d_WF_global_39 : decode b_WF_global 39 = .ok (.getfield 81, 3) := bz_c180 (by decide +kernel)
theorem d_WF_global_42 : decode b_WF_global 42 = .ok (.getfield 157, 3) := bz_c180 (by decide +kernel)
theorem d_WF_global_45 : decode b_WF_global 45 = .ok (.iload_n 1, 1) := bz_c27 (by decide +kernel)
theorem d_WF_global_46 : decode b_WF_global 46 = .ok (.laload, 1) := bz_c47 (by decide +kernel)
theorem d_WF_global_47 : decode b_WF_global 47 = .ok (.lreturn, 1) := bz_c173 (by decide +kernel)
theorem kF_WF_157 : Cond.fieldLink R_WF 157 "WaferForge$Machine" "globals" "[J" ∈ lw_g := in_c3 64 rfl rfl
abbrev at_WF_global (dC : Nat → ClassId) (dI : Nat → Nat → Nat) (sa : Nat → Nat) (h0 ta rw ag wa ws h0_program_r h0_coder_r h0_reader_r h0_validator_r ma wab wac watt watp watg waft wagt wafy wafv wagc waek waei waes waez magl mace mask mafb mafs maff mafl malb malh : Nat) (cmagl : ClassId) (h0_argumentCount : Int32) (h0_reason : Int32) (h0_place : Int32) (h0_loaded : Int32) (wa_typeCount : Int32) (wa_functionCount : Int32) (wa_hasMemory : Int32) (wa_pagesLeast : Int64) (wa_pagesMost : Int64) (wa_globalCount : Int32) (wa_exportCount : Int32) (ma_pages : Int32) (ma_steps : Int32) (ma_reason : Int32) (ma_wafer : Value) (ma_codes : Value) (ma_height : Int32) (ma_frameCount : Int32) (ma_labelCount : Int32) (ma_at : Int32) (gmagl : Nat → Int64) (A : Nat → Prop) (u : Unit) (t : State) : Prop := match u with | _ => va_P (dC, dI) cls (wz_266 h0 ta rw ag h0_argumentCount h0_reason h0_place h0_loaded wa ws h0_program_r h0_coder_r h0_reader_r h0_validator_r ma wa wab wac wa_typeCount watt watp watg wa_functionCount waft wa_hasMemory wa_pagesLeast wa_pagesMost wa_globalCount wagt wafy wafv wagc wa_exportCount waek waei waes waez ma ma_pages ma_steps ma_reason magl ma_wafer ma_codes mace mask ma_height mafb mafs maff mafl ma_frameCount malb malh ma_labelCount ma_at magl cmagl gmagl) t.heap ∧ va_K (dC, dI) cls [(cmagl, .long)] t ∧ va_D A (wz_266 h0 ta rw ag h0_argumentCount h0_reason h0_place h0_loaded wa ws h0_program_r h0_coder_r h0_reader_r h0_validator_r ma wa wab wac wa_typeCount watt watp watg wa_functionCount waft wa_hasMemory wa_pagesLeast wa_pagesMost wa_globalCount wagt wafy wafv wagc wa_exportCount waek waei waes waez ma ma_pages ma_steps ma_reason magl ma_wafer ma_codes mace mask ma_height mafb mafs maff mafl ma_frameCount malb malh ma_labelCount ma_at magl cmagl gmagl)
set_option maxHeartbeats 4000000 in
set_option maxRecDepth 100000 in
theorem c_WF_global (l : Launch) (hlt : l.stackTraces = false) (dC : Nat → ClassId) (dI : Nat → Nat → Nat) (sz : Nat) (sa : Nat → Nat) (h0 ta rw ag wa ws h0_program_r h0_coder_r h0_reader_r h0_validator_r ma wab wac watt watp watg waft wagt wafy wafv wagc waek waei waes waez magl mace mask mafb mafs maff mafl malb malh : Nat) (cmagl : ClassId) (h0_argumentCount : Int32) (h0_reason : Int32) (h0_place : Int32) (h0_loaded : Int32) (wa_typeCount : Int32) (wa_functionCount : Int32) (wa_hasMemory : Int32) (wa_pagesLeast : Int64) (wa_pagesMost : Int64) (wa_globalCount : Int32) (wa_exportCount : Int32) (ma_pages : Int32) (ma_steps : Int32) (ma_reason : Int32) (ma_wafer : Value) (ma_codes : Value) (ma_height : Int32) (ma_frameCount : Int32) (ma_labelCount : Int32) (ma_at : Int32) (gmagl : Nat → Int64)  (b_h0_loaded : h0_loaded = 0 ∨ h0_loaded = 1) (b_wa_globalCount : 0 ≤ wa_globalCount.toInt ∧ wa_globalCount.toInt ≤ 20) (p0 : Int32)   : tz_Met l y_WF_global w_WF_global ({ frames := 6, cells := 1, slots := 6, locals := 90 }) (va_Pc [.ref h0, .int p0] (fun U => U.heap.size = sz ∧ va_P (dC, dI) cls (wz_266 h0 ta rw ag h0_argumentCount h0_reason h0_place h0_loaded wa ws h0_program_r h0_coder_r h0_reader_r h0_validator_r ma wa wab wac wa_typeCount watt watp watg wa_functionCount waft wa_hasMemory wa_pagesLeast wa_pagesMost wa_globalCount wagt wafy wafv wagc wa_exportCount waek waei waes waez ma ma_pages ma_steps ma_reason magl ma_wafer ma_codes mace mask ma_height mafb mafs maff mafl ma_frameCount malb malh ma_labelCount ma_at magl cmagl gmagl) U.heap ∧ va_K (dC, dI) cls [(cmagl, .long)] U ∧ va_D (fun _ => True) (wz_266 h0 ta rw ag h0_argumentCount h0_reason h0_place h0_loaded wa ws h0_program_r h0_coder_r h0_reader_r h0_validator_r ma wa wab wac wa_typeCount watt watp watg wa_functionCount waft wa_hasMemory wa_pagesLeast wa_pagesMost wa_globalCount wagt wafy wafv wagc wa_exportCount waek waei waes waez ma ma_pages ma_steps ma_reason magl ma_wafer ma_codes mace mask ma_height mafb mafs maff mafl ma_frameCount malb malh ma_labelCount ma_at magl cmagl gmagl) ∧ sw sa (va_A (wz_266 h0 ta rw ag h0_argumentCount h0_reason h0_place h0_loaded wa ws h0_program_r h0_coder_r h0_reader_r h0_validator_r ma wa wab wac wa_typeCount watt watp watg wa_functionCount waft wa_hasMemory wa_pagesLeast wa_pagesMost wa_globalCount wagt wafy wafv wagc wa_exportCount waek waei waes waez ma ma_pages ma_steps ma_reason magl ma_wafer ma_codes mace mask ma_height mafb mafs maff mafl ma_frameCount malb malh ma_labelCount ma_at magl cmagl gmagl) sz) U U.heap)) (tq_Q (tm_l (fun (r : Int64) (u : Unit) => match u with | _ => (True)) ["java/lang/IllegalArgumentException", "java/lang/IllegalStateException"] (fun (u : Unit) => match u with | _ => True)) (at_WF_global dC dI sa h0 ta rw ag wa ws h0_program_r h0_coder_r h0_reader_r h0_validator_r ma wab wac watt watp watg waft wagt wafy wafv wagc waek waei waes waez magl mace mask mafb mafs maff mafl malb malh cmagl h0_argumentCount h0_reason h0_place h0_loaded wa_typeCount wa_functionCount wa_hasMemory wa_pagesLeast wa_pagesMost wa_globalCount wa_exportCount ma_pages ma_steps ma_reason ma_wafer ma_codes ma_height ma_frameCount ma_labelCount ma_at gmagl (va_A (wz_266 h0 ta rw ag h0_argumentCount h0_reason h0_place h0_loaded wa ws h0_program_r h0_coder_r h0_reader_r h0_validator_r ma wa wab wac wa_typeCount watt watp watg wa_functionCount waft wa_hasMemory wa_pagesLeast wa_pagesMost wa_globalCount wagt wafy wafv wagc wa_exportCount waek waei waes waez ma ma_pages ma_steps ma_reason magl ma_wafer ma_codes mace mask ma_height mafb mafs maff mafl ma_frameCount malb malh ma_labelCount ma_at magl cmagl gmagl) sz)) (va_A (wz_266 h0 ta rw ag h0_argumentCount h0_reason h0_place h0_loaded wa ws h0_program_r h0_coder_r h0_reader_r h0_validator_r ma wa wab wac wa_typeCount watt watp watg wa_functionCount waft wa_hasMemory wa_pagesLeast wa_pagesMost wa_globalCount wagt wafy wafv wagc wa_exportCount waek waei waes waez ma ma_pages ma_steps ma_reason magl ma_wafer ma_codes mace mask ma_height mafb mafs maff mafl ma_frameCount malb malh ma_labelCount ma_at magl cmagl gmagl) sz)) (tz_k 0 0 1 6) (va_A (wz_266 h0 ta rw ag h0_argumentCount h0_reason h0_place h0_loaded wa ws h0_program_r h0_coder_r h0_reader_r h0_validator_r ma wa wab wac wa_typeCount watt watp watg wa_functionCount waft wa_hasMemory wa_pagesLeast wa_pagesMost wa_globalCount wagt wafy wafv wagc wa_exportCount waek waei waes waez ma ma_pages ma_steps ma_reason magl ma_wafer ma_codes mace mask ma_height mafb mafs maff mafl ma_frameCount malb malh ma_labelCount ma_at magl cmagl gmagl) sz) := by
  refine tz_ofW (cc := b_WF_global) (maxL := 2) (ret := (Option.some .long)) (by decide) rfl ?_
  intro p e s m args below meth c s₁ B hml hno hv
  obtain ⟨rfl, hsz, hP, hK, hD0, hSW⟩ := hv
  have hx := B.exec
  have hb := B.bytes
  have hr := B.returns
  have hts0 := atoms_spec (ws := w_WF_global) B.pre
  have hts : ∀ w ∈ lw_g, w.before _ s = true := fun w h => hts0 w (List.mem_cons_of_mem _ h)
  have hown : s.vm.findClass R_WF = some m.cls := findClass_of_methodNamed B.named
  have hlocks := B.notSynchronized
  clear hts0
  subst hsz
  have hD := hD0.self (sz := s.heap.size)
  generalize hAe : va_A (wz_266 h0 ta rw ag h0_argumentCount h0_reason h0_place h0_loaded wa ws h0_program_r h0_coder_r h0_reader_r h0_validator_r ma wa wab wac wa_typeCount watt watp watg wa_functionCount waft wa_hasMemory wa_pagesLeast wa_pagesMost wa_globalCount wagt wafy wafv wagc wa_exportCount waek waei waes waez ma ma_pages ma_steps ma_reason magl ma_wafer ma_codes mace mask ma_height mafb mafs maff mafl ma_frameCount malb malh ma_labelCount ma_at magl cmagl gmagl) s.heap.size = A at hD hSW ⊢
  have hA : ∀ q : Nat, s.heap.size ≤ q → A q := fun q h => by rw [← hAe]; exact Or.inr h
  clear hAe
  have hP : va_P (dC, dI) cls (wz_266 h0 ta rw ag h0_argumentCount h0_reason h0_place h0_loaded wa ws h0_program_r h0_coder_r h0_reader_r h0_validator_r ma wa wab wac wa_typeCount watt watp watg wa_functionCount waft wa_hasMemory wa_pagesLeast wa_pagesMost wa_globalCount wagt wafy wafv wagc wa_exportCount waek waei waes waez ma ma_pages ma_steps ma_reason magl ma_wafer ma_codes mace mask ma_height mafb mafs maff mafl ma_frameCount malb malh ma_labelCount ma_at magl cmagl gmagl) s.heap := hP
  have hl := lv_entry ([.ref h0, .int p0]) (n := 2) (Nat.le_of_ble_eq_true rfl)
  rw [lg_entry_eq]
  generalize (lg_sl ([.ref h0, .int p0]) ++ List.replicate (2 - (lg_sl ([.ref h0, .int p0])).length) Slot.unset).toArray = ls at hl ⊢
  have hl : lv_has ls 2 [(0, .ref h0), (1, .int p0)] := hl
  have k0 : (0 : Int32).toInt = 0 := by decide
  refine w_gen (A := A) hP (fun H locs hP hS => ?_)
  have lo_p0 := i32_lo p0
  have hi_p0 := i32_hi p0
  have th0_loaded := b01 b_h0_loaded
  refine lv_aload_n hx hb d_WF_global_0 rfl (lv_at hl 0 rfl) ?_
  refine va_get (D := (dC, dI)) (ci := 0) (v := .int h0_loaded) (C := R_WF) (T := F_WF) (N := 14) hx hb hts i_WF hown hK hP 0 rfl rfl 6 (by decide) (hts _ kF_WF_128) (fun _ h9 => h9) rfl d_WF_global_1 ?_
  refine lv_if_ne (tgt := 15) hx hb d_WF_global_4 (by decide) (fun c4 => ?_) (fun c4 => ?_)
  · have q4 := neI c4
    refine lv_iload_n hx hb d_WF_global_15 rfl (lv_at hl 1 rfl) ?_
    refine w_cut (pc2 := 30) (σ := Unit) (fun u H locs ls => match u with | _ => va_P (dC, dI) cls (wz_266 h0 ta rw ag h0_argumentCount h0_reason h0_place h0_loaded wa ws h0_program_r h0_coder_r h0_reader_r h0_validator_r ma wa wab wac wa_typeCount watt watp watg wa_functionCount waft wa_hasMemory wa_pagesLeast wa_pagesMost wa_globalCount wagt wafy wafv wagc wa_exportCount waek waei waes waez ma ma_pages ma_steps ma_reason magl ma_wafer ma_codes mace mask ma_height mafb mafs maff mafl ma_frameCount malb malh ma_labelCount ma_at magl cmagl gmagl) H ∧ va_D A (wz_266 h0 ta rw ag h0_argumentCount h0_reason h0_place h0_loaded wa ws h0_program_r h0_coder_r h0_reader_r h0_validator_r ma wa wab wac wa_typeCount watt watp watg wa_functionCount waft wa_hasMemory wa_pagesLeast wa_pagesMost wa_globalCount wagt wafy wafv wagc wa_exportCount waek waei waes waez ma ma_pages ma_steps ma_reason magl ma_wafer ma_codes mace mask ma_height mafb mafs maff mafl ma_frameCount malb malh ma_labelCount ma_at magl cmagl gmagl) ∧ va_S A s.heap H locs ∧ lv_has ls 2 []) (fun u => match u with | _ => []) ?_ (fun jn30 => ?_)
    · intro u H locs ls hI
      obtain ⟨hP, hD, hS, hl⟩ := hI
      have hP9 := hP.sb (wq := (wz_266 h0 ta rw ag h0_argumentCount h0_reason h0_place h0_loaded wa ws h0_program_r h0_coder_r h0_reader_r h0_validator_r ma wa wab wac wa_typeCount watt watp watg wa_functionCount waft wa_hasMemory wa_pagesLeast wa_pagesMost wa_globalCount wagt wafy wafv wagc wa_exportCount waek waei waes waez ma ma_pages ma_steps ma_reason magl ma_wafer ma_codes mace mask ma_height mafb mafs maff mafl ma_frameCount malb malh ma_labelCount ma_at magl cmagl gmagl)) [0, 1, 2, 3] rfl
      have hD9 := hD.sb (wq := (wz_266 h0 ta rw ag h0_argumentCount h0_reason h0_place h0_loaded wa ws h0_program_r h0_coder_r h0_reader_r h0_validator_r ma wa wab wac wa_typeCount watt watp watg wa_functionCount waft wa_hasMemory wa_pagesLeast wa_pagesMost wa_globalCount wagt wafy wafv wagc wa_exportCount waek waei waes waez ma ma_pages ma_steps ma_reason magl ma_wafer ma_codes mace mask ma_height mafb mafs maff mafl ma_frameCount malb malh ma_labelCount ma_at magl cmagl gmagl)) [0, 1, 2, 3] (by decide) rfl
      exact tz_throwNew hx hb hno hlocks hlt (hl.1.trans hml.symm) hown (by decide +kernel) (by decide +kernel) (fun U hU hW => eb_WF_ia hts hSW hS U hU hW) d_WF_global_30 d_WF_global_33 d_WF_global_34 d_WF_global_37 (by decide) (Nat.le_of_ble_eq_true rfl) (Nat.le_of_ble_eq_true rfl) (Nat.le_of_ble_eq_true rfl) (fun _ => rfl) (fun x t h1 h2 h3 h4 => ⟨⟨(), ⟨trivial, "java/lang/IllegalArgumentException", by decide, h3⟩, vp_ext hP9 h2, va_K.moved h4.alike hK, hD9⟩, vs_ext hS h1 h2⟩) hS.2.2
    · skip
      refine lv_if_lt (tgt := 30) hx hb d_WF_global_16 (by decide) (fun c16 => ?_) (fun c16 => ?_)
      · have q16 := ltI c16
        exact jn30 () _ _ _ ⟨hP, hD, hS, lv_sub hl [] rfl⟩
      · have q16 := nltI c16
        refine lv_iload_n hx hb d_WF_global_19 rfl (lv_at hl 1 rfl) ?_
        refine lv_aload_n hx hb d_WF_global_20 rfl (lv_at hl 0 rfl) ?_
        refine va_get (D := (dC, dI)) (ci := 0) (v := .ref wa) (C := R_WF) (T := F_WF) (N := 14) hx hb hts i_WF hown hK hP 0 rfl rfl 7 (by decide) (hts _ kF_WF_34) (fun _ h9 => h9) rfl d_WF_global_21 ?_
        refine va_get (D := (dC, dI)) (ci := 10) (v := .int wa_globalCount) (C := R_WA) (T := F_WA) (N := 21) hx hb hts i_WA hown hK hP 1 rfl rfl 11 (by decide) (hts _ kF_WF_154) (fun _ h9 => h9) rfl d_WF_global_24 ?_
        refine lv_icmp_lt (tgt := 38) hx hb d_WF_global_27 (by decide) (fun c27 => ?_) (fun c27 => ?_)
        · have q27 := ltI c27
          refine lv_aload_n hx hb d_WF_global_38 rfl (lv_at hl 0 rfl) ?_
          refine va_get (D := (dC, dI)) (ci := 0) (v := .ref ma) (C := R_WF) (T := F_WF) (N := 14) hx hb hts i_WF hown hK hP 0 rfl rfl 13 (by decide) (hts _ kF_WF_81) (fun _ h9 => h9) rfl d_WF_global_39 ?_
          refine va_get (D := (dC, dI)) (ci := 4) (v := .ref magl) (C := R_MA) (T := F_MA) (N := 18) hx hb hts i_MA hown hK hP 2 rfl rfl 3 (by decide) (hts _ kF_WF_157) (fun _ h9 => h9) rfl d_WF_global_42 ?_
          refine lv_iload_n hx hb d_WF_global_45 rfl (lv_at hl 1 rfl) ?_
          have g46 : vp_in p0 20 := vp_in_iff.mpr ⟨by (first | (apply Int.le_antisymm <;> omega) | omega), by (first | (apply Int.le_antisymm <;> omega) | omega)⟩
          refine va_lald hx hb hK hP 3 0 rfl rfl g46 d_WF_global_46 ?_
          refine lv_topl (fun x1 ex1 => ?_)
          have hP9 := hP.sb (wq := (wz_266 h0 ta rw ag h0_argumentCount h0_reason h0_place h0_loaded wa ws h0_program_r h0_coder_r h0_reader_r h0_validator_r ma wa wab wac wa_typeCount watt watp watg wa_functionCount waft wa_hasMemory wa_pagesLeast wa_pagesMost wa_globalCount wagt wafy wafv wagc wa_exportCount waek waei waes waez ma ma_pages ma_steps ma_reason magl ma_wafer ma_codes mace mask ma_height mafb mafs maff mafl ma_frameCount malb malh ma_labelCount ma_at magl cmagl gmagl)) [0, 1, 2, 3] rfl
          have hD9 := hD.sb (wq := (wz_266 h0 ta rw ag h0_argumentCount h0_reason h0_place h0_loaded wa ws h0_program_r h0_coder_r h0_reader_r h0_validator_r ma wa wab wac wa_typeCount watt watp watg wa_functionCount waft wa_hasMemory wa_pagesLeast wa_pagesMost wa_globalCount wagt wafy wafv wagc wa_exportCount waek waei waes waez ma ma_pages ma_steps ma_reason magl ma_wafer ma_codes mace mask ma_height mafb mafs maff mafl ma_frameCount malb malh ma_labelCount ma_at magl cmagl gmagl)) [0, 1, 2, 3] (by decide) rfl
          exact tz_up (fun _ => rfl) (W.lret (v := x1) hx hb hr (fun t ht hW => ⟨⟨(), ⟨x1, rfl, (trivial)⟩, va_P.he ht.symm hP9, va_K.moved hW.alike hK, hD9⟩, hS.F ht⟩) hS.2.2 d_WF_global_47)
        · have q27 := nltI c27
          exact jn30 () _ _ _ ⟨hP, hD, hS, lv_sub hl [] rfl⟩
  · have q4 := eqI c4
    have hP9 := hP.sb (wq := (wz_266 h0 ta rw ag h0_argumentCount h0_reason h0_place h0_loaded wa ws h0_program_r h0_coder_r h0_reader_r h0_validator_r ma wa wab wac wa_typeCount watt watp watg wa_functionCount waft wa_hasMemory wa_pagesLeast wa_pagesMost wa_globalCount wagt wafy wafv wagc wa_exportCount waek waei waes waez ma ma_pages ma_steps ma_reason magl ma_wafer ma_codes mace mask ma_height mafb mafs maff mafl ma_frameCount malb malh ma_labelCount ma_at magl cmagl gmagl)) [0, 1, 2, 3] rfl
    have hD9 := hD.sb (wq := (wz_266 h0 ta rw ag h0_argumentCount h0_reason h0_place h0_loaded wa ws h0_program_r h0_coder_r h0_reader_r h0_validator_r ma wa wab wac wa_typeCount watt watp watg wa_functionCount waft wa_hasMemory wa_pagesLeast wa_pagesMost wa_globalCount wagt wafy wafv wagc wa_exportCount waek waei waes waez ma ma_pages ma_steps ma_reason magl ma_wafer ma_codes mace mask ma_height mafb mafs maff mafl ma_frameCount malb malh ma_labelCount ma_at magl cmagl gmagl)) [0, 1, 2, 3] (by decide) rfl
    exact tz_throwNew hx hb hno hlocks hlt (hl.1.trans hml.symm) hown (by decide +kernel) (by decide +kernel) (fun U hU hW => eb_WF_is hts hSW hS U hU hW) d_WF_global_7 d_WF_global_10 d_WF_global_11 d_WF_global_14 (by decide) (Nat.le_of_ble_eq_true rfl) (Nat.le_of_ble_eq_true rfl) (Nat.le_of_ble_eq_true rfl) (fun _ => rfl) (fun x t h1 h2 h3 h4 => ⟨⟨(), ⟨trivial, "java/lang/IllegalStateException", by decide, h3⟩, vp_ext hP9 h2, va_K.moved h4.alike hK, hD9⟩, vs_ext hS h1 h2⟩) hS.2.2
abbrev b_WF_memory : ByteArray := prog_1_method_11_code
def y_WF_memory : MethodName := ⟨R_WF, "memory", "(I)I"⟩
abbrev w_WF_memory : List Cond := .code y_WF_memory b_WF_memory 2 (Option.some .int) :: lw_g
theorem kC_WF_memory : Cond.code y_WF_memory b_WF_memory 2 (Option.some .int) ∈ lw_g := in_c8 39 rfl rfl
theorem d_WF_memory_0 : decode b_WF_memory 0 = .ok (.aload_n 0, 1) := bz_c42 (by decide +kernel)
theorem d_WF_memory_1 : decode b_WF_memory 1 = .ok (.getfield 128, 3) := bz_c180 (by decide +kernel)
theorem d_WF_memory_4 : decode b_WF_memory 4 = .ok (.ifCond .ne 11, 3) := bz_c154 (by decide +kernel)
theorem d_WF_memory_7 : decode b_WF_memory 7 = .ok (.new 132, 3) := bz_c187 (by decide +kernel)
theorem d_WF_memory_10 : decode b_WF_memory 10 = .ok (.dup, 1) := bz_c89 (by decide +kernel)
theorem d_WF_memory_11 : decode b_WF_memory 11 = .ok (.invokespecial 134, 3) := bz_c183 (by decide +kernel)
theorem d_WF_memory_14 : decode b_WF_memory 14 = .ok (.athrow, 1) := bz_c191 (by decide +kernel)
theorem d_WF_memory_15 : decode b_WF_memory 15 = .ok (.iload_n 1, 1) := bz_c27 (by decide +kernel)
theorem d_WF_memory_16 : decode b_WF_memory 16 = .ok (.ifCond .lt 17, 3) := bz_c155 (by decide +kernel)
theorem d_WF_memory_19 : decode b_WF_memory 19 = .ok (.iload_n 1, 1) := bz_c27 (by decide +kernel)
theorem d_WF_memory_20 : decode b_WF_memory 20 = .ok (.aload_n 0, 1) := bz_c42 (by decide +kernel)
theorem d_WF_memory_21 : decode b_WF_memory 21 = .ok (.getfield 81, 3) := bz_c180 (by decide +kernel)
theorem d_WF_memory_24 : decode b_WF_memory 24 = .ok (.getfield 160, 3) := bz_c180 (by decide +kernel)
theorem d_WF_memory_27 : decode b_WF_memory 27 = .ok (.ldc 163, 2) := bz_c18 (by decide +kernel)
theorem d_WF_memory_29 : decode b_WF_memory 29 = .ok (.imul, 1) := bz_c104 (by decide +kernel)
theorem d_WF_memory_30 : decode b_WF_memory 30 = .ok (.if_icmp .lt 11, 3) := bz_c161 (by decide +kernel)
theorem d_WF_memory_33 : decode b_WF_memory 33 = .ok (.new 94, 3) := bz_c187 (by decide +kernel)
theorem d_WF_memory_36 : decode b_WF_memory 36 = .ok (.dup, 1) := bz_c89 (by decide +kernel)
theorem d_WF_memory_37 : decode b_WF_memory 37 = .ok (.invokespecial 96, 3) := bz_c183 (by decide +kernel)
theorem d_WF_memory_40 : decode b_WF_memory 40 = .ok (.athrow, 1) := bz_c191 (by decide +kernel)
theorem d_WF_memory_41 : decode b_WF_memory 41 = .ok (.aload_n 0, 1) := bz_c42 (by decide +kernel)
theorem d_WF_memory_42 : decode b_WF_memory 42 = .ok (.getfield 81, 3) := bz_c180 (by decide +kernel)
theorem d_WF_memory_45 : decode b_WF_memory 45 = .ok (.iload_n 1, 1) := bz_c27 (by decide +kernel)
theorem d_WF_memory_46 : decode b_WF_memory 46 = .ok (.invokevirtual 164, 3) := bz_c182 (by decide +kernel)
theorem d_WF_memory_49 : decode b_WF_memory 49 = .ok (.ireturn, 1) := bz_c172 (by decide +kernel)
theorem kM_WF_164 : Cond.methodLink R_WF 164 y_MA_byteAt ∈ lw_g := in_c8 41 rfl rfl
theorem kJ_WF_163 : Cond.constant R_WF 163 (65536) ∈ lw_g := in_c8 40 rfl rfl
abbrev at_WF_memory (dC : Nat → ClassId) (dI : Nat → Nat → Nat) (sa : Nat → Nat) (h0 ta rw ag wa ws h0_program_r h0_coder_r h0_reader_r h0_validator_r ma magl wac mace mask mafb mafs maff mafl malb malh : Nat) (cmace : ClassId) (h0_argumentCount : Int32) (h0_reason : Int32) (h0_place : Int32) (h0_loaded : Int32) (ma_pages : Int32) (ma_steps : Int32) (ma_reason : Int32) (ma_height : Int32) (ma_frameCount : Int32) (ma_labelCount : Int32) (ma_at : Int32) (gmace : Nat → Int64) (A : Nat → Prop) (u : Unit) (t : State) : Prop := match u with | _ => va_P (dC, dI) cls (wz_267 h0 ta rw ag h0_argumentCount h0_reason h0_place h0_loaded wa ws h0_program_r h0_coder_r h0_reader_r h0_validator_r ma ma ma_pages ma_steps ma_reason magl wa wac mace mask ma_height mafb mafs maff mafl ma_frameCount malb malh ma_labelCount ma_at mace cmace gmace) t.heap ∧ va_K (dC, dI) cls [(cmace, .long)] t ∧ va_D A (wz_267 h0 ta rw ag h0_argumentCount h0_reason h0_place h0_loaded wa ws h0_program_r h0_coder_r h0_reader_r h0_validator_r ma ma ma_pages ma_steps ma_reason magl wa wac mace mask ma_height mafb mafs maff mafl ma_frameCount malb malh ma_labelCount ma_at mace cmace gmace)
set_option maxHeartbeats 4000000 in
set_option maxRecDepth 100000 in
theorem c_WF_memory (l : Launch) (hlt : l.stackTraces = false) (dC : Nat → ClassId) (dI : Nat → Nat → Nat) (sz : Nat) (sa : Nat → Nat) (h0 ta rw ag wa ws h0_program_r h0_coder_r h0_reader_r h0_validator_r ma magl wac mace mask mafb mafs maff mafl malb malh : Nat) (cmace : ClassId) (h0_argumentCount : Int32) (h0_reason : Int32) (h0_place : Int32) (h0_loaded : Int32) (ma_pages : Int32) (ma_steps : Int32) (ma_reason : Int32) (ma_height : Int32) (ma_frameCount : Int32) (ma_labelCount : Int32) (ma_at : Int32) (gmace : Nat → Int64)  (b_h0_loaded : h0_loaded = 0 ∨ h0_loaded = 1) (b_ma_pages : 0 ≤ ma_pages.toInt ∧ ma_pages.toInt ≤ 2) (p0 : Int32)  (hld : h0_loaded.toInt = 1) : tz_Met l y_WF_memory w_WF_memory ({ frames := 6, cells := 1, slots := 6, locals := 90 }) (va_Pc [.ref h0, .int p0] (fun U => U.heap.size = sz ∧ va_P (dC, dI) cls (wz_267 h0 ta rw ag h0_argumentCount h0_reason h0_place h0_loaded wa ws h0_program_r h0_coder_r h0_reader_r h0_validator_r ma ma ma_pages ma_steps ma_reason magl wa wac mace mask ma_height mafb mafs maff mafl ma_frameCount malb malh ma_labelCount ma_at mace cmace gmace) U.heap ∧ va_K (dC, dI) cls [(cmace, .long)] U ∧ va_D (fun _ => True) (wz_267 h0 ta rw ag h0_argumentCount h0_reason h0_place h0_loaded wa ws h0_program_r h0_coder_r h0_reader_r h0_validator_r ma ma ma_pages ma_steps ma_reason magl wa wac mace mask ma_height mafb mafs maff mafl ma_frameCount malb malh ma_labelCount ma_at mace cmace gmace) ∧ sw sa (va_A (wz_267 h0 ta rw ag h0_argumentCount h0_reason h0_place h0_loaded wa ws h0_program_r h0_coder_r h0_reader_r h0_validator_r ma ma ma_pages ma_steps ma_reason magl wa wac mace mask ma_height mafb mafs maff mafl ma_frameCount malb malh ma_labelCount ma_at mace cmace gmace) sz) U U.heap)) (tq_Q (tm_i (fun (r : Int32) (u : Unit) => match u with | _ => (True)) ["java/lang/IllegalArgumentException", "java/lang/IllegalStateException"] (fun (u : Unit) => match u with | _ => True)) (at_WF_memory dC dI sa h0 ta rw ag wa ws h0_program_r h0_coder_r h0_reader_r h0_validator_r ma magl wac mace mask mafb mafs maff mafl malb malh cmace h0_argumentCount h0_reason h0_place h0_loaded ma_pages ma_steps ma_reason ma_height ma_frameCount ma_labelCount ma_at gmace (va_A (wz_267 h0 ta rw ag h0_argumentCount h0_reason h0_place h0_loaded wa ws h0_program_r h0_coder_r h0_reader_r h0_validator_r ma ma ma_pages ma_steps ma_reason magl wa wac mace mask ma_height mafb mafs maff mafl ma_frameCount malb malh ma_labelCount ma_at mace cmace gmace) sz)) (va_A (wz_267 h0 ta rw ag h0_argumentCount h0_reason h0_place h0_loaded wa ws h0_program_r h0_coder_r h0_reader_r h0_validator_r ma ma ma_pages ma_steps ma_reason magl wa wac mace mask ma_height mafb mafs maff mafl ma_frameCount malb malh ma_labelCount ma_at mace cmace gmace) sz)) (tz_k 0 0 1 6) (va_A (wz_267 h0 ta rw ag h0_argumentCount h0_reason h0_place h0_loaded wa ws h0_program_r h0_coder_r h0_reader_r h0_validator_r ma ma ma_pages ma_steps ma_reason magl wa wac mace mask ma_height mafb mafs maff mafl ma_frameCount malb malh ma_labelCount ma_at mace cmace gmace) sz) := by
  refine tz_ofW (cc := b_WF_memory) (maxL := 2) (ret := (Option.some .int)) (by decide) rfl ?_
  intro p e s m args below meth c s₁ B hml hno hv
  obtain ⟨rfl, hsz, hP, hK, hD0, hSW⟩ := hv
  have hx := B.exec
  have hb := B.bytes
  have hr := B.returns
  have hts0 := atoms_spec (ws := w_WF_memory) B.pre
  have hts : ∀ w ∈ lw_g, w.before _ s = true := fun w h => hts0 w (List.mem_cons_of_mem _ h)
  have hown : s.vm.findClass R_WF = some m.cls := findClass_of_methodNamed B.named
  have hlocks := B.notSynchronized
  clear hts0
  subst hsz
  have hD := hD0.self (sz := s.heap.size)
  generalize hAe : va_A (wz_267 h0 ta rw ag h0_argumentCount h0_reason h0_place h0_loaded wa ws h0_program_r h0_coder_r h0_reader_r h0_validator_r ma ma ma_pages ma_steps ma_reason magl wa wac mace mask ma_height mafb mafs maff mafl ma_frameCount malb malh ma_labelCount ma_at mace cmace gmace) s.heap.size = A at hD hSW ⊢
  have hA : ∀ q : Nat, s.heap.size ≤ q → A q := fun q h => by rw [← hAe]; exact Or.inr h
  clear hAe
  have hP : va_P (dC, dI) cls (wz_267 h0 ta rw ag h0_argumentCount h0_reason h0_place h0_loaded wa ws h0_program_r h0_coder_r h0_reader_r h0_validator_r ma ma ma_pages ma_steps ma_reason magl wa wac mace mask ma_height mafb mafs maff mafl ma_frameCount malb malh ma_labelCount ma_at mace cmace gmace) s.heap := hP
  have hl := lv_entry ([.ref h0, .int p0]) (n := 2) (Nat.le_of_ble_eq_true rfl)
  rw [lg_entry_eq]
  generalize (lg_sl ([.ref h0, .int p0]) ++ List.replicate (2 - (lg_sl ([.ref h0, .int p0])).length) Slot.unset).toArray = ls at hl ⊢
  have hl : lv_has ls 2 [(0, .ref h0), (1, .int p0)] := hl
  have k0 : (0 : Int32).toInt = 0 := by decide
  refine w_gen (A := A) hP (fun H locs hP hS => ?_)
  have lo_p0 := i32_lo p0
  have hi_p0 := i32_hi p0
  have th0_loaded := b01 b_h0_loaded
  refine lv_aload_n hx hb d_WF_memory_0 rfl (lv_at hl 0 rfl) ?_
  refine va_get (D := (dC, dI)) (ci := 0) (v := .int h0_loaded) (C := R_WF) (T := F_WF) (N := 14) hx hb hts i_WF hown hK hP 0 rfl rfl 6 (by decide) (hts _ kF_WF_128) (fun _ h9 => h9) rfl d_WF_memory_1 ?_
  refine lv_if_ne (tgt := 15) hx hb d_WF_memory_4 (by decide) (fun c4 => ?_) (fun c4 => absurd (eqI c4) (by (first | (apply Int.le_antisymm <;> omega) | omega)))
  have q4 := neI c4
  refine lv_iload_n hx hb d_WF_memory_15 rfl (lv_at hl 1 rfl) ?_
  refine w_cut (pc2 := 33) (σ := Unit) (fun u H locs ls => match u with | _ => va_P (dC, dI) cls (wz_267 h0 ta rw ag h0_argumentCount h0_reason h0_place h0_loaded wa ws h0_program_r h0_coder_r h0_reader_r h0_validator_r ma ma ma_pages ma_steps ma_reason magl wa wac mace mask ma_height mafb mafs maff mafl ma_frameCount malb malh ma_labelCount ma_at mace cmace gmace) H ∧ va_D A (wz_267 h0 ta rw ag h0_argumentCount h0_reason h0_place h0_loaded wa ws h0_program_r h0_coder_r h0_reader_r h0_validator_r ma ma ma_pages ma_steps ma_reason magl wa wac mace mask ma_height mafb mafs maff mafl ma_frameCount malb malh ma_labelCount ma_at mace cmace gmace) ∧ va_S A s.heap H locs ∧ lv_has ls 2 []) (fun u => match u with | _ => []) ?_ (fun jn33 => ?_)
  · intro u H locs ls hI
    obtain ⟨hP, hD, hS, hl⟩ := hI
    have hP9 := hP.sb (wq := (wz_267 h0 ta rw ag h0_argumentCount h0_reason h0_place h0_loaded wa ws h0_program_r h0_coder_r h0_reader_r h0_validator_r ma ma ma_pages ma_steps ma_reason magl wa wac mace mask ma_height mafb mafs maff mafl ma_frameCount malb malh ma_labelCount ma_at mace cmace gmace)) [0, 1, 2] rfl
    have hD9 := hD.sb (wq := (wz_267 h0 ta rw ag h0_argumentCount h0_reason h0_place h0_loaded wa ws h0_program_r h0_coder_r h0_reader_r h0_validator_r ma ma ma_pages ma_steps ma_reason magl wa wac mace mask ma_height mafb mafs maff mafl ma_frameCount malb malh ma_labelCount ma_at mace cmace gmace)) [0, 1, 2] (by decide) rfl
    exact tz_throwNew hx hb hno hlocks hlt (hl.1.trans hml.symm) hown (by decide +kernel) (by decide +kernel) (fun U hU hW => eb_WF_ia hts hSW hS U hU hW) d_WF_memory_33 d_WF_memory_36 d_WF_memory_37 d_WF_memory_40 (by decide) (Nat.le_of_ble_eq_true rfl) (Nat.le_of_ble_eq_true rfl) (Nat.le_of_ble_eq_true rfl) (fun _ => rfl) (fun x t h1 h2 h3 h4 => ⟨⟨(), ⟨trivial, "java/lang/IllegalArgumentException", by decide, h3⟩, vp_ext hP9 h2, va_K.moved h4.alike hK, hD9⟩, vs_ext hS h1 h2⟩) hS.2.2
  · skip
    refine lv_if_lt (tgt := 33) hx hb d_WF_memory_16 (by decide) (fun c16 => ?_) (fun c16 => ?_)
    · have q16 := ltI c16
      exact jn33 () _ _ _ ⟨hP, hD, hS, lv_sub hl [] rfl⟩
    · have q16 := nltI c16
      refine lv_iload_n hx hb d_WF_memory_19 rfl (lv_at hl 1 rfl) ?_
      refine lv_aload_n hx hb d_WF_memory_20 rfl (lv_at hl 0 rfl) ?_
      refine va_get (D := (dC, dI)) (ci := 0) (v := .ref ma) (C := R_WF) (T := F_WF) (N := 14) hx hb hts i_WF hown hK hP 0 rfl rfl 13 (by decide) (hts _ kF_WF_81) (fun _ h9 => h9) rfl d_WF_memory_21 ?_
      refine va_get (D := (dC, dI)) (ci := 4) (v := .int ma_pages) (C := R_MA) (T := F_MA) (N := 18) hx hb hts i_MA hown hK hP 1 rfl rfl 0 (by decide) (hts _ kF_WF_160) (fun _ h9 => h9) rfl d_WF_memory_24 ?_
      refine lv_ldc hx hb hown (hts _ kJ_WF_163) d_WF_memory_27 ?_
      refine lv_topi (fun x1 ex1 => ?_)
      have tx1 : x1.toInt = 65536 := by rw [ex1]; decide
      refine lv_imul hx hb d_WF_memory_29 ?_
      refine lv_topi (fun x2 ex2 => ?_)
      have tx2 : x2.toInt = ma_pages.toInt * 65536 := by have z := i32_mul ex2 (by rw [tx1]; (first | (apply Int.le_antisymm <;> omega) | omega)) (by rw [tx1]; (first | (apply Int.le_antisymm <;> omega) | omega)); rw [tx1] at z; exact z
      refine lv_icmp_lt (tgt := 41) hx hb d_WF_memory_30 (by decide) (fun c30 => ?_) (fun c30 => ?_)
      · have q30 := ltI c30
        refine lv_aload_n hx hb d_WF_memory_41 rfl (lv_at hl 0 rfl) ?_
        refine va_get (D := (dC, dI)) (ci := 0) (v := .ref ma) (C := R_WF) (T := F_WF) (N := 14) hx hb hts i_WF hown hK hP 0 rfl rfl 13 (by decide) (hts _ kF_WF_81) (fun _ h9 => h9) rfl d_WF_memory_42 ?_
        refine lv_iload_n hx hb d_WF_memory_45 rfl (lv_at hl 1 rfl) ?_
        have hPc := hP.sb (wq := (wz_19 ma ma_pages ma_steps ma_reason magl wa wac mace mask ma_height mafb mafs maff mafl ma_frameCount malb malh ma_labelCount ma_at mace cmace gmace)) [1, 2] rfl
        have hDc := hD.sb (wq := (wz_19 ma ma_pages ma_steps ma_reason magl wa wac mace mask ma_height mafb mafs maff mafl ma_frameCount malb malh ma_labelCount ma_at mace cmace gmace)) [1, 2] (by decide) rfl
        have hKc := hK.sb (tyq := [(cmace, .long)]) [0] rfl
        have hFc := va_free (wc := (wz_19 ma ma_pages ma_steps ma_reason magl wa wac mace mask ma_height mafb mafs maff mafl ma_frameCount malb malh ma_labelCount ma_at mace cmace gmace)) hD hS hA [1, 2] rfl
        refine va_calli (va_runV (As := [.int p0]) (rest := []) ⟨hx, hb, hml, hown, hts⟩ (c_MA_byteAt l dC dI H.size ma magl wa wac mace mask mafb mafs maff mafl malb malh cmace ma_pages ma_steps ma_reason ma_height ma_frameCount ma_labelCount ma_at gmace p0) (cwV 1 hts (gV kM_WF_164 kV_MA_byteAt kS_MA_byteAt kI_MA kC_MA_byteAt) rfl rfl rfl (by decide +kernel) ⟨Nat.le_of_ble_eq_true rfl, Nat.le_of_ble_eq_true rfl⟩) ⟨fun a U g mk z => by obtain ⟨z0, z1, zP, zK, zD⟩ := z; exact ⟨z0, z1, zP, va_K.moved (u := U) (U := U.calling g mk a) (Vm.Alike.refl U.vm) zK, zD⟩, va_recv hKc hPc (ci := 4) (q0 := 0) rfl rfl, fun U hU hW => ⟨rfl, by rw [hU], va_P.he hU.symm hPc, va_K.moved hW.alike hKc, hDc.weaken (fun _ _ _ _ => trivial)⟩⟩ rfl rfl hl.1 rfl (lv_room (Nat.le_of_ble_eq_true rfl)) d_WF_memory_46 ⟨(Nat.zero_le _), (Nat.zero_le _)⟩) hS (fun q _ h => hFc q h) hFc (fun r3 u t H1 locs ht hvm hw hB hz1 hk1 hS => ?_)
        try dsimp only at hw
        try clear hw
        obtain ⟨hP1, hK1, hD1⟩ := hB
        replace hP1 := va_P.he ht hP1
        obtain ⟨hP, hD⟩ := va_join (wr := (wz_255 h0 ta rw ag h0_argumentCount h0_reason h0_place h0_loaded wa ws h0_program_r h0_coder_r h0_reader_r h0_validator_r ma)) (w1 := (wz_19 ma ma_pages ma_steps ma_reason magl wa wac mace mask ma_height mafb mafs maff mafl ma_frameCount malb malh ma_labelCount ma_at mace cmace gmace)) hP hD [1, 2] [0] rfl rfl (by decide) (by decide) hk1 hFc hP1 hD1
        clear hPc hDc hKc hFc hz1 hk1 hP1 hK1 hD1
        rename Heap => H
        have hP : va_P (dC, dI) cls (wz_267 h0 ta rw ag h0_argumentCount h0_reason h0_place h0_loaded wa ws h0_program_r h0_coder_r h0_reader_r h0_validator_r ma ma ma_pages ma_steps ma_reason magl wa wac mace mask ma_height mafb mafs maff mafl ma_frameCount malb malh ma_labelCount ma_at mace cmace gmace) H := hP
        have hD : va_D A (wz_267 h0 ta rw ag h0_argumentCount h0_reason h0_place h0_loaded wa ws h0_program_r h0_coder_r h0_reader_r h0_validator_r ma ma ma_pages ma_steps ma_reason magl wa wac mace mask ma_height mafb mafs maff mafl ma_frameCount malb malh ma_labelCount ma_at mace cmace gmace) := hD
        have hP9 := hP.sb (wq := (wz_267 h0 ta rw ag h0_argumentCount h0_reason h0_place h0_loaded wa ws h0_program_r h0_coder_r h0_reader_r h0_validator_r ma ma ma_pages ma_steps ma_reason magl wa wac mace mask ma_height mafb mafs maff mafl ma_frameCount malb malh ma_labelCount ma_at mace cmace gmace)) [0, 1, 2] rfl
        have hD9 := hD.sb (wq := (wz_267 h0 ta rw ag h0_argumentCount h0_reason h0_place h0_loaded wa ws h0_program_r h0_coder_r h0_reader_r h0_validator_r ma ma ma_pages ma_steps ma_reason magl wa wac mace mask ma_height mafb mafs maff mafl ma_frameCount malb malh ma_labelCount ma_at mace cmace gmace)) [0, 1, 2] (by decide) rfl
        exact tz_up (fun _ => rfl) (W.iret (v := r3) hx hb hr (fun t ht hW => ⟨⟨(), ⟨r3, rfl, (trivial)⟩, va_P.he ht.symm hP9, va_K.moved hW.alike hK, hD9⟩, hS.F ht⟩) hS.2.2 d_WF_memory_49)
      · have q30 := nltI c30
        exact jn33 () _ _ _ ⟨hP, hD, hS, lv_sub hl [] rfl⟩
abbrev at_WF_memoryo (dC : Nat → ClassId) (dI : Nat → Nat → Nat) (sa : Nat → Nat) (h0 ta rw ag wa ws h0_program_r h0_coder_r h0_reader_r h0_validator_r ma : Nat) (h0_argumentCount : Int32) (h0_reason : Int32) (h0_place : Int32) (h0_loaded : Int32) (A : Nat → Prop) (u : Unit) (t : State) : Prop := match u with | _ => va_P (dC, dI) cls (wz_255 h0 ta rw ag h0_argumentCount h0_reason h0_place h0_loaded wa ws h0_program_r h0_coder_r h0_reader_r h0_validator_r ma) t.heap ∧ va_K (dC, dI) cls [] t ∧ va_D A (wz_255 h0 ta rw ag h0_argumentCount h0_reason h0_place h0_loaded wa ws h0_program_r h0_coder_r h0_reader_r h0_validator_r ma)
set_option maxHeartbeats 4000000 in
set_option maxRecDepth 100000 in
theorem c_WF_memoryo (l : Launch) (hlt : l.stackTraces = false) (dC : Nat → ClassId) (dI : Nat → Nat → Nat) (sz : Nat) (sa : Nat → Nat) (h0 ta rw ag wa ws h0_program_r h0_coder_r h0_reader_r h0_validator_r ma : Nat) (h0_argumentCount : Int32) (h0_reason : Int32) (h0_place : Int32) (h0_loaded : Int32)  (b_h0_loaded : h0_loaded = 0 ∨ h0_loaded = 1) (p0 : Int32)  (hld : h0_loaded.toInt = 0) : tz_Met l y_WF_memory w_WF_memory ({ frames := 6, cells := 1, slots := 6, locals := 90 }) (va_Pc [.ref h0, .int p0] (fun U => U.heap.size = sz ∧ va_P (dC, dI) cls (wz_255 h0 ta rw ag h0_argumentCount h0_reason h0_place h0_loaded wa ws h0_program_r h0_coder_r h0_reader_r h0_validator_r ma) U.heap ∧ va_K (dC, dI) cls [] U ∧ va_D (fun _ => True) (wz_255 h0 ta rw ag h0_argumentCount h0_reason h0_place h0_loaded wa ws h0_program_r h0_coder_r h0_reader_r h0_validator_r ma) ∧ sw sa (va_A (wz_255 h0 ta rw ag h0_argumentCount h0_reason h0_place h0_loaded wa ws h0_program_r h0_coder_r h0_reader_r h0_validator_r ma) sz) U U.heap)) (tq_Q (tm_i (fun (r : Int32) (u : Unit) => match u with | _ => (True)) ["java/lang/IllegalArgumentException", "java/lang/IllegalStateException"] (fun (u : Unit) => match u with | _ => True)) (at_WF_memoryo dC dI sa h0 ta rw ag wa ws h0_program_r h0_coder_r h0_reader_r h0_validator_r ma h0_argumentCount h0_reason h0_place h0_loaded (va_A (wz_255 h0 ta rw ag h0_argumentCount h0_reason h0_place h0_loaded wa ws h0_program_r h0_coder_r h0_reader_r h0_validator_r ma) sz)) (va_A (wz_255 h0 ta rw ag h0_argumentCount h0_reason h0_place h0_loaded wa ws h0_program_r h0_coder_r h0_reader_r h0_validator_r ma) sz)) (tz_k 0 0 1 6) (va_A (wz_255 h0 ta rw ag h0_argumentCount h0_reason h0_place h0_loaded wa ws h0_program_r h0_coder_r h0_reader_r h0_validator_r ma) sz) := by
  refine tz_ofW (cc := b_WF_memory) (maxL := 2) (ret := (Option.some .int)) (by decide) rfl ?_
  intro p e s m args below meth c s₁ B hml hno hv
  obtain ⟨rfl, hsz, hP, hK, hD0, hSW⟩ := hv
  have hx := B.exec
  have hb := B.bytes
  have hr := B.returns
  have hts0 := atoms_spec (ws := w_WF_memory) B.pre
  have hts : ∀ w ∈ lw_g, w.before _ s = true := fun w h => hts0 w (List.mem_cons_of_mem _ h)
  have hown : s.vm.findClass R_WF = some m.cls := findClass_of_methodNamed B.named
  have hlocks := B.notSynchronized
  clear hts0
  subst hsz
  have hD := hD0.self (sz := s.heap.size)
  generalize hAe : va_A (wz_255 h0 ta rw ag h0_argumentCount h0_reason h0_place h0_loaded wa ws h0_program_r h0_coder_r h0_reader_r h0_validator_r ma) s.heap.size = A at hD hSW ⊢
  have hA : ∀ q : Nat, s.heap.size ≤ q → A q := fun q h => by rw [← hAe]; exact Or.inr h
  clear hAe
  have hP : va_P (dC, dI) cls (wz_255 h0 ta rw ag h0_argumentCount h0_reason h0_place h0_loaded wa ws h0_program_r h0_coder_r h0_reader_r h0_validator_r ma) s.heap := hP
  have hl := lv_entry ([.ref h0, .int p0]) (n := 2) (Nat.le_of_ble_eq_true rfl)
  rw [lg_entry_eq]
  generalize (lg_sl ([.ref h0, .int p0]) ++ List.replicate (2 - (lg_sl ([.ref h0, .int p0])).length) Slot.unset).toArray = ls at hl ⊢
  have hl : lv_has ls 2 [(0, .ref h0), (1, .int p0)] := hl
  have k0 : (0 : Int32).toInt = 0 := by decide
  refine w_gen (A := A) hP (fun H locs hP hS => ?_)
  have lo_p0 := i32_lo p0
  have hi_p0 := i32_hi p0
  have th0_loaded := b01 b_h0_loaded
  refine lv_aload_n hx hb d_WF_memory_0 rfl (lv_at hl 0 rfl) ?_
  refine va_get (D := (dC, dI)) (ci := 0) (v := .int h0_loaded) (C := R_WF) (T := F_WF) (N := 14) hx hb hts i_WF hown hK hP 0 rfl rfl 6 (by decide) (hts _ kF_WF_128) (fun _ h9 => h9) rfl d_WF_memory_1 ?_
  refine lv_if_ne (tgt := 15) hx hb d_WF_memory_4 (by decide) (fun c4 => absurd (neI c4) (by (first | (apply Int.le_antisymm <;> omega) | omega))) (fun c4 => ?_)
  have q4 := eqI c4
  have hP9 := hP.sb (wq := (wz_255 h0 ta rw ag h0_argumentCount h0_reason h0_place h0_loaded wa ws h0_program_r h0_coder_r h0_reader_r h0_validator_r ma)) [0] rfl
  have hD9 := hD.sb (wq := (wz_255 h0 ta rw ag h0_argumentCount h0_reason h0_place h0_loaded wa ws h0_program_r h0_coder_r h0_reader_r h0_validator_r ma)) [0] (by decide) rfl
  exact tz_throwNew hx hb hno hlocks hlt (hl.1.trans hml.symm) hown (by decide +kernel) (by decide +kernel) (fun U hU hW => eb_WF_is hts hSW hS U hU hW) d_WF_memory_7 d_WF_memory_10 d_WF_memory_11 d_WF_memory_14 (by decide) (Nat.le_of_ble_eq_true rfl) (Nat.le_of_ble_eq_true rfl) (Nat.le_of_ble_eq_true rfl) (fun _ => rfl) (fun x t h1 h2 h3 h4 => ⟨⟨(), ⟨trivial, "java/lang/IllegalStateException", by decide, h3⟩, vp_ext hP9 h2, va_K.moved h4.alike hK, hD9⟩, vs_ext hS h1 h2⟩) hS.2.2
end q_99d
section q_99e
/-! WaferForge: call -/
abbrev b_WF_call : ByteArray := prog_1_method_9_code
def y_WF_call : MethodName := ⟨R_WF, "call", "(I)J"⟩
abbrev w_WF_call : List Cond := .code y_WF_call b_WF_call 5 (Option.some .long) :: lw_g
theorem kC_WF_call : Cond.code y_WF_call b_WF_call 5 (Option.some .long) ∈ lw_g := in_c7 92 rfl rfl
theorem d_WF_call_0 : decode b_WF_call 0 = .ok (.aload_n 0, 1) := bz_c42 (by decide +kernel)
theorem d_WF_call_1 : decode b_WF_call 1 = .ok (.getfield 128, 3) := bz_c180 (by decide +kernel)
theorem d_WF_call_4 : decode b_WF_call 4 = .ok (.ifCond .ne 11, 3) := bz_c154 (by decide +kernel)
theorem d_WF_call_7 : decode b_WF_call 7 = .ok (.new 132, 3) := bz_c187 (by decide +kernel)
theorem d_WF_call_10 : decode b_WF_call 10 = .ok (.dup, 1) := bz_c89 (by decide +kernel)
theorem d_WF_call_11 : decode b_WF_call 11 = .ok (.invokespecial 134, 3) := bz_c183 (by decide +kernel)
theorem d_WF_call_14 : decode b_WF_call 14 = .ok (.athrow, 1) := bz_c191 (by decide +kernel)
theorem d_WF_call_15 : decode b_WF_call 15 = .ok (.iload_n 1, 1) := bz_c27 (by decide +kernel)
theorem d_WF_call_16 : decode b_WF_call 16 = .ok (.ifCond .lt 14, 3) := bz_c155 (by decide +kernel)
theorem d_WF_call_19 : decode b_WF_call 19 = .ok (.iload_n 1, 1) := bz_c27 (by decide +kernel)
theorem d_WF_call_20 : decode b_WF_call 20 = .ok (.aload_n 0, 1) := bz_c42 (by decide +kernel)
theorem d_WF_call_21 : decode b_WF_call 21 = .ok (.getfield 34, 3) := bz_c180 (by decide +kernel)
theorem d_WF_call_24 : decode b_WF_call 24 = .ok (.getfield 125, 3) := bz_c180 (by decide +kernel)
theorem d_WF_call_27 : decode b_WF_call 27 = .ok (.if_icmp .lt 11, 3) := bz_c161 (by decide +kernel)
theorem d_WF_call_30 : decode b_WF_call 30 = .ok (.new 94, 3) := bz_c187 (by decide +kernel)
theorem d_WF_call_33 : decode b_WF_call 33 = .ok (.dup, 1) := bz_c89 (by decide +kernel)
theorem d_WF_call_34 : decode b_WF_call 34 = .ok (.invokespecial 96, 3) := bz_c183 (by decide +kernel)
theorem d_WF_call_37 : decode b_WF_call 37 = .ok (.athrow, 1) := bz_c191 (by decide +kernel)
theorem d_WF_call_38 : decode b_WF_call 38 = .ok (.aload_n 0, 1) := bz_c42 (by decide +kernel)
theorem d_WF_call_39 : decode b_WF_call 39 = .ok (.getfield 139, 3) := bz_c180 (by decide +kernel)
theorem d_WF_call_42 : decode b_WF_call 42 = .ok (.istore_n 2, 1) := bz_c61 (by decide +kernel)
theorem d_WF_call_43 : decode b_WF_call 43 = .ok (.aload_n 0, 1) := bz_c42 (by decide +kernel)
theorem d_WF_call_44 : decode b_WF_call 44 = .ok (.iconst 0, 1) := bz_c3 (by decide +kernel)
theorem d_WF_call_45 : decode b_WF_call 45 = .ok (.putfield 139, 3) := bz_c181 (by decide +kernel)
theorem d_WF_call_48 : decode b_WF_call 48 = .ok (.iload_n 2, 1) := bz_c28 (by decide +kernel)
theorem d_WF_call_49 : decode b_WF_call 49 = .ok (.aload_n 0, 1) := bz_c42 (by decide +kernel)
theorem d_WF_call_50 : decode b_WF_call 50 = .ok (.getfield 34, 3) := bz_c180 (by decide +kernel)
theorem d_WF_call_53 : decode b_WF_call 53 = .ok (.iload_n 1, 1) := bz_c27 (by decide +kernel)
theorem d_WF_call_54 : decode b_WF_call 54 = .ok (.invokevirtual 142, 3) := bz_c182 (by decide +kernel)
theorem d_WF_call_57 : decode b_WF_call 57 = .ok (.if_icmp .eq 11, 3) := bz_c159 (by decide +kernel)
theorem d_WF_call_60 : decode b_WF_call 60 = .ok (.new 94, 3) := bz_c187 (by decide +kernel)
theorem d_WF_call_63 : decode b_WF_call 63 = .ok (.dup, 1) := bz_c89 (by decide +kernel)
theorem d_WF_call_64 : decode b_WF_call 64 = .ok (.invokespecial 96, 3) := bz_c183 (by decide +kernel)
theorem d_WF_call_67 : decode b_WF_call 67 = .ok (.athrow, 1) := bz_c191 (by decide +kernel)
theorem d_WF_call_68 : decode b_WF_call 68 = .ok (.aload_n 0, 1) := bz_c42 (by decide +kernel)
theorem d_WF_call_69 : decode b_WF_call 69 = .ok (.getfield 81, 3) := bz_c180 (by decide +kernel)
theorem d_WF_call_72 : decode b_WF_call 72 = .ok (.iload_n 1, 1) := bz_c27 (by decide +kernel)
theorem d_WF_call_73 : decode b_WF_call 73 = .ok (.aload_n 0, 1) := bz_c42 (by decide +kernel)
theorem d_WF_call_74 : decode b_WF_call 74 = .ok (.getfield 23, 3) := bz_c180 (by decide +kernel)
theorem d_WF_call_77 : decode b_WF_call 77 = .ok (.invokevirtual 146, 3) := bz_c182 (by decide +kernel)
theorem d_WF_call_80 : decode b_WF_call 80 = .ok (.lstore_n 3, 1) := bz_c66 (by decide +kernel)
theorem d_WF_call_81 : decode b_WF_call 81 = .ok (.aload_n 0, 1) := bz_c42 (by decide +kernel)
theorem d_WF_call_82 : decode b_WF_call 82 = .ok (.aload_n 0, 1) := bz_c42 (by decide +kernel)
theorem d_WF_call_83 : decode b_WF_call 83 = .ok (.getfield 81, 3) := bz_c180 (by decide +kernel)
theorem d_WF_call_86 : decode b_WF_call 86 = .ok (.getfield 150, 3) := bz_c180 (by decide +kernel)
theorem d_WF_call_89 : decode b_WF_call 89 = .ok (.putfield 104, 3) := bz_c181 (by decide +kernel)
theorem d_WF_call_92 : decode b_WF_call 92 = .ok (.aload_n 0, 1) := bz_c42 (by decide +kernel)
theorem d_WF_call_93 : decode b_WF_call 93 = .ok (.getfield 104, 3) := bz_c180 (by decide +kernel)
theorem d_WF_call_96 : decode b_WF_call 96 = .ok (.ifCond .eq 11, 3) := bz_c153 (by decide +kernel)
theorem d_WF_call_99 : decode b_WF_call 99 = .ok (.new 151, 3) := bz_c187 (by decide +kernel)
theorem d_WF_call_102 : decode b_WF_call 102 = .ok (.dup, 1) := bz_c89 (by decide +kernel)
theorem d_WF_call_103 : decode b_WF_call 103 = .ok (.invokespecial 153, 3) := bz_c183 (by decide +kernel)
theorem d_WF_call_106 : decode b_WF_call 106 = .ok (.athrow, 1) := bz_c191 (by decide +kernel)
theorem d_WF_call_107 : decode b_WF_call 107 = .ok (.lload_n 3, 1) := bz_c33 (by decide +kernel)
theorem d_WF_call_108 : decode b_WF_call 108 = .ok (.lreturn, 1) := bz_c173 (by decide +kernel)
theorem kM_WF_142 : Cond.methodLink R_WF 142 y_WA_takes ∈ lw_g := in_c7 93 rfl rfl
theorem kM_WF_146 : Cond.methodLink R_WF 146 y_MA_run ∈ lw_g := in_c7 94 rfl rfl
theorem kV_MA_run : Cond.instanceMethod y_MA_run ∈ lw_g := in_c7 95 rfl rfl
theorem kS_MA_run : Cond.selects R_MA y_MA_run y_MA_run ∈ lw_g := in_c7 96 rfl rfl
theorem kF_WF_150 : Cond.fieldLink R_WF 150 "WaferForge$Machine" "reason" "I" ∈ lw_g := in_c3 62 rfl rfl
abbrev at_WF_call (dC : Nat → ClassId) (dI : Nat → Nat → Nat) (sa : Nat → Nat) (h0 ta rw ag wa ws h0_program_r h0_coder_r h0_reader_r h0_validator_r ma wab wac watt watp watg waft wagt wafy wafv wagc waek waei waes waez wacfi waclk wacly wacop wacva wacpt wacel wacla magl mace mask mafb mafs maff mafl malb malh : Nat) (cag cwatt cwatp cwatg cwaft cwacfi cwaclk cwacly cwacop cwacva cwacpt cwacel cwacla cmagl cmace cmask cmafb cmafs cmaff cmafl cmalb cmalh : ClassId) (h0_place : Int32) (h0_loaded : Int32) (gag : Nat → Int64) (wa_typeCount : Int32) (wa_functionCount : Int32) (wa_hasMemory : Int32) (wa_pagesLeast : Int64) (wa_pagesMost : Int64) (wa_globalCount : Int32) (wa_exportCount : Int32) (gwatt : Nat → Int32) (gwatp : Nat → Int32) (gwatg : Nat → Int32) (gwaft : Nat → Int32) (wac_length : Int32) (wac_labelCount : Int32) (gwacfi : Nat → Int32) (gwaclk : Nat → Int32) (gwacly : Nat → Int32) (gwacop : Nat → Int32) (gwacva : Nat → Int64) (gwacpt : Nat → Int32) (gwacel : Nat → Int32) (gwacla : Nat → Int32) (A : Nat → Prop) (u : (Nat → Int64) × (Nat → Int32) × (Nat → Int32) × (Nat → Int32) × (Nat → Int32) × (Nat → Int64) × (Nat → Int32) × (Nat → Int32) × (Nat → Int64) × Int32 × Int32 × Int32 × Int32 × Int32 × Int32 × Int32 × Int32 × Int32) (t : State) : Prop := match u with | (gmace, gmafb, gmaff, gmafl, gmafs, gmagl, gmalb, gmalh, gmask, h0_argumentCount, h0_reason, ma_at, ma_frameCount, ma_height, ma_labelCount, ma_pages, ma_reason, ma_steps) => va_P (dC, dI) cls (wz_268 h0 ta rw ag h0_argumentCount h0_reason h0_place h0_loaded wa ws h0_program_r h0_coder_r h0_reader_r h0_validator_r ma ag cag gag wa wab wac wa_typeCount watt watp watg wa_functionCount waft wa_hasMemory wa_pagesLeast wa_pagesMost wa_globalCount wagt wafy wafv wagc wa_exportCount waek waei waes waez watt cwatt gwatt watp cwatp gwatp watg cwatg gwatg waft cwaft gwaft wac wacfi waclk wacly wac_length wacop wacva wacpt wacel wac_labelCount wacla wacfi cwacfi gwacfi waclk cwaclk gwaclk wacly cwacly gwacly wacop cwacop gwacop wacva cwacva gwacva wacpt cwacpt gwacpt wacel cwacel gwacel wacla cwacla gwacla ma ma_pages ma_steps ma_reason magl wa wac mace mask ma_height mafb mafs maff mafl ma_frameCount malb malh ma_labelCount ma_at magl cmagl gmagl mace cmace gmace mask cmask gmask mafb cmafb gmafb mafs cmafs gmafs maff cmaff gmaff mafl cmafl gmafl malb cmalb gmalb malh cmalh gmalh) t.heap ∧ va_K (dC, dI) cls [(cag, .long), (cwatt, .int), (cwatp, .int), (cwatg, .int), (cwaft, .int), (cwacfi, .int), (cwaclk, .int), (cwacly, .int), (cwacop, .int), (cwacva, .long), (cwacpt, .int), (cwacel, .int), (cwacla, .int), (cmagl, .long), (cmace, .long), (cmask, .long), (cmafb, .int), (cmafs, .int), (cmaff, .int), (cmafl, .int), (cmalb, .int), (cmalh, .int)] t ∧ va_D A (wz_268 h0 ta rw ag h0_argumentCount h0_reason h0_place h0_loaded wa ws h0_program_r h0_coder_r h0_reader_r h0_validator_r ma ag cag gag wa wab wac wa_typeCount watt watp watg wa_functionCount waft wa_hasMemory wa_pagesLeast wa_pagesMost wa_globalCount wagt wafy wafv wagc wa_exportCount waek waei waes waez watt cwatt gwatt watp cwatp gwatp watg cwatg gwatg waft cwaft gwaft wac wacfi waclk wacly wac_length wacop wacva wacpt wacel wac_labelCount wacla wacfi cwacfi gwacfi waclk cwaclk gwaclk wacly cwacly gwacly wacop cwacop gwacop wacva cwacva gwacva wacpt cwacpt gwacpt wacel cwacel gwacel wacla cwacla gwacla ma ma_pages ma_steps ma_reason magl wa wac mace mask ma_height mafb mafs maff mafl ma_frameCount malb malh ma_labelCount ma_at magl cmagl gmagl mace cmace gmace mask cmask gmask mafb cmafb gmafb mafs cmafs gmafs maff cmaff gmaff mafl cmafl gmafl malb cmalb gmalb malh cmalh gmalh)
set_option maxHeartbeats 4000000 in
set_option maxRecDepth 100000 in
theorem c_WF_call (l : Launch) (hlt : l.stackTraces = false) (dC : Nat → ClassId) (dI : Nat → Nat → Nat) (sz : Nat) (sa : Nat → Nat) (h0 ta rw ag wa ws h0_program_r h0_coder_r h0_reader_r h0_validator_r ma wab wac watt watp watg waft wagt wafy wafv wagc waek waei waes waez wacfi waclk wacly wacop wacva wacpt wacel wacla magl mace mask mafb mafs maff mafl malb malh : Nat) (cag cwatt cwatp cwatg cwaft cwacfi cwaclk cwacly cwacop cwacva cwacpt cwacel cwacla cmagl cmace cmask cmafb cmafs cmaff cmafl cmalb cmalh : ClassId) (h0_argumentCount : Int32) (h0_reason : Int32) (h0_place : Int32) (h0_loaded : Int32) (gag : Nat → Int64) (wa_typeCount : Int32) (wa_functionCount : Int32) (wa_hasMemory : Int32) (wa_pagesLeast : Int64) (wa_pagesMost : Int64) (wa_globalCount : Int32) (wa_exportCount : Int32) (gwatt : Nat → Int32) (gwatp : Nat → Int32) (gwatg : Nat → Int32) (gwaft : Nat → Int32) (wac_length : Int32) (wac_labelCount : Int32) (gwacfi : Nat → Int32) (gwaclk : Nat → Int32) (gwacly : Nat → Int32) (gwacop : Nat → Int32) (gwacva : Nat → Int64) (gwacpt : Nat → Int32) (gwacel : Nat → Int32) (gwacla : Nat → Int32) (ma_pages : Int32) (ma_steps : Int32) (ma_reason : Int32) (ma_height : Int32) (ma_frameCount : Int32) (ma_labelCount : Int32) (ma_at : Int32) (gmagl : Nat → Int64) (gmace : Nat → Int64) (gmask : Nat → Int64) (gmafb : Nat → Int32) (gmafs : Nat → Int32) (gmaff : Nat → Int32) (gmafl : Nat → Int32) (gmalb : Nat → Int32) (gmalh : Nat → Int32)  (b_h0_argumentCount : 0 ≤ h0_argumentCount.toInt ∧ h0_argumentCount.toInt ≤ 8) (b_h0_loaded : h0_loaded = 0 ∨ h0_loaded = 1) (b_wa_functionCount : 0 ≤ wa_functionCount.toInt ∧ wa_functionCount.toInt ≤ 30) (b_wa_globalCount : 0 ≤ wa_globalCount.toInt ∧ wa_globalCount.toInt ≤ 20) (b_wac_length : 0 ≤ wac_length.toInt ∧ wac_length.toInt ≤ 5000) (b_ma_pages : 0 ≤ ma_pages.toInt ∧ ma_pages.toInt ≤ 2) (b_ma_steps : 0 ≤ ma_steps.toInt ∧ ma_steps.toInt ≤ 100001) (b_ma_reason : 0 ≤ ma_reason.toInt ∧ ma_reason.toInt ≤ 14) (b_ma_height : 0 ≤ ma_height.toInt ∧ ma_height.toInt ≤ 12096) (b_ma_frameCount : 0 ≤ ma_frameCount.toInt ∧ ma_frameCount.toInt ≤ 100) (b_ma_labelCount : 0 ≤ ma_labelCount.toInt ∧ ma_labelCount.toInt ≤ 10000) (p0 : Int32)  (hld : h0_loaded.toInt = 1) (hmo : mo_ok wa_functionCount.toInt wa_globalCount.toInt gwaft gwatt gwatg gwacfi gwaclk gwacop gwacpt gwacel gwacla gwacva) : tz_Met l y_WF_call w_WF_call ({ frames := 7, cells := 1, slots := 6, locals := 177 }) (va_Pc [.ref h0, .int p0] (fun U => U.heap.size = sz ∧ va_P (dC, dI) cls (wz_268 h0 ta rw ag h0_argumentCount h0_reason h0_place h0_loaded wa ws h0_program_r h0_coder_r h0_reader_r h0_validator_r ma ag cag gag wa wab wac wa_typeCount watt watp watg wa_functionCount waft wa_hasMemory wa_pagesLeast wa_pagesMost wa_globalCount wagt wafy wafv wagc wa_exportCount waek waei waes waez watt cwatt gwatt watp cwatp gwatp watg cwatg gwatg waft cwaft gwaft wac wacfi waclk wacly wac_length wacop wacva wacpt wacel wac_labelCount wacla wacfi cwacfi gwacfi waclk cwaclk gwaclk wacly cwacly gwacly wacop cwacop gwacop wacva cwacva gwacva wacpt cwacpt gwacpt wacel cwacel gwacel wacla cwacla gwacla ma ma_pages ma_steps ma_reason magl wa wac mace mask ma_height mafb mafs maff mafl ma_frameCount malb malh ma_labelCount ma_at magl cmagl gmagl mace cmace gmace mask cmask gmask mafb cmafb gmafb mafs cmafs gmafs maff cmaff gmaff mafl cmafl gmafl malb cmalb gmalb malh cmalh gmalh) U.heap ∧ va_K (dC, dI) cls [(cag, .long), (cwatt, .int), (cwatp, .int), (cwatg, .int), (cwaft, .int), (cwacfi, .int), (cwaclk, .int), (cwacly, .int), (cwacop, .int), (cwacva, .long), (cwacpt, .int), (cwacel, .int), (cwacla, .int), (cmagl, .long), (cmace, .long), (cmask, .long), (cmafb, .int), (cmafs, .int), (cmaff, .int), (cmafl, .int), (cmalb, .int), (cmalh, .int)] U ∧ va_D (fun _ => True) (wz_268 h0 ta rw ag h0_argumentCount h0_reason h0_place h0_loaded wa ws h0_program_r h0_coder_r h0_reader_r h0_validator_r ma ag cag gag wa wab wac wa_typeCount watt watp watg wa_functionCount waft wa_hasMemory wa_pagesLeast wa_pagesMost wa_globalCount wagt wafy wafv wagc wa_exportCount waek waei waes waez watt cwatt gwatt watp cwatp gwatp watg cwatg gwatg waft cwaft gwaft wac wacfi waclk wacly wac_length wacop wacva wacpt wacel wac_labelCount wacla wacfi cwacfi gwacfi waclk cwaclk gwaclk wacly cwacly gwacly wacop cwacop gwacop wacva cwacva gwacva wacpt cwacpt gwacpt wacel cwacel gwacel wacla cwacla gwacla ma ma_pages ma_steps ma_reason magl wa wac mace mask ma_height mafb mafs maff mafl ma_frameCount malb malh ma_labelCount ma_at magl cmagl gmagl mace cmace gmace mask cmask gmask mafb cmafb gmafb mafs cmafs gmafs maff cmaff gmaff mafl cmafl gmafl malb cmalb gmalb malh cmalh gmalh) ∧ sw sa (va_A (wz_268 h0 ta rw ag h0_argumentCount h0_reason h0_place h0_loaded wa ws h0_program_r h0_coder_r h0_reader_r h0_validator_r ma ag cag gag wa wab wac wa_typeCount watt watp watg wa_functionCount waft wa_hasMemory wa_pagesLeast wa_pagesMost wa_globalCount wagt wafy wafv wagc wa_exportCount waek waei waes waez watt cwatt gwatt watp cwatp gwatp watg cwatg gwatg waft cwaft gwaft wac wacfi waclk wacly wac_length wacop wacva wacpt wacel wac_labelCount wacla wacfi cwacfi gwacfi waclk cwaclk gwaclk wacly cwacly gwacly wacop cwacop gwacop wacva cwacva gwacva wacpt cwacpt gwacpt wacel cwacel gwacel wacla cwacla gwacla ma ma_pages ma_steps ma_reason magl wa wac mace mask ma_height mafb mafs maff mafl ma_frameCount malb malh ma_labelCount ma_at magl cmagl gmagl mace cmace gmace mask cmask gmask mafb cmafb gmafb mafs cmafs gmafs maff cmaff gmaff mafl cmafl gmafl malb cmalb gmalb malh cmalh gmalh) sz) U U.heap)) (tq_Q (tm_l (fun (r : Int64) (u : (Nat → Int64) × (Nat → Int32) × (Nat → Int32) × (Nat → Int32) × (Nat → Int32) × (Nat → Int64) × (Nat → Int32) × (Nat → Int32) × (Nat → Int64) × Int32 × Int32 × Int32 × Int32 × Int32 × Int32 × Int32 × Int32 × Int32) => match u with | (gmace2, gmafb2, gmaff2, gmafl2, gmafs2, gmagl2, gmalb2, gmalh2, gmask2, h0_argumentCount2, h0_reason2, ma_at2, ma_frameCount2, ma_height2, ma_labelCount2, ma_pages2, ma_reason2, ma_steps2) => (0 ≤ h0_argumentCount2.toInt ∧ h0_argumentCount2.toInt ≤ 8) ∧ (0 ≤ ma_frameCount2.toInt ∧ ma_frameCount2.toInt ≤ 100) ∧ (0 ≤ ma_height2.toInt ∧ ma_height2.toInt ≤ 12096) ∧ (0 ≤ ma_labelCount2.toInt ∧ ma_labelCount2.toInt ≤ 10000) ∧ (0 ≤ ma_pages2.toInt ∧ ma_pages2.toInt ≤ 2) ∧ (0 ≤ ma_reason2.toInt ∧ ma_reason2.toInt ≤ 14) ∧ (0 ≤ ma_steps2.toInt ∧ ma_steps2.toInt ≤ 100001) ∧ (True)) ["java/lang/IllegalArgumentException", "java/lang/IllegalStateException", "java/lang/ArithmeticException"] (fun (u : (Nat → Int64) × (Nat → Int32) × (Nat → Int32) × (Nat → Int32) × (Nat → Int32) × (Nat → Int64) × (Nat → Int32) × (Nat → Int32) × (Nat → Int64) × Int32 × Int32 × Int32 × Int32 × Int32 × Int32 × Int32 × Int32 × Int32) => match u with | (gmace2, gmafb2, gmaff2, gmafl2, gmafs2, gmagl2, gmalb2, gmalh2, gmask2, h0_argumentCount2, h0_reason2, ma_at2, ma_frameCount2, ma_height2, ma_labelCount2, ma_pages2, ma_reason2, ma_steps2) => (0 ≤ h0_argumentCount2.toInt ∧ h0_argumentCount2.toInt ≤ 8) ∧ (0 ≤ ma_frameCount2.toInt ∧ ma_frameCount2.toInt ≤ 100) ∧ (0 ≤ ma_height2.toInt ∧ ma_height2.toInt ≤ 12096) ∧ (0 ≤ ma_labelCount2.toInt ∧ ma_labelCount2.toInt ≤ 10000) ∧ (0 ≤ ma_pages2.toInt ∧ ma_pages2.toInt ≤ 2) ∧ (0 ≤ ma_reason2.toInt ∧ ma_reason2.toInt ≤ 14) ∧ (0 ≤ ma_steps2.toInt ∧ ma_steps2.toInt ≤ 100001))) (at_WF_call dC dI sa h0 ta rw ag wa ws h0_program_r h0_coder_r h0_reader_r h0_validator_r ma wab wac watt watp watg waft wagt wafy wafv wagc waek waei waes waez wacfi waclk wacly wacop wacva wacpt wacel wacla magl mace mask mafb mafs maff mafl malb malh cag cwatt cwatp cwatg cwaft cwacfi cwaclk cwacly cwacop cwacva cwacpt cwacel cwacla cmagl cmace cmask cmafb cmafs cmaff cmafl cmalb cmalh h0_place h0_loaded gag wa_typeCount wa_functionCount wa_hasMemory wa_pagesLeast wa_pagesMost wa_globalCount wa_exportCount gwatt gwatp gwatg gwaft wac_length wac_labelCount gwacfi gwaclk gwacly gwacop gwacva gwacpt gwacel gwacla (va_A (wz_268 h0 ta rw ag h0_argumentCount h0_reason h0_place h0_loaded wa ws h0_program_r h0_coder_r h0_reader_r h0_validator_r ma ag cag gag wa wab wac wa_typeCount watt watp watg wa_functionCount waft wa_hasMemory wa_pagesLeast wa_pagesMost wa_globalCount wagt wafy wafv wagc wa_exportCount waek waei waes waez watt cwatt gwatt watp cwatp gwatp watg cwatg gwatg waft cwaft gwaft wac wacfi waclk wacly wac_length wacop wacva wacpt wacel wac_labelCount wacla wacfi cwacfi gwacfi waclk cwaclk gwaclk wacly cwacly gwacly wacop cwacop gwacop wacva cwacva gwacva wacpt cwacpt gwacpt wacel cwacel gwacel wacla cwacla gwacla ma ma_pages ma_steps ma_reason magl wa wac mace mask ma_height mafb mafs maff mafl ma_frameCount malb malh ma_labelCount ma_at magl cmagl gmagl mace cmace gmace mask cmask gmask mafb cmafb gmafb mafs cmafs gmafs maff cmaff gmaff mafl cmafl gmafl malb cmalb gmalb malh cmalh gmalh) sz)) (va_A (wz_268 h0 ta rw ag h0_argumentCount h0_reason h0_place h0_loaded wa ws h0_program_r h0_coder_r h0_reader_r h0_validator_r ma ag cag gag wa wab wac wa_typeCount watt watp watg wa_functionCount waft wa_hasMemory wa_pagesLeast wa_pagesMost wa_globalCount wagt wafy wafv wagc wa_exportCount waek waei waes waez watt cwatt gwatt watp cwatp gwatp watg cwatg gwatg waft cwaft gwaft wac wacfi waclk wacly wac_length wacop wacva wacpt wacel wac_labelCount wacla wacfi cwacfi gwacfi waclk cwaclk gwaclk wacly cwacly gwacly wacop cwacop gwacop wacva cwacva gwacva wacpt cwacpt gwacpt wacel cwacel gwacel wacla cwacla gwacla ma ma_pages ma_steps ma_reason magl wa wac mace mask ma_height mafb mafs maff mafl ma_frameCount malb malh ma_labelCount ma_at magl cmagl gmagl mace cmace gmace mask cmask gmask mafb cmafb gmafb mafs cmafs gmafs maff cmaff gmaff mafl cmafl gmafl malb cmalb gmalb malh cmalh gmalh) sz)) (tz_k 0 0 1 6) (va_A (wz_268 h0 ta rw ag h0_argumentCount h0_reason h0_place h0_loaded wa ws h0_program_r h0_coder_r h0_reader_r h0_validator_r ma ag cag gag wa wab wac wa_typeCount watt watp watg wa_functionCount waft wa_hasMemory wa_pagesLeast wa_pagesMost wa_globalCount wagt wafy wafv wagc wa_exportCount waek waei waes waez watt cwatt gwatt watp cwatp gwatp watg cwatg gwatg waft cwaft gwaft wac wacfi waclk wacly wac_length wacop wacva wacpt wacel wac_labelCount wacla wacfi cwacfi gwacfi waclk cwaclk gwaclk wacly cwacly gwacly wacop cwacop gwacop wacva cwacva gwacva wacpt cwacpt gwacpt wacel cwacel gwacel wacla cwacla gwacla ma ma_pages ma_steps ma_reason magl wa wac mace mask ma_height mafb mafs maff mafl ma_frameCount malb malh ma_labelCount ma_at magl cmagl gmagl mace cmace gmace mask cmask gmask mafb cmafb gmafb mafs cmafs gmafs maff cmaff gmaff mafl cmafl gmafl malb cmalb gmalb malh cmalh gmalh) sz) := by
  refine tz_ofW (cc := b_WF_call) (maxL := 5) (ret := (Option.some .long)) (by decide) rfl ?_
  intro p e s m args below meth c s₁ B hml hno hv
  obtain ⟨rfl, hsz, hP, hK, hD0, hSW⟩ := hv
  have hx := B.exec
  have hb := B.bytes
  have hr := B.returns
  have hts0 := atoms_spec (ws := w_WF_call) B.pre
  have hts : ∀ w ∈ lw_g, w.before _ s = true := fun w h => hts0 w (List.mem_cons_of_mem _ h)
  have hown : s.vm.findClass R_WF = some m.cls := findClass_of_methodNamed B.named
  have hlocks := B.notSynchronized
  clear hts0
  subst hsz
  have hD := hD0.self (sz := s.heap.size)
  generalize hAe : va_A (wz_268 h0 ta rw ag h0_argumentCount h0_reason h0_place h0_loaded wa ws h0_program_r h0_coder_r h0_reader_r h0_validator_r ma ag cag gag wa wab wac wa_typeCount watt watp watg wa_functionCount waft wa_hasMemory wa_pagesLeast wa_pagesMost wa_globalCount wagt wafy wafv wagc wa_exportCount waek waei waes waez watt cwatt gwatt watp cwatp gwatp watg cwatg gwatg waft cwaft gwaft wac wacfi waclk wacly wac_length wacop wacva wacpt wacel wac_labelCount wacla wacfi cwacfi gwacfi waclk cwaclk gwaclk wacly cwacly gwacly wacop cwacop gwacop wacva cwacva gwacva wacpt cwacpt gwacpt wacel cwacel gwacel wacla cwacla gwacla ma ma_pages ma_steps ma_reason magl wa wac mace mask ma_height mafb mafs maff mafl ma_frameCount malb malh ma_labelCount ma_at magl cmagl gmagl mace cmace gmace mask cmask gmask mafb cmafb gmafb mafs cmafs gmafs maff cmaff gmaff mafl cmafl gmafl malb cmalb gmalb malh cmalh gmalh) s.heap.size = A at hD hSW ⊢
  have hA : ∀ q : Nat, s.heap.size ≤ q → A q := fun q h => by rw [← hAe]; exact Or.inr h
  clear hAe
  have hP : va_P (dC, dI) cls (wz_268 h0 ta rw ag h0_argumentCount h0_reason h0_place h0_loaded wa ws h0_program_r h0_coder_r h0_reader_r h0_validator_r ma ag cag gag wa wab wac wa_typeCount watt watp watg wa_functionCount waft wa_hasMemory wa_pagesLeast wa_pagesMost wa_globalCount wagt wafy wafv wagc wa_exportCount waek waei waes waez watt cwatt gwatt watp cwatp gwatp watg cwatg gwatg waft cwaft gwaft wac wacfi waclk wacly wac_length wacop wacva wacpt wacel wac_labelCount wacla wacfi cwacfi gwacfi waclk cwaclk gwaclk wacly cwacly gwacly wacop cwacop gwacop wacva cwacva gwacva wacpt cwacpt gwacpt wacel cwacel gwacel wacla cwacla gwacla ma ma_pages ma_steps ma_reason magl wa wac mace mask ma_height mafb mafs maff mafl ma_frameCount malb malh ma_labelCount ma_at magl cmagl gmagl mace cmace gmace mask cmask gmask mafb cmafb gmafb mafs cmafs gmafs maff cmaff gmaff mafl cmafl gmafl malb cmalb gmalb malh cmalh gmalh) s.heap := hP
  have hl := lv_entry ([.ref h0, .int p0]) (n := 5) (Nat.le_of_ble_eq_true rfl)
  rw [lg_entry_eq]
  generalize (lg_sl ([.ref h0, .int p0]) ++ List.replicate (5 - (lg_sl ([.ref h0, .int p0])).length) Slot.unset).toArray = ls at hl ⊢
  have hl : lv_has ls 5 [(0, .ref h0), (1, .int p0)] := hl
  have k0 : (0 : Int32).toInt = 0 := by decide
  refine w_gen (A := A) hP (fun H locs hP hS => ?_)
  have lo_p0 := i32_lo p0
  have hi_p0 := i32_hi p0
  have th0_loaded := b01 b_h0_loaded
  obtain ⟨an, nl, gv, tk, hfn, hgv, hnl, htk, hfs, hgc, hok⟩ := hmo
  refine lv_aload_n hx hb d_WF_call_0 rfl (lv_at hl 0 rfl) ?_
  refine va_get (D := (dC, dI)) (ci := 0) (v := .int h0_loaded) (C := R_WF) (T := F_WF) (N := 14) hx hb hts i_WF hown hK hP 0 rfl rfl 6 (by decide) (hts _ kF_WF_128) (fun _ h9 => h9) rfl d_WF_call_1 ?_
  refine lv_if_ne (tgt := 15) hx hb d_WF_call_4 (by decide) (fun c4 => ?_) (fun c4 => absurd (eqI c4) (by (first | (apply Int.le_antisymm <;> omega) | omega)))
  have q4 := neI c4
  refine lv_iload_n hx hb d_WF_call_15 rfl (lv_at hl 1 rfl) ?_
  refine w_cut (pc2 := 30) (σ := Unit) (fun u H locs ls => match u with | _ => va_P (dC, dI) cls (wz_268 h0 ta rw ag h0_argumentCount h0_reason h0_place h0_loaded wa ws h0_program_r h0_coder_r h0_reader_r h0_validator_r ma ag cag gag wa wab wac wa_typeCount watt watp watg wa_functionCount waft wa_hasMemory wa_pagesLeast wa_pagesMost wa_globalCount wagt wafy wafv wagc wa_exportCount waek waei waes waez watt cwatt gwatt watp cwatp gwatp watg cwatg gwatg waft cwaft gwaft wac wacfi waclk wacly wac_length wacop wacva wacpt wacel wac_labelCount wacla wacfi cwacfi gwacfi waclk cwaclk gwaclk wacly cwacly gwacly wacop cwacop gwacop wacva cwacva gwacva wacpt cwacpt gwacpt wacel cwacel gwacel wacla cwacla gwacla ma ma_pages ma_steps ma_reason magl wa wac mace mask ma_height mafb mafs maff mafl ma_frameCount malb malh ma_labelCount ma_at magl cmagl gmagl mace cmace gmace mask cmask gmask mafb cmafb gmafb mafs cmafs gmafs maff cmaff gmaff mafl cmafl gmafl malb cmalb gmalb malh cmalh gmalh) H ∧ va_D A (wz_268 h0 ta rw ag h0_argumentCount h0_reason h0_place h0_loaded wa ws h0_program_r h0_coder_r h0_reader_r h0_validator_r ma ag cag gag wa wab wac wa_typeCount watt watp watg wa_functionCount waft wa_hasMemory wa_pagesLeast wa_pagesMost wa_globalCount wagt wafy wafv wagc wa_exportCount waek waei waes waez watt cwatt gwatt watp cwatp gwatp watg cwatg gwatg waft cwaft gwaft wac wacfi waclk wacly wac_length wacop wacva wacpt wacel wac_labelCount wacla wacfi cwacfi gwacfi waclk cwaclk gwaclk wacly cwacly gwacly wacop cwacop gwacop wacva cwacva gwacva wacpt cwacpt gwacpt wacel cwacel gwacel wacla cwacla gwacla ma ma_pages ma_steps ma_reason magl wa wac mace mask ma_height mafb mafs maff mafl ma_frameCount malb malh ma_labelCount ma_at magl cmagl gmagl mace cmace gmace mask cmask gmask mafb cmafb gmafb mafs cmafs gmafs maff cmaff gmaff mafl cmafl gmafl malb cmalb gmalb malh cmalh gmalh) ∧ va_S A s.heap H locs ∧ lv_has ls 5 []) (fun u => match u with | _ => []) ?_ (fun jn30 => ?_)
  · intro u H locs ls hI
    obtain ⟨hP, hD, hS, hl⟩ := hI
    have hP9 := hP.sb (wq := (wz_268 h0 ta rw ag h0_argumentCount h0_reason h0_place h0_loaded wa ws h0_program_r h0_coder_r h0_reader_r h0_validator_r ma ag cag gag wa wab wac wa_typeCount watt watp watg wa_functionCount waft wa_hasMemory wa_pagesLeast wa_pagesMost wa_globalCount wagt wafy wafv wagc wa_exportCount waek waei waes waez watt cwatt gwatt watp cwatp gwatp watg cwatg gwatg waft cwaft gwaft wac wacfi waclk wacly wac_length wacop wacva wacpt wacel wac_labelCount wacla wacfi cwacfi gwacfi waclk cwaclk gwaclk wacly cwacly gwacly wacop cwacop gwacop wacva cwacva gwacva wacpt cwacpt gwacpt wacel cwacel gwacel wacla cwacla gwacla ma ma_pages ma_steps ma_reason magl wa wac mace mask ma_height mafb mafs maff mafl ma_frameCount malb malh ma_labelCount ma_at magl cmagl gmagl mace cmace gmace mask cmask gmask mafb cmafb gmafb mafs cmafs gmafs maff cmaff gmaff mafl cmafl gmafl malb cmalb gmalb malh cmalh gmalh)) [0, 1, 2, 3, 4, 5, 6, 7, 8, 9, 10, 11, 12, 13, 14, 15, 16, 17, 18, 19, 20, 21, 22, 23, 24, 25] rfl
    have hD9 := hD.sb (wq := (wz_268 h0 ta rw ag h0_argumentCount h0_reason h0_place h0_loaded wa ws h0_program_r h0_coder_r h0_reader_r h0_validator_r ma ag cag gag wa wab wac wa_typeCount watt watp watg wa_functionCount waft wa_hasMemory wa_pagesLeast wa_pagesMost wa_globalCount wagt wafy wafv wagc wa_exportCount waek waei waes waez watt cwatt gwatt watp cwatp gwatp watg cwatg gwatg waft cwaft gwaft wac wacfi waclk wacly wac_length wacop wacva wacpt wacel wac_labelCount wacla wacfi cwacfi gwacfi waclk cwaclk gwaclk wacly cwacly gwacly wacop cwacop gwacop wacva cwacva gwacva wacpt cwacpt gwacpt wacel cwacel gwacel wacla cwacla gwacla ma ma_pages ma_steps ma_reason magl wa wac mace mask ma_height mafb mafs maff mafl ma_frameCount malb malh ma_labelCount ma_at magl cmagl gmagl mace cmace gmace mask cmask gmask mafb cmafb gmafb mafs cmafs gmafs maff cmaff gmaff mafl cmafl gmafl malb cmalb gmalb malh cmalh gmalh)) [0, 1, 2, 3, 4, 5, 6, 7, 8, 9, 10, 11, 12, 13, 14, 15, 16, 17, 18, 19, 20, 21, 22, 23, 24, 25] (by decide) rfl
    exact tz_throwNew hx hb hno hlocks hlt (hl.1.trans hml.symm) hown (by decide +kernel) (by decide +kernel) (fun U hU hW => eb_WF_ia hts hSW hS U hU hW) d_WF_call_30 d_WF_call_33 d_WF_call_34 d_WF_call_37 (by decide) (Nat.le_of_ble_eq_true rfl) (Nat.le_of_ble_eq_true rfl) (Nat.le_of_ble_eq_true rfl) (fun _ => rfl) (fun x t h1 h2 h3 h4 => ⟨⟨(gmace, gmafb, gmaff, gmafl, gmafs, gmagl, gmalb, gmalh, gmask, h0_argumentCount, h0_reason, ma_at, ma_frameCount, ma_height, ma_labelCount, ma_pages, ma_reason, ma_steps), ⟨⟨b_h0_argumentCount, b_ma_frameCount, b_ma_height, b_ma_labelCount, b_ma_pages, b_ma_reason, b_ma_steps⟩, "java/lang/IllegalArgumentException", by decide, h3⟩, vp_ext hP9 h2, va_K.moved h4.alike hK, hD9⟩, vs_ext hS h1 h2⟩) hS.2.2
  · skip
    refine lv_if_lt (tgt := 30) hx hb d_WF_call_16 (by decide) (fun c16 => ?_) (fun c16 => ?_)
    · have q16 := ltI c16
      exact jn30 () _ _ _ ⟨hP, hD, hS, lv_sub hl [] rfl⟩
    · have q16 := nltI c16
      refine lv_iload_n hx hb d_WF_call_19 rfl (lv_at hl 1 rfl) ?_
      refine lv_aload_n hx hb d_WF_call_20 rfl (lv_at hl 0 rfl) ?_
      refine va_get (D := (dC, dI)) (ci := 0) (v := .ref wa) (C := R_WF) (T := F_WF) (N := 14) hx hb hts i_WF hown hK hP 0 rfl rfl 7 (by decide) (hts _ kF_WF_34) (fun _ h9 => h9) rfl d_WF_call_21 ?_
      refine va_get (D := (dC, dI)) (ci := 10) (v := .int wa_functionCount) (C := R_WA) (T := F_WA) (N := 21) hx hb hts i_WA hown hK hP 2 rfl rfl 6 (by decide) (hts _ kF_WF_125) (fun _ h9 => h9) rfl d_WF_call_24 ?_
      refine lv_icmp_lt (tgt := 38) hx hb d_WF_call_27 (by decide) (fun c27 => ?_) (fun c27 => ?_)
      · have q27 := ltI c27
        refine lv_aload_n hx hb d_WF_call_38 rfl (lv_at hl 0 rfl) ?_
        refine va_get (D := (dC, dI)) (ci := 0) (v := .int h0_argumentCount) (C := R_WF) (T := F_WF) (N := 14) hx hb hts i_WF hown hK hP 0 rfl rfl 3 (by decide) (hts _ kF_WF_139) (fun _ h9 => h9) rfl d_WF_call_39 ?_
        refine lv_istore_n (lv' := [(2, .int h0_argumentCount), (0, .ref h0), (1, .int p0)]) hx hb d_WF_call_42 rfl hl (by decide) rfl (fun ls hl => ?_)
        refine lv_aload_n hx hb d_WF_call_43 rfl (lv_at hl 1 rfl) ?_
        refine lv_iconst (v := 0) hx hb d_WF_call_44 (by decide) ?_
        refine va_put (D := (dC, dI)) (ci := 0) (v := .int 0) (ty := .int) (C := R_WF) (T := F_WF) (N := 14) hx hb hts i_WF t_WF t_WF_ok n_WF hown hK hP hD hS 0 rfl rfl 3 (by decide) (hts _ kF_WF_139) (fun _ h9 => h9) rfl (by decide +kernel) rfl rfl (Nat.le_of_ble_eq_true rfl) d_WF_call_45 (fun H locs hP hD hS => ?_)
        refine lv_iload_n hx hb d_WF_call_48 rfl (lv_at hl 0 rfl) ?_
        refine lv_aload_n hx hb d_WF_call_49 rfl (lv_at hl 1 rfl) ?_
        refine va_get (D := (dC, dI)) (ci := 0) (v := .ref wa) (C := R_WF) (T := F_WF) (N := 14) hx hb hts i_WF hown hK hP 0 rfl rfl 7 (by decide) (hts _ kF_WF_34) (fun _ h9 => h9) rfl d_WF_call_50 ?_
        refine lv_iload_n hx hb d_WF_call_53 rfl (lv_at hl 2 rfl) ?_
        have hc9 := i32_clamp (x := p0) (by (first | (apply Int.le_antisymm <;> omega) | omega))
        have hfn9 := hfn p0.toNatClampNeg (by (first | (apply Int.le_antisymm <;> omega) | omega))
        have hPc := hP.sb (wq := (wz_269 wa wab wac wa_typeCount watt watp watg wa_functionCount waft wa_hasMemory wa_pagesLeast wa_pagesMost wa_globalCount wagt wafy wafv wagc wa_exportCount waek waei waes waez waft cwaft gwaft watt cwatt gwatt)) [2, 6, 3] rfl
        have hDc := hD.sb (wq := (wz_269 wa wab wac wa_typeCount watt watp watg wa_functionCount waft wa_hasMemory wa_pagesLeast wa_pagesMost wa_globalCount wagt wafy wafv wagc wa_exportCount waek waei waes waez waft cwaft gwaft watt cwatt gwatt)) [2, 6, 3] (by decide) rfl
        have hKc := hK.sb (tyq := [(cwaft, .int), (cwatt, .int)]) [4, 1] rfl
        have hFc := va_free (wc := (wz_269 wa wab wac wa_typeCount watt watp watg wa_functionCount waft wa_hasMemory wa_pagesLeast wa_pagesMost wa_globalCount wagt wafy wafv wagc wa_exportCount waek waei waes waez waft cwaft gwaft watt cwatt gwatt)) hD hS hA [2, 6, 3] rfl
        refine va_calli (va_runV (As := [.int p0]) (rest := [.int h0_argumentCount]) ⟨hx, hb, hml, hown, hts⟩ (c_WA_takes l dC dI wa waft watt H.size cwaft cwatt gwaft gwatt [.ref wab, .ref wac, .int wa_typeCount, .ref watt, .ref watp, .ref watg, .int wa_functionCount, .ref waft, .int wa_hasMemory, .long wa_pagesLeast, .long wa_pagesMost, .int wa_globalCount, .ref wagt, .ref wafy, .ref wafv, .ref wagc, .int wa_exportCount, .ref waek, .ref waei, .ref waes, .ref waez] rfl rfl rfl p0 (by (first | (apply Int.le_antisymm <;> omega) | omega)) (by (first | (apply Int.le_antisymm <;> omega) | omega))) (cwV 1 hts (gV kM_WF_142 kV_WA_takes kS_WA_takes kI_WA kC_WA_takes) rfl rfl rfl (by decide +kernel) ⟨Nat.le_of_ble_eq_true rfl, Nat.le_of_ble_eq_true rfl⟩) ⟨fun a U g mk z => by obtain ⟨z0, z1, zP, zK, zD⟩ := z; exact ⟨z0, z1, zP, va_K.moved (u := U) (U := U.calling g mk a) (Vm.Alike.refl U.vm) zK, zD⟩, va_recv hKc hPc (ci := 10) (q0 := 0) rfl rfl, fun U hU hW => ⟨rfl, by rw [hU], va_P.he hU.symm hPc, va_K.moved hW.alike hKc, hDc.weaken (fun _ _ _ _ => trivial)⟩⟩ rfl rfl hl.1 rfl (lv_room (Nat.le_of_ble_eq_true rfl)) d_WF_call_54 ⟨(Nat.zero_le _), (Nat.zero_le _)⟩) hS (fun q _ h => hFc q h) hFc (fun r1 u t H1 locs ht hvm hw hB hz1 hk1 hS => ?_)
        try dsimp only at hw
        have er1 := hw
        try clear hw
        obtain ⟨hP1, hK1, hD1⟩ := hB
        replace hP1 := va_P.he ht hP1
        obtain ⟨hP, hD⟩ := va_join (wr := [(h0, .inr (0, [.ref ta, .ref rw, .ref ag, .int 0, .int h0_reason, .int h0_place, .int h0_loaded, .ref wa, .ref ws, .ref h0_program_r, .ref h0_coder_r, .ref h0_reader_r, .ref h0_validator_r, .ref ma])), (ag, .inl (cag, 8, .inr (.inl gag))), (watp, .inl (cwatp, 160, .inl gwatp)), (watg, .inl (cwatg, 20, .inl gwatg)), (wac, .inr (3, [.ref wacfi, .ref waclk, .ref wacly, .int wac_length, .ref wacop, .ref wacva, .ref wacpt, .ref wacel, .int wac_labelCount, .ref wacla])), (wacfi, .inl (cwacfi, 31, .inl gwacfi)), (waclk, .inl (cwaclk, 30, .inl gwaclk)), (wacly, .inl (cwacly, 1800, .inl gwacly)), (wacop, .inl (cwacop, 5000, .inl gwacop)), (wacva, .inl (cwacva, 5000, .inr (.inl gwacva))), (wacpt, .inl (cwacpt, 5000, .inl gwacpt)), (wacel, .inl (cwacel, 5000, .inl gwacel)), (wacla, .inl (cwacla, 2000, .inl gwacla)), (ma, .inr (4, [.int ma_pages, .int ma_steps, .int ma_reason, .ref magl, .ref wa, .ref wac, .ref mace, .ref mask, .int ma_height, .ref mafb, .ref mafs, .ref maff, .ref mafl, .int ma_frameCount, .ref malb, .ref malh, .int ma_labelCount, .int ma_at])), (magl, .inl (cmagl, 20, .inr (.inl gmagl))), (mace, .inl (cmace, 16384, .inr (.inl gmace))), (mask, .inl (cmask, 12096, .inr (.inl gmask))), (mafb, .inl (cmafb, 100, .inl gmafb)), (mafs, .inl (cmafs, 100, .inl gmafs)), (maff, .inl (cmaff, 100, .inl gmaff)), (mafl, .inl (cmafl, 100, .inl gmafl)), (malb, .inl (cmalb, 10000, .inl gmalb)), (malh, .inl (cmalh, 10000, .inl gmalh))]) (w1 := (wz_269 wa wab wac wa_typeCount watt watp watg wa_functionCount waft wa_hasMemory wa_pagesLeast wa_pagesMost wa_globalCount wagt wafy wafv wagc wa_exportCount waek waei waes waez waft cwaft gwaft watt cwatt gwatt)) hP hD [2, 6, 3] [0, 1, 4, 5, 7, 8, 9, 10, 11, 12, 13, 14, 15, 16, 17, 18, 19, 20, 21, 22, 23, 24, 25] rfl rfl (by decide) (by decide) hk1 hFc hP1 hD1
        clear hPc hDc hKc hFc hz1 hk1 hP1 hK1 hD1
        rename Heap => H
        have hP : va_P (dC, dI) cls [(h0, .inr (0, [.ref ta, .ref rw, .ref ag, .int 0, .int h0_reason, .int h0_place, .int h0_loaded, .ref wa, .ref ws, .ref h0_program_r, .ref h0_coder_r, .ref h0_reader_r, .ref h0_validator_r, .ref ma])), (ag, .inl (cag, 8, .inr (.inl gag))), (watp, .inl (cwatp, 160, .inl gwatp)), (watg, .inl (cwatg, 20, .inl gwatg)), (wac, .inr (3, [.ref wacfi, .ref waclk, .ref wacly, .int wac_length, .ref wacop, .ref wacva, .ref wacpt, .ref wacel, .int wac_labelCount, .ref wacla])), (wacfi, .inl (cwacfi, 31, .inl gwacfi)), (waclk, .inl (cwaclk, 30, .inl gwaclk)), (wacly, .inl (cwacly, 1800, .inl gwacly)), (wacop, .inl (cwacop, 5000, .inl gwacop)), (wacva, .inl (cwacva, 5000, .inr (.inl gwacva))), (wacpt, .inl (cwacpt, 5000, .inl gwacpt)), (wacel, .inl (cwacel, 5000, .inl gwacel)), (wacla, .inl (cwacla, 2000, .inl gwacla)), (ma, .inr (4, [.int ma_pages, .int ma_steps, .int ma_reason, .ref magl, .ref wa, .ref wac, .ref mace, .ref mask, .int ma_height, .ref mafb, .ref mafs, .ref maff, .ref mafl, .int ma_frameCount, .ref malb, .ref malh, .int ma_labelCount, .int ma_at])), (magl, .inl (cmagl, 20, .inr (.inl gmagl))), (mace, .inl (cmace, 16384, .inr (.inl gmace))), (mask, .inl (cmask, 12096, .inr (.inl gmask))), (mafb, .inl (cmafb, 100, .inl gmafb)), (mafs, .inl (cmafs, 100, .inl gmafs)), (maff, .inl (cmaff, 100, .inl gmaff)), (mafl, .inl (cmafl, 100, .inl gmafl)), (malb, .inl (cmalb, 10000, .inl gmalb)), (malh, .inl (cmalh, 10000, .inl gmalh)), (wa, .inr (10, [.ref wab, .ref wac, .int wa_typeCount, .ref watt, .ref watp, .ref watg, .int wa_functionCount, .ref waft, .int wa_hasMemory, .long wa_pagesLeast, .long wa_pagesMost, .int wa_globalCount, .ref wagt, .ref wafy, .ref wafv, .ref wagc, .int wa_exportCount, .ref waek, .ref waei, .ref waes, .ref waez])), (waft, .inl (cwaft, 30, .inl gwaft)), (watt, .inl (cwatt, 20, .inl gwatt))] H := hP
        have hD : va_D A [(h0, .inr (0, [.ref ta, .ref rw, .ref ag, .int 0, .int h0_reason, .int h0_place, .int h0_loaded, .ref wa, .ref ws, .ref h0_program_r, .ref h0_coder_r, .ref h0_reader_r, .ref h0_validator_r, .ref ma])), (ag, .inl (cag, 8, .inr (.inl gag))), (watp, .inl (cwatp, 160, .inl gwatp)), (watg, .inl (cwatg, 20, .inl gwatg)), (wac, .inr (3, [.ref wacfi, .ref waclk, .ref wacly, .int wac_length, .ref wacop, .ref wacva, .ref wacpt, .ref wacel, .int wac_labelCount, .ref wacla])), (wacfi, .inl (cwacfi, 31, .inl gwacfi)), (waclk, .inl (cwaclk, 30, .inl gwaclk)), (wacly, .inl (cwacly, 1800, .inl gwacly)), (wacop, .inl (cwacop, 5000, .inl gwacop)), (wacva, .inl (cwacva, 5000, .inr (.inl gwacva))), (wacpt, .inl (cwacpt, 5000, .inl gwacpt)), (wacel, .inl (cwacel, 5000, .inl gwacel)), (wacla, .inl (cwacla, 2000, .inl gwacla)), (ma, .inr (4, [.int ma_pages, .int ma_steps, .int ma_reason, .ref magl, .ref wa, .ref wac, .ref mace, .ref mask, .int ma_height, .ref mafb, .ref mafs, .ref maff, .ref mafl, .int ma_frameCount, .ref malb, .ref malh, .int ma_labelCount, .int ma_at])), (magl, .inl (cmagl, 20, .inr (.inl gmagl))), (mace, .inl (cmace, 16384, .inr (.inl gmace))), (mask, .inl (cmask, 12096, .inr (.inl gmask))), (mafb, .inl (cmafb, 100, .inl gmafb)), (mafs, .inl (cmafs, 100, .inl gmafs)), (maff, .inl (cmaff, 100, .inl gmaff)), (mafl, .inl (cmafl, 100, .inl gmafl)), (malb, .inl (cmalb, 10000, .inl gmalb)), (malh, .inl (cmalh, 10000, .inl gmalh)), (wa, .inr (10, [.ref wab, .ref wac, .int wa_typeCount, .ref watt, .ref watp, .ref watg, .int wa_functionCount, .ref waft, .int wa_hasMemory, .long wa_pagesLeast, .long wa_pagesMost, .int wa_globalCount, .ref wagt, .ref wafy, .ref wafv, .ref wagc, .int wa_exportCount, .ref waek, .ref waei, .ref waes, .ref waez])), (waft, .inl (cwaft, 30, .inl gwaft)), (watt, .inl (cwatt, 20, .inl gwatt))] := hD
        refine lv_icmp_eq (tgt := 68) hx hb d_WF_call_57 (by decide) (fun c57 => ?_) (fun c57 => ?_)
        · have q57 := eqI c57
          refine lv_aload_n hx hb d_WF_call_68 rfl (lv_at hl 1 rfl) ?_
          refine va_get (D := (dC, dI)) (ci := 0) (v := .ref ma) (C := R_WF) (T := F_WF) (N := 14) hx hb hts i_WF hown hK hP 0 rfl rfl 13 (by decide) (hts _ kF_WF_81) (fun _ h9 => h9) rfl d_WF_call_69 ?_
          refine lv_iload_n hx hb d_WF_call_72 rfl (lv_at hl 2 rfl) ?_
          refine lv_aload_n hx hb d_WF_call_73 rfl (lv_at hl 1 rfl) ?_
          refine va_get (D := (dC, dI)) (ci := 0) (v := .ref ag) (C := R_WF) (T := F_WF) (N := 14) hx hb hts i_WF hown hK hP 0 rfl rfl 2 (by decide) (hts _ kF_WF_23) (fun _ h9 => h9) rfl d_WF_call_74 ?_
          have hPc := hP.sb (wq := (wz_270 ma ma_pages ma_steps ma_reason magl wa wac mace mask ma_height mafb mafs maff mafl ma_frameCount malb malh ma_labelCount ma_at wa wab wac wa_typeCount watt watp watg wa_functionCount waft wa_hasMemory wa_pagesLeast wa_pagesMost wa_globalCount wagt wafy wafv wagc wa_exportCount waek waei waes waez wac wacfi waclk wacly wac_length wacop wacva wacpt wacel wac_labelCount wacla mask cmask gmask mace cmace gmace magl cmagl gmagl mafb cmafb gmafb mafs cmafs gmafs maff cmaff gmaff mafl cmafl gmafl malb cmalb gmalb malh cmalh gmalh waft cwaft gwaft watt cwatt gwatt watg cwatg gwatg wacfi cwacfi gwacfi waclk cwaclk gwaclk wacop cwacop gwacop wacva cwacva gwacva wacpt cwacpt gwacpt wacel cwacel gwacel wacla cwacla gwacla watp cwatp gwatp wacly cwacly gwacly ag cag gag)) [13, 23, 4, 16, 15, 14, 17, 18, 19, 20, 21, 22, 24, 25, 3, 5, 6, 8, 9, 10, 11, 12, 2, 7, 1] rfl
          have hDc := hD.sb (wq := (wz_270 ma ma_pages ma_steps ma_reason magl wa wac mace mask ma_height mafb mafs maff mafl ma_frameCount malb malh ma_labelCount ma_at wa wab wac wa_typeCount watt watp watg wa_functionCount waft wa_hasMemory wa_pagesLeast wa_pagesMost wa_globalCount wagt wafy wafv wagc wa_exportCount waek waei waes waez wac wacfi waclk wacly wac_length wacop wacva wacpt wacel wac_labelCount wacla mask cmask gmask mace cmace gmace magl cmagl gmagl mafb cmafb gmafb mafs cmafs gmafs maff cmaff gmaff mafl cmafl gmafl malb cmalb gmalb malh cmalh gmalh waft cwaft gwaft watt cwatt gwatt watg cwatg gwatg wacfi cwacfi gwacfi waclk cwaclk gwaclk wacop cwacop gwacop wacva cwacva gwacva wacpt cwacpt gwacpt wacel cwacel gwacel wacla cwacla gwacla watp cwatp gwatp wacly cwacly gwacly ag cag gag)) [13, 23, 4, 16, 15, 14, 17, 18, 19, 20, 21, 22, 24, 25, 3, 5, 6, 8, 9, 10, 11, 12, 2, 7, 1] (by decide) rfl
          have hKc := hK.sb (tyq := [(cmask, .long), (cmace, .long), (cmagl, .long), (cmafb, .int), (cmafs, .int), (cmaff, .int), (cmafl, .int), (cmalb, .int), (cmalh, .int), (cwaft, .int), (cwatt, .int), (cwatg, .int), (cwacfi, .int), (cwaclk, .int), (cwacop, .int), (cwacva, .long), (cwacpt, .int), (cwacel, .int), (cwacla, .int), (cwatp, .int), (cwacly, .int), (cag, .long)]) [15, 14, 13, 16, 17, 18, 19, 20, 21, 4, 1, 3, 5, 6, 8, 9, 10, 11, 12, 2, 7, 0] rfl
          have hFc := va_free (wc := (wz_270 ma ma_pages ma_steps ma_reason magl wa wac mace mask ma_height mafb mafs maff mafl ma_frameCount malb malh ma_labelCount ma_at wa wab wac wa_typeCount watt watp watg wa_functionCount waft wa_hasMemory wa_pagesLeast wa_pagesMost wa_globalCount wagt wafy wafv wagc wa_exportCount waek waei waes waez wac wacfi waclk wacly wac_length wacop wacva wacpt wacel wac_labelCount wacla mask cmask gmask mace cmace gmace magl cmagl gmagl mafb cmafb gmafb mafs cmafs gmafs maff cmaff gmaff mafl cmafl gmafl malb cmalb gmalb malh cmalh gmalh waft cwaft gwaft watt cwatt gwatt watg cwatg gwatg wacfi cwacfi gwacfi waclk cwaclk gwaclk wacop cwacop gwacop wacva cwacva gwacva wacpt cwacpt gwacpt wacel cwacel gwacel wacla cwacla gwacla watp cwatp gwatp wacly cwacly gwacly ag cag gag)) hD hS hA [13, 23, 4, 16, 15, 14, 17, 18, 19, 20, 21, 22, 24, 25, 3, 5, 6, 8, 9, 10, 11, 12, 2, 7, 1] rfl
          refine va_calll (va_runV (As := [.int p0, .ref ag]) (rest := []) ⟨hx, hb, hml, hown, hts⟩ (c_MA_run l dC dI H.size ma magl wa wac mace mask mafb mafs maff mafl malb malh watt watp watg waft wacfi waclk wacly wacop wacva wacpt wacel wacla ag cmask cmace cmagl cmafb cmafs cmaff cmafl cmalb cmalh cwaft cwatt cwatg cwacfi cwaclk cwacop cwacva cwacpt cwacel cwacla cwatp cwacly cag ma_pages ma_steps ma_reason ma_height ma_frameCount ma_labelCount ma_at [.ref wab, .ref wac, .int wa_typeCount, .ref watt, .ref watp, .ref watg, .int wa_functionCount, .ref waft, .int wa_hasMemory, .long wa_pagesLeast, .long wa_pagesMost, .int wa_globalCount, .ref wagt, .ref wafy, .ref wafv, .ref wagc, .int wa_exportCount, .ref waek, .ref waei, .ref waes, .ref waez] wa_pagesMost wac_length wac_labelCount gmask gmace gmagl gmafb gmafs gmaff gmafl gmalb gmalh gwaft gwatt gwatg gwacfi gwaclk gwacop gwacva gwacpt gwacel gwacla gwatp gwacly gag an nl gv wa_functionCount.toInt tk wa_globalCount.toInt rfl rfl rfl rfl rfl rfl rfl (b_ma_pages) (b_ma_steps) (b_ma_reason) (b_ma_height) (b_ma_frameCount) (b_ma_labelCount) (b_wac_length) p0 (by (first | (apply Int.le_antisymm <;> omega) | omega)) (hfn) (hgv) (hnl) (htk) (hfs) (hgc) (hok)) (cwV 2 hts (gV kM_WF_146 kV_MA_run kS_MA_run kI_MA kC_MA_run) rfl rfl rfl (by decide +kernel) ⟨Nat.le_of_ble_eq_true rfl, Nat.le_of_ble_eq_true rfl⟩) ⟨fun a U g mk z => by obtain ⟨z0, z1, zP, zK, zD⟩ := z; exact ⟨z0, z1, zP, va_K.moved (u := U) (U := U.calling g mk a) (Vm.Alike.refl U.vm) zK, zD⟩, va_recv hKc hPc (ci := 4) (q0 := 0) rfl rfl, fun U hU hW => ⟨rfl, by rw [hU], va_P.he hU.symm hPc, va_K.moved hW.alike hKc, hDc.weaken (fun _ _ _ _ => trivial)⟩⟩ rfl rfl hl.1 rfl (lv_room (Nat.le_of_ble_eq_true rfl)) d_WF_call_77 ⟨(Nat.zero_le _), (Nat.zero_le _)⟩) hS (fun q _ h => hFc q h) hFc (fun r2 u t H1 locs ht hvm hw hB hz1 hk1 hS => ?_)
          obtain ⟨n3, n4, n5, n6, n7, n8, n9, n10, n11, n12, hq9r⟩ := u
          obtain ⟨n13, n14, n15, n16, n17, n18⟩ := hq9r
          try dsimp only at hw
          obtain ⟨bn13, bn14, bn15, bn16, bn17, bn18⟩ := hw
          try clear hw
          obtain ⟨hP1, hK1, hD1⟩ := hB
          replace hP1 := va_P.he ht hP1
          obtain ⟨hP, hD⟩ := va_join (wr := (wz_255 h0 ta rw ag 0 h0_reason h0_place h0_loaded wa ws h0_program_r h0_coder_r h0_reader_r h0_validator_r ma)) (w1 := (wz_270 ma n16 n18 n17 magl wa wac mace mask n14 mafb mafs maff mafl n13 malb malh n15 n12 wa wab wac wa_typeCount watt watp watg wa_functionCount waft wa_hasMemory wa_pagesLeast wa_pagesMost wa_globalCount wagt wafy wafv wagc wa_exportCount waek waei waes waez wac wacfi waclk wacly wac_length wacop wacva wacpt wacel wac_labelCount wacla mask cmask n11 mace cmace n3 magl cmagl n8 mafb cmafb n4 mafs cmafs n7 maff cmaff n5 mafl cmafl n6 malb cmalb n9 malh cmalh n10 waft cwaft gwaft watt cwatt gwatt watg cwatg gwatg wacfi cwacfi gwacfi waclk cwaclk gwaclk wacop cwacop gwacop wacva cwacva gwacva wacpt cwacpt gwacpt wacel cwacel gwacel wacla cwacla gwacla watp cwatp gwatp wacly cwacly gwacly ag cag gag)) hP hD [13, 23, 4, 16, 15, 14, 17, 18, 19, 20, 21, 22, 24, 25, 3, 5, 6, 8, 9, 10, 11, 12, 2, 7, 1] [0] rfl rfl (by decide) (by decide) hk1 hFc hP1 hD1
          clear hPc hDc hKc hFc hz1 hk1 hP1 hK1 hD1
          rename Heap => H
          have hP : va_P (dC, dI) cls [(h0, .inr (0, [.ref ta, .ref rw, .ref ag, .int 0, .int h0_reason, .int h0_place, .int h0_loaded, .ref wa, .ref ws, .ref h0_program_r, .ref h0_coder_r, .ref h0_reader_r, .ref h0_validator_r, .ref ma])), (ma, .inr (4, [.int n16, .int n18, .int n17, .ref magl, .ref wa, .ref wac, .ref mace, .ref mask, .int n14, .ref mafb, .ref mafs, .ref maff, .ref mafl, .int n13, .ref malb, .ref malh, .int n15, .int n12])), (wa, .inr (10, [.ref wab, .ref wac, .int wa_typeCount, .ref watt, .ref watp, .ref watg, .int wa_functionCount, .ref waft, .int wa_hasMemory, .long wa_pagesLeast, .long wa_pagesMost, .int wa_globalCount, .ref wagt, .ref wafy, .ref wafv, .ref wagc, .int wa_exportCount, .ref waek, .ref waei, .ref waes, .ref waez])), (wac, .inr (3, [.ref wacfi, .ref waclk, .ref wacly, .int wac_length, .ref wacop, .ref wacva, .ref wacpt, .ref wacel, .int wac_labelCount, .ref wacla])), (mask, .inl (cmask, 12096, .inr (.inl n11))), (mace, .inl (cmace, 16384, .inr (.inl n3))), (magl, .inl (cmagl, 20, .inr (.inl n8))), (mafb, .inl (cmafb, 100, .inl n4)), (mafs, .inl (cmafs, 100, .inl n7)), (maff, .inl (cmaff, 100, .inl n5)), (mafl, .inl (cmafl, 100, .inl n6)), (malb, .inl (cmalb, 10000, .inl n9)), (malh, .inl (cmalh, 10000, .inl n10)), (waft, .inl (cwaft, 30, .inl gwaft)), (watt, .inl (cwatt, 20, .inl gwatt)), (watg, .inl (cwatg, 20, .inl gwatg)), (wacfi, .inl (cwacfi, 31, .inl gwacfi)), (waclk, .inl (cwaclk, 30, .inl gwaclk)), (wacop, .inl (cwacop, 5000, .inl gwacop)), (wacva, .inl (cwacva, 5000, .inr (.inl gwacva))), (wacpt, .inl (cwacpt, 5000, .inl gwacpt)), (wacel, .inl (cwacel, 5000, .inl gwacel)), (wacla, .inl (cwacla, 2000, .inl gwacla)), (watp, .inl (cwatp, 160, .inl gwatp)), (wacly, .inl (cwacly, 1800, .inl gwacly)), (ag, .inl (cag, 8, .inr (.inl gag)))] H := hP
          have hD : va_D A [(h0, .inr (0, [.ref ta, .ref rw, .ref ag, .int 0, .int h0_reason, .int h0_place, .int h0_loaded, .ref wa, .ref ws, .ref h0_program_r, .ref h0_coder_r, .ref h0_reader_r, .ref h0_validator_r, .ref ma])), (ma, .inr (4, [.int n16, .int n18, .int n17, .ref magl, .ref wa, .ref wac, .ref mace, .ref mask, .int n14, .ref mafb, .ref mafs, .ref maff, .ref mafl, .int n13, .ref malb, .ref malh, .int n15, .int n12])), (wa, .inr (10, [.ref wab, .ref wac, .int wa_typeCount, .ref watt, .ref watp, .ref watg, .int wa_functionCount, .ref waft, .int wa_hasMemory, .long wa_pagesLeast, .long wa_pagesMost, .int wa_globalCount, .ref wagt, .ref wafy, .ref wafv, .ref wagc, .int wa_exportCount, .ref waek, .ref waei, .ref waes, .ref waez])), (wac, .inr (3, [.ref wacfi, .ref waclk, .ref wacly, .int wac_length, .ref wacop, .ref wacva, .ref wacpt, .ref wacel, .int wac_labelCount, .ref wacla])), (mask, .inl (cmask, 12096, .inr (.inl n11))), (mace, .inl (cmace, 16384, .inr (.inl n3))), (magl, .inl (cmagl, 20, .inr (.inl n8))), (mafb, .inl (cmafb, 100, .inl n4)), (mafs, .inl (cmafs, 100, .inl n7)), (maff, .inl (cmaff, 100, .inl n5)), (mafl, .inl (cmafl, 100, .inl n6)), (malb, .inl (cmalb, 10000, .inl n9)), (malh, .inl (cmalh, 10000, .inl n10)), (waft, .inl (cwaft, 30, .inl gwaft)), (watt, .inl (cwatt, 20, .inl gwatt)), (watg, .inl (cwatg, 20, .inl gwatg)), (wacfi, .inl (cwacfi, 31, .inl gwacfi)), (waclk, .inl (cwaclk, 30, .inl gwaclk)), (wacop, .inl (cwacop, 5000, .inl gwacop)), (wacva, .inl (cwacva, 5000, .inr (.inl gwacva))), (wacpt, .inl (cwacpt, 5000, .inl gwacpt)), (wacel, .inl (cwacel, 5000, .inl gwacel)), (wacla, .inl (cwacla, 2000, .inl gwacla)), (watp, .inl (cwatp, 160, .inl gwatp)), (wacly, .inl (cwacly, 1800, .inl gwacly)), (ag, .inl (cag, 8, .inr (.inl gag)))] := hD
          refine lv_lstore_n (lv' := [(3, .long r2), (2, .int h0_argumentCount), (0, .ref h0), (1, .int p0)]) hx hb d_WF_call_80 rfl hl (by decide) rfl (fun ls hl => ?_)
          refine lv_aload_n hx hb d_WF_call_81 rfl (lv_at hl 2 rfl) ?_
          refine lv_aload_n hx hb d_WF_call_82 rfl (lv_at hl 2 rfl) ?_
          refine va_get (D := (dC, dI)) (ci := 0) (v := .ref ma) (C := R_WF) (T := F_WF) (N := 14) hx hb hts i_WF hown hK hP 0 rfl rfl 13 (by decide) (hts _ kF_WF_81) (fun _ h9 => h9) rfl d_WF_call_83 ?_
          refine va_get (D := (dC, dI)) (ci := 4) (v := .int n17) (C := R_MA) (T := F_MA) (N := 18) hx hb hts i_MA hown hK hP 1 rfl rfl 2 (by decide) (hts _ kF_WF_150) (fun _ h9 => h9) rfl d_WF_call_86 ?_
          refine va_put (D := (dC, dI)) (ci := 0) (v := .int n17) (ty := .int) (C := R_WF) (T := F_WF) (N := 14) hx hb hts i_WF t_WF t_WF_ok n_WF hown hK hP hD hS 0 rfl rfl 4 (by decide) (hts _ kF_WF_104) (fun _ h9 => h9) rfl (by decide +kernel) rfl rfl (Nat.le_of_ble_eq_true rfl) d_WF_call_89 (fun H locs hP hD hS => ?_)
          refine lv_aload_n hx hb d_WF_call_92 rfl (lv_at hl 2 rfl) ?_
          refine va_get (D := (dC, dI)) (ci := 0) (v := .int n17) (C := R_WF) (T := F_WF) (N := 14) hx hb hts i_WF hown hK hP 0 rfl rfl 4 (by decide) (hts _ kF_WF_104) (fun _ h9 => h9) rfl d_WF_call_93 ?_
          refine lv_if_eq (tgt := 107) hx hb d_WF_call_96 (by decide) (fun c96 => ?_) (fun c96 => ?_)
          · have q96 := eqI c96
            refine lv_lload_n hx hb d_WF_call_107 rfl (lv_at hl 0 rfl) ?_
            have hP9 := hP.sb (wq := (wz_268 h0 ta rw ag 0 n17 h0_place h0_loaded wa ws h0_program_r h0_coder_r h0_reader_r h0_validator_r ma ag cag gag wa wab wac wa_typeCount watt watp watg wa_functionCount waft wa_hasMemory wa_pagesLeast wa_pagesMost wa_globalCount wagt wafy wafv wagc wa_exportCount waek waei waes waez watt cwatt gwatt watp cwatp gwatp watg cwatg gwatg waft cwaft gwaft wac wacfi waclk wacly wac_length wacop wacva wacpt wacel wac_labelCount wacla wacfi cwacfi gwacfi waclk cwaclk gwaclk wacly cwacly gwacly wacop cwacop gwacop wacva cwacva gwacva wacpt cwacpt gwacpt wacel cwacel gwacel wacla cwacla gwacla ma n16 n18 n17 magl wa wac mace mask n14 mafb mafs maff mafl n13 malb malh n15 n12 magl cmagl n8 mace cmace n3 mask cmask n11 mafb cmafb n4 mafs cmafs n7 maff cmaff n5 mafl cmafl n6 malb cmalb n9 malh cmalh n10)) [0, 25, 2, 14, 23, 15, 13, 3, 16, 17, 24, 18, 19, 20, 21, 22, 1, 6, 5, 4, 7, 8, 9, 10, 11, 12] rfl
            have hD9 := hD.sb (wq := (wz_268 h0 ta rw ag 0 n17 h0_place h0_loaded wa ws h0_program_r h0_coder_r h0_reader_r h0_validator_r ma ag cag gag wa wab wac wa_typeCount watt watp watg wa_functionCount waft wa_hasMemory wa_pagesLeast wa_pagesMost wa_globalCount wagt wafy wafv wagc wa_exportCount waek waei waes waez watt cwatt gwatt watp cwatp gwatp watg cwatg gwatg waft cwaft gwaft wac wacfi waclk wacly wac_length wacop wacva wacpt wacel wac_labelCount wacla wacfi cwacfi gwacfi waclk cwaclk gwaclk wacly cwacly gwacly wacop cwacop gwacop wacva cwacva gwacva wacpt cwacpt gwacpt wacel cwacel gwacel wacla cwacla gwacla ma n16 n18 n17 magl wa wac mace mask n14 mafb mafs maff mafl n13 malb malh n15 n12 magl cmagl n8 mace cmace n3 mask cmask n11 mafb cmafb n4 mafs cmafs n7 maff cmaff n5 mafl cmafl n6 malb cmalb n9 malh cmalh n10)) [0, 25, 2, 14, 23, 15, 13, 3, 16, 17, 24, 18, 19, 20, 21, 22, 1, 6, 5, 4, 7, 8, 9, 10, 11, 12] (by decide) rfl
            exact tz_up (fun _ => rfl) (W.lret (v := r2) hx hb hr (fun t ht hW => ⟨⟨(n3, n4, n5, n6, n7, n8, n9, n10, n11, 0, n17, n12, n13, n14, n15, n16, n17, n18), ⟨r2, rfl, ⟨by (try dsimp only) <;> (first | (apply Int.le_antisymm <;> omega) | omega), bn13, bn14, bn15, bn16, bn17, bn18, trivial⟩⟩, va_P.he ht.symm hP9, va_K.moved hW.alike hK, hD9⟩, hS.F ht⟩) hS.2.2 d_WF_call_108)
          · have q96 := neI c96
            have hP9 := hP.sb (wq := (wz_268 h0 ta rw ag 0 n17 h0_place h0_loaded wa ws h0_program_r h0_coder_r h0_reader_r h0_validator_r ma ag cag gag wa wab wac wa_typeCount watt watp watg wa_functionCount waft wa_hasMemory wa_pagesLeast wa_pagesMost wa_globalCount wagt wafy wafv wagc wa_exportCount waek waei waes waez watt cwatt gwatt watp cwatp gwatp watg cwatg gwatg waft cwaft gwaft wac wacfi waclk wacly wac_length wacop wacva wacpt wacel wac_labelCount wacla wacfi cwacfi gwacfi waclk cwaclk gwaclk wacly cwacly gwacly wacop cwacop gwacop wacva cwacva gwacva wacpt cwacpt gwacpt wacel cwacel gwacel wacla cwacla gwacla ma n16 n18 n17 magl wa wac mace mask n14 mafb mafs maff mafl n13 malb malh n15 n12 magl cmagl n8 mace cmace n3 mask cmask n11 mafb cmafb n4 mafs cmafs n7 maff cmaff n5 mafl cmafl n6 malb cmalb n9 malh cmalh n10)) [0, 25, 2, 14, 23, 15, 13, 3, 16, 17, 24, 18, 19, 20, 21, 22, 1, 6, 5, 4, 7, 8, 9, 10, 11, 12] rfl
            have hD9 := hD.sb (wq := (wz_268 h0 ta rw ag 0 n17 h0_place h0_loaded wa ws h0_program_r h0_coder_r h0_reader_r h0_validator_r ma ag cag gag wa wab wac wa_typeCount watt watp watg wa_functionCount waft wa_hasMemory wa_pagesLeast wa_pagesMost wa_globalCount wagt wafy wafv wagc wa_exportCount waek waei waes waez watt cwatt gwatt watp cwatp gwatp watg cwatg gwatg waft cwaft gwaft wac wacfi waclk wacly wac_length wacop wacva wacpt wacel wac_labelCount wacla wacfi cwacfi gwacfi waclk cwaclk gwaclk wacly cwacly gwacly wacop cwacop gwacop wacva cwacva gwacva wacpt cwacpt gwacpt wacel cwacel gwacel wacla cwacla gwacla ma n16 n18 n17 magl wa wac mace mask n14 mafb mafs maff mafl n13 malb malh n15 n12 magl cmagl n8 mace cmace n3 mask cmask n11 mafb cmafb n4 mafs cmafs n7 maff cmaff n5 mafl cmafl n6 malb cmalb n9 malh cmalh n10)) [0, 25, 2, 14, 23, 15, 13, 3, 16, 17, 24, 18, 19, 20, 21, 22, 1, 6, 5, 4, 7, 8, 9, 10, 11, 12] (by decide) rfl
            exact tz_throwNew hx hb hno hlocks hlt (hl.1.trans hml.symm) hown (by decide +kernel) (by decide +kernel) (fun U hU hW => eb_WF_ar hts hSW hS U hU hW) d_WF_call_99 d_WF_call_102 d_WF_call_103 d_WF_call_106 (by decide) (Nat.le_of_ble_eq_true rfl) (Nat.le_of_ble_eq_true rfl) (Nat.le_of_ble_eq_true rfl) (fun _ => rfl) (fun x t h1 h2 h3 h4 => ⟨⟨(n3, n4, n5, n6, n7, n8, n9, n10, n11, 0, n17, n12, n13, n14, n15, n16, n17, n18), ⟨⟨by (try dsimp only) <;> (first | (apply Int.le_antisymm <;> omega) | omega), bn13, bn14, bn15, bn16, bn17, bn18⟩, "java/lang/ArithmeticException", by decide, h3⟩, vp_ext hP9 h2, va_K.moved h4.alike hK, hD9⟩, vs_ext hS h1 h2⟩) hS.2.2
        · have q57 := neI c57
          have hP9 := hP.sb (wq := (wz_268 h0 ta rw ag 0 h0_reason h0_place h0_loaded wa ws h0_program_r h0_coder_r h0_reader_r h0_validator_r ma ag cag gag wa wab wac wa_typeCount watt watp watg wa_functionCount waft wa_hasMemory wa_pagesLeast wa_pagesMost wa_globalCount wagt wafy wafv wagc wa_exportCount waek waei waes waez watt cwatt gwatt watp cwatp gwatp watg cwatg gwatg waft cwaft gwaft wac wacfi waclk wacly wac_length wacop wacva wacpt wacel wac_labelCount wacla wacfi cwacfi gwacfi waclk cwaclk gwaclk wacly cwacly gwacly wacop cwacop gwacop wacva cwacva gwacva wacpt cwacpt gwacpt wacel cwacel gwacel wacla cwacla gwacla ma ma_pages ma_steps ma_reason magl wa wac mace mask ma_height mafb mafs maff mafl ma_frameCount malb malh ma_labelCount ma_at magl cmagl gmagl mace cmace gmace mask cmask gmask mafb cmafb gmafb mafs cmafs gmafs maff cmaff gmaff mafl cmafl gmafl malb cmalb gmalb malh cmalh gmalh)) [0, 1, 23, 25, 2, 3, 24, 4, 5, 6, 7, 8, 9, 10, 11, 12, 13, 14, 15, 16, 17, 18, 19, 20, 21, 22] rfl
          have hD9 := hD.sb (wq := (wz_268 h0 ta rw ag 0 h0_reason h0_place h0_loaded wa ws h0_program_r h0_coder_r h0_reader_r h0_validator_r ma ag cag gag wa wab wac wa_typeCount watt watp watg wa_functionCount waft wa_hasMemory wa_pagesLeast wa_pagesMost wa_globalCount wagt wafy wafv wagc wa_exportCount waek waei waes waez watt cwatt gwatt watp cwatp gwatp watg cwatg gwatg waft cwaft gwaft wac wacfi waclk wacly wac_length wacop wacva wacpt wacel wac_labelCount wacla wacfi cwacfi gwacfi waclk cwaclk gwaclk wacly cwacly gwacly wacop cwacop gwacop wacva cwacva gwacva wacpt cwacpt gwacpt wacel cwacel gwacel wacla cwacla gwacla ma ma_pages ma_steps ma_reason magl wa wac mace mask ma_height mafb mafs maff mafl ma_frameCount malb malh ma_labelCount ma_at magl cmagl gmagl mace cmace gmace mask cmask gmask mafb cmafb gmafb mafs cmafs gmafs maff cmaff gmaff mafl cmafl gmafl malb cmalb gmalb malh cmalh gmalh)) [0, 1, 23, 25, 2, 3, 24, 4, 5, 6, 7, 8, 9, 10, 11, 12, 13, 14, 15, 16, 17, 18, 19, 20, 21, 22] (by decide) rfl
          exact tz_throwNew hx hb hno hlocks hlt (hl.1.trans hml.symm) hown (by decide +kernel) (by decide +kernel) (fun U hU hW => eb_WF_ia hts hSW hS U hU hW) d_WF_call_60 d_WF_call_63 d_WF_call_64 d_WF_call_67 (by decide) (Nat.le_of_ble_eq_true rfl) (Nat.le_of_ble_eq_true rfl) (Nat.le_of_ble_eq_true rfl) (fun _ => rfl) (fun x t h1 h2 h3 h4 => ⟨⟨(gmace, gmafb, gmaff, gmafl, gmafs, gmagl, gmalb, gmalh, gmask, 0, h0_reason, ma_at, ma_frameCount, ma_height, ma_labelCount, ma_pages, ma_reason, ma_steps), ⟨⟨by (try dsimp only) <;> (first | (apply Int.le_antisymm <;> omega) | omega), b_ma_frameCount, b_ma_height, b_ma_labelCount, b_ma_pages, b_ma_reason, b_ma_steps⟩, "java/lang/IllegalArgumentException", by decide, h3⟩, vp_ext hP9 h2, va_K.moved h4.alike hK, hD9⟩, vs_ext hS h1 h2⟩) hS.2.2
      · have q27 := nltI c27
        exact jn30 () _ _ _ ⟨hP, hD, hS, lv_sub hl [] rfl⟩
abbrev at_WF_callo (dC : Nat → ClassId) (dI : Nat → Nat → Nat) (sa : Nat → Nat) (h0 ta rw ag wa ws h0_program_r h0_coder_r h0_reader_r h0_validator_r ma : Nat) (h0_argumentCount : Int32) (h0_reason : Int32) (h0_place : Int32) (h0_loaded : Int32) (A : Nat → Prop) (u : Unit) (t : State) : Prop := match u with | _ => va_P (dC, dI) cls (wz_255 h0 ta rw ag h0_argumentCount h0_reason h0_place h0_loaded wa ws h0_program_r h0_coder_r h0_reader_r h0_validator_r ma) t.heap ∧ va_K (dC, dI) cls [] t ∧ va_D A (wz_255 h0 ta rw ag h0_argumentCount h0_reason h0_place h0_loaded wa ws h0_program_r h0_coder_r h0_reader_r h0_validator_r ma)
set_option maxHeartbeats 4000000 in
set_option maxRecDepth 100000 in
theorem c_WF_callo (l : Launch) (hlt : l.stackTraces = false) (dC : Nat → ClassId) (dI : Nat → Nat → Nat) (sz : Nat) (sa : Nat → Nat) (h0 ta rw ag wa ws h0_program_r h0_coder_r h0_reader_r h0_validator_r ma : Nat) (h0_argumentCount : Int32) (h0_reason : Int32) (h0_place : Int32) (h0_loaded : Int32)  (b_h0_loaded : h0_loaded = 0 ∨ h0_loaded = 1) (p0 : Int32)  (hld : h0_loaded.toInt = 0) : tz_Met l y_WF_call w_WF_call ({ frames := 6, cells := 1, slots := 6, locals := 90 }) (va_Pc [.ref h0, .int p0] (fun U => U.heap.size = sz ∧ va_P (dC, dI) cls (wz_255 h0 ta rw ag h0_argumentCount h0_reason h0_place h0_loaded wa ws h0_program_r h0_coder_r h0_reader_r h0_validator_r ma) U.heap ∧ va_K (dC, dI) cls [] U ∧ va_D (fun _ => True) (wz_255 h0 ta rw ag h0_argumentCount h0_reason h0_place h0_loaded wa ws h0_program_r h0_coder_r h0_reader_r h0_validator_r ma) ∧ sw sa (va_A (wz_255 h0 ta rw ag h0_argumentCount h0_reason h0_place h0_loaded wa ws h0_program_r h0_coder_r h0_reader_r h0_validator_r ma) sz) U U.heap)) (tq_Q (tm_l (fun (r : Int64) (u : Unit) => match u with | _ => (True)) ["java/lang/IllegalArgumentException", "java/lang/IllegalStateException", "java/lang/ArithmeticException"] (fun (u : Unit) => match u with | _ => True)) (at_WF_callo dC dI sa h0 ta rw ag wa ws h0_program_r h0_coder_r h0_reader_r h0_validator_r ma h0_argumentCount h0_reason h0_place h0_loaded (va_A (wz_255 h0 ta rw ag h0_argumentCount h0_reason h0_place h0_loaded wa ws h0_program_r h0_coder_r h0_reader_r h0_validator_r ma) sz)) (va_A (wz_255 h0 ta rw ag h0_argumentCount h0_reason h0_place h0_loaded wa ws h0_program_r h0_coder_r h0_reader_r h0_validator_r ma) sz)) (tz_k 0 0 1 6) (va_A (wz_255 h0 ta rw ag h0_argumentCount h0_reason h0_place h0_loaded wa ws h0_program_r h0_coder_r h0_reader_r h0_validator_r ma) sz) := by
  refine tz_ofW (cc := b_WF_call) (maxL := 5) (ret := (Option.some .long)) (by decide) rfl ?_
  intro p e s m args below meth c s₁ B hml hno hv
  obtain ⟨rfl, hsz, hP, hK, hD0, hSW⟩ := hv
  have hx := B.exec
  have hb := B.bytes
  have hr := B.returns
  have hts0 := atoms_spec (ws := w_WF_call) B.pre
  have hts : ∀ w ∈ lw_g, w.before _ s = true := fun w h => hts0 w (List.mem_cons_of_mem _ h)
  have hown : s.vm.findClass R_WF = some m.cls := findClass_of_methodNamed B.named
  have hlocks := B.notSynchronized
  clear hts0
  subst hsz
  have hD := hD0.self (sz := s.heap.size)
  generalize hAe : va_A (wz_255 h0 ta rw ag h0_argumentCount h0_reason h0_place h0_loaded wa ws h0_program_r h0_coder_r h0_reader_r h0_validator_r ma) s.heap.size = A at hD hSW ⊢
  have hA : ∀ q : Nat, s.heap.size ≤ q → A q := fun q h => by rw [← hAe]; exact Or.inr h
  clear hAe
  have hP : va_P (dC, dI) cls (wz_255 h0 ta rw ag h0_argumentCount h0_reason h0_place h0_loaded wa ws h0_program_r h0_coder_r h0_reader_r h0_validator_r ma) s.heap := hP
  have hl := lv_entry ([.ref h0, .int p0]) (n := 5) (Nat.le_of_ble_eq_true rfl)
  rw [lg_entry_eq]
  generalize (lg_sl ([.ref h0, .int p0]) ++ List.replicate (5 - (lg_sl ([.ref h0, .int p0])).length) Slot.unset).toArray = ls at hl ⊢
  have hl : lv_has ls 5 [(0, .ref h0), (1, .int p0)] := hl
  have k0 : (0 : Int32).toInt = 0 := by decide
  refine w_gen (A := A) hP (fun H locs hP hS => ?_)
  have lo_p0 := i32_lo p0
  have hi_p0 := i32_hi p0
  have th0_loaded := b01 b_h0_loaded
  refine lv_aload_n hx hb d_WF_call_0 rfl (lv_at hl 0 rfl) ?_
  refine va_get (D := (dC, dI)) (ci := 0) (v := .int h0_loaded) (C := R_WF) (T := F_WF) (N := 14) hx hb hts i_WF hown hK hP 0 rfl rfl 6 (by decide) (hts _ kF_WF_128) (fun _ h9 => h9) rfl d_WF_call_1 ?_
  refine lv_if_ne (tgt := 15) hx hb d_WF_call_4 (by decide) (fun c4 => absurd (neI c4) (by (first | (apply Int.le_antisymm <;> omega) | omega))) (fun c4 => ?_)
  have q4 := eqI c4
  have hP9 := hP.sb (wq := (wz_255 h0 ta rw ag h0_argumentCount h0_reason h0_place h0_loaded wa ws h0_program_r h0_coder_r h0_reader_r h0_validator_r ma)) [0] rfl
  have hD9 := hD.sb (wq := (wz_255 h0 ta rw ag h0_argumentCount h0_reason h0_place h0_loaded wa ws h0_program_r h0_coder_r h0_reader_r h0_validator_r ma)) [0] (by decide) rfl
  exact tz_throwNew hx hb hno hlocks hlt (hl.1.trans hml.symm) hown (by decide +kernel) (by decide +kernel) (fun U hU hW => eb_WF_is hts hSW hS U hU hW) d_WF_call_7 d_WF_call_10 d_WF_call_11 d_WF_call_14 (by decide) (Nat.le_of_ble_eq_true rfl) (Nat.le_of_ble_eq_true rfl) (Nat.le_of_ble_eq_true rfl) (fun _ => rfl) (fun x t h1 h2 h3 h4 => ⟨⟨(), ⟨trivial, "java/lang/IllegalStateException", by decide, h3⟩, vp_ext hP9 h2, va_K.moved h4.alike hK, hD9⟩, vs_ext hS h1 h2⟩) hS.2.2
end q_99e

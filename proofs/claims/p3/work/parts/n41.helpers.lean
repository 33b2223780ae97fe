/-! the law: its helpers with one handler -/
abbrev b_LW_global : ByteArray := method_10_code
def y_LW_global : MethodName := ⟨R_LW, "global", "(LWaferForge;I[J)I"⟩
abbrev w_LW_global : List Cond := .codeWith y_LW_global b_LW_global 4 (Option.some .int) [(0, 8, 11, 19), (0, 8, 14, 33)] :: lw_g
theorem kC_LW_global : Cond.codeWith y_LW_global b_LW_global 4 (Option.some .int) [(0, 8, 11, 19), (0, 8, 14, 33)] ∈ lw_g := in_g 1708 (by decide +kernel) rfl
theorem d_LW_global_0 : decode b_LW_global 0 = .ok (.aload_n 2, 1) := by decide +kernel
theorem d_LW_global_1 : decode b_LW_global 1 = .ok (.iconst 0, 1) := by decide +kernel
theorem d_LW_global_2 : decode b_LW_global 2 = .ok (.aload_n 0, 1) := by decide +kernel
theorem d_LW_global_3 : decode b_LW_global 3 = .ok (.iload_n 1, 1) := by decide +kernel
theorem d_LW_global_4 : decode b_LW_global 4 = .ok (.invokevirtual 45, 3) := by decide +kernel
theorem d_LW_global_7 : decode b_LW_global 7 = .ok (.lastore, 1) := by decide +kernel
theorem d_LW_global_8 : decode b_LW_global 8 = .ok (.goto 9, 3) := by decide +kernel
theorem d_LW_global_11 : decode b_LW_global 11 = .ok (.astore_n 3, 1) := by decide +kernel
theorem d_LW_global_12 : decode b_LW_global 12 = .ok (.iconst 1, 1) := by decide +kernel
theorem d_LW_global_13 : decode b_LW_global 13 = .ok (.ireturn, 1) := by decide +kernel
theorem d_LW_global_14 : decode b_LW_global 14 = .ok (.astore_n 3, 1) := by decide +kernel
theorem d_LW_global_15 : decode b_LW_global 15 = .ok (.iconst 2, 1) := by decide +kernel
theorem d_LW_global_16 : decode b_LW_global 16 = .ok (.ireturn, 1) := by decide +kernel
theorem d_LW_global_17 : decode b_LW_global 17 = .ok (.iconst 0, 1) := by decide +kernel
theorem d_LW_global_18 : decode b_LW_global 18 = .ok (.ireturn, 1) := by decide +kernel
theorem kM_LW_45 : Cond.methodLink R_LW 45 y_WF_global ∈ lw_g := in_g 1709 (by decide +kernel) rfl
theorem kV_WF_global : Cond.instanceMethod y_WF_global ∈ lw_g := in_g 1710 (by decide +kernel) rfl
theorem kS_WF_global : Cond.selects R_WF y_WF_global y_WF_global ∈ lw_g := in_g 1711 (by decide +kernel) rfl
abbrev at_LW_global (dC : Nat → ClassId) (dI : Nat → Nat → Nat) (sa : Nat → Nat) (h0 ta rw ag wa ws h0_program_r h0_coder_r h0_reader_r h0_validator_r ma wab wac watt watp watg waft wagt wafy wafv wagc waek waei waes waez magl mace mask mafb mafs maff mafl malb malh ou : Nat) (cmagl cou : ClassId) (h0_argumentCount : Int32) (h0_reason : Int32) (h0_place : Int32) (h0_loaded : Int32) (wa_typeCount : Int32) (wa_functionCount : Int32) (wa_hasMemory : Int32) (wa_pagesLeast : Int64) (wa_pagesMost : Int64) (wa_globalCount : Int32) (wa_exportCount : Int32) (ma_pages : Int32) (ma_steps : Int32) (ma_reason : Int32) (ma_wafer : Value) (ma_codes : Value) (ma_height : Int32) (ma_frameCount : Int32) (ma_labelCount : Int32) (ma_at : Int32) (gmagl : Nat → Int64) (A : Nat → Prop) (u : (Nat → Int64)) (t : State) : Prop := match u with | gou => va_P (dC, dI) cls [(h0, .inr (0, [.ref ta, .ref rw, .ref ag, .int h0_argumentCount, .int h0_reason, .int h0_place, .int h0_loaded, .ref wa, .ref ws, .ref h0_program_r, .ref h0_coder_r, .ref h0_reader_r, .ref h0_validator_r, .ref ma])), (wa, .inr (10, [.ref wab, .ref wac, .int wa_typeCount, .ref watt, .ref watp, .ref watg, .int wa_functionCount, .ref waft, .int wa_hasMemory, .long wa_pagesLeast, .long wa_pagesMost, .int wa_globalCount, .ref wagt, .ref wafy, .ref wafv, .ref wagc, .int wa_exportCount, .ref waek, .ref waei, .ref waes, .ref waez])), (ma, .inr (4, [.int ma_pages, .int ma_steps, .int ma_reason, .ref magl, ma_wafer, ma_codes, .ref mace, .ref mask, .int ma_height, .ref mafb, .ref mafs, .ref maff, .ref mafl, .int ma_frameCount, .ref malb, .ref malh, .int ma_labelCount, .int ma_at])), (magl, .inl (cmagl, 20, .inr (.inl gmagl))), (ou, .inl (cou, 1, .inr (.inl gou)))] t.heap ∧ va_K (dC, dI) cls [(cmagl, .long), (cou, .long)] t ∧ va_D A [(h0, .inr (0, [.ref ta, .ref rw, .ref ag, .int h0_argumentCount, .int h0_reason, .int h0_place, .int h0_loaded, .ref wa, .ref ws, .ref h0_program_r, .ref h0_coder_r, .ref h0_reader_r, .ref h0_validator_r, .ref ma])), (wa, .inr (10, [.ref wab, .ref wac, .int wa_typeCount, .ref watt, .ref watp, .ref watg, .int wa_functionCount, .ref waft, .int wa_hasMemory, .long wa_pagesLeast, .long wa_pagesMost, .int wa_globalCount, .ref wagt, .ref wafy, .ref wafv, .ref wagc, .int wa_exportCount, .ref waek, .ref waei, .ref waes, .ref waez])), (ma, .inr (4, [.int ma_pages, .int ma_steps, .int ma_reason, .ref magl, ma_wafer, ma_codes, .ref mace, .ref mask, .int ma_height, .ref mafb, .ref mafs, .ref maff, .ref mafl, .int ma_frameCount, .ref malb, .ref malh, .int ma_labelCount, .int ma_at])), (magl, .inl (cmagl, 20, .inr (.inl gmagl))), (ou, .inl (cou, 1, .inr (.inl gou)))]
set_option maxHeartbeats 4000000 in
set_option maxRecDepth 100000 in
theorem c_LW_global (l : Launch) (hlt : l.stackTraces = false) (dC : Nat → ClassId) (dI : Nat → Nat → Nat) (sz : Nat) (sa : Nat → Nat) (h0 ta rw ag wa ws h0_program_r h0_coder_r h0_reader_r h0_validator_r ma wab wac watt watp watg waft wagt wafy wafv wagc waek waei waes waez magl mace mask mafb mafs maff mafl malb malh ou : Nat) (cmagl cou : ClassId) (h0_argumentCount : Int32) (h0_reason : Int32) (h0_place : Int32) (h0_loaded : Int32) (wa_typeCount : Int32) (wa_functionCount : Int32) (wa_hasMemory : Int32) (wa_pagesLeast : Int64) (wa_pagesMost : Int64) (wa_globalCount : Int32) (wa_exportCount : Int32) (ma_pages : Int32) (ma_steps : Int32) (ma_reason : Int32) (ma_wafer : Value) (ma_codes : Value) (ma_height : Int32) (ma_frameCount : Int32) (ma_labelCount : Int32) (ma_at : Int32) (gmagl : Nat → Int64) (gou : Nat → Int64)  (b_h0_loaded : h0_loaded = 0 ∨ h0_loaded = 1) (b_wa_globalCount : 0 ≤ wa_globalCount.toInt ∧ wa_globalCount.toInt ≤ 20) (p0 : Int32)   : Met l y_LW_global w_LW_global ({ frames := 7, cells := 1, slots := 6, locals := 111 }) (va_Pc [.ref h0, .int p0, .ref ou] (fun U => U.heap.size = sz ∧ va_P (dC, dI) cls [(h0, .inr (0, [.ref ta, .ref rw, .ref ag, .int h0_argumentCount, .int h0_reason, .int h0_place, .int h0_loaded, .ref wa, .ref ws, .ref h0_program_r, .ref h0_coder_r, .ref h0_reader_r, .ref h0_validator_r, .ref ma])), (wa, .inr (10, [.ref wab, .ref wac, .int wa_typeCount, .ref watt, .ref watp, .ref watg, .int wa_functionCount, .ref waft, .int wa_hasMemory, .long wa_pagesLeast, .long wa_pagesMost, .int wa_globalCount, .ref wagt, .ref wafy, .ref wafv, .ref wagc, .int wa_exportCount, .ref waek, .ref waei, .ref waes, .ref waez])), (ma, .inr (4, [.int ma_pages, .int ma_steps, .int ma_reason, .ref magl, ma_wafer, ma_codes, .ref mace, .ref mask, .int ma_height, .ref mafb, .ref mafs, .ref maff, .ref mafl, .int ma_frameCount, .ref malb, .ref malh, .int ma_labelCount, .int ma_at])), (magl, .inl (cmagl, 20, .inr (.inl gmagl))), (ou, .inl (cou, 1, .inr (.inl gou)))] U.heap ∧ va_K (dC, dI) cls [(cmagl, .long), (cou, .long)] U ∧ va_D (fun _ => True) [(h0, .inr (0, [.ref ta, .ref rw, .ref ag, .int h0_argumentCount, .int h0_reason, .int h0_place, .int h0_loaded, .ref wa, .ref ws, .ref h0_program_r, .ref h0_coder_r, .ref h0_reader_r, .ref h0_validator_r, .ref ma])), (wa, .inr (10, [.ref wab, .ref wac, .int wa_typeCount, .ref watt, .ref watp, .ref watg, .int wa_functionCount, .ref waft, .int wa_hasMemory, .long wa_pagesLeast, .long wa_pagesMost, .int wa_globalCount, .ref wagt, .ref wafy, .ref wafv, .ref wagc, .int wa_exportCount, .ref waek, .ref waei, .ref waes, .ref waez])), (ma, .inr (4, [.int ma_pages, .int ma_steps, .int ma_reason, .ref magl, ma_wafer, ma_codes, .ref mace, .ref mask, .int ma_height, .ref mafb, .ref mafs, .ref maff, .ref mafl, .int ma_frameCount, .ref malb, .ref malh, .int ma_labelCount, .int ma_at])), (magl, .inl (cmagl, 20, .inr (.inl gmagl))), (ou, .inl (cou, 1, .inr (.inl gou)))] ∧ sw sa (va_A [(h0, .inr (0, [.ref ta, .ref rw, .ref ag, .int h0_argumentCount, .int h0_reason, .int h0_place, .int h0_loaded, .ref wa, .ref ws, .ref h0_program_r, .ref h0_coder_r, .ref h0_reader_r, .ref h0_validator_r, .ref ma])), (wa, .inr (10, [.ref wab, .ref wac, .int wa_typeCount, .ref watt, .ref watp, .ref watg, .int wa_functionCount, .ref waft, .int wa_hasMemory, .long wa_pagesLeast, .long wa_pagesMost, .int wa_globalCount, .ref wagt, .ref wafy, .ref wafv, .ref wagc, .int wa_exportCount, .ref waek, .ref waei, .ref waes, .ref waez])), (ma, .inr (4, [.int ma_pages, .int ma_steps, .int ma_reason, .ref magl, ma_wafer, ma_codes, .ref mace, .ref mask, .int ma_height, .ref mafb, .ref mafs, .ref maff, .ref mafl, .int ma_frameCount, .ref malb, .ref malh, .int ma_labelCount, .int ma_at])), (magl, .inl (cmagl, 20, .inr (.inl gmagl))), (ou, .inl (cou, 1, .inr (.inl gou)))] sz) U U.heap)) (va_Qi (fun (r : Int32) (u : (Nat → Int64)) => match u with | gou2 => (True)) (at_LW_global dC dI sa h0 ta rw ag wa ws h0_program_r h0_coder_r h0_reader_r h0_validator_r ma wab wac watt watp watg waft wagt wafy wafv wagc waek waei waes waez magl mace mask mafb mafs maff mafl malb malh ou cmagl cou h0_argumentCount h0_reason h0_place h0_loaded wa_typeCount wa_functionCount wa_hasMemory wa_pagesLeast wa_pagesMost wa_globalCount wa_exportCount ma_pages ma_steps ma_reason ma_wafer ma_codes ma_height ma_frameCount ma_labelCount ma_at gmagl (va_A [(h0, .inr (0, [.ref ta, .ref rw, .ref ag, .int h0_argumentCount, .int h0_reason, .int h0_place, .int h0_loaded, .ref wa, .ref ws, .ref h0_program_r, .ref h0_coder_r, .ref h0_reader_r, .ref h0_validator_r, .ref ma])), (wa, .inr (10, [.ref wab, .ref wac, .int wa_typeCount, .ref watt, .ref watp, .ref watg, .int wa_functionCount, .ref waft, .int wa_hasMemory, .long wa_pagesLeast, .long wa_pagesMost, .int wa_globalCount, .ref wagt, .ref wafy, .ref wafv, .ref wagc, .int wa_exportCount, .ref waek, .ref waei, .ref waes, .ref waez])), (ma, .inr (4, [.int ma_pages, .int ma_steps, .int ma_reason, .ref magl, ma_wafer, ma_codes, .ref mace, .ref mask, .int ma_height, .ref mafb, .ref mafs, .ref maff, .ref mafl, .int ma_frameCount, .ref malb, .ref malh, .int ma_labelCount, .int ma_at])), (magl, .inl (cmagl, 20, .inr (.inl gmagl))), (ou, .inl (cou, 1, .inr (.inl gou)))] sz)) (va_A [(h0, .inr (0, [.ref ta, .ref rw, .ref ag, .int h0_argumentCount, .int h0_reason, .int h0_place, .int h0_loaded, .ref wa, .ref ws, .ref h0_program_r, .ref h0_coder_r, .ref h0_reader_r, .ref h0_validator_r, .ref ma])), (wa, .inr (10, [.ref wab, .ref wac, .int wa_typeCount, .ref watt, .ref watp, .ref watg, .int wa_functionCount, .ref waft, .int wa_hasMemory, .long wa_pagesLeast, .long wa_pagesMost, .int wa_globalCount, .ref wagt, .ref wafy, .ref wafv, .ref wagc, .int wa_exportCount, .ref waek, .ref waei, .ref waes, .ref waez])), (ma, .inr (4, [.int ma_pages, .int ma_steps, .int ma_reason, .ref magl, ma_wafer, ma_codes, .ref mace, .ref mask, .int ma_height, .ref mafb, .ref mafs, .ref maff, .ref mafl, .int ma_frameCount, .ref malb, .ref malh, .int ma_labelCount, .int ma_at])), (magl, .inl (cmagl, 20, .inr (.inl gmagl))), (ou, .inl (cou, 1, .inr (.inl gou)))] sz)) 1 6 (va_A [(h0, .inr (0, [.ref ta, .ref rw, .ref ag, .int h0_argumentCount, .int h0_reason, .int h0_place, .int h0_loaded, .ref wa, .ref ws, .ref h0_program_r, .ref h0_coder_r, .ref h0_reader_r, .ref h0_validator_r, .ref ma])), (wa, .inr (10, [.ref wab, .ref wac, .int wa_typeCount, .ref watt, .ref watp, .ref watg, .int wa_functionCount, .ref waft, .int wa_hasMemory, .long wa_pagesLeast, .long wa_pagesMost, .int wa_globalCount, .ref wagt, .ref wafy, .ref wafv, .ref wagc, .int wa_exportCount, .ref waek, .ref waei, .ref waes, .ref waez])), (ma, .inr (4, [.int ma_pages, .int ma_steps, .int ma_reason, .ref magl, ma_wafer, ma_codes, .ref mace, .ref mask, .int ma_height, .ref mafb, .ref mafs, .ref maff, .ref mafl, .int ma_frameCount, .ref malb, .ref malh, .int ma_labelCount, .int ma_at])), (magl, .inl (cmagl, 20, .inr (.inl gmagl))), (ou, .inl (cou, 1, .inr (.inl gou)))] sz) := by
  refine va_MetW (cc := b_LW_global) (maxL := 4) (ret := (Option.some .int)) (hh := [(0, 8, 11, 19), (0, 8, 14, 33)]) (by decide) rfl ?_
  intro p e s m args below meth c s₁ B hml hv
  obtain ⟨rfl, hsz, hP, hK, hD0, hSW⟩ := hv
  have hx := B.exec
  have hb := B.bytes
  have hr := B.returns
  have hts0 := atoms_spec (ws := w_LW_global) B.pre
  have hts : ∀ w ∈ lw_g, w.before _ s = true := fun w h => hts0 w (List.mem_cons_of_mem _ h)
  have hown : s.vm.findClass R_LW = some m.cls := findClass_of_methodNamed B.named
  have hlocks := B.notSynchronized
  have hE := uw_table B (hts0 _ List.mem_cons_self)
  clear hts0
  subst hsz
  have hD := hD0.self (sz := s.heap.size)
  generalize hAe : va_A [(h0, .inr (0, [.ref ta, .ref rw, .ref ag, .int h0_argumentCount, .int h0_reason, .int h0_place, .int h0_loaded, .ref wa, .ref ws, .ref h0_program_r, .ref h0_coder_r, .ref h0_reader_r, .ref h0_validator_r, .ref ma])), (wa, .inr (10, [.ref wab, .ref wac, .int wa_typeCount, .ref watt, .ref watp, .ref watg, .int wa_functionCount, .ref waft, .int wa_hasMemory, .long wa_pagesLeast, .long wa_pagesMost, .int wa_globalCount, .ref wagt, .ref wafy, .ref wafv, .ref wagc, .int wa_exportCount, .ref waek, .ref waei, .ref waes, .ref waez])), (ma, .inr (4, [.int ma_pages, .int ma_steps, .int ma_reason, .ref magl, ma_wafer, ma_codes, .ref mace, .ref mask, .int ma_height, .ref mafb, .ref mafs, .ref maff, .ref mafl, .int ma_frameCount, .ref malb, .ref malh, .int ma_labelCount, .int ma_at])), (magl, .inl (cmagl, 20, .inr (.inl gmagl))), (ou, .inl (cou, 1, .inr (.inl gou)))] s.heap.size = A at hD hSW ⊢
  have hA : ∀ q : Nat, s.heap.size ≤ q → A q := fun q h => by rw [← hAe]; exact Or.inr h
  clear hAe
  have hP : va_P (dC, dI) cls [(h0, .inr (0, [.ref ta, .ref rw, .ref ag, .int h0_argumentCount, .int h0_reason, .int h0_place, .int h0_loaded, .ref wa, .ref ws, .ref h0_program_r, .ref h0_coder_r, .ref h0_reader_r, .ref h0_validator_r, .ref ma])), (wa, .inr (10, [.ref wab, .ref wac, .int wa_typeCount, .ref watt, .ref watp, .ref watg, .int wa_functionCount, .ref waft, .int wa_hasMemory, .long wa_pagesLeast, .long wa_pagesMost, .int wa_globalCount, .ref wagt, .ref wafy, .ref wafv, .ref wagc, .int wa_exportCount, .ref waek, .ref waei, .ref waes, .ref waez])), (ma, .inr (4, [.int ma_pages, .int ma_steps, .int ma_reason, .ref magl, ma_wafer, ma_codes, .ref mace, .ref mask, .int ma_height, .ref mafb, .ref mafs, .ref maff, .ref mafl, .int ma_frameCount, .ref malb, .ref malh, .int ma_labelCount, .int ma_at])), (magl, .inl (cmagl, 20, .inr (.inl gmagl))), (ou, .inl (cou, 1, .inr (.inl gou)))] s.heap := hP
  have hl := lv_entry ([.ref h0, .int p0, .ref ou]) (n := 4) (Nat.le_of_ble_eq_true rfl)
  rw [lg_entry_eq]
  generalize (lg_sl ([.ref h0, .int p0, .ref ou]) ++ List.replicate (4 - (lg_sl ([.ref h0, .int p0, .ref ou])).length) Slot.unset).toArray = ls at hl ⊢
  have hl : lv_has ls 4 [(0, .ref h0), (1, .int p0), (2, .ref ou)] := hl
  have k0 : (0 : Int32).toInt = 0 := by decide
  refine w_gen (A := A) hP (fun H locs hP hS => ?_)
  have k1 : (1 : Int32).toInt = 1 := by decide
  have k2 : (2 : Int32).toInt = 2 := by decide
  have lo_p0 := i32_lo p0
  have hi_p0 := i32_hi p0
  have th0_loaded := b01 b_h0_loaded
  refine lv_aload_n hx hb d_LW_global_0 rfl (lv_at hl 2 rfl) ?_
  refine lv_iconst (v := 0) hx hb d_LW_global_1 (by decide) ?_
  refine lv_aload_n hx hb d_LW_global_2 rfl (lv_at hl 0 rfl) ?_
  refine lv_iload_n hx hb d_LW_global_3 rfl (lv_at hl 1 rfl) ?_
  have hPc := hP.sub (ws' := [(h0, .inr (0, [.ref ta, .ref rw, .ref ag, .int h0_argumentCount, .int h0_reason, .int h0_place, .int h0_loaded, .ref wa, .ref ws, .ref h0_program_r, .ref h0_coder_r, .ref h0_reader_r, .ref h0_validator_r, .ref ma])), (wa, .inr (10, [.ref wab, .ref wac, .int wa_typeCount, .ref watt, .ref watp, .ref watg, .int wa_functionCount, .ref waft, .int wa_hasMemory, .long wa_pagesLeast, .long wa_pagesMost, .int wa_globalCount, .ref wagt, .ref wafy, .ref wafv, .ref wagc, .int wa_exportCount, .ref waek, .ref waei, .ref waes, .ref waez])), (ma, .inr (4, [.int ma_pages, .int ma_steps, .int ma_reason, .ref magl, ma_wafer, ma_codes, .ref mace, .ref mask, .int ma_height, .ref mafb, .ref mafs, .ref maff, .ref mafl, .int ma_frameCount, .ref malb, .ref malh, .int ma_labelCount, .int ma_at])), (magl, .inl (cmagl, 20, .inr (.inl gmagl)))]) [0, 1, 2, 3] rfl
  have hDc := hD.sub (ws' := [(h0, .inr (0, [.ref ta, .ref rw, .ref ag, .int h0_argumentCount, .int h0_reason, .int h0_place, .int h0_loaded, .ref wa, .ref ws, .ref h0_program_r, .ref h0_coder_r, .ref h0_reader_r, .ref h0_validator_r, .ref ma])), (wa, .inr (10, [.ref wab, .ref wac, .int wa_typeCount, .ref watt, .ref watp, .ref watg, .int wa_functionCount, .ref waft, .int wa_hasMemory, .long wa_pagesLeast, .long wa_pagesMost, .int wa_globalCount, .ref wagt, .ref wafy, .ref wafv, .ref wagc, .int wa_exportCount, .ref waek, .ref waei, .ref waes, .ref waez])), (ma, .inr (4, [.int ma_pages, .int ma_steps, .int ma_reason, .ref magl, ma_wafer, ma_codes, .ref mace, .ref mask, .int ma_height, .ref mafb, .ref mafs, .ref maff, .ref mafl, .int ma_frameCount, .ref malb, .ref malh, .int ma_labelCount, .int ma_at])), (magl, .inl (cmagl, 20, .inr (.inl gmagl)))]) [0, 1, 2, 3] (by decide) rfl
  have hKc := hK.sub (tys' := [(cmagl, .long)]) [0] rfl
  have hFc := va_free (wc := [(h0, .inr (0, [.ref ta, .ref rw, .ref ag, .int h0_argumentCount, .int h0_reason, .int h0_place, .int h0_loaded, .ref wa, .ref ws, .ref h0_program_r, .ref h0_coder_r, .ref h0_reader_r, .ref h0_validator_r, .ref ma])), (wa, .inr (10, [.ref wab, .ref wac, .int wa_typeCount, .ref watt, .ref watp, .ref watg, .int wa_functionCount, .ref waft, .int wa_hasMemory, .long wa_pagesLeast, .long wa_pagesMost, .int wa_globalCount, .ref wagt, .ref wafy, .ref wafv, .ref wagc, .int wa_exportCount, .ref waek, .ref waei, .ref waes, .ref waez])), (ma, .inr (4, [.int ma_pages, .int ma_steps, .int ma_reason, .ref magl, ma_wafer, ma_codes, .ref mace, .ref mask, .int ma_height, .ref mafb, .ref mafs, .ref maff, .ref mafl, .int ma_frameCount, .ref malb, .ref malh, .int ma_labelCount, .int ma_at])), (magl, .inl (cmagl, 20, .inr (.inl gmagl)))]) hD hS hA [0, 1, 2, 3] rfl
  refine tm_calll (tz_runV (As := [.int p0]) (rest := [.int 0, .ref ou]) ⟨hx, hb, hml, hown, hts⟩ (c_WF_global l hlt dC dI H.size sa h0 ta rw ag wa ws h0_program_r h0_coder_r h0_reader_r h0_validator_r ma wab wac watt watp watg waft wagt wafy wafv wagc waek waei waes waez magl mace mask mafb mafs maff mafl malb malh cmagl h0_argumentCount h0_reason h0_place h0_loaded wa_typeCount wa_functionCount wa_hasMemory wa_pagesLeast wa_pagesMost wa_globalCount wa_exportCount ma_pages ma_steps ma_reason ma_wafer ma_codes ma_height ma_frameCount ma_labelCount ma_at gmagl (b_h0_loaded) (b_wa_globalCount) p0) (cwV 1 hts (gV kM_LW_45 kV_WF_global kS_WF_global kI_WF kC_WF_global) rfl rfl rfl (by decide +kernel) ⟨Nat.le_of_ble_eq_true rfl, Nat.le_of_ble_eq_true rfl⟩) ⟨fun a U g mk z => by obtain ⟨z0, z1, zP, zK, zD, zS⟩ := z; exact ⟨z0, z1, zP, va_K.moved (u := U) (U := U.calling g mk a) (Vm.Alike.refl U.vm) zK, zD, sw.same (u := U) (U := U.calling g mk a) rfl zS⟩, va_recv hKc hPc (ci := 0) (q0 := 0) rfl rfl, fun U hU hW => ⟨rfl, by rw [hU], by rw [hU]; exact hPc, va_K.moved hW.alike hKc, hDc.weaken (fun _ _ _ _ => trivial), hSW.call hS hFc hW hU⟩⟩ rfl rfl hl.1 rfl (lv_room (Nat.le_of_ble_eq_true rfl)) d_LW_global_4 ⟨Nat.le_of_ble_eq_true rfl, Nat.le_of_ble_eq_true rfl⟩) hS (fun q _ h => hFc q h) hFc (fun r1 u t H1 locs ht hvm hw hB hz1 hk1 hS => ?_) (fun xx u t H1 locs ht hvm hw hXX hB hz1 hk1 hS => ?_)
  rotate_left
  · skip
    try dsimp only at hw
    obtain ⟨hP1, hK1, hD1⟩ := hB
    rw [ht] at hP1
    obtain ⟨hP, hD⟩ := va_join (wr := [(ou, .inl (cou, 1, .inr (.inl gou)))]) (w1 := [(h0, .inr (0, [.ref ta, .ref rw, .ref ag, .int h0_argumentCount, .int h0_reason, .int h0_place, .int h0_loaded, .ref wa, .ref ws, .ref h0_program_r, .ref h0_coder_r, .ref h0_reader_r, .ref h0_validator_r, .ref ma])), (wa, .inr (10, [.ref wab, .ref wac, .int wa_typeCount, .ref watt, .ref watp, .ref watg, .int wa_functionCount, .ref waft, .int wa_hasMemory, .long wa_pagesLeast, .long wa_pagesMost, .int wa_globalCount, .ref wagt, .ref wafy, .ref wafv, .ref wagc, .int wa_exportCount, .ref waek, .ref waei, .ref waes, .ref waez])), (ma, .inr (4, [.int ma_pages, .int ma_steps, .int ma_reason, .ref magl, ma_wafer, ma_codes, .ref mace, .ref mask, .int ma_height, .ref mafb, .ref mafs, .ref maff, .ref mafl, .int ma_frameCount, .ref malb, .ref malh, .int ma_labelCount, .int ma_at])), (magl, .inl (cmagl, 20, .inr (.inl gmagl)))]) hP hD [0, 1, 2, 3] [4] rfl rfl (by decide) (by decide) hk1 hFc hP1 hD1
    have hP : va_P (dC, dI) cls [(ou, .inl (cou, 1, .inr (.inl gou))), (h0, .inr (0, [.ref ta, .ref rw, .ref ag, .int h0_argumentCount, .int h0_reason, .int h0_place, .int h0_loaded, .ref wa, .ref ws, .ref h0_program_r, .ref h0_coder_r, .ref h0_reader_r, .ref h0_validator_r, .ref ma])), (wa, .inr (10, [.ref wab, .ref wac, .int wa_typeCount, .ref watt, .ref watp, .ref watg, .int wa_functionCount, .ref waft, .int wa_hasMemory, .long wa_pagesLeast, .long wa_pagesMost, .int wa_globalCount, .ref wagt, .ref wafy, .ref wafv, .ref wagc, .int wa_exportCount, .ref waek, .ref waei, .ref waes, .ref waez])), (ma, .inr (4, [.int ma_pages, .int ma_steps, .int ma_reason, .ref magl, ma_wafer, ma_codes, .ref mace, .ref mask, .int ma_height, .ref mafb, .ref mafs, .ref maff, .ref mafl, .int ma_frameCount, .ref malb, .ref malh, .int ma_labelCount, .int ma_at])), (magl, .inl (cmagl, 20, .inr (.inl gmagl)))] H1 := hP
    have hD : va_D A [(ou, .inl (cou, 1, .inr (.inl gou))), (h0, .inr (0, [.ref ta, .ref rw, .ref ag, .int h0_argumentCount, .int h0_reason, .int h0_place, .int h0_loaded, .ref wa, .ref ws, .ref h0_program_r, .ref h0_coder_r, .ref h0_reader_r, .ref h0_validator_r, .ref ma])), (wa, .inr (10, [.ref wab, .ref wac, .int wa_typeCount, .ref watt, .ref watp, .ref watg, .int wa_functionCount, .ref waft, .int wa_hasMemory, .long wa_pagesLeast, .long wa_pagesMost, .int wa_globalCount, .ref wagt, .ref wafy, .ref wafv, .ref wagc, .int wa_exportCount, .ref waek, .ref waei, .ref waes, .ref waez])), (ma, .inr (4, [.int ma_pages, .int ma_steps, .int ma_reason, .ref magl, ma_wafer, ma_codes, .ref mace, .ref mask, .int ma_height, .ref mafb, .ref mafs, .ref maff, .ref mafl, .int ma_frameCount, .ref malb, .ref malh, .int ma_labelCount, .int ma_at])), (magl, .inl (cmagl, 20, .inr (.inl gmagl)))] := hD
    obtain ⟨cX, hcX, hXX⟩ := hXX
    refine tc_multi (nm := (fun ct => if ct = 19 then "java/lang/IllegalArgumentException" else "java/lang/IllegalStateException")) hE (fun q hq => ?_) ?_ hown hXX (fun q hq => ?_)
    · simp only [List.mem_cons, List.not_mem_nil, or_false] at hq
      rcases hq with rfl | rfl
      · exact ⟨by decide, by decide, by decide, hts _ kK_LW_19⟩
      · exact ⟨by decide, by decide, by decide, hts _ kK_LW_33⟩
    · simp only [List.mem_cons, List.not_mem_nil, or_false] at hcX
      rcases hcX with rfl | rfl
      · exact ⟨(0, 8, 11, 19), by simp, rfl⟩
      · exact ⟨(0, 8, 14, 33), by simp, rfl⟩
    · simp only [List.mem_cons, List.not_mem_nil, or_false] at hq
      clear hPc hDc hKc hFc hz1 hk1 hP1 hK1 hD1 hXX
      rcases hq with rfl | rfl
      · dsimp only
        refine lv_astore_n (lv' := [(3, .ref xx), (0, .ref h0), (1, .int p0), (2, .ref ou)]) hx hb d_LW_global_11 rfl hl (by decide) rfl (fun ls hl => ?_)
        refine lv_iconst (v := 1) hx hb d_LW_global_12 (by decide) ?_
        have hP9 := hP.sub (ws' := [(h0, .inr (0, [.ref ta, .ref rw, .ref ag, .int h0_argumentCount, .int h0_reason, .int h0_place, .int h0_loaded, .ref wa, .ref ws, .ref h0_program_r, .ref h0_coder_r, .ref h0_reader_r, .ref h0_validator_r, .ref ma])), (wa, .inr (10, [.ref wab, .ref wac, .int wa_typeCount, .ref watt, .ref watp, .ref watg, .int wa_functionCount, .ref waft, .int wa_hasMemory, .long wa_pagesLeast, .long wa_pagesMost, .int wa_globalCount, .ref wagt, .ref wafy, .ref wafv, .ref wagc, .int wa_exportCount, .ref waek, .ref waei, .ref waes, .ref waez])), (ma, .inr (4, [.int ma_pages, .int ma_steps, .int ma_reason, .ref magl, ma_wafer, ma_codes, .ref mace, .ref mask, .int ma_height, .ref mafb, .ref mafs, .ref maff, .ref mafl, .int ma_frameCount, .ref malb, .ref malh, .int ma_labelCount, .int ma_at])), (magl, .inl (cmagl, 20, .inr (.inl gmagl))), (ou, .inl (cou, 1, .inr (.inl gou)))]) [1, 2, 3, 4, 0] rfl
        have hD9 := hD.sub (ws' := [(h0, .inr (0, [.ref ta, .ref rw, .ref ag, .int h0_argumentCount, .int h0_reason, .int h0_place, .int h0_loaded, .ref wa, .ref ws, .ref h0_program_r, .ref h0_coder_r, .ref h0_reader_r, .ref h0_validator_r, .ref ma])), (wa, .inr (10, [.ref wab, .ref wac, .int wa_typeCount, .ref watt, .ref watp, .ref watg, .int wa_functionCount, .ref waft, .int wa_hasMemory, .long wa_pagesLeast, .long wa_pagesMost, .int wa_globalCount, .ref wagt, .ref wafy, .ref wafv, .ref wagc, .int wa_exportCount, .ref waek, .ref waei, .ref waes, .ref waez])), (ma, .inr (4, [.int ma_pages, .int ma_steps, .int ma_reason, .ref magl, ma_wafer, ma_codes, .ref mace, .ref mask, .int ma_height, .ref mafb, .ref mafs, .ref maff, .ref mafl, .int ma_frameCount, .ref malb, .ref malh, .int ma_labelCount, .int ma_at])), (magl, .inl (cmagl, 20, .inr (.inl gmagl))), (ou, .inl (cou, 1, .inr (.inl gou)))]) [1, 2, 3, 4, 0] (by decide) rfl
        refine W.widen (k := 1) (n := 6) (Nat.le_of_ble_eq_true rfl) (Nat.le_of_ble_eq_true rfl) ?_
        exact W.iret (v := 1) hx hb hr (fun t ht hW => ⟨⟨1, gou, rfl, (trivial), by rw [ht]; exact hP9, va_K.moved hW.alike hK, hD9⟩, hS.F ht⟩) hS.2.2 d_LW_global_13
      · dsimp only
        refine lv_astore_n (lv' := [(3, .ref xx), (0, .ref h0), (1, .int p0), (2, .ref ou)]) hx hb d_LW_global_14 rfl hl (by decide) rfl (fun ls hl => ?_)
        refine lv_iconst (v := 2) hx hb d_LW_global_15 (by decide) ?_
        have hP9 := hP.sub (ws' := [(h0, .inr (0, [.ref ta, .ref rw, .ref ag, .int h0_argumentCount, .int h0_reason, .int h0_place, .int h0_loaded, .ref wa, .ref ws, .ref h0_program_r, .ref h0_coder_r, .ref h0_reader_r, .ref h0_validator_r, .ref ma])), (wa, .inr (10, [.ref wab, .ref wac, .int wa_typeCount, .ref watt, .ref watp, .ref watg, .int wa_functionCount, .ref waft, .int wa_hasMemory, .long wa_pagesLeast, .long wa_pagesMost, .int wa_globalCount, .ref wagt, .ref wafy, .ref wafv, .ref wagc, .int wa_exportCount, .ref waek, .ref waei, .ref waes, .ref waez])), (ma, .inr (4, [.int ma_pages, .int ma_steps, .int ma_reason, .ref magl, ma_wafer, ma_codes, .ref mace, .ref mask, .int ma_height, .ref mafb, .ref mafs, .ref maff, .ref mafl, .int ma_frameCount, .ref malb, .ref malh, .int ma_labelCount, .int ma_at])), (magl, .inl (cmagl, 20, .inr (.inl gmagl))), (ou, .inl (cou, 1, .inr (.inl gou)))]) [1, 2, 3, 4, 0] rfl
        have hD9 := hD.sub (ws' := [(h0, .inr (0, [.ref ta, .ref rw, .ref ag, .int h0_argumentCount, .int h0_reason, .int h0_place, .int h0_loaded, .ref wa, .ref ws, .ref h0_program_r, .ref h0_coder_r, .ref h0_reader_r, .ref h0_validator_r, .ref ma])), (wa, .inr (10, [.ref wab, .ref wac, .int wa_typeCount, .ref watt, .ref watp, .ref watg, .int wa_functionCount, .ref waft, .int wa_hasMemory, .long wa_pagesLeast, .long wa_pagesMost, .int wa_globalCount, .ref wagt, .ref wafy, .ref wafv, .ref wagc, .int wa_exportCount, .ref waek, .ref waei, .ref waes, .ref waez])), (ma, .inr (4, [.int ma_pages, .int ma_steps, .int ma_reason, .ref magl, ma_wafer, ma_codes, .ref mace, .ref mask, .int ma_height, .ref mafb, .ref mafs, .ref maff, .ref mafl, .int ma_frameCount, .ref malb, .ref malh, .int ma_labelCount, .int ma_at])), (magl, .inl (cmagl, 20, .inr (.inl gmagl))), (ou, .inl (cou, 1, .inr (.inl gou)))]) [1, 2, 3, 4, 0] (by decide) rfl
        refine W.widen (k := 1) (n := 6) (Nat.le_of_ble_eq_true rfl) (Nat.le_of_ble_eq_true rfl) ?_
        exact W.iret (v := 2) hx hb hr (fun t ht hW => ⟨⟨2, gou, rfl, (trivial), by rw [ht]; exact hP9, va_K.moved hW.alike hK, hD9⟩, hS.F ht⟩) hS.2.2 d_LW_global_16
  try dsimp only at hw
  have xr1 := hw
  try clear hw
  obtain ⟨hP1, hK1, hD1⟩ := hB
  rw [ht] at hP1
  obtain ⟨hP, hD⟩ := va_join (wr := [(ou, .inl (cou, 1, .inr (.inl gou)))]) (w1 := [(h0, .inr (0, [.ref ta, .ref rw, .ref ag, .int h0_argumentCount, .int h0_reason, .int h0_place, .int h0_loaded, .ref wa, .ref ws, .ref h0_program_r, .ref h0_coder_r, .ref h0_reader_r, .ref h0_validator_r, .ref ma])), (wa, .inr (10, [.ref wab, .ref wac, .int wa_typeCount, .ref watt, .ref watp, .ref watg, .int wa_functionCount, .ref waft, .int wa_hasMemory, .long wa_pagesLeast, .long wa_pagesMost, .int wa_globalCount, .ref wagt, .ref wafy, .ref wafv, .ref wagc, .int wa_exportCount, .ref waek, .ref waei, .ref waes, .ref waez])), (ma, .inr (4, [.int ma_pages, .int ma_steps, .int ma_reason, .ref magl, ma_wafer, ma_codes, .ref mace, .ref mask, .int ma_height, .ref mafb, .ref mafs, .ref maff, .ref mafl, .int ma_frameCount, .ref malb, .ref malh, .int ma_labelCount, .int ma_at])), (magl, .inl (cmagl, 20, .inr (.inl gmagl)))]) hP hD [0, 1, 2, 3] [4] rfl rfl (by decide) (by decide) hk1 hFc hP1 hD1
  clear hPc hDc hKc hFc hz1 hk1 hP1 hK1 hD1
  generalize H1 = H at hP hS ⊢
  have hP : va_P (dC, dI) cls [(ou, .inl (cou, 1, .inr (.inl gou))), (h0, .inr (0, [.ref ta, .ref rw, .ref ag, .int h0_argumentCount, .int h0_reason, .int h0_place, .int h0_loaded, .ref wa, .ref ws, .ref h0_program_r, .ref h0_coder_r, .ref h0_reader_r, .ref h0_validator_r, .ref ma])), (wa, .inr (10, [.ref wab, .ref wac, .int wa_typeCount, .ref watt, .ref watp, .ref watg, .int wa_functionCount, .ref waft, .int wa_hasMemory, .long wa_pagesLeast, .long wa_pagesMost, .int wa_globalCount, .ref wagt, .ref wafy, .ref wafv, .ref wagc, .int wa_exportCount, .ref waek, .ref waei, .ref waes, .ref waez])), (ma, .inr (4, [.int ma_pages, .int ma_steps, .int ma_reason, .ref magl, ma_wafer, ma_codes, .ref mace, .ref mask, .int ma_height, .ref mafb, .ref mafs, .ref maff, .ref mafl, .int ma_frameCount, .ref malb, .ref malh, .int ma_labelCount, .int ma_at])), (magl, .inl (cmagl, 20, .inr (.inl gmagl)))] H := hP
  have hD : va_D A [(ou, .inl (cou, 1, .inr (.inl gou))), (h0, .inr (0, [.ref ta, .ref rw, .ref ag, .int h0_argumentCount, .int h0_reason, .int h0_place, .int h0_loaded, .ref wa, .ref ws, .ref h0_program_r, .ref h0_coder_r, .ref h0_reader_r, .ref h0_validator_r, .ref ma])), (wa, .inr (10, [.ref wab, .ref wac, .int wa_typeCount, .ref watt, .ref watp, .ref watg, .int wa_functionCount, .ref waft, .int wa_hasMemory, .long wa_pagesLeast, .long wa_pagesMost, .int wa_globalCount, .ref wagt, .ref wafy, .ref wafv, .ref wagc, .int wa_exportCount, .ref waek, .ref waei, .ref waes, .ref waez])), (ma, .inr (4, [.int ma_pages, .int ma_steps, .int ma_reason, .ref magl, ma_wafer, ma_codes, .ref mace, .ref mask, .int ma_height, .ref mafb, .ref mafs, .ref maff, .ref mafl, .int ma_frameCount, .ref malb, .ref malh, .int ma_labelCount, .int ma_at])), (magl, .inl (cmagl, 20, .inr (.inl gmagl)))] := hD
  have g7 : vp_in 0 1 := vp_in_iff.mpr ⟨by omega, by omega⟩
  refine va_last hx hb hK hP hD hS 0 1 rfl rfl g7 d_LW_global_7 (fun H locs hP hD hS => ?_)
  generalize ef2 : vp_updL gou (0 : Int32).toNatClampNeg r1 = f2 at hP hD
  refine lv_goto (tgt := 17) hx hb d_LW_global_8 (by decide) ?_
  refine lv_iconst (v := 0) hx hb d_LW_global_17 (by decide) ?_
  have hP9 := hP.sub (ws' := [(h0, .inr (0, [.ref ta, .ref rw, .ref ag, .int h0_argumentCount, .int h0_reason, .int h0_place, .int h0_loaded, .ref wa, .ref ws, .ref h0_program_r, .ref h0_coder_r, .ref h0_reader_r, .ref h0_validator_r, .ref ma])), (wa, .inr (10, [.ref wab, .ref wac, .int wa_typeCount, .ref watt, .ref watp, .ref watg, .int wa_functionCount, .ref waft, .int wa_hasMemory, .long wa_pagesLeast, .long wa_pagesMost, .int wa_globalCount, .ref wagt, .ref wafy, .ref wafv, .ref wagc, .int wa_exportCount, .ref waek, .ref waei, .ref waes, .ref waez])), (ma, .inr (4, [.int ma_pages, .int ma_steps, .int ma_reason, .ref magl, ma_wafer, ma_codes, .ref mace, .ref mask, .int ma_height, .ref mafb, .ref mafs, .ref maff, .ref mafl, .int ma_frameCount, .ref malb, .ref malh, .int ma_labelCount, .int ma_at])), (magl, .inl (cmagl, 20, .inr (.inl gmagl))), (ou, .inl (cou, 1, .inr (.inl f2)))]) [1, 2, 3, 4, 0] rfl
  have hD9 := hD.sub (ws' := [(h0, .inr (0, [.ref ta, .ref rw, .ref ag, .int h0_argumentCount, .int h0_reason, .int h0_place, .int h0_loaded, .ref wa, .ref ws, .ref h0_program_r, .ref h0_coder_r, .ref h0_reader_r, .ref h0_validator_r, .ref ma])), (wa, .inr (10, [.ref wab, .ref wac, .int wa_typeCount, .ref watt, .ref watp, .ref watg, .int wa_functionCount, .ref waft, .int wa_hasMemory, .long wa_pagesLeast, .long wa_pagesMost, .int wa_globalCount, .ref wagt, .ref wafy, .ref wafv, .ref wagc, .int wa_exportCount, .ref waek, .ref waei, .ref waes, .ref waez])), (ma, .inr (4, [.int ma_pages, .int ma_steps, .int ma_reason, .ref magl, ma_wafer, ma_codes, .ref mace, .ref mask, .int ma_height, .ref mafb, .ref mafs, .ref maff, .ref mafl, .int ma_frameCount, .ref malb, .ref malh, .int ma_labelCount, .int ma_at])), (magl, .inl (cmagl, 20, .inr (.inl gmagl))), (ou, .inl (cou, 1, .inr (.inl f2)))]) [1, 2, 3, 4, 0] (by decide) rfl
  refine W.widen (k := 1) (n := 6) (Nat.le_of_ble_eq_true rfl) (Nat.le_of_ble_eq_true rfl) ?_
  exact W.iret (v := 0) hx hb hr (fun t ht hW => ⟨⟨0, f2, rfl, (trivial), by rw [ht]; exact hP9, va_K.moved hW.alike hK, hD9⟩, hS.F ht⟩) hS.2.2 d_LW_global_18
abbrev b_LW_memory : ByteArray := method_11_code
def y_LW_memory : MethodName := ⟨R_LW, "memory", "(LWaferForge;I[J)I"⟩
abbrev w_LW_memory : List Cond := .codeWith y_LW_memory b_LW_memory 4 (Option.some .int) [(0, 9, 12, 19), (0, 9, 15, 33)] :: lw_g
theorem kC_LW_memory : Cond.codeWith y_LW_memory b_LW_memory 4 (Option.some .int) [(0, 9, 12, 19), (0, 9, 15, 33)] ∈ lw_g := in_g 1715 (by decide +kernel) rfl
theorem d_LW_memory_0 : decode b_LW_memory 0 = .ok (.aload_n 2, 1) := by decide +kernel
theorem d_LW_memory_1 : decode b_LW_memory 1 = .ok (.iconst 0, 1) := by decide +kernel
theorem d_LW_memory_2 : decode b_LW_memory 2 = .ok (.aload_n 0, 1) := by decide +kernel
theorem d_LW_memory_3 : decode b_LW_memory 3 = .ok (.iload_n 1, 1) := by decide +kernel
theorem d_LW_memory_4 : decode b_LW_memory 4 = .ok (.invokevirtual 48, 3) := by decide +kernel
theorem d_LW_memory_7 : decode b_LW_memory 7 = .ok (.i2l, 1) := by decide +kernel
theorem d_LW_memory_8 : decode b_LW_memory 8 = .ok (.lastore, 1) := by decide +kernel
theorem d_LW_memory_9 : decode b_LW_memory 9 = .ok (.goto 9, 3) := by decide +kernel
theorem d_LW_memory_12 : decode b_LW_memory 12 = .ok (.astore_n 3, 1) := by decide +kernel
theorem d_LW_memory_13 : decode b_LW_memory 13 = .ok (.iconst 1, 1) := by decide +kernel
theorem d_LW_memory_14 : decode b_LW_memory 14 = .ok (.ireturn, 1) := by decide +kernel
theorem d_LW_memory_15 : decode b_LW_memory 15 = .ok (.astore_n 3, 1) := by decide +kernel
theorem d_LW_memory_16 : decode b_LW_memory 16 = .ok (.iconst 2, 1) := by decide +kernel
theorem d_LW_memory_17 : decode b_LW_memory 17 = .ok (.ireturn, 1) := by decide +kernel
theorem d_LW_memory_18 : decode b_LW_memory 18 = .ok (.iconst 0, 1) := by decide +kernel
theorem d_LW_memory_19 : decode b_LW_memory 19 = .ok (.ireturn, 1) := by decide +kernel
theorem kM_LW_48 : Cond.methodLink R_LW 48 y_WF_memory ∈ lw_g := in_g 1716 (by decide +kernel) rfl
theorem kV_WF_memory : Cond.instanceMethod y_WF_memory ∈ lw_g := in_g 1717 (by decide +kernel) rfl
theorem kS_WF_memory : Cond.selects R_WF y_WF_memory y_WF_memory ∈ lw_g := in_g 1718 (by decide +kernel) rfl
abbrev at_LW_memory (dC : Nat → ClassId) (dI : Nat → Nat → Nat) (sa : Nat → Nat) (h0 ta rw ag wa ws h0_program_r h0_coder_r h0_reader_r h0_validator_r ma magl wac mace mask mafb mafs maff mafl malb malh ou : Nat) (cmace cou : ClassId) (h0_argumentCount : Int32) (h0_reason : Int32) (h0_place : Int32) (h0_loaded : Int32) (ma_pages : Int32) (ma_steps : Int32) (ma_reason : Int32) (ma_height : Int32) (ma_frameCount : Int32) (ma_labelCount : Int32) (ma_at : Int32) (gmace : Nat → Int64) (A : Nat → Prop) (u : (Nat → Int64)) (t : State) : Prop := match u with | gou => va_P (dC, dI) cls [(h0, .inr (0, [.ref ta, .ref rw, .ref ag, .int h0_argumentCount, .int h0_reason, .int h0_place, .int h0_loaded, .ref wa, .ref ws, .ref h0_program_r, .ref h0_coder_r, .ref h0_reader_r, .ref h0_validator_r, .ref ma])), (ma, .inr (4, [.int ma_pages, .int ma_steps, .int ma_reason, .ref magl, .ref wa, .ref wac, .ref mace, .ref mask, .int ma_height, .ref mafb, .ref mafs, .ref maff, .ref mafl, .int ma_frameCount, .ref malb, .ref malh, .int ma_labelCount, .int ma_at])), (mace, .inl (cmace, 16384, .inr (.inl gmace))), (ou, .inl (cou, 1, .inr (.inl gou)))] t.heap ∧ va_K (dC, dI) cls [(cmace, .long), (cou, .long)] t ∧ va_D A [(h0, .inr (0, [.ref ta, .ref rw, .ref ag, .int h0_argumentCount, .int h0_reason, .int h0_place, .int h0_loaded, .ref wa, .ref ws, .ref h0_program_r, .ref h0_coder_r, .ref h0_reader_r, .ref h0_validator_r, .ref ma])), (ma, .inr (4, [.int ma_pages, .int ma_steps, .int ma_reason, .ref magl, .ref wa, .ref wac, .ref mace, .ref mask, .int ma_height, .ref mafb, .ref mafs, .ref maff, .ref mafl, .int ma_frameCount, .ref malb, .ref malh, .int ma_labelCount, .int ma_at])), (mace, .inl (cmace, 16384, .inr (.inl gmace))), (ou, .inl (cou, 1, .inr (.inl gou)))]
set_option maxHeartbeats 4000000 in
set_option maxRecDepth 100000 in
theorem c_LW_memory (l : Launch) (hlt : l.stackTraces = false) (dC : Nat → ClassId) (dI : Nat → Nat → Nat) (sz : Nat) (sa : Nat → Nat) (h0 ta rw ag wa ws h0_program_r h0_coder_r h0_reader_r h0_validator_r ma magl wac mace mask mafb mafs maff mafl malb malh ou : Nat) (cmace cou : ClassId) (h0_argumentCount : Int32) (h0_reason : Int32) (h0_place : Int32) (h0_loaded : Int32) (ma_pages : Int32) (ma_steps : Int32) (ma_reason : Int32) (ma_height : Int32) (ma_frameCount : Int32) (ma_labelCount : Int32) (ma_at : Int32) (gmace : Nat → Int64) (gou : Nat → Int64)  (b_h0_loaded : h0_loaded = 0 ∨ h0_loaded = 1) (b_ma_pages : 0 ≤ ma_pages.toInt ∧ ma_pages.toInt ≤ 2) (p0 : Int32)  (hld : h0_loaded.toInt = 1) : Met l y_LW_memory w_LW_memory ({ frames := 7, cells := 1, slots := 6, locals := 111 }) (va_Pc [.ref h0, .int p0, .ref ou] (fun U => U.heap.size = sz ∧ va_P (dC, dI) cls [(h0, .inr (0, [.ref ta, .ref rw, .ref ag, .int h0_argumentCount, .int h0_reason, .int h0_place, .int h0_loaded, .ref wa, .ref ws, .ref h0_program_r, .ref h0_coder_r, .ref h0_reader_r, .ref h0_validator_r, .ref ma])), (ma, .inr (4, [.int ma_pages, .int ma_steps, .int ma_reason, .ref magl, .ref wa, .ref wac, .ref mace, .ref mask, .int ma_height, .ref mafb, .ref mafs, .ref maff, .ref mafl, .int ma_frameCount, .ref malb, .ref malh, .int ma_labelCount, .int ma_at])), (mace, .inl (cmace, 16384, .inr (.inl gmace))), (ou, .inl (cou, 1, .inr (.inl gou)))] U.heap ∧ va_K (dC, dI) cls [(cmace, .long), (cou, .long)] U ∧ va_D (fun _ => True) [(h0, .inr (0, [.ref ta, .ref rw, .ref ag, .int h0_argumentCount, .int h0_reason, .int h0_place, .int h0_loaded, .ref wa, .ref ws, .ref h0_program_r, .ref h0_coder_r, .ref h0_reader_r, .ref h0_validator_r, .ref ma])), (ma, .inr (4, [.int ma_pages, .int ma_steps, .int ma_reason, .ref magl, .ref wa, .ref wac, .ref mace, .ref mask, .int ma_height, .ref mafb, .ref mafs, .ref maff, .ref mafl, .int ma_frameCount, .ref malb, .ref malh, .int ma_labelCount, .int ma_at])), (mace, .inl (cmace, 16384, .inr (.inl gmace))), (ou, .inl (cou, 1, .inr (.inl gou)))] ∧ sw sa (va_A [(h0, .inr (0, [.ref ta, .ref rw, .ref ag, .int h0_argumentCount, .int h0_reason, .int h0_place, .int h0_loaded, .ref wa, .ref ws, .ref h0_program_r, .ref h0_coder_r, .ref h0_reader_r, .ref h0_validator_r, .ref ma])), (ma, .inr (4, [.int ma_pages, .int ma_steps, .int ma_reason, .ref magl, .ref wa, .ref wac, .ref mace, .ref mask, .int ma_height, .ref mafb, .ref mafs, .ref maff, .ref mafl, .int ma_frameCount, .ref malb, .ref malh, .int ma_labelCount, .int ma_at])), (mace, .inl (cmace, 16384, .inr (.inl gmace))), (ou, .inl (cou, 1, .inr (.inl gou)))] sz) U U.heap)) (va_Qi (fun (r : Int32) (u : (Nat → Int64)) => match u with | gou2 => (True)) (at_LW_memory dC dI sa h0 ta rw ag wa ws h0_program_r h0_coder_r h0_reader_r h0_validator_r ma magl wac mace mask mafb mafs maff mafl malb malh ou cmace cou h0_argumentCount h0_reason h0_place h0_loaded ma_pages ma_steps ma_reason ma_height ma_frameCount ma_labelCount ma_at gmace (va_A [(h0, .inr (0, [.ref ta, .ref rw, .ref ag, .int h0_argumentCount, .int h0_reason, .int h0_place, .int h0_loaded, .ref wa, .ref ws, .ref h0_program_r, .ref h0_coder_r, .ref h0_reader_r, .ref h0_validator_r, .ref ma])), (ma, .inr (4, [.int ma_pages, .int ma_steps, .int ma_reason, .ref magl, .ref wa, .ref wac, .ref mace, .ref mask, .int ma_height, .ref mafb, .ref mafs, .ref maff, .ref mafl, .int ma_frameCount, .ref malb, .ref malh, .int ma_labelCount, .int ma_at])), (mace, .inl (cmace, 16384, .inr (.inl gmace))), (ou, .inl (cou, 1, .inr (.inl gou)))] sz)) (va_A [(h0, .inr (0, [.ref ta, .ref rw, .ref ag, .int h0_argumentCount, .int h0_reason, .int h0_place, .int h0_loaded, .ref wa, .ref ws, .ref h0_program_r, .ref h0_coder_r, .ref h0_reader_r, .ref h0_validator_r, .ref ma])), (ma, .inr (4, [.int ma_pages, .int ma_steps, .int ma_reason, .ref magl, .ref wa, .ref wac, .ref mace, .ref mask, .int ma_height, .ref mafb, .ref mafs, .ref maff, .ref mafl, .int ma_frameCount, .ref malb, .ref malh, .int ma_labelCount, .int ma_at])), (mace, .inl (cmace, 16384, .inr (.inl gmace))), (ou, .inl (cou, 1, .inr (.inl gou)))] sz)) 1 6 (va_A [(h0, .inr (0, [.ref ta, .ref rw, .ref ag, .int h0_argumentCount, .int h0_reason, .int h0_place, .int h0_loaded, .ref wa, .ref ws, .ref h0_program_r, .ref h0_coder_r, .ref h0_reader_r, .ref h0_validator_r, .ref ma])), (ma, .inr (4, [.int ma_pages, .int ma_steps, .int ma_reason, .ref magl, .ref wa, .ref wac, .ref mace, .ref mask, .int ma_height, .ref mafb, .ref mafs, .ref maff, .ref mafl, .int ma_frameCount, .ref malb, .ref malh, .int ma_labelCount, .int ma_at])), (mace, .inl (cmace, 16384, .inr (.inl gmace))), (ou, .inl (cou, 1, .inr (.inl gou)))] sz) := by
  refine va_MetW (cc := b_LW_memory) (maxL := 4) (ret := (Option.some .int)) (hh := [(0, 9, 12, 19), (0, 9, 15, 33)]) (by decide) rfl ?_
  intro p e s m args below meth c s₁ B hml hv
  obtain ⟨rfl, hsz, hP, hK, hD0, hSW⟩ := hv
  have hx := B.exec
  have hb := B.bytes
  have hr := B.returns
  have hts0 := atoms_spec (ws := w_LW_memory) B.pre
  have hts : ∀ w ∈ lw_g, w.before _ s = true := fun w h => hts0 w (List.mem_cons_of_mem _ h)
  have hown : s.vm.findClass R_LW = some m.cls := findClass_of_methodNamed B.named
  have hlocks := B.notSynchronized
  have hE := uw_table B (hts0 _ List.mem_cons_self)
  clear hts0
  subst hsz
  have hD := hD0.self (sz := s.heap.size)
  generalize hAe : va_A [(h0, .inr (0, [.ref ta, .ref rw, .ref ag, .int h0_argumentCount, .int h0_reason, .int h0_place, .int h0_loaded, .ref wa, .ref ws, .ref h0_program_r, .ref h0_coder_r, .ref h0_reader_r, .ref h0_validator_r, .ref ma])), (ma, .inr (4, [.int ma_pages, .int ma_steps, .int ma_reason, .ref magl, .ref wa, .ref wac, .ref mace, .ref mask, .int ma_height, .ref mafb, .ref mafs, .ref maff, .ref mafl, .int ma_frameCount, .ref malb, .ref malh, .int ma_labelCount, .int ma_at])), (mace, .inl (cmace, 16384, .inr (.inl gmace))), (ou, .inl (cou, 1, .inr (.inl gou)))] s.heap.size = A at hD hSW ⊢
  have hA : ∀ q : Nat, s.heap.size ≤ q → A q := fun q h => by rw [← hAe]; exact Or.inr h
  clear hAe
  have hP : va_P (dC, dI) cls [(h0, .inr (0, [.ref ta, .ref rw, .ref ag, .int h0_argumentCount, .int h0_reason, .int h0_place, .int h0_loaded, .ref wa, .ref ws, .ref h0_program_r, .ref h0_coder_r, .ref h0_reader_r, .ref h0_validator_r, .ref ma])), (ma, .inr (4, [.int ma_pages, .int ma_steps, .int ma_reason, .ref magl, .ref wa, .ref wac, .ref mace, .ref mask, .int ma_height, .ref mafb, .ref mafs, .ref maff, .ref mafl, .int ma_frameCount, .ref malb, .ref malh, .int ma_labelCount, .int ma_at])), (mace, .inl (cmace, 16384, .inr (.inl gmace))), (ou, .inl (cou, 1, .inr (.inl gou)))] s.heap := hP
  have hl := lv_entry ([.ref h0, .int p0, .ref ou]) (n := 4) (Nat.le_of_ble_eq_true rfl)
  rw [lg_entry_eq]
  generalize (lg_sl ([.ref h0, .int p0, .ref ou]) ++ List.replicate (4 - (lg_sl ([.ref h0, .int p0, .ref ou])).length) Slot.unset).toArray = ls at hl ⊢
  have hl : lv_has ls 4 [(0, .ref h0), (1, .int p0), (2, .ref ou)] := hl
  have k0 : (0 : Int32).toInt = 0 := by decide
  refine w_gen (A := A) hP (fun H locs hP hS => ?_)
  have k1 : (1 : Int32).toInt = 1 := by decide
  have k2 : (2 : Int32).toInt = 2 := by decide
  have lo_p0 := i32_lo p0
  have hi_p0 := i32_hi p0
  have th0_loaded := b01 b_h0_loaded
  refine lv_aload_n hx hb d_LW_memory_0 rfl (lv_at hl 2 rfl) ?_
  refine lv_iconst (v := 0) hx hb d_LW_memory_1 (by decide) ?_
  refine lv_aload_n hx hb d_LW_memory_2 rfl (lv_at hl 0 rfl) ?_
  refine lv_iload_n hx hb d_LW_memory_3 rfl (lv_at hl 1 rfl) ?_
  have hPc := hP.sub (ws' := [(h0, .inr (0, [.ref ta, .ref rw, .ref ag, .int h0_argumentCount, .int h0_reason, .int h0_place, .int h0_loaded, .ref wa, .ref ws, .ref h0_program_r, .ref h0_coder_r, .ref h0_reader_r, .ref h0_validator_r, .ref ma])), (ma, .inr (4, [.int ma_pages, .int ma_steps, .int ma_reason, .ref magl, .ref wa, .ref wac, .ref mace, .ref mask, .int ma_height, .ref mafb, .ref mafs, .ref maff, .ref mafl, .int ma_frameCount, .ref malb, .ref malh, .int ma_labelCount, .int ma_at])), (mace, .inl (cmace, 16384, .inr (.inl gmace)))]) [0, 1, 2] rfl
  have hDc := hD.sub (ws' := [(h0, .inr (0, [.ref ta, .ref rw, .ref ag, .int h0_argumentCount, .int h0_reason, .int h0_place, .int h0_loaded, .ref wa, .ref ws, .ref h0_program_r, .ref h0_coder_r, .ref h0_reader_r, .ref h0_validator_r, .ref ma])), (ma, .inr (4, [.int ma_pages, .int ma_steps, .int ma_reason, .ref magl, .ref wa, .ref wac, .ref mace, .ref mask, .int ma_height, .ref mafb, .ref mafs, .ref maff, .ref mafl, .int ma_frameCount, .ref malb, .ref malh, .int ma_labelCount, .int ma_at])), (mace, .inl (cmace, 16384, .inr (.inl gmace)))]) [0, 1, 2] (by decide) rfl
  have hKc := hK.sub (tys' := [(cmace, .long)]) [0] rfl
  have hFc := va_free (wc := [(h0, .inr (0, [.ref ta, .ref rw, .ref ag, .int h0_argumentCount, .int h0_reason, .int h0_place, .int h0_loaded, .ref wa, .ref ws, .ref h0_program_r, .ref h0_coder_r, .ref h0_reader_r, .ref h0_validator_r, .ref ma])), (ma, .inr (4, [.int ma_pages, .int ma_steps, .int ma_reason, .ref magl, .ref wa, .ref wac, .ref mace, .ref mask, .int ma_height, .ref mafb, .ref mafs, .ref maff, .ref mafl, .int ma_frameCount, .ref malb, .ref malh, .int ma_labelCount, .int ma_at])), (mace, .inl (cmace, 16384, .inr (.inl gmace)))]) hD hS hA [0, 1, 2] rfl
  refine tm_calli (tz_runV (As := [.int p0]) (rest := [.int 0, .ref ou]) ⟨hx, hb, hml, hown, hts⟩ (c_WF_memory l hlt dC dI H.size sa h0 ta rw ag wa ws h0_program_r h0_coder_r h0_reader_r h0_validator_r ma magl wac mace mask mafb mafs maff mafl malb malh cmace h0_argumentCount h0_reason h0_place h0_loaded ma_pages ma_steps ma_reason ma_height ma_frameCount ma_labelCount ma_at gmace (b_h0_loaded) (b_ma_pages) p0 (hld)) (cwV 1 hts (gV kM_LW_48 kV_WF_memory kS_WF_memory kI_WF kC_WF_memory) rfl rfl rfl (by decide +kernel) ⟨Nat.le_of_ble_eq_true rfl, Nat.le_of_ble_eq_true rfl⟩) ⟨fun a U g mk z => by obtain ⟨z0, z1, zP, zK, zD, zS⟩ := z; exact ⟨z0, z1, zP, va_K.moved (u := U) (U := U.calling g mk a) (Vm.Alike.refl U.vm) zK, zD, sw.same (u := U) (U := U.calling g mk a) rfl zS⟩, va_recv hKc hPc (ci := 0) (q0 := 0) rfl rfl, fun U hU hW => ⟨rfl, by rw [hU], by rw [hU]; exact hPc, va_K.moved hW.alike hKc, hDc.weaken (fun _ _ _ _ => trivial), hSW.call hS hFc hW hU⟩⟩ rfl rfl hl.1 rfl (lv_room (Nat.le_of_ble_eq_true rfl)) d_LW_memory_4 ⟨Nat.le_of_ble_eq_true rfl, Nat.le_of_ble_eq_true rfl⟩) hS (fun q _ h => hFc q h) hFc (fun r1 u t H1 locs ht hvm hw hB hz1 hk1 hS => ?_) (fun xx u t H1 locs ht hvm hw hXX hB hz1 hk1 hS => ?_)
  rotate_left
  · skip
    try dsimp only at hw
    obtain ⟨hP1, hK1, hD1⟩ := hB
    rw [ht] at hP1
    obtain ⟨hP, hD⟩ := va_join (wr := [(ou, .inl (cou, 1, .inr (.inl gou)))]) (w1 := [(h0, .inr (0, [.ref ta, .ref rw, .ref ag, .int h0_argumentCount, .int h0_reason, .int h0_place, .int h0_loaded, .ref wa, .ref ws, .ref h0_program_r, .ref h0_coder_r, .ref h0_reader_r, .ref h0_validator_r, .ref ma])), (ma, .inr (4, [.int ma_pages, .int ma_steps, .int ma_reason, .ref magl, .ref wa, .ref wac, .ref mace, .ref mask, .int ma_height, .ref mafb, .ref mafs, .ref maff, .ref mafl, .int ma_frameCount, .ref malb, .ref malh, .int ma_labelCount, .int ma_at])), (mace, .inl (cmace, 16384, .inr (.inl gmace)))]) hP hD [0, 1, 2] [3] rfl rfl (by decide) (by decide) hk1 hFc hP1 hD1
    have hP : va_P (dC, dI) cls [(ou, .inl (cou, 1, .inr (.inl gou))), (h0, .inr (0, [.ref ta, .ref rw, .ref ag, .int h0_argumentCount, .int h0_reason, .int h0_place, .int h0_loaded, .ref wa, .ref ws, .ref h0_program_r, .ref h0_coder_r, .ref h0_reader_r, .ref h0_validator_r, .ref ma])), (ma, .inr (4, [.int ma_pages, .int ma_steps, .int ma_reason, .ref magl, .ref wa, .ref wac, .ref mace, .ref mask, .int ma_height, .ref mafb, .ref mafs, .ref maff, .ref mafl, .int ma_frameCount, .ref malb, .ref malh, .int ma_labelCount, .int ma_at])), (mace, .inl (cmace, 16384, .inr (.inl gmace)))] H1 := hP
    have hD : va_D A [(ou, .inl (cou, 1, .inr (.inl gou))), (h0, .inr (0, [.ref ta, .ref rw, .ref ag, .int h0_argumentCount, .int h0_reason, .int h0_place, .int h0_loaded, .ref wa, .ref ws, .ref h0_program_r, .ref h0_coder_r, .ref h0_reader_r, .ref h0_validator_r, .ref ma])), (ma, .inr (4, [.int ma_pages, .int ma_steps, .int ma_reason, .ref magl, .ref wa, .ref wac, .ref mace, .ref mask, .int ma_height, .ref mafb, .ref mafs, .ref maff, .ref mafl, .int ma_frameCount, .ref malb, .ref malh, .int ma_labelCount, .int ma_at])), (mace, .inl (cmace, 16384, .inr (.inl gmace)))] := hD
    obtain ⟨cX, hcX, hXX⟩ := hXX
    refine tc_multi (nm := (fun ct => if ct = 19 then "java/lang/IllegalArgumentException" else "java/lang/IllegalStateException")) hE (fun q hq => ?_) ?_ hown hXX (fun q hq => ?_)
    · simp only [List.mem_cons, List.not_mem_nil, or_false] at hq
      rcases hq with rfl | rfl
      · exact ⟨by decide, by decide, by decide, hts _ kK_LW_19⟩
      · exact ⟨by decide, by decide, by decide, hts _ kK_LW_33⟩
    · simp only [List.mem_cons, List.not_mem_nil, or_false] at hcX
      rcases hcX with rfl | rfl
      · exact ⟨(0, 9, 12, 19), by simp, rfl⟩
      · exact ⟨(0, 9, 15, 33), by simp, rfl⟩
    · simp only [List.mem_cons, List.not_mem_nil, or_false] at hq
      clear hPc hDc hKc hFc hz1 hk1 hP1 hK1 hD1 hXX
      rcases hq with rfl | rfl
      · dsimp only
        refine lv_astore_n (lv' := [(3, .ref xx), (0, .ref h0), (1, .int p0), (2, .ref ou)]) hx hb d_LW_memory_12 rfl hl (by decide) rfl (fun ls hl => ?_)
        refine lv_iconst (v := 1) hx hb d_LW_memory_13 (by decide) ?_
        have hP9 := hP.sub (ws' := [(h0, .inr (0, [.ref ta, .ref rw, .ref ag, .int h0_argumentCount, .int h0_reason, .int h0_place, .int h0_loaded, .ref wa, .ref ws, .ref h0_program_r, .ref h0_coder_r, .ref h0_reader_r, .ref h0_validator_r, .ref ma])), (ma, .inr (4, [.int ma_pages, .int ma_steps, .int ma_reason, .ref magl, .ref wa, .ref wac, .ref mace, .ref mask, .int ma_height, .ref mafb, .ref mafs, .ref maff, .ref mafl, .int ma_frameCount, .ref malb, .ref malh, .int ma_labelCount, .int ma_at])), (mace, .inl (cmace, 16384, .inr (.inl gmace))), (ou, .inl (cou, 1, .inr (.inl gou)))]) [1, 2, 3, 0] rfl
        have hD9 := hD.sub (ws' := [(h0, .inr (0, [.ref ta, .ref rw, .ref ag, .int h0_argumentCount, .int h0_reason, .int h0_place, .int h0_loaded, .ref wa, .ref ws, .ref h0_program_r, .ref h0_coder_r, .ref h0_reader_r, .ref h0_validator_r, .ref ma])), (ma, .inr (4, [.int ma_pages, .int ma_steps, .int ma_reason, .ref magl, .ref wa, .ref wac, .ref mace, .ref mask, .int ma_height, .ref mafb, .ref mafs, .ref maff, .ref mafl, .int ma_frameCount, .ref malb, .ref malh, .int ma_labelCount, .int ma_at])), (mace, .inl (cmace, 16384, .inr (.inl gmace))), (ou, .inl (cou, 1, .inr (.inl gou)))]) [1, 2, 3, 0] (by decide) rfl
        refine W.widen (k := 1) (n := 6) (Nat.le_of_ble_eq_true rfl) (Nat.le_of_ble_eq_true rfl) ?_
        exact W.iret (v := 1) hx hb hr (fun t ht hW => ⟨⟨1, gou, rfl, (trivial), by rw [ht]; exact hP9, va_K.moved hW.alike hK, hD9⟩, hS.F ht⟩) hS.2.2 d_LW_memory_14
      · dsimp only
        refine lv_astore_n (lv' := [(3, .ref xx), (0, .ref h0), (1, .int p0), (2, .ref ou)]) hx hb d_LW_memory_15 rfl hl (by decide) rfl (fun ls hl => ?_)
        refine lv_iconst (v := 2) hx hb d_LW_memory_16 (by decide) ?_
        have hP9 := hP.sub (ws' := [(h0, .inr (0, [.ref ta, .ref rw, .ref ag, .int h0_argumentCount, .int h0_reason, .int h0_place, .int h0_loaded, .ref wa, .ref ws, .ref h0_program_r, .ref h0_coder_r, .ref h0_reader_r, .ref h0_validator_r, .ref ma])), (ma, .inr (4, [.int ma_pages, .int ma_steps, .int ma_reason, .ref magl, .ref wa, .ref wac, .ref mace, .ref mask, .int ma_height, .ref mafb, .ref mafs, .ref maff, .ref mafl, .int ma_frameCount, .ref malb, .ref malh, .int ma_labelCount, .int ma_at])), (mace, .inl (cmace, 16384, .inr (.inl gmace))), (ou, .inl (cou, 1, .inr (.inl gou)))]) [1, 2, 3, 0] rfl
        have hD9 := hD.sub (ws' := [(h0, .inr (0, [.ref ta, .ref rw, .ref ag, .int h0_argumentCount, .int h0_reason, .int h0_place, .int h0_loaded, .ref wa, .ref ws, .ref h0_program_r, .ref h0_coder_r, .ref h0_reader_r, .ref h0_validator_r, .ref ma])), (ma, .inr (4, [.int ma_pages, .int ma_steps, .int ma_reason, .ref magl, .ref wa, .ref wac, .ref mace, .ref mask, .int ma_height, .ref mafb, .ref mafs, .ref maff, .ref mafl, .int ma_frameCount, .ref malb, .ref malh, .int ma_labelCount, .int ma_at])), (mace, .inl (cmace, 16384, .inr (.inl gmace))), (ou, .inl (cou, 1, .inr (.inl gou)))]) [1, 2, 3, 0] (by decide) rfl
        refine W.widen (k := 1) (n := 6) (Nat.le_of_ble_eq_true rfl) (Nat.le_of_ble_eq_true rfl) ?_
        exact W.iret (v := 2) hx hb hr (fun t ht hW => ⟨⟨2, gou, rfl, (trivial), by rw [ht]; exact hP9, va_K.moved hW.alike hK, hD9⟩, hS.F ht⟩) hS.2.2 d_LW_memory_17
  try dsimp only at hw
  have xr1 := hw
  try clear hw
  obtain ⟨hP1, hK1, hD1⟩ := hB
  rw [ht] at hP1
  obtain ⟨hP, hD⟩ := va_join (wr := [(ou, .inl (cou, 1, .inr (.inl gou)))]) (w1 := [(h0, .inr (0, [.ref ta, .ref rw, .ref ag, .int h0_argumentCount, .int h0_reason, .int h0_place, .int h0_loaded, .ref wa, .ref ws, .ref h0_program_r, .ref h0_coder_r, .ref h0_reader_r, .ref h0_validator_r, .ref ma])), (ma, .inr (4, [.int ma_pages, .int ma_steps, .int ma_reason, .ref magl, .ref wa, .ref wac, .ref mace, .ref mask, .int ma_height, .ref mafb, .ref mafs, .ref maff, .ref mafl, .int ma_frameCount, .ref malb, .ref malh, .int ma_labelCount, .int ma_at])), (mace, .inl (cmace, 16384, .inr (.inl gmace)))]) hP hD [0, 1, 2] [3] rfl rfl (by decide) (by decide) hk1 hFc hP1 hD1
  clear hPc hDc hKc hFc hz1 hk1 hP1 hK1 hD1
  generalize H1 = H at hP hS ⊢
  have hP : va_P (dC, dI) cls [(ou, .inl (cou, 1, .inr (.inl gou))), (h0, .inr (0, [.ref ta, .ref rw, .ref ag, .int h0_argumentCount, .int h0_reason, .int h0_place, .int h0_loaded, .ref wa, .ref ws, .ref h0_program_r, .ref h0_coder_r, .ref h0_reader_r, .ref h0_validator_r, .ref ma])), (ma, .inr (4, [.int ma_pages, .int ma_steps, .int ma_reason, .ref magl, .ref wa, .ref wac, .ref mace, .ref mask, .int ma_height, .ref mafb, .ref mafs, .ref maff, .ref mafl, .int ma_frameCount, .ref malb, .ref malh, .int ma_labelCount, .int ma_at])), (mace, .inl (cmace, 16384, .inr (.inl gmace)))] H := hP
  have hD : va_D A [(ou, .inl (cou, 1, .inr (.inl gou))), (h0, .inr (0, [.ref ta, .ref rw, .ref ag, .int h0_argumentCount, .int h0_reason, .int h0_place, .int h0_loaded, .ref wa, .ref ws, .ref h0_program_r, .ref h0_coder_r, .ref h0_reader_r, .ref h0_validator_r, .ref ma])), (ma, .inr (4, [.int ma_pages, .int ma_steps, .int ma_reason, .ref magl, .ref wa, .ref wac, .ref mace, .ref mask, .int ma_height, .ref mafb, .ref mafs, .ref maff, .ref mafl, .int ma_frameCount, .ref malb, .ref malh, .int ma_labelCount, .int ma_at])), (mace, .inl (cmace, 16384, .inr (.inl gmace)))] := hD
  refine lv_i2l hx hb d_LW_memory_7 rfl ?_
  refine lv_topl (fun x2 ex2 => ?_)
  have tx2 := i2l_t ex2
  have g8 : vp_in 0 1 := vp_in_iff.mpr ⟨by omega, by omega⟩
  refine va_last hx hb hK hP hD hS 0 1 rfl rfl g8 d_LW_memory_8 (fun H locs hP hD hS => ?_)
  generalize ef3 : vp_updL gou (0 : Int32).toNatClampNeg x2 = f3 at hP hD
  refine lv_goto (tgt := 18) hx hb d_LW_memory_9 (by decide) ?_
  refine lv_iconst (v := 0) hx hb d_LW_memory_18 (by decide) ?_
  have hP9 := hP.sub (ws' := [(h0, .inr (0, [.ref ta, .ref rw, .ref ag, .int h0_argumentCount, .int h0_reason, .int h0_place, .int h0_loaded, .ref wa, .ref ws, .ref h0_program_r, .ref h0_coder_r, .ref h0_reader_r, .ref h0_validator_r, .ref ma])), (ma, .inr (4, [.int ma_pages, .int ma_steps, .int ma_reason, .ref magl, .ref wa, .ref wac, .ref mace, .ref mask, .int ma_height, .ref mafb, .ref mafs, .ref maff, .ref mafl, .int ma_frameCount, .ref malb, .ref malh, .int ma_labelCount, .int ma_at])), (mace, .inl (cmace, 16384, .inr (.inl gmace))), (ou, .inl (cou, 1, .inr (.inl f3)))]) [1, 2, 3, 0] rfl
  have hD9 := hD.sub (ws' := [(h0, .inr (0, [.ref ta, .ref rw, .ref ag, .int h0_argumentCount, .int h0_reason, .int h0_place, .int h0_loaded, .ref wa, .ref ws, .ref h0_program_r, .ref h0_coder_r, .ref h0_reader_r, .ref h0_validator_r, .ref ma])), (ma, .inr (4, [.int ma_pages, .int ma_steps, .int ma_reason, .ref magl, .ref wa, .ref wac, .ref mace, .ref mask, .int ma_height, .ref mafb, .ref mafs, .ref maff, .ref mafl, .int ma_frameCount, .ref malb, .ref malh, .int ma_labelCount, .int ma_at])), (mace, .inl (cmace, 16384, .inr (.inl gmace))), (ou, .inl (cou, 1, .inr (.inl f3)))]) [1, 2, 3, 0] (by decide) rfl
  refine W.widen (k := 1) (n := 6) (Nat.le_of_ble_eq_true rfl) (Nat.le_of_ble_eq_true rfl) ?_
  exact W.iret (v := 0) hx hb hr (fun t ht hW => ⟨⟨0, f3, rfl, (trivial), by rw [ht]; exact hP9, va_K.moved hW.alike hK, hD9⟩, hS.F ht⟩) hS.2.2 d_LW_memory_19
abbrev at_LW_memoryo (dC : Nat → ClassId) (dI : Nat → Nat → Nat) (sa : Nat → Nat) (h0 ta rw ag wa ws h0_program_r h0_coder_r h0_reader_r h0_validator_r ma ou : Nat) (cou : ClassId) (h0_argumentCount : Int32) (h0_reason : Int32) (h0_place : Int32) (h0_loaded : Int32) (A : Nat → Prop) (u : (Nat → Int64)) (t : State) : Prop := match u with | gou => va_P (dC, dI) cls [(h0, .inr (0, [.ref ta, .ref rw, .ref ag, .int h0_argumentCount, .int h0_reason, .int h0_place, .int h0_loaded, .ref wa, .ref ws, .ref h0_program_r, .ref h0_coder_r, .ref h0_reader_r, .ref h0_validator_r, .ref ma])), (ou, .inl (cou, 1, .inr (.inl gou)))] t.heap ∧ va_K (dC, dI) cls [(cou, .long)] t ∧ va_D A [(h0, .inr (0, [.ref ta, .ref rw, .ref ag, .int h0_argumentCount, .int h0_reason, .int h0_place, .int h0_loaded, .ref wa, .ref ws, .ref h0_program_r, .ref h0_coder_r, .ref h0_reader_r, .ref h0_validator_r, .ref ma])), (ou, .inl (cou, 1, .inr (.inl gou)))]
set_option maxHeartbeats 4000000 in
set_option maxRecDepth 100000 in
theorem c_LW_memoryo (l : Launch) (hlt : l.stackTraces = false) (dC : Nat → ClassId) (dI : Nat → Nat → Nat) (sz : Nat) (sa : Nat → Nat) (h0 ta rw ag wa ws h0_program_r h0_coder_r h0_reader_r h0_validator_r ma ou : Nat) (cou : ClassId) (h0_argumentCount : Int32) (h0_reason : Int32) (h0_place : Int32) (h0_loaded : Int32) (gou : Nat → Int64)  (b_h0_loaded : h0_loaded = 0 ∨ h0_loaded = 1) (p0 : Int32)  (hld : h0_loaded.toInt = 0) : Met l y_LW_memory w_LW_memory ({ frames := 7, cells := 1, slots := 6, locals := 111 }) (va_Pc [.ref h0, .int p0, .ref ou] (fun U => U.heap.size = sz ∧ va_P (dC, dI) cls [(h0, .inr (0, [.ref ta, .ref rw, .ref ag, .int h0_argumentCount, .int h0_reason, .int h0_place, .int h0_loaded, .ref wa, .ref ws, .ref h0_program_r, .ref h0_coder_r, .ref h0_reader_r, .ref h0_validator_r, .ref ma])), (ou, .inl (cou, 1, .inr (.inl gou)))] U.heap ∧ va_K (dC, dI) cls [(cou, .long)] U ∧ va_D (fun _ => True) [(h0, .inr (0, [.ref ta, .ref rw, .ref ag, .int h0_argumentCount, .int h0_reason, .int h0_place, .int h0_loaded, .ref wa, .ref ws, .ref h0_program_r, .ref h0_coder_r, .ref h0_reader_r, .ref h0_validator_r, .ref ma])), (ou, .inl (cou, 1, .inr (.inl gou)))] ∧ sw sa (va_A [(h0, .inr (0, [.ref ta, .ref rw, .ref ag, .int h0_argumentCount, .int h0_reason, .int h0_place, .int h0_loaded, .ref wa, .ref ws, .ref h0_program_r, .ref h0_coder_r, .ref h0_reader_r, .ref h0_validator_r, .ref ma])), (ou, .inl (cou, 1, .inr (.inl gou)))] sz) U U.heap)) (va_Qi (fun (r : Int32) (u : (Nat → Int64)) => match u with | gou2 => (True)) (at_LW_memoryo dC dI sa h0 ta rw ag wa ws h0_program_r h0_coder_r h0_reader_r h0_validator_r ma ou cou h0_argumentCount h0_reason h0_place h0_loaded (va_A [(h0, .inr (0, [.ref ta, .ref rw, .ref ag, .int h0_argumentCount, .int h0_reason, .int h0_place, .int h0_loaded, .ref wa, .ref ws, .ref h0_program_r, .ref h0_coder_r, .ref h0_reader_r, .ref h0_validator_r, .ref ma])), (ou, .inl (cou, 1, .inr (.inl gou)))] sz)) (va_A [(h0, .inr (0, [.ref ta, .ref rw, .ref ag, .int h0_argumentCount, .int h0_reason, .int h0_place, .int h0_loaded, .ref wa, .ref ws, .ref h0_program_r, .ref h0_coder_r, .ref h0_reader_r, .ref h0_validator_r, .ref ma])), (ou, .inl (cou, 1, .inr (.inl gou)))] sz)) 1 6 (va_A [(h0, .inr (0, [.ref ta, .ref rw, .ref ag, .int h0_argumentCount, .int h0_reason, .int h0_place, .int h0_loaded, .ref wa, .ref ws, .ref h0_program_r, .ref h0_coder_r, .ref h0_reader_r, .ref h0_validator_r, .ref ma])), (ou, .inl (cou, 1, .inr (.inl gou)))] sz) := by
  refine va_MetW (cc := b_LW_memory) (maxL := 4) (ret := (Option.some .int)) (hh := [(0, 9, 12, 19), (0, 9, 15, 33)]) (by decide) rfl ?_
  intro p e s m args below meth c s₁ B hml hv
  obtain ⟨rfl, hsz, hP, hK, hD0, hSW⟩ := hv
  have hx := B.exec
  have hb := B.bytes
  have hr := B.returns
  have hts0 := atoms_spec (ws := w_LW_memory) B.pre
  have hts : ∀ w ∈ lw_g, w.before _ s = true := fun w h => hts0 w (List.mem_cons_of_mem _ h)
  have hown : s.vm.findClass R_LW = some m.cls := findClass_of_methodNamed B.named
  have hlocks := B.notSynchronized
  have hE := uw_table B (hts0 _ List.mem_cons_self)
  clear hts0
  subst hsz
  have hD := hD0.self (sz := s.heap.size)
  generalize hAe : va_A [(h0, .inr (0, [.ref ta, .ref rw, .ref ag, .int h0_argumentCount, .int h0_reason, .int h0_place, .int h0_loaded, .ref wa, .ref ws, .ref h0_program_r, .ref h0_coder_r, .ref h0_reader_r, .ref h0_validator_r, .ref ma])), (ou, .inl (cou, 1, .inr (.inl gou)))] s.heap.size = A at hD hSW ⊢
  have hA : ∀ q : Nat, s.heap.size ≤ q → A q := fun q h => by rw [← hAe]; exact Or.inr h
  clear hAe
  have hP : va_P (dC, dI) cls [(h0, .inr (0, [.ref ta, .ref rw, .ref ag, .int h0_argumentCount, .int h0_reason, .int h0_place, .int h0_loaded, .ref wa, .ref ws, .ref h0_program_r, .ref h0_coder_r, .ref h0_reader_r, .ref h0_validator_r, .ref ma])), (ou, .inl (cou, 1, .inr (.inl gou)))] s.heap := hP
  have hl := lv_entry ([.ref h0, .int p0, .ref ou]) (n := 4) (Nat.le_of_ble_eq_true rfl)
  rw [lg_entry_eq]
  generalize (lg_sl ([.ref h0, .int p0, .ref ou]) ++ List.replicate (4 - (lg_sl ([.ref h0, .int p0, .ref ou])).length) Slot.unset).toArray = ls at hl ⊢
  have hl : lv_has ls 4 [(0, .ref h0), (1, .int p0), (2, .ref ou)] := hl
  have k0 : (0 : Int32).toInt = 0 := by decide
  refine w_gen (A := A) hP (fun H locs hP hS => ?_)
  have k1 : (1 : Int32).toInt = 1 := by decide
  have k2 : (2 : Int32).toInt = 2 := by decide
  have lo_p0 := i32_lo p0
  have hi_p0 := i32_hi p0
  have th0_loaded := b01 b_h0_loaded
  refine lv_aload_n hx hb d_LW_memory_0 rfl (lv_at hl 2 rfl) ?_
  refine lv_iconst (v := 0) hx hb d_LW_memory_1 (by decide) ?_
  refine lv_aload_n hx hb d_LW_memory_2 rfl (lv_at hl 0 rfl) ?_
  refine lv_iload_n hx hb d_LW_memory_3 rfl (lv_at hl 1 rfl) ?_
  have hPc := hP.sub (ws' := [(h0, .inr (0, [.ref ta, .ref rw, .ref ag, .int h0_argumentCount, .int h0_reason, .int h0_place, .int h0_loaded, .ref wa, .ref ws, .ref h0_program_r, .ref h0_coder_r, .ref h0_reader_r, .ref h0_validator_r, .ref ma]))]) [0] rfl
  have hDc := hD.sub (ws' := [(h0, .inr (0, [.ref ta, .ref rw, .ref ag, .int h0_argumentCount, .int h0_reason, .int h0_place, .int h0_loaded, .ref wa, .ref ws, .ref h0_program_r, .ref h0_coder_r, .ref h0_reader_r, .ref h0_validator_r, .ref ma]))]) [0] (by decide) rfl
  have hKc := hK.sub (tys' := []) [] rfl
  have hFc := va_free (wc := [(h0, .inr (0, [.ref ta, .ref rw, .ref ag, .int h0_argumentCount, .int h0_reason, .int h0_place, .int h0_loaded, .ref wa, .ref ws, .ref h0_program_r, .ref h0_coder_r, .ref h0_reader_r, .ref h0_validator_r, .ref ma]))]) hD hS hA [0] rfl
  refine tm_calli (tz_runV (As := [.int p0]) (rest := [.int 0, .ref ou]) ⟨hx, hb, hml, hown, hts⟩ (c_WF_memoryo l hlt dC dI H.size sa h0 ta rw ag wa ws h0_program_r h0_coder_r h0_reader_r h0_validator_r ma h0_argumentCount h0_reason h0_place h0_loaded (b_h0_loaded) p0 (hld)) (cwV 1 hts (gV kM_LW_48 kV_WF_memory kS_WF_memory kI_WF kC_WF_memory) rfl rfl rfl (by decide +kernel) ⟨Nat.le_of_ble_eq_true rfl, Nat.le_of_ble_eq_true rfl⟩) ⟨fun a U g mk z => by obtain ⟨z0, z1, zP, zK, zD, zS⟩ := z; exact ⟨z0, z1, zP, va_K.moved (u := U) (U := U.calling g mk a) (Vm.Alike.refl U.vm) zK, zD, sw.same (u := U) (U := U.calling g mk a) rfl zS⟩, va_recv hKc hPc (ci := 0) (q0 := 0) rfl rfl, fun U hU hW => ⟨rfl, by rw [hU], by rw [hU]; exact hPc, va_K.moved hW.alike hKc, hDc.weaken (fun _ _ _ _ => trivial), hSW.call hS hFc hW hU⟩⟩ rfl rfl hl.1 rfl (lv_room (Nat.le_of_ble_eq_true rfl)) d_LW_memory_4 ⟨Nat.le_of_ble_eq_true rfl, Nat.le_of_ble_eq_true rfl⟩) hS (fun q _ h => hFc q h) hFc (fun r1 u t H1 locs ht hvm hw hB hz1 hk1 hS => ?_) (fun xx u t H1 locs ht hvm hw hXX hB hz1 hk1 hS => ?_)
  rotate_left
  · skip
    try dsimp only at hw
    obtain ⟨hP1, hK1, hD1⟩ := hB
    rw [ht] at hP1
    obtain ⟨hP, hD⟩ := va_join (wr := [(ou, .inl (cou, 1, .inr (.inl gou)))]) (w1 := [(h0, .inr (0, [.ref ta, .ref rw, .ref ag, .int h0_argumentCount, .int h0_reason, .int h0_place, .int h0_loaded, .ref wa, .ref ws, .ref h0_program_r, .ref h0_coder_r, .ref h0_reader_r, .ref h0_validator_r, .ref ma]))]) hP hD [0] [1] rfl rfl (by decide) (by decide) hk1 hFc hP1 hD1
    have hP : va_P (dC, dI) cls [(ou, .inl (cou, 1, .inr (.inl gou))), (h0, .inr (0, [.ref ta, .ref rw, .ref ag, .int h0_argumentCount, .int h0_reason, .int h0_place, .int h0_loaded, .ref wa, .ref ws, .ref h0_program_r, .ref h0_coder_r, .ref h0_reader_r, .ref h0_validator_r, .ref ma]))] H1 := hP
    have hD : va_D A [(ou, .inl (cou, 1, .inr (.inl gou))), (h0, .inr (0, [.ref ta, .ref rw, .ref ag, .int h0_argumentCount, .int h0_reason, .int h0_place, .int h0_loaded, .ref wa, .ref ws, .ref h0_program_r, .ref h0_coder_r, .ref h0_reader_r, .ref h0_validator_r, .ref ma]))] := hD
    obtain ⟨cX, hcX, hXX⟩ := hXX
    refine tc_multi (nm := (fun ct => if ct = 19 then "java/lang/IllegalArgumentException" else "java/lang/IllegalStateException")) hE (fun q hq => ?_) ?_ hown hXX (fun q hq => ?_)
    · simp only [List.mem_cons, List.not_mem_nil, or_false] at hq
      rcases hq with rfl | rfl
      · exact ⟨by decide, by decide, by decide, hts _ kK_LW_19⟩
      · exact ⟨by decide, by decide, by decide, hts _ kK_LW_33⟩
    · simp only [List.mem_cons, List.not_mem_nil, or_false] at hcX
      rcases hcX with rfl | rfl
      · exact ⟨(0, 9, 12, 19), by simp, rfl⟩
      · exact ⟨(0, 9, 15, 33), by simp, rfl⟩
    · simp only [List.mem_cons, List.not_mem_nil, or_false] at hq
      clear hPc hDc hKc hFc hz1 hk1 hP1 hK1 hD1 hXX
      rcases hq with rfl | rfl
      · dsimp only
        refine lv_astore_n (lv' := [(3, .ref xx), (0, .ref h0), (1, .int p0), (2, .ref ou)]) hx hb d_LW_memory_12 rfl hl (by decide) rfl (fun ls hl => ?_)
        refine lv_iconst (v := 1) hx hb d_LW_memory_13 (by decide) ?_
        have hP9 := hP.sub (ws' := [(h0, .inr (0, [.ref ta, .ref rw, .ref ag, .int h0_argumentCount, .int h0_reason, .int h0_place, .int h0_loaded, .ref wa, .ref ws, .ref h0_program_r, .ref h0_coder_r, .ref h0_reader_r, .ref h0_validator_r, .ref ma])), (ou, .inl (cou, 1, .inr (.inl gou)))]) [1, 0] rfl
        have hD9 := hD.sub (ws' := [(h0, .inr (0, [.ref ta, .ref rw, .ref ag, .int h0_argumentCount, .int h0_reason, .int h0_place, .int h0_loaded, .ref wa, .ref ws, .ref h0_program_r, .ref h0_coder_r, .ref h0_reader_r, .ref h0_validator_r, .ref ma])), (ou, .inl (cou, 1, .inr (.inl gou)))]) [1, 0] (by decide) rfl
        refine W.widen (k := 1) (n := 6) (Nat.le_of_ble_eq_true rfl) (Nat.le_of_ble_eq_true rfl) ?_
        exact W.iret (v := 1) hx hb hr (fun t ht hW => ⟨⟨1, gou, rfl, (trivial), by rw [ht]; exact hP9, va_K.moved hW.alike hK, hD9⟩, hS.F ht⟩) hS.2.2 d_LW_memory_14
      · dsimp only
        refine lv_astore_n (lv' := [(3, .ref xx), (0, .ref h0), (1, .int p0), (2, .ref ou)]) hx hb d_LW_memory_15 rfl hl (by decide) rfl (fun ls hl => ?_)
        refine lv_iconst (v := 2) hx hb d_LW_memory_16 (by decide) ?_
        have hP9 := hP.sub (ws' := [(h0, .inr (0, [.ref ta, .ref rw, .ref ag, .int h0_argumentCount, .int h0_reason, .int h0_place, .int h0_loaded, .ref wa, .ref ws, .ref h0_program_r, .ref h0_coder_r, .ref h0_reader_r, .ref h0_validator_r, .ref ma])), (ou, .inl (cou, 1, .inr (.inl gou)))]) [1, 0] rfl
        have hD9 := hD.sub (ws' := [(h0, .inr (0, [.ref ta, .ref rw, .ref ag, .int h0_argumentCount, .int h0_reason, .int h0_place, .int h0_loaded, .ref wa, .ref ws, .ref h0_program_r, .ref h0_coder_r, .ref h0_reader_r, .ref h0_validator_r, .ref ma])), (ou, .inl (cou, 1, .inr (.inl gou)))]) [1, 0] (by decide) rfl
        refine W.widen (k := 1) (n := 6) (Nat.le_of_ble_eq_true rfl) (Nat.le_of_ble_eq_true rfl) ?_
        exact W.iret (v := 2) hx hb hr (fun t ht hW => ⟨⟨2, gou, rfl, (trivial), by rw [ht]; exact hP9, va_K.moved hW.alike hK, hD9⟩, hS.F ht⟩) hS.2.2 d_LW_memory_17
  try dsimp only at hw
  have xr1 := hw
  try clear hw
  obtain ⟨hP1, hK1, hD1⟩ := hB
  rw [ht] at hP1
  obtain ⟨hP, hD⟩ := va_join (wr := [(ou, .inl (cou, 1, .inr (.inl gou)))]) (w1 := [(h0, .inr (0, [.ref ta, .ref rw, .ref ag, .int h0_argumentCount, .int h0_reason, .int h0_place, .int h0_loaded, .ref wa, .ref ws, .ref h0_program_r, .ref h0_coder_r, .ref h0_reader_r, .ref h0_validator_r, .ref ma]))]) hP hD [0] [1] rfl rfl (by decide) (by decide) hk1 hFc hP1 hD1
  clear hPc hDc hKc hFc hz1 hk1 hP1 hK1 hD1
  generalize H1 = H at hP hS ⊢
  have hP : va_P (dC, dI) cls [(ou, .inl (cou, 1, .inr (.inl gou))), (h0, .inr (0, [.ref ta, .ref rw, .ref ag, .int h0_argumentCount, .int h0_reason, .int h0_place, .int h0_loaded, .ref wa, .ref ws, .ref h0_program_r, .ref h0_coder_r, .ref h0_reader_r, .ref h0_validator_r, .ref ma]))] H := hP
  have hD : va_D A [(ou, .inl (cou, 1, .inr (.inl gou))), (h0, .inr (0, [.ref ta, .ref rw, .ref ag, .int h0_argumentCount, .int h0_reason, .int h0_place, .int h0_loaded, .ref wa, .ref ws, .ref h0_program_r, .ref h0_coder_r, .ref h0_reader_r, .ref h0_validator_r, .ref ma]))] := hD
  refine lv_i2l hx hb d_LW_memory_7 rfl ?_
  refine lv_topl (fun x2 ex2 => ?_)
  have tx2 := i2l_t ex2
  have g8 : vp_in 0 1 := vp_in_iff.mpr ⟨by omega, by omega⟩
  refine va_last hx hb hK hP hD hS 0 0 rfl rfl g8 d_LW_memory_8 (fun H locs hP hD hS => ?_)
  generalize ef3 : vp_updL gou (0 : Int32).toNatClampNeg x2 = f3 at hP hD
  refine lv_goto (tgt := 18) hx hb d_LW_memory_9 (by decide) ?_
  refine lv_iconst (v := 0) hx hb d_LW_memory_18 (by decide) ?_
  have hP9 := hP.sub (ws' := [(h0, .inr (0, [.ref ta, .ref rw, .ref ag, .int h0_argumentCount, .int h0_reason, .int h0_place, .int h0_loaded, .ref wa, .ref ws, .ref h0_program_r, .ref h0_coder_r, .ref h0_reader_r, .ref h0_validator_r, .ref ma])), (ou, .inl (cou, 1, .inr (.inl f3)))]) [1, 0] rfl
  have hD9 := hD.sub (ws' := [(h0, .inr (0, [.ref ta, .ref rw, .ref ag, .int h0_argumentCount, .int h0_reason, .int h0_place, .int h0_loaded, .ref wa, .ref ws, .ref h0_program_r, .ref h0_coder_r, .ref h0_reader_r, .ref h0_validator_r, .ref ma])), (ou, .inl (cou, 1, .inr (.inl f3)))]) [1, 0] (by decide) rfl
  refine W.widen (k := 1) (n := 6) (Nat.le_of_ble_eq_true rfl) (Nat.le_of_ble_eq_true rfl) ?_
  exact W.iret (v := 0) hx hb hr (fun t ht hW => ⟨⟨0, f3, rfl, (trivial), by rw [ht]; exact hP9, va_K.moved hW.alike hK, hD9⟩, hS.F ht⟩) hS.2.2 d_LW_memory_19
abbrev b_LW_call : ByteArray := method_9_code
def y_LW_call : MethodName := ⟨R_LW, "call", "(LWaferForge;I[J)I"⟩
abbrev w_LW_call : List Cond := .codeWith y_LW_call b_LW_call 4 (Option.some .int) [(0, 8, 11, 19), (0, 8, 14, 33), (0, 8, 17, 43)] :: lw_g
theorem kC_LW_call : Cond.codeWith y_LW_call b_LW_call 4 (Option.some .int) [(0, 8, 11, 19), (0, 8, 14, 33), (0, 8, 17, 43)] ∈ lw_g := in_g 1527 (by decide +kernel) rfl
theorem d_LW_call_0 : decode b_LW_call 0 = .ok (.aload_n 2, 1) := by decide +kernel
theorem d_LW_call_1 : decode b_LW_call 1 = .ok (.iconst 0, 1) := by decide +kernel
theorem d_LW_call_2 : decode b_LW_call 2 = .ok (.aload_n 0, 1) := by decide +kernel
theorem d_LW_call_3 : decode b_LW_call 3 = .ok (.iload_n 1, 1) := by decide +kernel
theorem d_LW_call_4 : decode b_LW_call 4 = .ok (.invokevirtual 39, 3) := by decide +kernel
theorem d_LW_call_7 : decode b_LW_call 7 = .ok (.lastore, 1) := by decide +kernel
theorem d_LW_call_8 : decode b_LW_call 8 = .ok (.goto 12, 3) := by decide +kernel
theorem d_LW_call_11 : decode b_LW_call 11 = .ok (.astore_n 3, 1) := by decide +kernel
theorem d_LW_call_12 : decode b_LW_call 12 = .ok (.iconst 1, 1) := by decide +kernel
theorem d_LW_call_13 : decode b_LW_call 13 = .ok (.ireturn, 1) := by decide +kernel
theorem d_LW_call_14 : decode b_LW_call 14 = .ok (.astore_n 3, 1) := by decide +kernel
theorem d_LW_call_15 : decode b_LW_call 15 = .ok (.iconst 2, 1) := by decide +kernel
theorem d_LW_call_16 : decode b_LW_call 16 = .ok (.ireturn, 1) := by decide +kernel
theorem d_LW_call_17 : decode b_LW_call 17 = .ok (.astore_n 3, 1) := by decide +kernel
theorem d_LW_call_18 : decode b_LW_call 18 = .ok (.iconst 3, 1) := by decide +kernel
theorem d_LW_call_19 : decode b_LW_call 19 = .ok (.ireturn, 1) := by decide +kernel
theorem d_LW_call_20 : decode b_LW_call 20 = .ok (.iconst 0, 1) := by decide +kernel
theorem d_LW_call_21 : decode b_LW_call 21 = .ok (.ireturn, 1) := by decide +kernel
theorem kM_LW_39 : Cond.methodLink R_LW 39 y_WF_call ∈ lw_g := in_g 1529 (by decide +kernel) rfl
theorem kV_WF_call : Cond.instanceMethod y_WF_call ∈ lw_g := in_g 1530 (by decide +kernel) rfl
theorem kS_WF_call : Cond.selects R_WF y_WF_call y_WF_call ∈ lw_g := in_g 1531 (by decide +kernel) rfl
theorem kK_LW_43 : Cond.classLink R_LW 43 "java/lang/ArithmeticException" ∈ lw_g := in_g 1528 (by decide +kernel) rfl
abbrev at_LW_callo (dC : Nat → ClassId) (dI : Nat → Nat → Nat) (sa : Nat → Nat) (h0 ta rw ag wa ws h0_program_r h0_coder_r h0_reader_r h0_validator_r ma ou : Nat) (cou : ClassId) (h0_argumentCount : Int32) (h0_reason : Int32) (h0_place : Int32) (h0_loaded : Int32) (A : Nat → Prop) (u : (Nat → Int64)) (t : State) : Prop := match u with | gou => va_P (dC, dI) cls [(h0, .inr (0, [.ref ta, .ref rw, .ref ag, .int h0_argumentCount, .int h0_reason, .int h0_place, .int h0_loaded, .ref wa, .ref ws, .ref h0_program_r, .ref h0_coder_r, .ref h0_reader_r, .ref h0_validator_r, .ref ma])), (ou, .inl (cou, 1, .inr (.inl gou)))] t.heap ∧ va_K (dC, dI) cls [(cou, .long)] t ∧ va_D A [(h0, .inr (0, [.ref ta, .ref rw, .ref ag, .int h0_argumentCount, .int h0_reason, .int h0_place, .int h0_loaded, .ref wa, .ref ws, .ref h0_program_r, .ref h0_coder_r, .ref h0_reader_r, .ref h0_validator_r, .ref ma])), (ou, .inl (cou, 1, .inr (.inl gou)))]
set_option maxHeartbeats 4000000 in
set_option maxRecDepth 100000 in
theorem c_LW_callo (l : Launch) (hlt : l.stackTraces = false) (dC : Nat → ClassId) (dI : Nat → Nat → Nat) (sz : Nat) (sa : Nat → Nat) (h0 ta rw ag wa ws h0_program_r h0_coder_r h0_reader_r h0_validator_r ma ou : Nat) (cou : ClassId) (h0_argumentCount : Int32) (h0_reason : Int32) (h0_place : Int32) (h0_loaded : Int32) (gou : Nat → Int64)  (b_h0_loaded : h0_loaded = 0 ∨ h0_loaded = 1) (p0 : Int32)  (hld : h0_loaded.toInt = 0) : Met l y_LW_call w_LW_call ({ frames := 8, cells := 1, slots := 6, locals := 201 }) (va_Pc [.ref h0, .int p0, .ref ou] (fun U => U.heap.size = sz ∧ va_P (dC, dI) cls [(h0, .inr (0, [.ref ta, .ref rw, .ref ag, .int h0_argumentCount, .int h0_reason, .int h0_place, .int h0_loaded, .ref wa, .ref ws, .ref h0_program_r, .ref h0_coder_r, .ref h0_reader_r, .ref h0_validator_r, .ref ma])), (ou, .inl (cou, 1, .inr (.inl gou)))] U.heap ∧ va_K (dC, dI) cls [(cou, .long)] U ∧ va_D (fun _ => True) [(h0, .inr (0, [.ref ta, .ref rw, .ref ag, .int h0_argumentCount, .int h0_reason, .int h0_place, .int h0_loaded, .ref wa, .ref ws, .ref h0_program_r, .ref h0_coder_r, .ref h0_reader_r, .ref h0_validator_r, .ref ma])), (ou, .inl (cou, 1, .inr (.inl gou)))] ∧ sw sa (va_A [(h0, .inr (0, [.ref ta, .ref rw, .ref ag, .int h0_argumentCount, .int h0_reason, .int h0_place, .int h0_loaded, .ref wa, .ref ws, .ref h0_program_r, .ref h0_coder_r, .ref h0_reader_r, .ref h0_validator_r, .ref ma])), (ou, .inl (cou, 1, .inr (.inl gou)))] sz) U U.heap)) (va_Qi (fun (r : Int32) (u : (Nat → Int64)) => match u with | gou2 => (True)) (at_LW_callo dC dI sa h0 ta rw ag wa ws h0_program_r h0_coder_r h0_reader_r h0_validator_r ma ou cou h0_argumentCount h0_reason h0_place h0_loaded (va_A [(h0, .inr (0, [.ref ta, .ref rw, .ref ag, .int h0_argumentCount, .int h0_reason, .int h0_place, .int h0_loaded, .ref wa, .ref ws, .ref h0_program_r, .ref h0_coder_r, .ref h0_reader_r, .ref h0_validator_r, .ref ma])), (ou, .inl (cou, 1, .inr (.inl gou)))] sz)) (va_A [(h0, .inr (0, [.ref ta, .ref rw, .ref ag, .int h0_argumentCount, .int h0_reason, .int h0_place, .int h0_loaded, .ref wa, .ref ws, .ref h0_program_r, .ref h0_coder_r, .ref h0_reader_r, .ref h0_validator_r, .ref ma])), (ou, .inl (cou, 1, .inr (.inl gou)))] sz)) 1 6 (va_A [(h0, .inr (0, [.ref ta, .ref rw, .ref ag, .int h0_argumentCount, .int h0_reason, .int h0_place, .int h0_loaded, .ref wa, .ref ws, .ref h0_program_r, .ref h0_coder_r, .ref h0_reader_r, .ref h0_validator_r, .ref ma])), (ou, .inl (cou, 1, .inr (.inl gou)))] sz) := by
  refine va_MetW (cc := b_LW_call) (maxL := 4) (ret := (Option.some .int)) (hh := [(0, 8, 11, 19), (0, 8, 14, 33), (0, 8, 17, 43)]) (by decide) rfl ?_
  intro p e s m args below meth c s₁ B hml hv
  obtain ⟨rfl, hsz, hP, hK, hD0, hSW⟩ := hv
  have hx := B.exec
  have hb := B.bytes
  have hr := B.returns
  have hts0 := atoms_spec (ws := w_LW_call) B.pre
  have hts : ∀ w ∈ lw_g, w.before _ s = true := fun w h => hts0 w (List.mem_cons_of_mem _ h)
  have hown : s.vm.findClass R_LW = some m.cls := findClass_of_methodNamed B.named
  have hlocks := B.notSynchronized
  have hE := uw_table B (hts0 _ List.mem_cons_self)
  clear hts0
  subst hsz
  have hD := hD0.self (sz := s.heap.size)
  generalize hAe : va_A [(h0, .inr (0, [.ref ta, .ref rw, .ref ag, .int h0_argumentCount, .int h0_reason, .int h0_place, .int h0_loaded, .ref wa, .ref ws, .ref h0_program_r, .ref h0_coder_r, .ref h0_reader_r, .ref h0_validator_r, .ref ma])), (ou, .inl (cou, 1, .inr (.inl gou)))] s.heap.size = A at hD hSW ⊢
  have hA : ∀ q : Nat, s.heap.size ≤ q → A q := fun q h => by rw [← hAe]; exact Or.inr h
  clear hAe
  have hP : va_P (dC, dI) cls [(h0, .inr (0, [.ref ta, .ref rw, .ref ag, .int h0_argumentCount, .int h0_reason, .int h0_place, .int h0_loaded, .ref wa, .ref ws, .ref h0_program_r, .ref h0_coder_r, .ref h0_reader_r, .ref h0_validator_r, .ref ma])), (ou, .inl (cou, 1, .inr (.inl gou)))] s.heap := hP
  have hl := lv_entry ([.ref h0, .int p0, .ref ou]) (n := 4) (Nat.le_of_ble_eq_true rfl)
  rw [lg_entry_eq]
  generalize (lg_sl ([.ref h0, .int p0, .ref ou]) ++ List.replicate (4 - (lg_sl ([.ref h0, .int p0, .ref ou])).length) Slot.unset).toArray = ls at hl ⊢
  have hl : lv_has ls 4 [(0, .ref h0), (1, .int p0), (2, .ref ou)] := hl
  have k0 : (0 : Int32).toInt = 0 := by decide
  refine w_gen (A := A) hP (fun H locs hP hS => ?_)
  have k1 : (1 : Int32).toInt = 1 := by decide
  have k2 : (2 : Int32).toInt = 2 := by decide
  have k3 : (3 : Int32).toInt = 3 := by decide
  have lo_p0 := i32_lo p0
  have hi_p0 := i32_hi p0
  have th0_loaded := b01 b_h0_loaded
  refine lv_aload_n hx hb d_LW_call_0 rfl (lv_at hl 2 rfl) ?_
  refine lv_iconst (v := 0) hx hb d_LW_call_1 (by decide) ?_
  refine lv_aload_n hx hb d_LW_call_2 rfl (lv_at hl 0 rfl) ?_
  refine lv_iload_n hx hb d_LW_call_3 rfl (lv_at hl 1 rfl) ?_
  have hPc := hP.sub (ws' := [(h0, .inr (0, [.ref ta, .ref rw, .ref ag, .int h0_argumentCount, .int h0_reason, .int h0_place, .int h0_loaded, .ref wa, .ref ws, .ref h0_program_r, .ref h0_coder_r, .ref h0_reader_r, .ref h0_validator_r, .ref ma]))]) [0] rfl
  have hDc := hD.sub (ws' := [(h0, .inr (0, [.ref ta, .ref rw, .ref ag, .int h0_argumentCount, .int h0_reason, .int h0_place, .int h0_loaded, .ref wa, .ref ws, .ref h0_program_r, .ref h0_coder_r, .ref h0_reader_r, .ref h0_validator_r, .ref ma]))]) [0] (by decide) rfl
  have hKc := hK.sub (tys' := []) [] rfl
  have hFc := va_free (wc := [(h0, .inr (0, [.ref ta, .ref rw, .ref ag, .int h0_argumentCount, .int h0_reason, .int h0_place, .int h0_loaded, .ref wa, .ref ws, .ref h0_program_r, .ref h0_coder_r, .ref h0_reader_r, .ref h0_validator_r, .ref ma]))]) hD hS hA [0] rfl
  refine tm_calll (tz_runV (As := [.int p0]) (rest := [.int 0, .ref ou]) ⟨hx, hb, hml, hown, hts⟩ (c_WF_callo l hlt dC dI H.size sa h0 ta rw ag wa ws h0_program_r h0_coder_r h0_reader_r h0_validator_r ma h0_argumentCount h0_reason h0_place h0_loaded (b_h0_loaded) p0 (hld)) (cwV 1 hts (gV kM_LW_39 kV_WF_call kS_WF_call kI_WF kC_WF_call) rfl rfl rfl (by decide +kernel) ⟨Nat.le_of_ble_eq_true rfl, Nat.le_of_ble_eq_true rfl⟩) ⟨fun a U g mk z => by obtain ⟨z0, z1, zP, zK, zD, zS⟩ := z; exact ⟨z0, z1, zP, va_K.moved (u := U) (U := U.calling g mk a) (Vm.Alike.refl U.vm) zK, zD, sw.same (u := U) (U := U.calling g mk a) rfl zS⟩, va_recv hKc hPc (ci := 0) (q0 := 0) rfl rfl, fun U hU hW => ⟨rfl, by rw [hU], by rw [hU]; exact hPc, va_K.moved hW.alike hKc, hDc.weaken (fun _ _ _ _ => trivial), hSW.call hS hFc hW hU⟩⟩ rfl rfl hl.1 rfl (lv_room (Nat.le_of_ble_eq_true rfl)) d_LW_call_4 ⟨Nat.le_of_ble_eq_true rfl, Nat.le_of_ble_eq_true rfl⟩) hS (fun q _ h => hFc q h) hFc (fun r1 u t H1 locs ht hvm hw hB hz1 hk1 hS => ?_) (fun xx u t H1 locs ht hvm hw hXX hB hz1 hk1 hS => ?_)
  rotate_left
  · skip
    try dsimp only at hw
    obtain ⟨hP1, hK1, hD1⟩ := hB
    rw [ht] at hP1
    obtain ⟨hP, hD⟩ := va_join (wr := [(ou, .inl (cou, 1, .inr (.inl gou)))]) (w1 := [(h0, .inr (0, [.ref ta, .ref rw, .ref ag, .int h0_argumentCount, .int h0_reason, .int h0_place, .int h0_loaded, .ref wa, .ref ws, .ref h0_program_r, .ref h0_coder_r, .ref h0_reader_r, .ref h0_validator_r, .ref ma]))]) hP hD [0] [1] rfl rfl (by decide) (by decide) hk1 hFc hP1 hD1
    have hP : va_P (dC, dI) cls [(ou, .inl (cou, 1, .inr (.inl gou))), (h0, .inr (0, [.ref ta, .ref rw, .ref ag, .int h0_argumentCount, .int h0_reason, .int h0_place, .int h0_loaded, .ref wa, .ref ws, .ref h0_program_r, .ref h0_coder_r, .ref h0_reader_r, .ref h0_validator_r, .ref ma]))] H1 := hP
    have hD : va_D A [(ou, .inl (cou, 1, .inr (.inl gou))), (h0, .inr (0, [.ref ta, .ref rw, .ref ag, .int h0_argumentCount, .int h0_reason, .int h0_place, .int h0_loaded, .ref wa, .ref ws, .ref h0_program_r, .ref h0_coder_r, .ref h0_reader_r, .ref h0_validator_r, .ref ma]))] := hD
    obtain ⟨cX, hcX, hXX⟩ := hXX
    refine tc_multi (nm := (fun ct => if ct = 19 then "java/lang/IllegalArgumentException" else if ct = 33 then "java/lang/IllegalStateException" else "java/lang/ArithmeticException")) hE (fun q hq => ?_) ?_ hown hXX (fun q hq => ?_)
    · simp only [List.mem_cons, List.not_mem_nil, or_false] at hq
      rcases hq with rfl | rfl | rfl
      · exact ⟨by decide, by decide, by decide, hts _ kK_LW_19⟩
      · exact ⟨by decide, by decide, by decide, hts _ kK_LW_33⟩
      · exact ⟨by decide, by decide, by decide, hts _ kK_LW_43⟩
    · simp only [List.mem_cons, List.not_mem_nil, or_false] at hcX
      rcases hcX with rfl | rfl | rfl
      · exact ⟨(0, 8, 11, 19), by simp, rfl⟩
      · exact ⟨(0, 8, 14, 33), by simp, rfl⟩
      · exact ⟨(0, 8, 17, 43), by simp, rfl⟩
    · simp only [List.mem_cons, List.not_mem_nil, or_false] at hq
      clear hPc hDc hKc hFc hz1 hk1 hP1 hK1 hD1 hXX
      rcases hq with rfl | rfl | rfl
      · dsimp only
        refine lv_astore_n (lv' := [(3, .ref xx), (0, .ref h0), (1, .int p0), (2, .ref ou)]) hx hb d_LW_call_11 rfl hl (by decide) rfl (fun ls hl => ?_)
        refine lv_iconst (v := 1) hx hb d_LW_call_12 (by decide) ?_
        have hP9 := hP.sub (ws' := [(h0, .inr (0, [.ref ta, .ref rw, .ref ag, .int h0_argumentCount, .int h0_reason, .int h0_place, .int h0_loaded, .ref wa, .ref ws, .ref h0_program_r, .ref h0_coder_r, .ref h0_reader_r, .ref h0_validator_r, .ref ma])), (ou, .inl (cou, 1, .inr (.inl gou)))]) [1, 0] rfl
        have hD9 := hD.sub (ws' := [(h0, .inr (0, [.ref ta, .ref rw, .ref ag, .int h0_argumentCount, .int h0_reason, .int h0_place, .int h0_loaded, .ref wa, .ref ws, .ref h0_program_r, .ref h0_coder_r, .ref h0_reader_r, .ref h0_validator_r, .ref ma])), (ou, .inl (cou, 1, .inr (.inl gou)))]) [1, 0] (by decide) rfl
        refine W.widen (k := 1) (n := 6) (Nat.le_of_ble_eq_true rfl) (Nat.le_of_ble_eq_true rfl) ?_
        exact W.iret (v := 1) hx hb hr (fun t ht hW => ⟨⟨1, gou, rfl, (trivial), by rw [ht]; exact hP9, va_K.moved hW.alike hK, hD9⟩, hS.F ht⟩) hS.2.2 d_LW_call_13
      · dsimp only
        refine lv_astore_n (lv' := [(3, .ref xx), (0, .ref h0), (1, .int p0), (2, .ref ou)]) hx hb d_LW_call_14 rfl hl (by decide) rfl (fun ls hl => ?_)
        refine lv_iconst (v := 2) hx hb d_LW_call_15 (by decide) ?_
        have hP9 := hP.sub (ws' := [(h0, .inr (0, [.ref ta, .ref rw, .ref ag, .int h0_argumentCount, .int h0_reason, .int h0_place, .int h0_loaded, .ref wa, .ref ws, .ref h0_program_r, .ref h0_coder_r, .ref h0_reader_r, .ref h0_validator_r, .ref ma])), (ou, .inl (cou, 1, .inr (.inl gou)))]) [1, 0] rfl
        have hD9 := hD.sub (ws' := [(h0, .inr (0, [.ref ta, .ref rw, .ref ag, .int h0_argumentCount, .int h0_reason, .int h0_place, .int h0_loaded, .ref wa, .ref ws, .ref h0_program_r, .ref h0_coder_r, .ref h0_reader_r, .ref h0_validator_r, .ref ma])), (ou, .inl (cou, 1, .inr (.inl gou)))]) [1, 0] (by decide) rfl
        refine W.widen (k := 1) (n := 6) (Nat.le_of_ble_eq_true rfl) (Nat.le_of_ble_eq_true rfl) ?_
        exact W.iret (v := 2) hx hb hr (fun t ht hW => ⟨⟨2, gou, rfl, (trivial), by rw [ht]; exact hP9, va_K.moved hW.alike hK, hD9⟩, hS.F ht⟩) hS.2.2 d_LW_call_16
      · dsimp only
        refine lv_astore_n (lv' := [(3, .ref xx), (0, .ref h0), (1, .int p0), (2, .ref ou)]) hx hb d_LW_call_17 rfl hl (by decide) rfl (fun ls hl => ?_)
        refine lv_iconst (v := 3) hx hb d_LW_call_18 (by decide) ?_
        have hP9 := hP.sub (ws' := [(h0, .inr (0, [.ref ta, .ref rw, .ref ag, .int h0_argumentCount, .int h0_reason, .int h0_place, .int h0_loaded, .ref wa, .ref ws, .ref h0_program_r, .ref h0_coder_r, .ref h0_reader_r, .ref h0_validator_r, .ref ma])), (ou, .inl (cou, 1, .inr (.inl gou)))]) [1, 0] rfl
        have hD9 := hD.sub (ws' := [(h0, .inr (0, [.ref ta, .ref rw, .ref ag, .int h0_argumentCount, .int h0_reason, .int h0_place, .int h0_loaded, .ref wa, .ref ws, .ref h0_program_r, .ref h0_coder_r, .ref h0_reader_r, .ref h0_validator_r, .ref ma])), (ou, .inl (cou, 1, .inr (.inl gou)))]) [1, 0] (by decide) rfl
        refine W.widen (k := 1) (n := 6) (Nat.le_of_ble_eq_true rfl) (Nat.le_of_ble_eq_true rfl) ?_
        exact W.iret (v := 3) hx hb hr (fun t ht hW => ⟨⟨3, gou, rfl, (trivial), by rw [ht]; exact hP9, va_K.moved hW.alike hK, hD9⟩, hS.F ht⟩) hS.2.2 d_LW_call_19
  try dsimp only at hw
  have xr1 := hw
  try clear hw
  obtain ⟨hP1, hK1, hD1⟩ := hB
  rw [ht] at hP1
  obtain ⟨hP, hD⟩ := va_join (wr := [(ou, .inl (cou, 1, .inr (.inl gou)))]) (w1 := [(h0, .inr (0, [.ref ta, .ref rw, .ref ag, .int h0_argumentCount, .int h0_reason, .int h0_place, .int h0_loaded, .ref wa, .ref ws, .ref h0_program_r, .ref h0_coder_r, .ref h0_reader_r, .ref h0_validator_r, .ref ma]))]) hP hD [0] [1] rfl rfl (by decide) (by decide) hk1 hFc hP1 hD1
  clear hPc hDc hKc hFc hz1 hk1 hP1 hK1 hD1
  generalize H1 = H at hP hS ⊢
  have hP : va_P (dC, dI) cls [(ou, .inl (cou, 1, .inr (.inl gou))), (h0, .inr (0, [.ref ta, .ref rw, .ref ag, .int h0_argumentCount, .int h0_reason, .int h0_place, .int h0_loaded, .ref wa, .ref ws, .ref h0_program_r, .ref h0_coder_r, .ref h0_reader_r, .ref h0_validator_r, .ref ma]))] H := hP
  have hD : va_D A [(ou, .inl (cou, 1, .inr (.inl gou))), (h0, .inr (0, [.ref ta, .ref rw, .ref ag, .int h0_argumentCount, .int h0_reason, .int h0_place, .int h0_loaded, .ref wa, .ref ws, .ref h0_program_r, .ref h0_coder_r, .ref h0_reader_r, .ref h0_validator_r, .ref ma]))] := hD
  have g7 : vp_in 0 1 := vp_in_iff.mpr ⟨by omega, by omega⟩
  refine va_last hx hb hK hP hD hS 0 0 rfl rfl g7 d_LW_call_7 (fun H locs hP hD hS => ?_)
  generalize ef2 : vp_updL gou (0 : Int32).toNatClampNeg r1 = f2 at hP hD
  refine lv_goto (tgt := 20) hx hb d_LW_call_8 (by decide) ?_
  refine lv_iconst (v := 0) hx hb d_LW_call_20 (by decide) ?_
  have hP9 := hP.sub (ws' := [(h0, .inr (0, [.ref ta, .ref rw, .ref ag, .int h0_argumentCount, .int h0_reason, .int h0_place, .int h0_loaded, .ref wa, .ref ws, .ref h0_program_r, .ref h0_coder_r, .ref h0_reader_r, .ref h0_validator_r, .ref ma])), (ou, .inl (cou, 1, .inr (.inl f2)))]) [1, 0] rfl
  have hD9 := hD.sub (ws' := [(h0, .inr (0, [.ref ta, .ref rw, .ref ag, .int h0_argumentCount, .int h0_reason, .int h0_place, .int h0_loaded, .ref wa, .ref ws, .ref h0_program_r, .ref h0_coder_r, .ref h0_reader_r, .ref h0_validator_r, .ref ma])), (ou, .inl (cou, 1, .inr (.inl f2)))]) [1, 0] (by decide) rfl
  refine W.widen (k := 1) (n := 6) (Nat.le_of_ble_eq_true rfl) (Nat.le_of_ble_eq_true rfl) ?_
  exact W.iret (v := 0) hx hb hr (fun t ht hW => ⟨⟨0, f2, rfl, (trivial), by rw [ht]; exact hP9, va_K.moved hW.alike hK, hD9⟩, hS.F ht⟩) hS.2.2 d_LW_call_21

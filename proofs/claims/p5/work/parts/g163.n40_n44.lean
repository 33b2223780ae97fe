section q_n40
/-! the law: a call that may throw one of several classes, and a table with an entry for each -/
section TML
variable {p : Program} {l : Launch} {e : Env} {R : Room} {s : State} {m : MethodId} {args : Array Value} {below : List Frame} {meth : Method} {c : Code} {H : Heap} {locs : List Loc} {cells slots mr sr mt st : Nat}
variable {A0 A1 : Nat → Prop} {H0 : Heap} {pc : Nat} {ls : Array Slot} {st0 rest : List Value} {a : Array Value} {Q : State → Prop} {free : Addr → Prop} {Cs : List String}
variable {S : Type} {B : S → State → Prop} {pt : S → Prop}
theorem tm_calli {pr : Int32 → S → Prop} (hr : tz_Run p l e R s m args below meth c H locs cells slots (tz_k mr sr mt st) (F0 m pc ls st0) rest (tq_Q (tm_i pr Cs pt) B A1 a) free) (hS : va_S A0 H0 H locs) (hA : ∀ q, q < H.size → A1 q → A0 q) (hf : ∀ q, free q → A0 q)
    (kr : ∀ (r : Int32) (u : S) (t : State) (H1 : Heap) (locs1 : List Loc), t.heap = H1 → s.vm.Alike t.vm → pr r u → B u t → H.size ≤ H1.size → (∀ q : Nat, q < H.size → ¬ A1 q → H1[q]? = H[q]?) → va_S A0 H0 H1 locs1 → W p l e R s m args below meth c H1 locs1 (cells + mr) (slots + sr) Q (F0 m (pc + 3) ls (.int r :: rest)))
    (kt : ∀ (x : Addr) (u : S) (t : State) (H1 : Heap) (locs1 : List Loc), t.heap = H1 → s.vm.Alike t.vm → pt u → (∃ C, C ∈ Cs ∧ xo C x s H1) → B u t → H.size ≤ H1.size → (∀ q : Nat, q < H.size → ¬ A1 q → H1[q]? = H[q]?) → va_S A0 H0 H1 locs1 → tx_T p l e R s m args below meth c H1 locs1 (cells + mt) (slots + st) Q (F0 m pc ls rest) x) :
    W p l e R s m args below meth c H locs cells slots Q (F0 m pc ls st0) :=
  tq_core hr hS hA hf (fun v u t H1 locs1 h1 h2 h3 h4 h5 h6 h7 => by obtain ⟨r, rfl, h3⟩ := h3; exact kr r u t H1 locs1 h1 h2 h3 h4 h5 h6 h7)
    (fun x u t H1 locs1 h1 h2 h3 h4 h5 h6 h7 => by obtain ⟨h8, C, h9, h10⟩ := h3; exact kt x u t H1 locs1 h1 h2 h8 ⟨C, h9, by rw [← h1]; exact h10.back h2⟩ h4 h5 h6 h7)
theorem tm_calll {pr : Int64 → S → Prop} (hr : tz_Run p l e R s m args below meth c H locs cells slots (tz_k mr sr mt st) (F0 m pc ls st0) rest (tq_Q (tm_l pr Cs pt) B A1 a) free) (hS : va_S A0 H0 H locs) (hA : ∀ q, q < H.size → A1 q → A0 q) (hf : ∀ q, free q → A0 q)
    (kr : ∀ (r : Int64) (u : S) (t : State) (H1 : Heap) (locs1 : List Loc), t.heap = H1 → s.vm.Alike t.vm → pr r u → B u t → H.size ≤ H1.size → (∀ q : Nat, q < H.size → ¬ A1 q → H1[q]? = H[q]?) → va_S A0 H0 H1 locs1 → W p l e R s m args below meth c H1 locs1 (cells + mr) (slots + sr) Q (F0 m (pc + 3) ls (.long r :: rest)))
    (kt : ∀ (x : Addr) (u : S) (t : State) (H1 : Heap) (locs1 : List Loc), t.heap = H1 → s.vm.Alike t.vm → pt u → (∃ C, C ∈ Cs ∧ xo C x s H1) → B u t → H.size ≤ H1.size → (∀ q : Nat, q < H.size → ¬ A1 q → H1[q]? = H[q]?) → va_S A0 H0 H1 locs1 → tx_T p l e R s m args below meth c H1 locs1 (cells + mt) (slots + st) Q (F0 m pc ls rest) x) :
    W p l e R s m args below meth c H locs cells slots Q (F0 m pc ls st0) :=
  tq_core hr hS hA hf (fun v u t H1 locs1 h1 h2 h3 h4 h5 h6 h7 => by obtain ⟨r, rfl, h3⟩ := h3; exact kr r u t H1 locs1 h1 h2 h3 h4 h5 h6 h7)
    (fun x u t H1 locs1 h1 h2 h3 h4 h5 h6 h7 => by obtain ⟨h8, C, h9, h10⟩ := h3; exact kt x u t H1 locs1 h1 h2 h8 ⟨C, h9, by rw [← h1]; exact h10.back h2⟩ h4 h5 h6 h7)
end TML
section TCM
variable {p : Program} {l : Launch} {e : Env} {R : Room} {s : State} {m : MethodId} {args : Array Value} {below : List Frame} {meth : Method} {c : Code} {H : Heap} {locs : List Loc} {cells slots : Nat} {Q : State → Prop}
/-- entries that all cover the place, one of them of the class that was thrown: the search ends at one of them -/
theorem tc_list {x : Addr} {own C : String} {nm : Nat → String} {g : JFrame} {cell : Cell} (hg : g.method = m) (hown : s.vm.findClass own = some m.cls) (hcell : H[x]? = some cell) (hobj : cell.vm.isStatics = false) (hcls : s.vm.findClass C = some cell.cls) : ∀ (ts : List ClassFile.ExceptionTableEntry) (T : State) (X : Stand p l e R s m args below meth c T locs cells slots) (hT : T.heap = H) (hcov : ∀ y ∈ ts, covers y g.pc = true ∧ y.catchType ≠ 0 ∧ (Cond.classLink own y.catchType (nm y.catchType)).before args s = true) (hC : ∃ y ∈ ts, nm y.catchType = C), ∃ y ∈ ts, ∃ v : Vm, s.WarmedH v ∧ tc_G e ((T.setTop g).pushFrame (.throwing x)) g x ts (.found y.handlerPc) v := by
  intro ts
  induction ts with
  | nil => intro T X hT hcov hC; obtain ⟨y, hy, -⟩ := hC; cases hy
  | cons y ys ih =>
    intro T X hT hcov hC
    subst hg
    have hC2 := hC
    obtain ⟨y0, hy0, hn0⟩ := hC2
    have hl0 := (hcov y0 hy0).2.2
    rw [hn0] at hl0
    obtain ⟨c0, hc0, hcl0⟩ := Cond.classLink_spec hown hl0 e.platform (by rw [X.admits.platform])
    cases hcls.symm.trans hc0
    obtain ⟨_, _, _, kt, _, _, _, _, _, hkt, _, _⟩ := hcl0.here
    obtain ⟨kt', hkt', -⟩ := X.warmed.alike.2.2 _ _ hkt
    obtain ⟨h1, h2, h3⟩ := hcov y List.mem_cons_self
    obtain ⟨cD, hcD, hclD⟩ := Cond.classLink_spec hown h3 e.platform (by rw [X.admits.platform])
    obtain ⟨dk, _, _, _, hd, _, _, _, _, _, _, hopen⟩ := hclD.here
    have hcl1 := X.warmed.classLinks hclD
    have hW : s.WarmedH (T.vm.noted g.method.cls y.catchType (.cls cD)) := X.warmed.noted hd hopen (State.rightAt_cls hclD)
    have one := tc_one (s := (T.setTop g).pushFrame (.throwing x)) (c := cD) (cell := cell) (f := g) (a := x) (ts := ys) (x := y) h1 h2 hcl1 (by show T.heap[x]? = _; rw [hT]; exact hcell) hobj ⟨kt', hkt'⟩
    by_cases z : ((T.setTop g).pushFrame (.throwing x)).vm.assignable cell.cls cD = true
    · refine ⟨y, List.mem_cons_self, _, hW, fun Q E d acts => (one Q E d acts).trans ?_⟩
      rw [if_pos z]
      exact Iff.rfl
    · have X2 := X.noted hW
      obtain ⟨y2, hy2, v, hv, hG⟩ := ih (T.setVm (T.vm.noted g.method.cls y.catchType (.cls cD))) X2 hT (fun w hw => hcov w (List.mem_cons_of_mem _ hw)) (by
        obtain ⟨w, hw, hlw⟩ := hC
        rcases List.mem_cons.mp hw with rfl | hw
        · exfalso
          rw [hlw] at hcD
          have q1 : cD = cell.cls := Option.some.inj (hcD.symm.trans hcls)
          exact z (by rw [q1]; exact va_asg _ _)
        · exact ⟨w, hw, hlw⟩)
      refine ⟨y2, List.mem_cons_of_mem _ hy2, v, hv, fun Q E d acts => (one Q E d acts).trans ?_⟩
      rw [if_neg z]
      exact hG Q E d acts
theorem tc_multi {x : Addr} {pc : Nat} {ls : Array Slot} {st : List Value} {own C : String} {nm : Nat → String} {hs : List (Nat × Nat × Nat × Nat)} (hE : c.exceptionTable.toList.map (fun h => (h.startPc, h.endPc, h.handlerPc, h.catchType)) = hs) (hcov : ∀ q ∈ hs, q.1 ≤ pc ∧ pc < q.2.1 ∧ q.2.2.2 ≠ 0 ∧ (Cond.classLink own q.2.2.2 (nm q.2.2.2)).before args s = true) (hC : ∃ q ∈ hs, nm q.2.2.2 = C) (hown : s.vm.findClass own = some m.cls) (hx : xo C x s H)
    (h : ∀ q ∈ hs, W p l e R s m args below meth c H locs cells slots Q (F0 m q.2.2.1 ls [.ref x])) : tx_T p l e R s m args below meth c H locs cells slots Q (F0 m pc ls st) x := by
  intro T hT X
  subst hE
  obtain ⟨cell, hcell, hobj, hcls⟩ := hx
  obtain ⟨y, hy, v, hv, hG⟩ := tc_list (g := F0 m pc ls st) (nm := nm) rfl hown hcell hobj hcls c.exceptionTable.toList T X hT (fun y hy => by
    obtain ⟨h1, h2, h3, h4⟩ := hcov _ (List.mem_map.mpr ⟨y, hy, rfl⟩)
    exact ⟨by simp only [covers, F0]; simpa using ⟨h1, h2⟩, h3, h4⟩) (by
    obtain ⟨q, hq, hn⟩ := hC
    obtain ⟨y, hy, rfl⟩ := List.mem_map.mp hq
    exact ⟨y, hy, hn⟩)
  obtain ⟨t, h1, h2⟩ := h _ (List.mem_map.mpr ⟨y, hy, rfl⟩) (T.setVm v) hT (X.noted hv)
  exact ⟨t, tc_into X (g := F0 m pc ls st) rfl hv hG h1, h2⟩
end TCM
end q_n40
section q_n41
/-! the law: its helpers with one handler -/
abbrev b_LW_global : ByteArray := method_10_code
def y_LW_global : MethodName := ⟨R_LW, "global", "(LWaferForge;I[J)I"⟩
abbrev w_LW_global : List Cond := .codeWith y_LW_global b_LW_global 4 (Option.some .int) [(0, 8, 11, 19), (0, 8, 14, 33)] :: lw_g
theorem kC_LW_global : Cond.codeWith y_LW_global b_LW_global 4 (Option.some .int) [(0, 8, 11, 19), (0, 8, 14, 33)] ∈ lw_g := in_c8 28 rfl rfl
theorem d_LW_global_0 : decode b_LW_global 0 = .ok (.aload_n 2, 1) := bz_c44 (by decide +kernel)
theorem d_LW_global_1 : decode b_LW_global 1 = .ok (.iconst 0, 1) := bz_c3 (by decide +kernel)
theorem d_LW_global_2 : decode b_LW_global 2 = .ok (.aload_n 0, 1) := bz_c42 (by decide +kernel)
theorem d_LW_global_3 : decode b_LW_global 3 = .ok (.iload_n 1, 1) := bz_c27 (by decide +kernel)
theorem d_LW_global_4 : decode b_LW_global 4 = .ok (.invokevirtual 45, 3) := bz_c182 (by decide +kernel)
theorem d_LW_global_7 : decode b_LW_global 7 = .ok (.lastore, 1) := bz_c80 (by decide +kernel)
theorem d_LW_global_8 : decode b_LW_global 8 = .ok (.goto 9, 3) := bz_c167 (by decide +kernel)
theorem d_LW_global_11 : decode b_LW_global 11 = .ok (.astore_n 3, 1) := bz_c78 (by decide +kernel)
theorem d_LW_global_12 : decode b_LW_global 12 = .ok (.iconst 1, 1) := bz_c4 (by decide +kernel)
theorem d_LW_global_13 : decode b_LW_global 13 = .ok (.ireturn, 1) := bz_c172 (by decide +kernel)
theorem d_LW_global_14 : decode b_LW_global 14 = .ok (.astore_n 3, 1) := bz_c78 (by decide +kernel)
theorem d_LW_global_15 : decode b_LW_global 15 = .ok (.iconst 2, 1) := bz_c5 (by decide +kernel)
theorem d_LW_global_16 : decode b_LW_global 16 = .ok (.ireturn, 1) := bz_c172 (by decide +kernel)
theorem d_LW_global_17 : decode b_LW_global 17 = .ok (.iconst 0, 1) := bz_c3 (by decide +kernel)
theorem d_LW_global_18 : decode b_LW_global 18 = .ok (.ireturn, 1) := bz_c172 (by decide +kernel)
theorem kM_LW_45 : Cond.methodLink R_LW 45 y_WF_global ∈ lw_g := in_c8 29 rfl rfl
theorem kV_WF_global : Cond.instanceMethod y_WF_global ∈ lw_g := in_c8 30 rfl rfl
theorem kS_WF_global : Cond.selects R_WF y_WF_global y_WF_global ∈ lw_g := in_c8 31 rfl rfl
abbrev at_LW_global (dC : Nat → ClassId) (dI : Nat → Nat → Nat) (sa : Nat → Nat) (h0 ta rw ag wa ws h0_program_r h0_coder_r h0_reader_r h0_validator_r ma wab wac watt watp watg waft wagt wafy wafv wagc waek waei waes waez magl mace mask mafb mafs maff mafl malb malh ou : Nat) (cmagl cou : ClassId) (h0_argumentCount : Int32) (h0_reason : Int32) (h0_place : Int32) (h0_loaded : Int32) (wa_typeCount : Int32) (wa_functionCount : Int32) (wa_hasMemory : Int32) (wa_pagesLeast : Int64) (wa_pagesMost : Int64) (wa_globalCount : Int32) (wa_exportCount : Int32) (ma_pages : Int32) (ma_steps : Int32) (ma_reason : Int32) (ma_wafer : Value) (ma_codes : Value) (ma_height : Int32) (ma_frameCount : Int32) (ma_labelCount : Int32) (ma_at : Int32) (gmagl : Nat → Int64) (A : Nat → Prop) (u : (Nat → Int64)) (t : State) : Prop := match u with | gou => va_P (dC, dI) cls (wz_628 h0 ta rw ag h0_argumentCount h0_reason h0_place h0_loaded wa ws h0_program_r h0_coder_r h0_reader_r h0_validator_r ma wa wab wac wa_typeCount watt watp watg wa_functionCount waft wa_hasMemory wa_pagesLeast wa_pagesMost wa_globalCount wagt wafy wafv wagc wa_exportCount waek waei waes waez ma ma_pages ma_steps ma_reason magl ma_wafer ma_codes mace mask ma_height mafb mafs maff mafl ma_frameCount malb malh ma_labelCount ma_at magl cmagl gmagl ou cou gou) t.heap ∧ va_K (dC, dI) cls [(cmagl, .long), (cou, .long)] t ∧ va_D A (wz_628 h0 ta rw ag h0_argumentCount h0_reason h0_place h0_loaded wa ws h0_program_r h0_coder_r h0_reader_r h0_validator_r ma wa wab wac wa_typeCount watt watp watg wa_functionCount waft wa_hasMemory wa_pagesLeast wa_pagesMost wa_globalCount wagt wafy wafv wagc wa_exportCount waek waei waes waez ma ma_pages ma_steps ma_reason magl ma_wafer ma_codes mace mask ma_height mafb mafs maff mafl ma_frameCount malb malh ma_labelCount ma_at magl cmagl gmagl ou cou gou)
set_option maxHeartbeats 4000000 in
set_option maxRecDepth 100000 in
theorem c_LW_global (l : Launch) (hlt : l.stackTraces = false) (dC : Nat → ClassId) (dI : Nat → Nat → Nat) (sz : Nat) (sa : Nat → Nat) (h0 ta rw ag wa ws h0_program_r h0_coder_r h0_reader_r h0_validator_r ma wab wac watt watp watg waft wagt wafy wafv wagc waek waei waes waez magl mace mask mafb mafs maff mafl malb malh ou : Nat) (cmagl cou : ClassId) (h0_argumentCount : Int32) (h0_reason : Int32) (h0_place : Int32) (h0_loaded : Int32) (wa_typeCount : Int32) (wa_functionCount : Int32) (wa_hasMemory : Int32) (wa_pagesLeast : Int64) (wa_pagesMost : Int64) (wa_globalCount : Int32) (wa_exportCount : Int32) (ma_pages : Int32) (ma_steps : Int32) (ma_reason : Int32) (ma_wafer : Value) (ma_codes : Value) (ma_height : Int32) (ma_frameCount : Int32) (ma_labelCount : Int32) (ma_at : Int32) (gmagl : Nat → Int64) (gou : Nat → Int64)  (b_h0_loaded : h0_loaded = 0 ∨ h0_loaded = 1) (b_wa_globalCount : 0 ≤ wa_globalCount.toInt ∧ wa_globalCount.toInt ≤ 20) (p0 : Int32)   : Met l y_LW_global w_LW_global ({ frames := 7, cells := 1, slots := 6, locals := 111 }) (va_Pc [.ref h0, .int p0, .ref ou] (fun U => U.heap.size = sz ∧ va_P (dC, dI) cls (wz_628 h0 ta rw ag h0_argumentCount h0_reason h0_place h0_loaded wa ws h0_program_r h0_coder_r h0_reader_r h0_validator_r ma wa wab wac wa_typeCount watt watp watg wa_functionCount waft wa_hasMemory wa_pagesLeast wa_pagesMost wa_globalCount wagt wafy wafv wagc wa_exportCount waek waei waes waez ma ma_pages ma_steps ma_reason magl ma_wafer ma_codes mace mask ma_height mafb mafs maff mafl ma_frameCount malb malh ma_labelCount ma_at magl cmagl gmagl ou cou gou) U.heap ∧ va_K (dC, dI) cls [(cmagl, .long), (cou, .long)] U ∧ va_D (fun _ => True) (wz_628 h0 ta rw ag h0_argumentCount h0_reason h0_place h0_loaded wa ws h0_program_r h0_coder_r h0_reader_r h0_validator_r ma wa wab wac wa_typeCount watt watp watg wa_functionCount waft wa_hasMemory wa_pagesLeast wa_pagesMost wa_globalCount wagt wafy wafv wagc wa_exportCount waek waei waes waez ma ma_pages ma_steps ma_reason magl ma_wafer ma_codes mace mask ma_height mafb mafs maff mafl ma_frameCount malb malh ma_labelCount ma_at magl cmagl gmagl ou cou gou) ∧ sw sa (va_A (wz_628 h0 ta rw ag h0_argumentCount h0_reason h0_place h0_loaded wa ws h0_program_r h0_coder_r h0_reader_r h0_validator_r ma wa wab wac wa_typeCount watt watp watg wa_functionCount waft wa_hasMemory wa_pagesLeast wa_pagesMost wa_globalCount wagt wafy wafv wagc wa_exportCount waek waei waes waez ma ma_pages ma_steps ma_reason magl ma_wafer ma_codes mace mask ma_height mafb mafs maff mafl ma_frameCount malb malh ma_labelCount ma_at magl cmagl gmagl ou cou gou) sz) U U.heap)) (va_Qi (fun (r : Int32) (u : (Nat → Int64)) => match u with | gou2 => (True)) (at_LW_global dC dI sa h0 ta rw ag wa ws h0_program_r h0_coder_r h0_reader_r h0_validator_r ma wab wac watt watp watg waft wagt wafy wafv wagc waek waei waes waez magl mace mask mafb mafs maff mafl malb malh ou cmagl cou h0_argumentCount h0_reason h0_place h0_loaded wa_typeCount wa_functionCount wa_hasMemory wa_pagesLeast wa_pagesMost wa_globalCount wa_exportCount ma_pages ma_steps ma_reason ma_wafer ma_codes ma_height ma_frameCount ma_labelCount ma_at gmagl (va_A (wz_628 h0 ta rw ag h0_argumentCount h0_reason h0_place h0_loaded wa ws h0_program_r h0_coder_r h0_reader_r h0_validator_r ma wa wab wac wa_typeCount watt watp watg wa_functionCount waft wa_hasMemory wa_pagesLeast wa_pagesMost wa_globalCount wagt wafy wafv wagc wa_exportCount waek waei waes waez ma ma_pages ma_steps ma_reason magl ma_wafer ma_codes mace mask ma_height mafb mafs maff mafl ma_frameCount malb malh ma_labelCount ma_at magl cmagl gmagl ou cou gou) sz)) (va_A (wz_628 h0 ta rw ag h0_argumentCount h0_reason h0_place h0_loaded wa ws h0_program_r h0_coder_r h0_reader_r h0_validator_r ma wa wab wac wa_typeCount watt watp watg wa_functionCount waft wa_hasMemory wa_pagesLeast wa_pagesMost wa_globalCount wagt wafy wafv wagc wa_exportCount waek waei waes waez ma ma_pages ma_steps ma_reason magl ma_wafer ma_codes mace mask ma_height mafb mafs maff mafl ma_frameCount malb malh ma_labelCount ma_at magl cmagl gmagl ou cou gou) sz)) 1 6 (va_A (wz_628 h0 ta rw ag h0_argumentCount h0_reason h0_place h0_loaded wa ws h0_program_r h0_coder_r h0_reader_r h0_validator_r ma wa wab wac wa_typeCount watt watp watg wa_functionCount waft wa_hasMemory wa_pagesLeast wa_pagesMost wa_globalCount wagt wafy wafv wagc wa_exportCount waek waei waes waez ma ma_pages ma_steps ma_reason magl ma_wafer ma_codes mace mask ma_height mafb mafs maff mafl ma_frameCount malb malh ma_labelCount ma_at magl cmagl gmagl ou cou gou) sz) := by
  refine va_MetW (cc := b_LW_global) (maxL := 4) (ret := (Option.some .int)) (hh := [(0, 8, 11, 19), (0, 8, 14, 33)]) (by decide) rfl ?_
  intro p e s m args below meth c s₁ B hml hv
  obtain ⟨rfl, hsz, hP, hK, hD0, hSW⟩ := hv
  have hx := B.exec
  have hb := B.bytes
  have hr := B.returns
  have hts0 := atoms_spec (ws := w_LW_global) B.pre
  have hts : ∀ w ∈ lw_g, w.before _ s = true := fun w h => hts0 w (List.mem_cons_of_mem _ h)
  have hown : s.vm.findClass R_LW = some m.cls := findClass_of_methodNamed B.named
  have hlocks := B.notSynchronized
  have hE := uw_table B (hts0 _ List.mem_cons_self)
  clear hts0
  subst hsz
  have hD := hD0.self (sz := s.heap.size)
  generalize hAe : va_A (wz_628 h0 ta rw ag h0_argumentCount h0_reason h0_place h0_loaded wa ws h0_program_r h0_coder_r h0_reader_r h0_validator_r ma wa wab wac wa_typeCount watt watp watg wa_functionCount waft wa_hasMemory wa_pagesLeast wa_pagesMost wa_globalCount wagt wafy wafv wagc wa_exportCount waek waei waes waez ma ma_pages ma_steps ma_reason magl ma_wafer ma_codes mace mask ma_height mafb mafs maff mafl ma_frameCount malb malh ma_labelCount ma_at magl cmagl gmagl ou cou gou) s.heap.size = A at hD hSW ⊢
  have hA : ∀ q : Nat, s.heap.size ≤ q → A q := fun q h => by rw [← hAe]; exact Or.inr h
  clear hAe
  have hP : va_P (dC, dI) cls (wz_628 h0 ta rw ag h0_argumentCount h0_reason h0_place h0_loaded wa ws h0_program_r h0_coder_r h0_reader_r h0_validator_r ma wa wab wac wa_typeCount watt watp watg wa_functionCount waft wa_hasMemory wa_pagesLeast wa_pagesMost wa_globalCount wagt wafy wafv wagc wa_exportCount waek waei waes waez ma ma_pages ma_steps ma_reason magl ma_wafer ma_codes mace mask ma_height mafb mafs maff mafl ma_frameCount malb malh ma_labelCount ma_at magl cmagl gmagl ou cou gou) s.heap := hP
  have hl := lv_entry ([.ref h0, .int p0, .ref ou]) (n := 4) (Nat.le_of_ble_eq_true rfl)
  rw [lg_entry_eq]
  generalize (lg_sl ([.ref h0, .int p0, .ref ou]) ++ List.replicate (4 - (lg_sl ([.ref h0, .int p0, .ref ou])).length) Slot.unset).toArray = ls at hl ⊢
  have hl : lv_has ls 4 [(0, .ref h0), (1, .int p0), (2, .ref ou)] := hl
  have k0 : (0 : Int32).toInt = 0 := by decide
  refine w_gen (A := A) hP (fun H locs hP hS => ?_)
  have k1 : (1 : Int32).toInt = 1 := by decide
  have k2 : (2 : Int32).toInt = 2 := by decide
  have lo_p0 := i32_lo p0
  have hi_p0 := i32_hi p0
  have th0_loaded := b01 b_h0_loaded
  refine lv_aload_n hx hb d_LW_global_0 rfl (lv_at hl 2 rfl) ?_
  refine lv_iconst (v := 0) hx hb d_LW_global_1 (by decide) ?_
  refine lv_aload_n hx hb d_LW_global_2 rfl (lv_at hl 0 rfl) ?_
  refine lv_iload_n hx hb d_LW_global_3 rfl (lv_at hl 1 rfl) ?_
  have hPc := hP.sb (wq := (wz_266 h0 ta rw ag h0_argumentCount h0_reason h0_place h0_loaded wa ws h0_program_r h0_coder_r h0_reader_r h0_validator_r ma wa wab wac wa_typeCount watt watp watg wa_functionCount waft wa_hasMemory wa_pagesLeast wa_pagesMost wa_globalCount wagt wafy wafv wagc wa_exportCount waek waei waes waez ma ma_pages ma_steps ma_reason magl ma_wafer ma_codes mace mask ma_height mafb mafs maff mafl ma_frameCount malb malh ma_labelCount ma_at magl cmagl gmagl)) [0, 1, 2, 3] rfl
  have hDc := hD.sb (wq := (wz_266 h0 ta rw ag h0_argumentCount h0_reason h0_place h0_loaded wa ws h0_program_r h0_coder_r h0_reader_r h0_validator_r ma wa wab wac wa_typeCount watt watp watg wa_functionCount waft wa_hasMemory wa_pagesLeast wa_pagesMost wa_globalCount wagt wafy wafv wagc wa_exportCount waek waei waes waez ma ma_pages ma_steps ma_reason magl ma_wafer ma_codes mace mask ma_height mafb mafs maff mafl ma_frameCount malb malh ma_labelCount ma_at magl cmagl gmagl)) [0, 1, 2, 3] (by decide) rfl
  have hKc := hK.sb (tyq := [(cmagl, .long)]) [0] rfl
  have hFc := va_free (wc := (wz_266 h0 ta rw ag h0_argumentCount h0_reason h0_place h0_loaded wa ws h0_program_r h0_coder_r h0_reader_r h0_validator_r ma wa wab wac wa_typeCount watt watp watg wa_functionCount waft wa_hasMemory wa_pagesLeast wa_pagesMost wa_globalCount wagt wafy wafv wagc wa_exportCount waek waei waes waez ma ma_pages ma_steps ma_reason magl ma_wafer ma_codes mace mask ma_height mafb mafs maff mafl ma_frameCount malb malh ma_labelCount ma_at magl cmagl gmagl)) hD hS hA [0, 1, 2, 3] rfl
  refine tm_calll (tz_runV (As := [.int p0]) (rest := [.int 0, .ref ou]) ⟨hx, hb, hml, hown, hts⟩ (c_WF_global l hlt dC dI H.size sa h0 ta rw ag wa ws h0_program_r h0_coder_r h0_reader_r h0_validator_r ma wab wac watt watp watg waft wagt wafy wafv wagc waek waei waes waez magl mace mask mafb mafs maff mafl malb malh cmagl h0_argumentCount h0_reason h0_place h0_loaded wa_typeCount wa_functionCount wa_hasMemory wa_pagesLeast wa_pagesMost wa_globalCount wa_exportCount ma_pages ma_steps ma_reason ma_wafer ma_codes ma_height ma_frameCount ma_labelCount ma_at gmagl (b_h0_loaded) (b_wa_globalCount) p0) (cwV 1 hts (gV kM_LW_45 kV_WF_global kS_WF_global kI_WF kC_WF_global) rfl rfl rfl (by decide +kernel) ⟨Nat.le_of_ble_eq_true rfl, Nat.le_of_ble_eq_true rfl⟩) ⟨fun a U g mk z => by obtain ⟨z0, z1, zP, zK, zD, zS⟩ := z; exact ⟨z0, z1, zP, va_K.moved (u := U) (U := U.calling g mk a) (Vm.Alike.refl U.vm) zK, zD, sw.same (u := U) (U := U.calling g mk a) rfl zS⟩, va_recv hKc hPc (ci := 0) (q0 := 0) rfl rfl, fun U hU hW => ⟨rfl, by rw [hU], va_P.he hU.symm hPc, va_K.moved hW.alike hKc, hDc.weaken (fun _ _ _ _ => trivial), hSW.call hS hFc hW hU⟩⟩ rfl rfl hl.1 rfl (lv_room (Nat.le_of_ble_eq_true rfl)) d_LW_global_4 ⟨Nat.le_of_ble_eq_true rfl, Nat.le_of_ble_eq_true rfl⟩) hS (fun q _ h => hFc q h) hFc (fun r1 u t H1 locs ht hvm hw hB hz1 hk1 hS => ?_) (fun xx u t H1 locs ht hvm hw hXX hB hz1 hk1 hS => ?_)
  rotate_left
  · skip
    try dsimp only at hw
    obtain ⟨hP1, hK1, hD1⟩ := hB
    replace hP1 := va_P.he ht hP1
    obtain ⟨hP, hD⟩ := va_join (wr := [(ou, .inl (cou, 1, .inr (.inl gou)))]) (w1 := (wz_266 h0 ta rw ag h0_argumentCount h0_reason h0_place h0_loaded wa ws h0_program_r h0_coder_r h0_reader_r h0_validator_r ma wa wab wac wa_typeCount watt watp watg wa_functionCount waft wa_hasMemory wa_pagesLeast wa_pagesMost wa_globalCount wagt wafy wafv wagc wa_exportCount waek waei waes waez ma ma_pages ma_steps ma_reason magl ma_wafer ma_codes mace mask ma_height mafb mafs maff mafl ma_frameCount malb malh ma_labelCount ma_at magl cmagl gmagl)) hP hD [0, 1, 2, 3] [4] rfl rfl (by decide) (by decide) hk1 hFc hP1 hD1
    have hP : va_P (dC, dI) cls (wz_629 ou cou gou h0 ta rw ag h0_argumentCount h0_reason h0_place h0_loaded wa ws h0_program_r h0_coder_r h0_reader_r h0_validator_r ma wa wab wac wa_typeCount watt watp watg wa_functionCount waft wa_hasMemory wa_pagesLeast wa_pagesMost wa_globalCount wagt wafy wafv wagc wa_exportCount waek waei waes waez ma ma_pages ma_steps ma_reason magl ma_wafer ma_codes mace mask ma_height mafb mafs maff mafl ma_frameCount malb malh ma_labelCount ma_at magl cmagl gmagl) H1 := hP
    have hD : va_D A (wz_629 ou cou gou h0 ta rw ag h0_argumentCount h0_reason h0_place h0_loaded wa ws h0_program_r h0_coder_r h0_reader_r h0_validator_r ma wa wab wac wa_typeCount watt watp watg wa_functionCount waft wa_hasMemory wa_pagesLeast wa_pagesMost wa_globalCount wagt wafy wafv wagc wa_exportCount waek waei waes waez ma ma_pages ma_steps ma_reason magl ma_wafer ma_codes mace mask ma_height mafb mafs maff mafl ma_frameCount malb malh ma_labelCount ma_at magl cmagl gmagl) := hD
    obtain ⟨cX, hcX, hXX⟩ := hXX
    refine tc_multi (nm := (fun ct => if ct = 19 then "java/lang/IllegalArgumentException" else "java/lang/IllegalStateException")) hE (fun q hq => ?_) ?_ hown hXX (fun q hq => ?_)
    · simp only [List.mem_cons, List.not_mem_nil, or_false] at hq
      rcases hq with rfl | rfl
      · exact ⟨by decide, by decide, by decide, hts _ kK_LW_19⟩
      · exact ⟨by decide, by decide, by decide, hts _ kK_LW_33⟩
    · simp only [List.mem_cons, List.not_mem_nil, or_false] at hcX
      rcases hcX with rfl | rfl
      · exact ⟨(0, 8, 11, 19), by simp, rfl⟩
      · exact ⟨(0, 8, 14, 33), by simp, rfl⟩
    · simp only [List.mem_cons, List.not_mem_nil, or_false] at hq
      clear hPc hDc hKc hFc hz1 hk1 hP1 hK1 hD1 hXX
      rcases hq with rfl | rfl
      · dsimp only
        refine lv_astore_n (lv' := [(3, .ref xx), (0, .ref h0), (1, .int p0), (2, .ref ou)]) hx hb d_LW_global_11 rfl hl (by decide) rfl (fun ls hl => ?_)
        refine lv_iconst (v := 1) hx hb d_LW_global_12 (by decide) ?_
        have hP9 := hP.sb (wq := (wz_628 h0 ta rw ag h0_argumentCount h0_reason h0_place h0_loaded wa ws h0_program_r h0_coder_r h0_reader_r h0_validator_r ma wa wab wac wa_typeCount watt watp watg wa_functionCount waft wa_hasMemory wa_pagesLeast wa_pagesMost wa_globalCount wagt wafy wafv wagc wa_exportCount waek waei waes waez ma ma_pages ma_steps ma_reason magl ma_wafer ma_codes mace mask ma_height mafb mafs maff mafl ma_frameCount malb malh ma_labelCount ma_at magl cmagl gmagl ou cou gou)) [1, 2, 3, 4, 0] rfl
        have hD9 := hD.sb (wq := (wz_628 h0 ta rw ag h0_argumentCount h0_reason h0_place h0_loaded wa ws h0_program_r h0_coder_r h0_reader_r h0_validator_r ma wa wab wac wa_typeCount watt watp watg wa_functionCount waft wa_hasMemory wa_pagesLeast wa_pagesMost wa_globalCount wagt wafy wafv wagc wa_exportCount waek waei waes waez ma ma_pages ma_steps ma_reason magl ma_wafer ma_codes mace mask ma_height mafb mafs maff mafl ma_frameCount malb malh ma_labelCount ma_at magl cmagl gmagl ou cou gou)) [1, 2, 3, 4, 0] (by decide) rfl
        refine W.widen (k := 1) (n := 6) (Nat.le_of_ble_eq_true rfl) (Nat.le_of_ble_eq_true rfl) ?_
        exact W.iret (v := 1) hx hb hr (fun t ht hW => ⟨⟨1, gou, rfl, (trivial), va_P.he ht.symm hP9, va_K.moved hW.alike hK, hD9⟩, hS.F ht⟩) hS.2.2 d_LW_global_13
      · dsimp only
        refine lv_astore_n (lv' := [(3, .ref xx), (0, .ref h0), (1, .int p0), (2, .ref ou)]) hx hb d_LW_global_14 rfl hl (by decide) rfl (fun ls hl => ?_)
        refine lv_iconst (v := 2) hx hb d_LW_global_15 (by decide) ?_
        have hP9 := hP.sb (wq := (wz_628 h0 ta rw ag h0_argumentCount h0_reason h0_place h0_loaded wa ws h0_program_r h0_coder_r h0_reader_r h0_validator_r ma wa wab wac wa_typeCount watt watp watg wa_functionCount waft wa_hasMemory wa_pagesLeast wa_pagesMost wa_globalCount wagt wafy wafv wagc wa_exportCount waek waei waes waez ma ma_pages ma_steps ma_reason magl ma_wafer ma_codes mace mask ma_height mafb mafs maff mafl ma_frameCount malb malh ma_labelCount ma_at magl cmagl gmagl ou cou gou)) [1, 2, 3, 4, 0] rfl
        have hD9 := hD.sb (wq := (wz_628 h0 ta rw ag h0_argumentCount h0_reason h0_place h0_loaded wa ws h0_program_r h0_coder_r h0_reader_r h0_validator_r ma wa wab wac wa_typeCount watt watp watg wa_functionCount waft wa_hasMemory wa_pagesLeast wa_pagesMost wa_globalCount wagt wafy wafv wagc wa_exportCount waek waei waes waez ma ma_pages ma_steps ma_reason magl ma_wafer ma_codes mace mask ma_height mafb mafs maff mafl ma_frameCount malb malh ma_labelCount ma_at magl cmagl gmagl ou cou gou)) [1, 2, 3, 4, 0] (by decide) rfl
        refine W.widen (k := 1) (n := 6) (Nat.le_of_ble_eq_true rfl) (Nat.le_of_ble_eq_true rfl) ?_
        exact W.iret (v := 2) hx hb hr (fun t ht hW => ⟨⟨2, gou, rfl, (trivial), va_P.he ht.symm hP9, va_K.moved hW.alike hK, hD9⟩, hS.F ht⟩) hS.2.2 d_LW_global_16
  try dsimp only at hw
  have xr1 := hw
  try clear hw
  obtain ⟨hP1, hK1, hD1⟩ := hB
  replace hP1 := va_P.he ht hP1
  obtain ⟨hP, hD⟩ := va_join (wr := [(ou, .inl (cou, 1, .inr (.inl gou)))]) (w1 := (wz_266 h0 ta rw ag h0_argumentCount h0_reason h0_place h0_loaded wa ws h0_program_r h0_coder_r h0_reader_r h0_validator_r ma wa wab wac wa_typeCount watt watp watg wa_functionCount waft wa_hasMemory wa_pagesLeast wa_pagesMost wa_globalCount wagt wafy wafv wagc wa_exportCount waek waei waes waez ma ma_pages ma_steps ma_reason magl ma_wafer ma_codes mace mask ma_height mafb mafs maff mafl ma_frameCount malb malh ma_labelCount ma_at magl cmagl gmagl)) hP hD [0, 1, 2, 3] [4] rfl rfl (by decide) (by decide) hk1 hFc hP1 hD1
  clear hPc hDc hKc hFc hz1 hk1 hP1 hK1 hD1
  rename Heap => H
  have hP : va_P (dC, dI) cls (wz_629 ou cou gou h0 ta rw ag h0_argumentCount h0_reason h0_place h0_loaded wa ws h0_program_r h0_coder_r h0_reader_r h0_validator_r ma wa wab wac wa_typeCount watt watp watg wa_functionCount waft wa_hasMemory wa_pagesLeast wa_pagesMost wa_globalCount wagt wafy wafv wagc wa_exportCount waek waei waes waez ma ma_pages ma_steps ma_reason magl ma_wafer ma_codes mace mask ma_height mafb mafs maff mafl ma_frameCount malb malh ma_labelCount ma_at magl cmagl gmagl) H := hP
  have hD : va_D A (wz_629 ou cou gou h0 ta rw ag h0_argumentCount h0_reason h0_place h0_loaded wa ws h0_program_r h0_coder_r h0_reader_r h0_validator_r ma wa wab wac wa_typeCount watt watp watg wa_functionCount waft wa_hasMemory wa_pagesLeast wa_pagesMost wa_globalCount wagt wafy wafv wagc wa_exportCount waek waei waes waez ma ma_pages ma_steps ma_reason magl ma_wafer ma_codes mace mask ma_height mafb mafs maff mafl ma_frameCount malb malh ma_labelCount ma_at magl cmagl gmagl) := hD
  have g7 : vp_in 0 1 := vp_in_iff.mpr ⟨by (first | (apply Int.le_antisymm <;> omega) | omega), by (first | (apply Int.le_antisymm <;> omega) | omega)⟩
  refine va_last hx hb hK hP hD hS 0 1 rfl rfl g7 d_LW_global_7 (fun H locs hP hD hS => ?_)
  generalize ef2 : vp_updL gou (0 : Int32).toNatClampNeg r1 = f2 at hP hD
  refine lv_goto (tgt := 17) hx hb d_LW_global_8 (by decide) ?_
  refine lv_iconst (v := 0) hx hb d_LW_global_17 (by decide) ?_
  have hP9 := hP.sb (wq := (wz_628 h0 ta rw ag h0_argumentCount h0_reason h0_place h0_loaded wa ws h0_program_r h0_coder_r h0_reader_r h0_validator_r ma wa wab wac wa_typeCount watt watp watg wa_functionCount waft wa_hasMemory wa_pagesLeast wa_pagesMost wa_globalCount wagt wafy wafv wagc wa_exportCount waek waei waes waez ma ma_pages ma_steps ma_reason magl ma_wafer ma_codes mace mask ma_height mafb mafs maff mafl ma_frameCount malb malh ma_labelCount ma_at magl cmagl gmagl ou cou f2)) [1, 2, 3, 4, 0] rfl
  have hD9 := hD.sb (wq := (wz_628 h0 ta rw ag h0_argumentCount h0_reason h0_place h0_loaded wa ws h0_program_r h0_coder_r h0_reader_r h0_validator_r ma wa wab wac wa_typeCount watt watp watg wa_functionCount waft wa_hasMemory wa_pagesLeast wa_pagesMost wa_globalCount wagt wafy wafv wagc wa_exportCount waek waei waes waez ma ma_pages ma_steps ma_reason magl ma_wafer ma_codes mace mask ma_height mafb mafs maff mafl ma_frameCount malb malh ma_labelCount ma_at magl cmagl gmagl ou cou f2)) [1, 2, 3, 4, 0] (by decide) rfl
  refine W.widen (k := 1) (n := 6) (Nat.le_of_ble_eq_true rfl) (Nat.le_of_ble_eq_true rfl) ?_
  exact W.iret (v := 0) hx hb hr (fun t ht hW => ⟨⟨0, f2, rfl, (trivial), va_P.he ht.symm hP9, va_K.moved hW.alike hK, hD9⟩, hS.F ht⟩) hS.2.2 d_LW_global_18
abbrev b_LW_memory : ByteArray := method_11_code
def y_LW_memory : MethodName := ⟨R_LW, "memory", "(LWaferForge;I[J)I"⟩
abbrev w_LW_memory : List Cond := .codeWith y_LW_memory b_LW_memory 4 (Option.some .int) [(0, 9, 12, 19), (0, 9, 15, 33)] :: lw_g
theorem kC_LW_memory : Cond.codeWith y_LW_memory b_LW_memory 4 (Option.some .int) [(0, 9, 12, 19), (0, 9, 15, 33)] ∈ lw_g := in_c8 35 rfl rfl
theorem d_LW_memory_0 : decode b_LW_memory 0 = .ok (.aload_n 2, 1) := bz_c44 (by decide +kernel)
theorem d_LW_memory_1 : decode b_LW_memory 1 = .ok (.iconst 0, 1) := bz_c3 (by decide +kernel)
theorem d_LW_memory_2 : decode b_LW_memory 2 = .ok (.aload_n 0, 1) := bz_c42 (by decide +kernel)
theorem d_LW_memory_3 : decode b_LW_memory 3 = .ok (.iload_n 1, 1) := bz_c27 (by decide +kernel)
theorem d_LW_memory_4 : decode b_LW_memory 4 = .ok (.invokevirtual 48, 3) := bz_c182 (by decide +kernel)
theorem d_LW_memory_7 : decode b_LW_memory 7 = .ok (.i2l, 1) := bz_c133 (by decide +kernel)
theorem d_LW_memory_8 : decode b_LW_memory 8 = .ok (.lastore, 1) := bz_c80 (by decide +kernel)
theorem d_LW_memory_9 : decode b_LW_memory 9 = .ok (.goto 9, 3) := bz_c167 (by decide +kernel)
theorem d_LW_memory_12 : decode b_LW_memory 12 = .ok (.astore_n 3, 1) := bz_c78 (by decide +kernel)
theorem d_LW_memory_13 : decode b_LW_memory 13 = .ok (.iconst 1, 1) := bz_c4 (by decide +kernel)
theorem d_LW_memory_14 : decode b_LW_memory 14 = .ok (.ireturn, 1) := bz_c172 (by decide +kernel)
theorem d_LW_memory_15 : decode b_LW_memory 15 = .ok (.astore_n 3, 1) := bz_c78 (by decide +kernel)
theorem d_LW_memory_16 : decode b_LW_memory 16 = .ok (.iconst 2, 1) := bz_c5 (by decide +kernel)
theorem d_LW_memory_17 : decode b_LW_memory 17 = .ok (.ireturn, 1) := bz_c172 (by decide +kernel)
theorem d_LW_memory_18 : decode b_LW_memory 18 = .ok (.iconst 0, 1) := bz_c3 (by decide +kernel)
theorem d_LW_memory_19 : decode b_LW_memory 19 = .ok (.ireturn, 1) := bz_c172 (by decide +kernel)
theorem kM_LW_48 : Cond.methodLink R_LW 48 y_WF_memory ∈ lw_g := in_c8 36 rfl rfl
theorem kV_WF_memory : Cond.instanceMethod y_WF_memory ∈ lw_g := in_c8 37 rfl rfl
theorem kS_WF_memory : Cond.selects R_WF y_WF_memory y_WF_memory ∈ lw_g := in_c8 38 rfl rfl
abbrev at_LW_memory (dC : Nat → ClassId) (dI : Nat → Nat → Nat) (sa : Nat → Nat) (h0 ta rw ag wa ws h0_program_r h0_coder_r h0_reader_r h0_validator_r ma magl wac mace mask mafb mafs maff mafl malb malh ou : Nat) (cmace cou : ClassId) (h0_argumentCount : Int32) (h0_reason : Int32) (h0_place : Int32) (h0_loaded : Int32) (ma_pages : Int32) (ma_steps : Int32) (ma_reason : Int32) (ma_height : Int32) (ma_frameCount : Int32) (ma_labelCount : Int32) (ma_at : Int32) (gmace : Nat → Int64) (A : Nat → Prop) (u : (Nat → Int64)) (t : State) : Prop := match u with | gou => va_P (dC, dI) cls (wz_630 h0 ta rw ag h0_argumentCount h0_reason h0_place h0_loaded wa ws h0_program_r h0_coder_r h0_reader_r h0_validator_r ma ma ma_pages ma_steps ma_reason magl wa wac mace mask ma_height mafb mafs maff mafl ma_frameCount malb malh ma_labelCount ma_at mace cmace gmace ou cou gou) t.heap ∧ va_K (dC, dI) cls [(cmace, .long), (cou, .long)] t ∧ va_D A (wz_630 h0 ta rw ag h0_argumentCount h0_reason h0_place h0_loaded wa ws h0_program_r h0_coder_r h0_reader_r h0_validator_r ma ma ma_pages ma_steps ma_reason magl wa wac mace mask ma_height mafb mafs maff mafl ma_frameCount malb malh ma_labelCount ma_at mace cmace gmace ou cou gou)
set_option maxHeartbeats 4000000 in
set_option maxRecDepth 100000 in
theorem c_LW_memory (l : Launch) (hlt : l.stackTraces = false) (dC : Nat → ClassId) (dI : Nat → Nat → Nat) (sz : Nat) (sa : Nat → Nat) (h0 ta rw ag wa ws h0_program_r h0_coder_r h0_reader_r h0_validator_r ma magl wac mace mask mafb mafs maff mafl malb malh ou : Nat) (cmace cou : ClassId) (h0_argumentCount : Int32) (h0_reason : Int32) (h0_place : Int32) (h0_loaded : Int32) (ma_pages : Int32) (ma_steps : Int32) (ma_reason : Int32) (ma_height : Int32) (ma_frameCount : Int32) (ma_labelCount : Int32) (ma_at : Int32) (gmace : Nat → Int64) (gou : Nat → Int64)  (b_h0_loaded : h0_loaded = 0 ∨ h0_loaded = 1) (b_ma_pages : 0 ≤ ma_pages.toInt ∧ ma_pages.toInt ≤ 2) (p0 : Int32)  (hld : h0_loaded.toInt = 1) : Met l y_LW_memory w_LW_memory ({ frames := 7, cells := 1, slots := 6, locals := 111 }) (va_Pc [.ref h0, .int p0, .ref ou] (fun U => U.heap.size = sz ∧ va_P (dC, dI) cls (wz_630 h0 ta rw ag h0_argumentCount h0_reason h0_place h0_loaded wa ws h0_program_r h0_coder_r h0_reader_r h0_validator_r ma ma ma_pages ma_steps ma_reason magl wa wac mace mask ma_height mafb mafs maff mafl ma_frameCount malb malh ma_labelCount ma_at mace cmace gmace ou cou gou) U.heap ∧ va_K (dC, dI) cls [(cmace, .long), (cou, .long)] U ∧ va_D (fun _ => True) (wz_630 h0 ta rw ag h0_argumentCount h0_reason h0_place h0_loaded wa ws h0_program_r h0_coder_r h0_reader_r h0_validator_r ma ma ma_pages ma_steps ma_reason magl wa wac mace mask ma_height mafb mafs maff mafl ma_frameCount malb malh ma_labelCount ma_at mace cmace gmace ou cou gou) ∧ sw sa (va_A (wz_630 h0 ta rw ag h0_argumentCount h0_reason h0_place h0_loaded wa ws h0_program_r h0_coder_r h0_reader_r h0_validator_r ma ma ma_pages ma_steps ma_reason magl wa wac mace mask ma_height mafb mafs maff mafl ma_frameCount malb malh ma_labelCount ma_at mace cmace gmace ou cou gou) sz) U U.heap)) (va_Qi (fun (r : Int32) (u : (Nat → Int64)) => match u with | gou2 => (True)) (at_LW_memory dC dI sa h0 ta rw ag wa ws h0_program_r h0_coder_r h0_reader_r h0_validator_r ma magl wac mace mask mafb mafs maff mafl malb malh ou cmace cou h0_argumentCount h0_reason h0_place h0_loaded ma_pages ma_steps ma_reason ma_height ma_frameCount ma_labelCount ma_at gmace (va_A (wz_630 h0 ta rw ag h0_argumentCount h0_reason h0_place h0_loaded wa ws h0_program_r h0_coder_r h0_reader_r h0_validator_r ma ma ma_pages ma_steps ma_reason magl wa wac mace mask ma_height mafb mafs maff mafl ma_frameCount malb malh ma_labelCount ma_at mace cmace gmace ou cou gou) sz)) (va_A (wz_630 h0 ta rw ag h0_argumentCount h0_reason h0_place h0_loaded wa ws h0_program_r h0_coder_r h0_reader_r h0_validator_r ma ma ma_pages ma_steps ma_reason magl wa wac mace mask ma_height mafb mafs maff mafl ma_frameCount malb malh ma_labelCount ma_at mace cmace gmace ou cou gou) sz)) 1 6 (va_A (wz_630 h0 ta rw ag h0_argumentCount h0_reason h0_place h0_loaded wa ws h0_program_r h0_coder_r h0_reader_r h0_validator_r ma ma ma_pages ma_steps ma_reason magl wa wac mace mask ma_height mafb mafs maff mafl ma_frameCount malb malh ma_labelCount ma_at mace cmace gmace ou cou gou) sz) := by
  refine va_MetW (cc := b_LW_memory) (maxL := 4) (ret := (Option.some .int)) (hh := [(0, 9, 12, 19), (0, 9, 15, 33)]) (by decide) rfl ?_
  intro p e s m args below meth c s₁ B hml hv
  obtain ⟨rfl, hsz, hP, hK, hD0, hSW⟩ := hv
  have hx := B.exec
  have hb := B.bytes
  have hr := B.returns
  have hts0 := atoms_spec (ws := w_LW_memory) B.pre
  have hts : ∀ w ∈ lw_g, w.before _ s = true := fun w h => hts0 w (List.mem_cons_of_mem _ h)
  have hown : s.vm.findClass R_LW = some m.cls := findClass_of_methodNamed B.named
  have hlocks := B.notSynchronized
  have hE := uw_table B (hts0 _ List.mem_cons_self)
  clear hts0
  subst hsz
  have hD := hD0.self (sz := s.heap.size)
  generalize hAe : va_A (wz_630 h0 ta rw ag h0_argumentCount h0_reason h0_place h0_loaded wa ws h0_program_r h0_coder_r h0_reader_r h0_validator_r ma ma ma_pages ma_steps ma_reason magl wa wac mace mask ma_height mafb mafs maff mafl ma_frameCount malb malh ma_labelCount ma_at mace cmace gmace ou cou gou) s.heap.size = A at hD hSW ⊢
  have hA : ∀ q : Nat, s.heap.size ≤ q → A q := fun q h => by rw [← hAe]; exact Or.inr h
  clear hAe
  have hP : va_P (dC, dI) cls (wz_630 h0 ta rw ag h0_argumentCount h0_reason h0_place h0_loaded wa ws h0_program_r h0_coder_r h0_reader_r h0_validator_r ma ma ma_pages ma_steps ma_reason magl wa wac mace mask ma_height mafb mafs maff mafl ma_frameCount malb malh ma_labelCount ma_at mace cmace gmace ou cou gou) s.heap := hP
  have hl := lv_entry ([.ref h0, .int p0, .ref ou]) (n := 4) (Nat.le_of_ble_eq_true rfl)
  rw [lg_entry_eq]
  generalize (lg_sl ([.ref h0, .int p0, .ref ou]) ++ List.replicate (4 - (lg_sl ([.ref h0, .int p0, .ref ou])).length) Slot.unset).toArray = ls at hl ⊢
  have hl : lv_has ls 4 [(0, .ref h0), (1, .int p0), (2, .ref ou)] := hl
  have k0 : (0 : Int32).toInt = 0 := by decide
  refine w_gen (A := A) hP (fun H locs hP hS => ?_)
  have k1 : (1 : Int32).toInt = 1 := by decide
  have k2 : (2 : Int32).toInt = 2 := by decide
  have lo_p0 := i32_lo p0
  have hi_p0 := i32_hi p0
  have th0_loaded := b01 b_h0_loaded
  refine lv_aload_n hx hb d_LW_memory_0 rfl (lv_at hl 2 rfl) ?_
  refine lv_iconst (v := 0) hx hb d_LW_memory_1 (by decide) ?_
  refine lv_aload_n hx hb d_LW_memory_2 rfl (lv_at hl 0 rfl) ?_
  refine lv_iload_n hx hb d_LW_memory_3 rfl (lv_at hl 1 rfl) ?_
  have hPc := hP.sb (wq := (wz_267 h0 ta rw ag h0_argumentCount h0_reason h0_place h0_loaded wa ws h0_program_r h0_coder_r h0_reader_r h0_validator_r ma ma ma_pages ma_steps ma_reason magl wa wac mace mask ma_height mafb mafs maff mafl ma_frameCount malb malh ma_labelCount ma_at mace cmace gmace)) [0, 1, 2] rfl
  have hDc := hD.sb (wq := (wz_267 h0 ta rw ag h0_argumentCount h0_reason h0_place h0_loaded wa ws h0_program_r h0_coder_r h0_reader_r h0_validator_r ma ma ma_pages ma_steps ma_reason magl wa wac mace mask ma_height mafb mafs maff mafl ma_frameCount malb malh ma_labelCount ma_at mace cmace gmace)) [0, 1, 2] (by decide) rfl
  have hKc := hK.sb (tyq := [(cmace, .long)]) [0] rfl
  have hFc := va_free (wc := (wz_267 h0 ta rw ag h0_argumentCount h0_reason h0_place h0_loaded wa ws h0_program_r h0_coder_r h0_reader_r h0_validator_r ma ma ma_pages ma_steps ma_reason magl wa wac mace mask ma_height mafb mafs maff mafl ma_frameCount malb malh ma_labelCount ma_at mace cmace gmace)) hD hS hA [0, 1, 2] rfl
  refine tm_calli (tz_runV (As := [.int p0]) (rest := [.int 0, .ref ou]) ⟨hx, hb, hml, hown, hts⟩ (c_WF_memory l hlt dC dI H.size sa h0 ta rw ag wa ws h0_program_r h0_coder_r h0_reader_r h0_validator_r ma magl wac mace mask mafb mafs maff mafl malb malh cmace h0_argumentCount h0_reason h0_place h0_loaded ma_pages ma_steps ma_reason ma_height ma_frameCount ma_labelCount ma_at gmace (b_h0_loaded) (b_ma_pages) p0 (hld)) (cwV 1 hts (gV kM_LW_48 kV_WF_memory kS_WF_memory kI_WF kC_WF_memory) rfl rfl rfl (by decide +kernel) ⟨Nat.le_of_ble_eq_true rfl, Nat.le_of_ble_eq_true rfl⟩) ⟨fun a U g mk z => by obtain ⟨z0, z1, zP, zK, zD, zS⟩ := z; exact ⟨z0, z1, zP, va_K.moved (u := U) (U := U.calling g mk a) (Vm.Alike.refl U.vm) zK, zD, sw.same (u := U) (U := U.calling g mk a) rfl zS⟩, va_recv hKc hPc (ci := 0) (q0 := 0) rfl rfl, fun U hU hW => ⟨rfl, by rw [hU], va_P.he hU.symm hPc, va_K.moved hW.alike hKc, hDc.weaken (fun _ _ _ _ => trivial), hSW.call hS hFc hW hU⟩⟩ rfl rfl hl.1 rfl (lv_room (Nat.le_of_ble_eq_true rfl)) d_LW_memory_4 ⟨Nat.le_of_ble_eq_true rfl, Nat.le_of_ble_eq_true rfl⟩) hS (fun q _ h => hFc q h) hFc (fun r1 u t H1 locs ht hvm hw hB hz1 hk1 hS => ?_) (fun xx u t H1 locs ht hvm hw hXX hB hz1 hk1 hS => ?_)
  rotate_left
  · skip
    try dsimp only at hw
    obtain ⟨hP1, hK1, hD1⟩ := hB
    replace hP1 := va_P.he ht hP1
    obtain ⟨hP, hD⟩ := va_join (wr := [(ou, .inl (cou, 1, .inr (.inl gou)))]) (w1 := (wz_267 h0 ta rw ag h0_argumentCount h0_reason h0_place h0_loaded wa ws h0_program_r h0_coder_r h0_reader_r h0_validator_r ma ma ma_pages ma_steps ma_reason magl wa wac mace mask ma_height mafb mafs maff mafl ma_frameCount malb malh ma_labelCount ma_at mace cmace gmace)) hP hD [0, 1, 2] [3] rfl rfl (by decide) (by decide) hk1 hFc hP1 hD1
    have hP : va_P (dC, dI) cls (wz_631 ou cou gou h0 ta rw ag h0_argumentCount h0_reason h0_place h0_loaded wa ws h0_program_r h0_coder_r h0_reader_r h0_validator_r ma ma ma_pages ma_steps ma_reason magl wa wac mace mask ma_height mafb mafs maff mafl ma_frameCount malb malh ma_labelCount ma_at mace cmace gmace) H1 := hP
    have hD : va_D A (wz_631 ou cou gou h0 ta rw ag h0_argumentCount h0_reason h0_place h0_loaded wa ws h0_program_r h0_coder_r h0_reader_r h0_validator_r ma ma ma_pages ma_steps ma_reason magl wa wac mace mask ma_height mafb mafs maff mafl ma_frameCount malb malh ma_labelCount ma_at mace cmace gmace) := hD
    obtain ⟨cX, hcX, hXX⟩ := hXX
    refine tc_multi (nm := (fun ct => if ct = 19 then "java/lang/IllegalArgumentException" else "java/lang/IllegalStateException")) hE (fun q hq => ?_) ?_ hown hXX (fun q hq => ?_)
    · simp only [List.mem_cons, List.not_mem_nil, or_false] at hq
      rcases hq with rfl | rfl
      · exact ⟨by decide, by decide, by decide, hts _ kK_LW_19⟩
      · exact ⟨by decide, by decide, by decide, hts _ kK_LW_33⟩
    · simp only [List.mem_cons, List.not_mem_nil, or_false] at hcX
      rcases hcX with rfl | rfl
      · exact ⟨(0, 9, 12, 19), by simp, rfl⟩
      · exact ⟨(0, 9, 15, 33), by simp, rfl⟩
    · simp only [List.mem_cons, List.not_mem_nil, or_false] at hq
      clear hPc hDc hKc hFc hz1 hk1 hP1 hK1 hD1 hXX
      rcases hq with rfl | rfl
      · dsimp only
        refine lv_astore_n (lv' := [(3, .ref xx), (0, .ref h0), (1, .int p0), (2, .ref ou)]) hx hb d_LW_memory_12 rfl hl (by decide) rfl (fun ls hl => ?_)
        refine lv_iconst (v := 1) hx hb d_LW_memory_13 (by decide) ?_
        have hP9 := hP.sb (wq := (wz_630 h0 ta rw ag h0_argumentCount h0_reason h0_place h0_loaded wa ws h0_program_r h0_coder_r h0_reader_r h0_validator_r ma ma ma_pages ma_steps ma_reason magl wa wac mace mask ma_height mafb mafs maff mafl ma_frameCount malb malh ma_labelCount ma_at mace cmace gmace ou cou gou)) [1, 2, 3, 0] rfl
        have hD9 := hD.sb (wq := (wz_630 h0 ta rw ag h0_argumentCount h0_reason h0_place h0_loaded wa ws h0_program_r h0_coder_r h0_reader_r h0_validator_r ma ma ma_pages ma_steps ma_reason magl wa wac mace mask ma_height mafb mafs maff mafl ma_frameCount malb malh ma_labelCount ma_at mace cmace gmace ou cou gou)) [1, 2, 3, 0] (by decide) rfl
        refine W.widen (k := 1) (n := 6) (Nat.le_of_ble_eq_true rfl) (Nat.le_of_ble_eq_true rfl) ?_
        exact W.iret (v := 1) hx hb hr (fun t ht hW => ⟨⟨1, gou, rfl, (trivial), va_P.he ht.symm hP9, va_K.moved hW.alike hK, hD9⟩, hS.F ht⟩) hS.2.2 d_LW_memory_14
      · dsimp only
        refine lv_astore_n (lv' := [(3, .ref xx), (0, .ref h0), (1, .int p0), (2, .ref ou)]) hx hb d_LW_memory_15 rfl hl (by decide) rfl (fun ls hl => ?_)
        refine lv_iconst (v := 2) hx hb d_LW_memory_16 (by decide) ?_
        have hP9 := hP.sb (wq := (wz_630 h0 ta rw ag h0_argumentCount h0_reason h0_place h0_loaded wa ws h0_program_r h0_coder_r h0_reader_r h0_validator_r ma ma ma_pages ma_steps ma_reason magl wa wac mace mask ma_height mafb mafs maff mafl ma_frameCount malb malh ma_labelCount ma_at mace cmace gmace ou cou gou)) [1, 2, 3, 0] rfl
        have hD9 := hD.sb (wq := (wz_630 h0 ta rw ag h0_argumentCount h0_reason h0_place h0_loaded wa ws h0_program_r h0_coder_r h0_reader_r h0_validator_r ma ma ma_pages ma_steps ma_reason magl wa wac mace mask ma_height mafb mafs maff mafl ma_frameCount malb malh ma_labelCount ma_at mace cmace gmace ou cou gou)) [1, 2, 3, 0] (by decide) rfl
        refine W.widen (k := 1) (n := 6) (Nat.le_of_ble_eq_true rfl) (Nat.le_of_ble_eq_true rfl) ?_
        exact W.iret (v := 2) hx hb hr (fun t ht hW => ⟨⟨2, gou, rfl, (trivial), va_P.he ht.symm hP9, va_K.moved hW.alike hK, hD9⟩, hS.F ht⟩) hS.2.2 d_LW_memory_17
  try dsimp only at hw
  have xr1 := hw
  try clear hw
  obtain ⟨hP1, hK1, hD1⟩ := hB
  replace hP1 := va_P.he ht hP1
  obtain ⟨hP, hD⟩ := va_join (wr := [(ou, .inl (cou, 1, .inr (.inl gou)))]) (w1 := (wz_267 h0 ta rw ag h0_argumentCount h0_reason h0_place h0_loaded wa ws h0_program_r h0_coder_r h0_reader_r h0_validator_r ma ma ma_pages ma_steps ma_reason magl wa wac mace mask ma_height mafb mafs maff mafl ma_frameCount malb malh ma_labelCount ma_at mace cmace gmace)) hP hD [0, 1, 2] [3] rfl rfl (by decide) (by decide) hk1 hFc hP1 hD1
  clear hPc hDc hKc hFc hz1 hk1 hP1 hK1 hD1
  rename Heap => H
  have hP : va_P (dC, dI) cls (wz_631 ou cou gou h0 ta rw ag h0_argumentCount h0_reason h0_place h0_loaded wa ws h0_program_r h0_coder_r h0_reader_r h0_validator_r ma ma ma_pages ma_steps ma_reason magl wa wac mace mask ma_height mafb mafs maff mafl ma_frameCount malb malh ma_labelCount ma_at mace cmace gmace) H := hP
  have hD : va_D A (wz_631 ou cou gou h0 ta rw ag h0_argumentCount h0_reason h0_place h0_loaded wa ws h0_program_r h0_coder_r h0_reader_r h0_validator_r ma ma ma_pages ma_steps ma_reason magl wa wac mace mask ma_height mafb mafs maff mafl ma_frameCount malb malh ma_labelCount ma_at mace cmace gmace) := hD
  refine lv_i2l hx hb d_LW_memory_7 rfl ?_
  refine lv_topl (fun x2 ex2 => ?_)
  have tx2 := i2l_t ex2
  have g8 : vp_in 0 1 := vp_in_iff.mpr ⟨by (first | (apply Int.le_antisymm <;> omega) | omega), by (first | (apply Int.le_antisymm <;> omega) | omega)⟩
  refine va_last hx hb hK hP hD hS 0 1 rfl rfl g8 d_LW_memory_8 (fun H locs hP hD hS => ?_)
  generalize ef3 : vp_updL gou (0 : Int32).toNatClampNeg x2 = f3 at hP hD
  refine lv_goto (tgt := 18) hx hb d_LW_memory_9 (by decide) ?_
  refine lv_iconst (v := 0) hx hb d_LW_memory_18 (by decide) ?_
  have hP9 := hP.sb (wq := (wz_630 h0 ta rw ag h0_argumentCount h0_reason h0_place h0_loaded wa ws h0_program_r h0_coder_r h0_reader_r h0_validator_r ma ma ma_pages ma_steps ma_reason magl wa wac mace mask ma_height mafb mafs maff mafl ma_frameCount malb malh ma_labelCount ma_at mace cmace gmace ou cou f3)) [1, 2, 3, 0] rfl
  have hD9 := hD.sb (wq := (wz_630 h0 ta rw ag h0_argumentCount h0_reason h0_place h0_loaded wa ws h0_program_r h0_coder_r h0_reader_r h0_validator_r ma ma ma_pages ma_steps ma_reason magl wa wac mace mask ma_height mafb mafs maff mafl ma_frameCount malb malh ma_labelCount ma_at mace cmace gmace ou cou f3)) [1, 2, 3, 0] (by decide) rfl
  refine W.widen (k := 1) (n := 6) (Nat.le_of_ble_eq_true rfl) (Nat.le_of_ble_eq_true rfl) ?_
  exact W.iret (v := 0) hx hb hr (fun t ht hW => ⟨⟨0, f3, rfl, (trivial), va_P.he ht.symm hP9, va_K.moved hW.alike hK, hD9⟩, hS.F ht⟩) hS.2.2 d_LW_memory_19
abbrev at_LW_memoryo (dC : Nat → ClassId) (dI : Nat → Nat → Nat) (sa : Nat → Nat) (h0 ta rw ag wa ws h0_program_r h0_coder_r h0_reader_r h0_validator_r ma ou : Nat) (cou : ClassId) (h0_argumentCount : Int32) (h0_reason : Int32) (h0_place : Int32) (h0_loaded : Int32) (A : Nat → Prop) (u : (Nat → Int64)) (t : State) : Prop := match u with | gou => va_P (dC, dI) cls (wz_632 h0 ta rw ag h0_argumentCount h0_reason h0_place h0_loaded wa ws h0_program_r h0_coder_r h0_reader_r h0_validator_r ma ou cou gou) t.heap ∧ va_K (dC, dI) cls [(cou, .long)] t ∧ va_D A (wz_632 h0 ta rw ag h0_argumentCount h0_reason h0_place h0_loaded wa ws h0_program_r h0_coder_r h0_reader_r h0_validator_r ma ou cou gou)
set_option maxHeartbeats 4000000 in
set_option maxRecDepth 100000 in
theorem c_LW_memoryo (l : Launch) (hlt : l.stackTraces = false) (dC : Nat → ClassId) (dI : Nat → Nat → Nat) (sz : Nat) (sa : Nat → Nat) (h0 ta rw ag wa ws h0_program_r h0_coder_r h0_reader_r h0_validator_r ma ou : Nat) (cou : ClassId) (h0_argumentCount : Int32) (h0_reason : Int32) (h0_place : Int32) (h0_loaded : Int32) (gou : Nat → Int64)  (b_h0_loaded : h0_loaded = 0 ∨ h0_loaded = 1) (p0 : Int32)  (hld : h0_loaded.toInt = 0) : Met l y_LW_memory w_LW_memory ({ frames := 7, cells := 1, slots := 6, locals := 111 }) (va_Pc [.ref h0, .int p0, .ref ou] (fun U => U.heap.size = sz ∧ va_P (dC, dI) cls (wz_632 h0 ta rw ag h0_argumentCount h0_reason h0_place h0_loaded wa ws h0_program_r h0_coder_r h0_reader_r h0_validator_r ma ou cou gou) U.heap ∧ va_K (dC, dI) cls [(cou, .long)] U ∧ va_D (fun _ => True) (wz_632 h0 ta rw ag h0_argumentCount h0_reason h0_place h0_loaded wa ws h0_program_r h0_coder_r h0_reader_r h0_validator_r ma ou cou gou) ∧ sw sa (va_A (wz_632 h0 ta rw ag h0_argumentCount h0_reason h0_place h0_loaded wa ws h0_program_r h0_coder_r h0_reader_r h0_validator_r ma ou cou gou) sz) U U.heap)) (va_Qi (fun (r : Int32) (u : (Nat → Int64)) => match u with | gou2 => (True)) (at_LW_memoryo dC dI sa h0 ta rw ag wa ws h0_program_r h0_coder_r h0_reader_r h0_validator_r ma ou cou h0_argumentCount h0_reason h0_place h0_loaded (va_A (wz_632 h0 ta rw ag h0_argumentCount h0_reason h0_place h0_loaded wa ws h0_program_r h0_coder_r h0_reader_r h0_validator_r ma ou cou gou) sz)) (va_A (wz_632 h0 ta rw ag h0_argumentCount h0_reason h0_place h0_loaded wa ws h0_program_r h0_coder_r h0_reader_r h0_validator_r ma ou cou gou) sz)) 1 6 (va_A (wz_632 h0 ta rw ag h0_argumentCount h0_reason h0_place h0_loaded wa ws h0_program_r h0_coder_r h0_reader_r h0_validator_r ma ou cou gou) sz) := by
  refine va_MetW (cc := b_LW_memory) (maxL := 4) (ret := (Option.some .int)) (hh := [(0, 9, 12, 19), (0, 9, 15, 33)]) (by decide) rfl ?_
  intro p e s m args below meth c s₁ B hml hv
  obtain ⟨rfl, hsz, hP, hK, hD0, hSW⟩ := hv
  have hx := B.exec
  have hb := B.bytes
  have hr := B.returns
  have hts0 := atoms_spec (ws := w_LW_memory) B.pre
  have hts : ∀ w ∈ lw_g, w.before _ s = true := fun w h => hts0 w (List.mem_cons_of_mem _ h)
  have hown : s.vm.findClass R_LW = some m.cls := findClass_of_methodNamed B.named
  have hlocks := B.notSynchronized
  have hE := uw_table B (hts0 _ List.mem_cons_self)
  clear hts0
  subst hsz
  have hD := hD0.self (sz := s.heap.size)
  generalize hAe : va_A (wz_632 h0 ta rw ag h0_argumentCount h0_reason h0_place h0_loaded wa ws h0_program_r h0_coder_r h0_reader_r h0_validator_r ma ou cou gou) s.heap.size = A at hD hSW ⊢
  have hA : ∀ q : Nat, s.heap.size ≤ q → A q := fun q h => by rw [← hAe]; exact Or.inr h
  clear hAe
  have hP : va_P (dC, dI) cls (wz_632 h0 ta rw ag h0_argumentCount h0_reason h0_place h0_loaded wa ws h0_program_r h0_coder_r h0_reader_r h0_validator_r ma ou cou gou) s.heap := hP
  have hl := lv_entry ([.ref h0, .int p0, .ref ou]) (n := 4) (Nat.le_of_ble_eq_true rfl)
  rw [lg_entry_eq]
  generalize (lg_sl ([.ref h0, .int p0, .ref ou]) ++ List.replicate (4 - (lg_sl ([.ref h0, .int p0, .ref ou])).length) Slot.unset).toArray = ls at hl ⊢
  have hl : lv_has ls 4 [(0, .ref h0), (1, .int p0), (2, .ref ou)] := hl
  have k0 : (0 : Int32).toInt = 0 := by decide
  refine w_gen (A := A) hP (fun H locs hP hS => ?_)
  have k1 : (1 : Int32).toInt = 1 := by decide
  have k2 : (2 : Int32).toInt = 2 := by decide
  have lo_p0 := i32_lo p0
  have hi_p0 := i32_hi p0
  have th0_loaded := b01 b_h0_loaded
  refine lv_aload_n hx hb d_LW_memory_0 rfl (lv_at hl 2 rfl) ?_
  refine lv_iconst (v := 0) hx hb d_LW_memory_1 (by decide) ?_
  refine lv_aload_n hx hb d_LW_memory_2 rfl (lv_at hl 0 rfl) ?_
  refine lv_iload_n hx hb d_LW_memory_3 rfl (lv_at hl 1 rfl) ?_
  have hPc := hP.sb (wq := (wz_255 h0 ta rw ag h0_argumentCount h0_reason h0_place h0_loaded wa ws h0_program_r h0_coder_r h0_reader_r h0_validator_r ma)) [0] rfl
  have hDc := hD.sb (wq := (wz_255 h0 ta rw ag h0_argumentCount h0_reason h0_place h0_loaded wa ws h0_program_r h0_coder_r h0_reader_r h0_validator_r ma)) [0] (by decide) rfl
  have hKc := hK.sb (tyq := []) [] rfl
  have hFc := va_free (wc := (wz_255 h0 ta rw ag h0_argumentCount h0_reason h0_place h0_loaded wa ws h0_program_r h0_coder_r h0_reader_r h0_validator_r ma)) hD hS hA [0] rfl
  refine tm_calli (tz_runV (As := [.int p0]) (rest := [.int 0, .ref ou]) ⟨hx, hb, hml, hown, hts⟩ (c_WF_memoryo l hlt dC dI H.size sa h0 ta rw ag wa ws h0_program_r h0_coder_r h0_reader_r h0_validator_r ma h0_argumentCount h0_reason h0_place h0_loaded (b_h0_loaded) p0 (hld)) (cwV 1 hts (gV kM_LW_48 kV_WF_memory kS_WF_memory kI_WF kC_WF_memory) rfl rfl rfl (by decide +kernel) ⟨Nat.le_of_ble_eq_true rfl, Nat.le_of_ble_eq_true rfl⟩) ⟨fun a U g mk z => by obtain ⟨z0, z1, zP, zK, zD, zS⟩ := z; exact ⟨z0, z1, zP, va_K.moved (u := U) (U := U.calling g mk a) (Vm.Alike.refl U.vm) zK, zD, sw.same (u := U) (U := U.calling g mk a) rfl zS⟩, va_recv hKc hPc (ci := 0) (q0 := 0) rfl rfl, fun U hU hW => ⟨rfl, by rw [hU], va_P.he hU.symm hPc, va_K.moved hW.alike hKc, hDc.weaken (fun _ _ _ _ => trivial), hSW.call hS hFc hW hU⟩⟩ rfl rfl hl.1 rfl (lv_room (Nat.le_of_ble_eq_true rfl)) d_LW_memory_4 ⟨Nat.le_of_ble_eq_true rfl, Nat.le_of_ble_eq_true rfl⟩) hS (fun q _ h => hFc q h) hFc (fun r1 u t H1 locs ht hvm hw hB hz1 hk1 hS => ?_) (fun xx u t H1 locs ht hvm hw hXX hB hz1 hk1 hS => ?_)
  rotate_left
  · skip
    try dsimp only at hw
    obtain ⟨hP1, hK1, hD1⟩ := hB
    replace hP1 := va_P.he ht hP1
    obtain ⟨hP, hD⟩ := va_join (wr := [(ou, .inl (cou, 1, .inr (.inl gou)))]) (w1 := (wz_255 h0 ta rw ag h0_argumentCount h0_reason h0_place h0_loaded wa ws h0_program_r h0_coder_r h0_reader_r h0_validator_r ma)) hP hD [0] [1] rfl rfl (by decide) (by decide) hk1 hFc hP1 hD1
    have hP : va_P (dC, dI) cls (wz_633 ou cou gou h0 ta rw ag h0_argumentCount h0_reason h0_place h0_loaded wa ws h0_program_r h0_coder_r h0_reader_r h0_validator_r ma) H1 := hP
    have hD : va_D A (wz_633 ou cou gou h0 ta rw ag h0_argumentCount h0_reason h0_place h0_loaded wa ws h0_program_r h0_coder_r h0_reader_r h0_validator_r ma) := hD
    obtain ⟨cX, hcX, hXX⟩ := hXX
    refine tc_multi (nm := (fun ct => if ct = 19 then "java/lang/IllegalArgumentException" else "java/lang/IllegalStateException")) hE (fun q hq => ?_) ?_ hown hXX (fun q hq => ?_)
    · simp only [List.mem_cons, List.not_mem_nil, or_false] at hq
      rcases hq with rfl | rfl
      · exact ⟨by decide, by decide, by decide, hts _ kK_LW_19⟩
      · exact ⟨by decide, by decide, by decide, hts _ kK_LW_33⟩
    · simp only [List.mem_cons, List.not_mem_nil, or_false] at hcX
      rcases hcX with rfl | rfl
      · exact ⟨(0, 9, 12, 19), by simp, rfl⟩
      · exact ⟨(0, 9, 15, 33), by simp, rfl⟩
    · simp only [List.mem_cons, List.not_mem_nil, or_false] at hq
      clear hPc hDc hKc hFc hz1 hk1 hP1 hK1 hD1 hXX
      rcases hq with rfl | rfl
      · dsimp only
        refine lv_astore_n (lv' := [(3, .ref xx), (0, .ref h0), (1, .int p0), (2, .ref ou)]) hx hb d_LW_memory_12 rfl hl (by decide) rfl (fun ls hl => ?_)
        refine lv_iconst (v := 1) hx hb d_LW_memory_13 (by decide) ?_
        have hP9 := hP.sb (wq := (wz_632 h0 ta rw ag h0_argumentCount h0_reason h0_place h0_loaded wa ws h0_program_r h0_coder_r h0_reader_r h0_validator_r ma ou cou gou)) [1, 0] rfl
        have hD9 := hD.sb (wq := (wz_632 h0 ta rw ag h0_argumentCount h0_reason h0_place h0_loaded wa ws h0_program_r h0_coder_r h0_reader_r h0_validator_r ma ou cou gou)) [1, 0] (by decide) rfl
        refine W.widen (k := 1) (n := 6) (Nat.le_of_ble_eq_true rfl) (Nat.le_of_ble_eq_true rfl) ?_
        exact W.iret (v := 1) hx hb hr (fun t ht hW => ⟨⟨1, gou, rfl, (trivial), va_P.he ht.symm hP9, va_K.moved hW.alike hK, hD9⟩, hS.F ht⟩) hS.2.2 d_LW_memory_14
      · dsimp only
        refine lv_astore_n (lv' := [(3, .ref xx), (0, .ref h0), (1, .int p0), (2, .ref ou)]) hx hb d_LW_memory_15 rfl hl (by decide) rfl (fun ls hl => ?_)
        refine lv_iconst (v := 2) hx hb d_LW_memory_16 (by decide) ?_
        have hP9 := hP.sb (wq := (wz_632 h0 ta rw ag h0_argumentCount h0_reason h0_place h0_loaded wa ws h0_program_r h0_coder_r h0_reader_r h0_validator_r ma ou cou gou)) [1, 0] rfl
        have hD9 := hD.sb (wq := (wz_632 h0 ta rw ag h0_argumentCount h0_reason h0_place h0_loaded wa ws h0_program_r h0_coder_r h0_reader_r h0_validator_r ma ou cou gou)) [1, 0] (by decide) rfl
        refine W.widen (k := 1) (n := 6) (Nat.le_of_ble_eq_true rfl) (Nat.le_of_ble_eq_true rfl) ?_
        exact W.iret (v := 2) hx hb hr (fun t ht hW => ⟨⟨2, gou, rfl, (trivial), va_P.he ht.symm hP9, va_K.moved hW.alike hK, hD9⟩, hS.F ht⟩) hS.2.2 d_LW_memory_17
  try dsimp only at hw
  have xr1 := hw
  try clear hw
  obtain ⟨hP1, hK1, hD1⟩ := hB
  replace hP1 := va_P.he ht hP1
  obtain ⟨hP, hD⟩ := va_join (wr := [(ou, .inl (cou, 1, .inr (.inl gou)))]) (w1 := (wz_255 h0 ta rw ag h0_argumentCount h0_reason h0_place h0_loaded wa ws h0_program_r h0_coder_r h0_reader_r h0_validator_r ma)) hP hD [0] [1] rfl rfl (by decide) (by decide) hk1 hFc hP1 hD1
  clear hPc hDc hKc hFc hz1 hk1 hP1 hK1 hD1
  rename Heap => H
  have hP : va_P (dC, dI) cls (wz_633 ou cou gou h0 ta rw ag h0_argumentCount h0_reason h0_place h0_loaded wa ws h0_program_r h0_coder_r h0_reader_r h0_validator_r ma) H := hP
  have hD : va_D A (wz_633 ou cou gou h0 ta rw ag h0_argumentCount h0_reason h0_place h0_loaded wa ws h0_program_r h0_coder_r h0_reader_r h0_validator_r ma) := hD
  refine lv_i2l hx hb d_LW_memory_7 rfl ?_
  refine lv_topl (fun x2 ex2 => ?_)
  have tx2 := i2l_t ex2
  have g8 : vp_in 0 1 := vp_in_iff.mpr ⟨by (first | (apply Int.le_antisymm <;> omega) | omega), by (first | (apply Int.le_antisymm <;> omega) | omega)⟩
  refine va_last hx hb hK hP hD hS 0 0 rfl rfl g8 d_LW_memory_8 (fun H locs hP hD hS => ?_)
  generalize ef3 : vp_updL gou (0 : Int32).toNatClampNeg x2 = f3 at hP hD
  refine lv_goto (tgt := 18) hx hb d_LW_memory_9 (by decide) ?_
  refine lv_iconst (v := 0) hx hb d_LW_memory_18 (by decide) ?_
  have hP9 := hP.sb (wq := (wz_632 h0 ta rw ag h0_argumentCount h0_reason h0_place h0_loaded wa ws h0_program_r h0_coder_r h0_reader_r h0_validator_r ma ou cou f3)) [1, 0] rfl
  have hD9 := hD.sb (wq := (wz_632 h0 ta rw ag h0_argumentCount h0_reason h0_place h0_loaded wa ws h0_program_r h0_coder_r h0_reader_r h0_validator_r ma ou cou f3)) [1, 0] (by decide) rfl
  refine W.widen (k := 1) (n := 6) (Nat.le_of_ble_eq_true rfl) (Nat.le_of_ble_eq_true rfl) ?_
  exact W.iret (v := 0) hx hb hr (fun t ht hW => ⟨⟨0, f3, rfl, (trivial), va_P.he ht.symm hP9, va_K.moved hW.alike hK, hD9⟩, hS.F ht⟩) hS.2.2 d_LW_memory_19
abbrev b_LW_call : ByteArray := method_9_code
def y_LW_call : MethodName := ⟨R_LW, "call", "(LWaferForge;I[J)I"⟩
abbrev w_LW_call : List Cond := .codeWith y_LW_call b_LW_call 4 (Option.some .int) [(0, 8, 11, 19), (0, 8, 14, 33), (0, 8, 17, 43)] :: lw_g
theorem kC_LW_call : Cond.codeWith y_LW_call b_LW_call 4 (Option.some .int) [(0, 8, 11, 19), (0, 8, 14, 33), (0, 8, 17, 43)] ∈ lw_g := in_c7 87 rfl rfl
theorem d_LW_call_0 : decode b_LW_call 0 = .ok (.aload_n 2, 1) := bz_c44 (by decide +kernel)
theorem d_LW_call_1 : decode b_LW_call 1 = .ok (.iconst 0, 1) := bz_c3 (by decide +kernel)
theorem d_LW_call_2 : decode b_LW_call 2 = .ok (.aload_n 0, 1) := bz_c42 (by decide +kernel)
theorem d_LW_call_3 : decode b_LW_call 3 = .ok (.iload_n 1, 1) := bz_c27 (by decide +kernel)
theorem d_LW_call_4 : decode b_LW_call 4 = .ok (.invokevirtual 39, 3) := bz_c182 (by decide +kernel)
theorem d_LW_call_7 : decode b_LW_call 7 = .ok (.lastore, 1) := bz_c80 (by decide +kernel)
theorem d_LW_call_8 : decode b_LW_call 8 = .ok (.goto 12, 3) := bz_c167 (by decide +kernel)
theorem d_LW_call_11 : decode b_LW_call 11 = .ok (.astore_n 3, 1) := bz_c78 (by decide +kernel)
theorem d_LW_call_12 : decode b_LW_call 12 = .ok (.iconst 1, 1) := bz_c4 (by decide +kernel)
theorem d_LW_call_13 : decode b_LW_call 13 = .ok (.ireturn, 1) := bz_c172 (by decide +kernel)
theorem d_LW_call_14 : decode b_LW_call 14 = .ok (.astore_n 3, 1) := bz_c78 (by decide +kernel)
theorem d_LW_call_15 : decode b_LW_call 15 = .ok (.iconst 2, 1) := bz_c5 (by decide +kernel)
theorem d_LW_call_16 : decode b_LW_call 16 = .ok (.ireturn, 1) := bz_c172 (by decide +kernel)
theorem d_LW_call_17 : decode b_LW_call 17 = .ok (.astore_n 3, 1) := bz_c78 (by decide +kernel)
theorem d_LW_call_18 : decode b_LW_call 18 = .ok (.iconst 3, 1) := bz_c6 (by decide +kernel)
theorem d_LW_call_19 : decode b_LW_call 19 = .ok (.ireturn, 1) := bz_c172 (by decide +kernel)
theorem d_LW_call_20 : decode b_LW_call 20 = .ok (.iconst 0, 1) := bz_c3 (by decide +kernel)
theorem d_LW_call_21 : decode b_LW_call 21 = .ok (.ireturn, 1) := bz_c172 (by decide +kernel)
theorem kM_LW_39 : Cond.methodLink R_LW 39 y_WF_call ∈ lw_g := in_c7 89 rfl rfl
theorem kV_WF_call : Cond.instanceMethod y_WF_call ∈ lw_g := in_c7 90 rfl rfl
theorem kS_WF_call : Cond.selects R_WF y_WF_call y_WF_call ∈ lw_g := in_c7 91 rfl rfl
theorem kK_LW_43 : Cond.classLink R_LW 43 "java/lang/ArithmeticException" ∈ lw_g := in_c7 88 rfl rfl
abbrev at_LW_callo (dC : Nat → ClassId) (dI : Nat → Nat → Nat) (sa : Nat → Nat) (h0 ta rw ag wa ws h0_program_r h0_coder_r h0_reader_r h0_validator_r ma ou : Nat) (cou : ClassId) (h0_argumentCount : Int32) (h0_reason : Int32) (h0_place : Int32) (h0_loaded : Int32) (A : Nat → Prop) (u : (Nat → Int64)) (t : State) : Prop := match u with | gou => va_P (dC, dI) cls (wz_632 h0 ta rw ag h0_argumentCount h0_reason h0_place h0_loaded wa ws h0_program_r h0_coder_r h0_reader_r h0_validator_r ma ou cou gou) t.heap ∧ va_K (dC, dI) cls [(cou, .long)] t ∧ va_D A (wz_632 h0 ta rw ag h0_argumentCount h0_reason h0_place h0_loaded wa ws h0_program_r h0_coder_r h0_reader_r h0_validator_r ma ou cou gou)
set_option maxHeartbeats 4000000 in
set_option maxRecDepth 100000 in
theorem c_LW_callo (l : Launch) (hlt : l.stackTraces = false) (dC : Nat → ClassId) (dI : Nat → Nat → Nat) (sz : Nat) (sa : Nat → Nat) (h0 ta rw ag wa ws h0_program_r h0_coder_r h0_reader_r h0_validator_r ma ou : Nat) (cou : ClassId) (h0_argumentCount : Int32) (h0_reason : Int32) (h0_place : Int32) (h0_loaded : Int32) (gou : Nat → Int64)  (b_h0_loaded : h0_loaded = 0 ∨ h0_loaded = 1) (p0 : Int32)  (hld : h0_loaded.toInt = 0) : Met l y_LW_call w_LW_call ({ frames := 8, cells := 1, slots := 6, locals := 201 }) (va_Pc [.ref h0, .int p0, .ref ou] (fun U => U.heap.size = sz ∧ va_P (dC, dI) cls (wz_632 h0 ta rw ag h0_argumentCount h0_reason h0_place h0_loaded wa ws h0_program_r h0_coder_r h0_reader_r h0_validator_r ma ou cou gou) U.heap ∧ va_K (dC, dI) cls [(cou, .long)] U ∧ va_D (fun _ => True) (wz_632 h0 ta rw ag h0_argumentCount h0_reason h0_place h0_loaded wa ws h0_program_r h0_coder_r h0_reader_r h0_validator_r ma ou cou gou) ∧ sw sa (va_A (wz_632 h0 ta rw ag h0_argumentCount h0_reason h0_place h0_loaded wa ws h0_program_r h0_coder_r h0_reader_r h0_validator_r ma ou cou gou) sz) U U.heap)) (va_Qi (fun (r : Int32) (u : (Nat → Int64)) => match u with | gou2 => (True)) (at_LW_callo dC dI sa h0 ta rw ag wa ws h0_program_r h0_coder_r h0_reader_r h0_validator_r ma ou cou h0_argumentCount h0_reason h0_place h0_loaded (va_A (wz_632 h0 ta rw ag h0_argumentCount h0_reason h0_place h0_loaded wa ws h0_program_r h0_coder_r h0_reader_r h0_validator_r ma ou cou gou) sz)) (va_A (wz_632 h0 ta rw ag h0_argumentCount h0_reason h0_place h0_loaded wa ws h0_program_r h0_coder_r h0_reader_r h0_validator_r ma ou cou gou) sz)) 1 6 (va_A (wz_632 h0 ta rw ag h0_argumentCount h0_reason h0_place h0_loaded wa ws h0_program_r h0_coder_r h0_reader_r h0_validator_r ma ou cou gou) sz) := by
  refine va_MetW (cc := b_LW_call) (maxL := 4) (ret := (Option.some .int)) (hh := [(0, 8, 11, 19), (0, 8, 14, 33), (0, 8, 17, 43)]) (by decide) rfl ?_
  intro p e s m args below meth c s₁ B hml hv
  obtain ⟨rfl, hsz, hP, hK, hD0, hSW⟩ := hv
  have hx := B.exec
  have hb := B.bytes
  have hr := B.returns
  have hts0 := atoms_spec (ws := w_LW_call) B.pre
  have hts : ∀ w ∈ lw_g, w.before _ s = true := fun w h => hts0 w (List.mem_cons_of_mem _ h)
  have hown : s.vm.findClass R_LW = some m.cls := findClass_of_methodNamed B.named
  have hlocks := B.notSynchronized
  have hE := uw_table B (hts0 _ List.mem_cons_self)
  clear hts0
  subst hsz
  have hD := hD0.self (sz := s.heap.size)
  generalize hAe : va_A (wz_632 h0 ta rw ag h0_argumentCount h0_reason h0_place h0_loaded wa ws h0_program_r h0_coder_r h0_reader_r h0_validator_r ma ou cou gou) s.heap.size = A at hD hSW ⊢
  have hA : ∀ q : Nat, s.heap.size ≤ q → A q := fun q h => by rw [← hAe]; exact Or.inr h
  clear hAe
  have hP : va_P (dC, dI) cls (wz_632 h0 ta rw ag h0_argumentCount h0_reason h0_place h0_loaded wa ws h0_program_r h0_coder_r h0_reader_r h0_validator_r ma ou cou gou) s.heap := hP
  have hl := lv_entry ([.ref h0, .int p0, .ref ou]) (n := 4) (Nat.le_of_ble_eq_true rfl)
  rw [lg_entry_eq]
  generalize (lg_sl ([.ref h0, .int p0, .ref ou]) ++ List.replicate (4 - (lg_sl ([.ref h0, .int p0, .ref ou])).length) Slot.unset).toArray = ls at hl ⊢
  have hl : lv_has ls 4 [(0, .ref h0), (1, .int p0), (2, .ref ou)] := hl
  have k0 : (0 : Int32).toInt = 0 := by decide
  refine w_gen (A := A) hP (fun H locs hP hS => ?_)
  have k1 : (1 : Int32).toInt = 1 := by decide
  have k2 : (2 : Int32).toInt = 2 := by decide
  have k3 : (3 : Int32).toInt = 3 := by decide
  have lo_p0 := i32_lo p0
  have hi_p0 := i32_hi p0
  have th0_loaded := b01 b_h0_loaded
  refine lv_aload_n hx hb d_LW_call_0 rfl (lv_at hl 2 rfl) ?_
  refine lv_iconst (v := 0) hx hb d_LW_call_1 (by decide) ?_
  refine lv_aload_n hx hb d_LW_call_2 rfl (lv_at hl 0 rfl) ?_
  refine lv_iload_n hx hb d_LW_call_3 rfl (lv_at hl 1 rfl) ?_
  have hPc := hP.sb (wq := (wz_255 h0 ta rw ag h0_argumentCount h0_reason h0_place h0_loaded wa ws h0_program_r h0_coder_r h0_reader_r h0_validator_r ma)) [0] rfl
  have hDc := hD.sb (wq := (wz_255 h0 ta rw ag h0_argumentCount h0_reason h0_place h0_loaded wa ws h0_program_r h0_coder_r h0_reader_r h0_validator_r ma)) [0] (by decide) rfl
  have hKc := hK.sb (tyq := []) [] rfl
  have hFc := va_free (wc := (wz_255 h0 ta rw ag h0_argumentCount h0_reason h0_place h0_loaded wa ws h0_program_r h0_coder_r h0_reader_r h0_validator_r ma)) hD hS hA [0] rfl
  refine tm_calll (tz_runV (As := [.int p0]) (rest := [.int 0, .ref ou]) ⟨hx, hb, hml, hown, hts⟩ (c_WF_callo l hlt dC dI H.size sa h0 ta rw ag wa ws h0_program_r h0_coder_r h0_reader_r h0_validator_r ma h0_argumentCount h0_reason h0_place h0_loaded (b_h0_loaded) p0 (hld)) (cwV 1 hts (gV kM_LW_39 kV_WF_call kS_WF_call kI_WF kC_WF_call) rfl rfl rfl (by decide +kernel) ⟨Nat.le_of_ble_eq_true rfl, Nat.le_of_ble_eq_true rfl⟩) ⟨fun a U g mk z => by obtain ⟨z0, z1, zP, zK, zD, zS⟩ := z; exact ⟨z0, z1, zP, va_K.moved (u := U) (U := U.calling g mk a) (Vm.Alike.refl U.vm) zK, zD, sw.same (u := U) (U := U.calling g mk a) rfl zS⟩, va_recv hKc hPc (ci := 0) (q0 := 0) rfl rfl, fun U hU hW => ⟨rfl, by rw [hU], va_P.he hU.symm hPc, va_K.moved hW.alike hKc, hDc.weaken (fun _ _ _ _ => trivial), hSW.call hS hFc hW hU⟩⟩ rfl rfl hl.1 rfl (lv_room (Nat.le_of_ble_eq_true rfl)) d_LW_call_4 ⟨Nat.le_of_ble_eq_true rfl, Nat.le_of_ble_eq_true rfl⟩) hS (fun q _ h => hFc q h) hFc (fun r1 u t H1 locs ht hvm hw hB hz1 hk1 hS => ?_) (fun xx u t H1 locs ht hvm hw hXX hB hz1 hk1 hS => ?_)
  rotate_left
  · skip
    try dsimp only at hw
    obtain ⟨hP1, hK1, hD1⟩ := hB
    replace hP1 := va_P.he ht hP1
    obtain ⟨hP, hD⟩ := va_join (wr := [(ou, .inl (cou, 1, .inr (.inl gou)))]) (w1 := (wz_255 h0 ta rw ag h0_argumentCount h0_reason h0_place h0_loaded wa ws h0_program_r h0_coder_r h0_reader_r h0_validator_r ma)) hP hD [0] [1] rfl rfl (by decide) (by decide) hk1 hFc hP1 hD1
    have hP : va_P (dC, dI) cls (wz_633 ou cou gou h0 ta rw ag h0_argumentCount h0_reason h0_place h0_loaded wa ws h0_program_r h0_coder_r h0_reader_r h0_validator_r ma) H1 := hP
    have hD : va_D A (wz_633 ou cou gou h0 ta rw ag h0_argumentCount h0_reason h0_place h0_loaded wa ws h0_program_r h0_coder_r h0_reader_r h0_validator_r ma) := hD
    obtain ⟨cX, hcX, hXX⟩ := hXX
    refine tc_multi (nm := (fun ct => if ct = 19 then "java/lang/IllegalArgumentException" else if ct = 33 then "java/lang/IllegalStateException" else "java/lang/ArithmeticException")) hE (fun q hq => ?_) ?_ hown hXX (fun q hq => ?_)
    · simp only [List.mem_cons, List.not_mem_nil, or_false] at hq
      rcases hq with rfl | rfl | rfl
      · exact ⟨by decide, by decide, by decide, hts _ kK_LW_19⟩
      · exact ⟨by decide, by decide, by decide, hts _ kK_LW_33⟩
      · exact ⟨by decide, by decide, by decide, hts _ kK_LW_43⟩
    · simp only [List.mem_cons, List.not_mem_nil, or_false] at hcX
      rcases hcX with rfl | rfl | rfl
      · exact ⟨(0, 8, 11, 19), by simp, rfl⟩
      · exact ⟨(0, 8, 14, 33), by simp, rfl⟩
      · exact ⟨(0, 8, 17, 43), by simp, rfl⟩
    · simp only [List.mem_cons, List.not_mem_nil, or_false] at hq
      clear hPc hDc hKc hFc hz1 hk1 hP1 hK1 hD1 hXX
      rcases hq with rfl | rfl | rfl
      · dsimp only
        refine lv_astore_n (lv' := [(3, .ref xx), (0, .ref h0), (1, .int p0), (2, .ref ou)]) hx hb d_LW_call_11 rfl hl (by decide) rfl (fun ls hl => ?_)
        refine lv_iconst (v := 1) hx hb d_LW_call_12 (by decide) ?_
        have hP9 := hP.sb (wq := (wz_632 h0 ta rw ag h0_argumentCount h0_reason h0_place h0_loaded wa ws h0_program_r h0_coder_r h0_reader_r h0_validator_r ma ou cou gou)) [1, 0] rfl
        have hD9 := hD.sb (wq := (wz_632 h0 ta rw ag h0_argumentCount h0_reason h0_place h0_loaded wa ws h0_program_r h0_coder_r h0_reader_r h0_validator_r ma ou cou gou)) [1, 0] (by decide) rfl
        refine W.widen (k := 1) (n := 6) (Nat.le_of_ble_eq_true rfl) (Nat.le_of_ble_eq_true rfl) ?_
        exact W.iret (v := 1) hx hb hr (fun t ht hW => ⟨⟨1, gou, rfl, (trivial), va_P.he ht.symm hP9, va_K.moved hW.alike hK, hD9⟩, hS.F ht⟩) hS.2.2 d_LW_call_13
      · dsimp only
        refine lv_astore_n (lv' := [(3, .ref xx), (0, .ref h0), (1, .int p0), (2, .ref ou)]) hx hb d_LW_call_14 rfl hl (by decide) rfl (fun ls hl => ?_)
        refine lv_iconst (v := 2) hx hb d_LW_call_15 (by decide) ?_
        have hP9 := hP.sb (wq := (wz_632 h0 ta rw ag h0_argumentCount h0_reason h0_place h0_loaded wa ws h0_program_r h0_coder_r h0_reader_r h0_validator_r ma ou cou gou)) [1, 0] rfl
        have hD9 := hD.sb (wq := (wz_632 h0 ta rw ag h0_argumentCount h0_reason h0_place h0_loaded wa ws h0_program_r h0_coder_r h0_reader_r h0_validator_r ma ou cou gou)) [1, 0] (by decide) rfl
        refine W.widen (k := 1) (n := 6) (Nat.le_of_ble_eq_true rfl) (Nat.le_of_ble_eq_true rfl) ?_
        exact W.iret (v := 2) hx hb hr (fun t ht hW => ⟨⟨2, gou, rfl, (trivial), va_P.he ht.symm hP9, va_K.moved hW.alike hK, hD9⟩, hS.F ht⟩) hS.2.2 d_LW_call_16
      · dsimp only
        refine lv_astore_n (lv' := [(3, .ref xx), (0, .ref h0), (1, .int p0), (2, .ref ou)]) hx hb d_LW_call_17 rfl hl (by decide) rfl (fun ls hl => ?_)
        refine lv_iconst (v := 3) hx hb d_LW_call_18 (by decide) ?_
        have hP9 := hP.sb (wq := (wz_632 h0 ta rw ag h0_argumentCount h0_reason h0_place h0_loaded wa ws h0_program_r h0_coder_r h0_reader_r h0_validator_r ma ou cou gou)) [1, 0] rfl
        have hD9 := hD.sb (wq := (wz_632 h0 ta rw ag h0_argumentCount h0_reason h0_place h0_loaded wa ws h0_program_r h0_coder_r h0_reader_r h0_validator_r ma ou cou gou)) [1, 0] (by decide) rfl
        refine W.widen (k := 1) (n := 6) (Nat.le_of_ble_eq_true rfl) (Nat.le_of_ble_eq_true rfl) ?_
        exact W.iret (v := 3) hx hb hr (fun t ht hW => ⟨⟨3, gou, rfl, (trivial), va_P.he ht.symm hP9, va_K.moved hW.alike hK, hD9⟩, hS.F ht⟩) hS.2.2 d_LW_call_19
  try dsimp only at hw
  have xr1 := hw
  try clear hw
  obtain ⟨hP1, hK1, hD1⟩ := hB
  replace hP1 := va_P.he ht hP1
  obtain ⟨hP, hD⟩ := va_join (wr := [(ou, .inl (cou, 1, .inr (.inl gou)))]) (w1 := (wz_255 h0 ta rw ag h0_argumentCount h0_reason h0_place h0_loaded wa ws h0_program_r h0_coder_r h0_reader_r h0_validator_r ma)) hP hD [0] [1] rfl rfl (by decide) (by decide) hk1 hFc hP1 hD1
  clear hPc hDc hKc hFc hz1 hk1 hP1 hK1 hD1
  rename Heap => H
  have hP : va_P (dC, dI) cls (wz_633 ou cou gou h0 ta rw ag h0_argumentCount h0_reason h0_place h0_loaded wa ws h0_program_r h0_coder_r h0_reader_r h0_validator_r ma) H := hP
  have hD : va_D A (wz_633 ou cou gou h0 ta rw ag h0_argumentCount h0_reason h0_place h0_loaded wa ws h0_program_r h0_coder_r h0_reader_r h0_validator_r ma) := hD
  have g7 : vp_in 0 1 := vp_in_iff.mpr ⟨by (first | (apply Int.le_antisymm <;> omega) | omega), by (first | (apply Int.le_antisymm <;> omega) | omega)⟩
  refine va_last hx hb hK hP hD hS 0 0 rfl rfl g7 d_LW_call_7 (fun H locs hP hD hS => ?_)
  generalize ef2 : vp_updL gou (0 : Int32).toNatClampNeg r1 = f2 at hP hD
  refine lv_goto (tgt := 20) hx hb d_LW_call_8 (by decide) ?_
  refine lv_iconst (v := 0) hx hb d_LW_call_20 (by decide) ?_
  have hP9 := hP.sb (wq := (wz_632 h0 ta rw ag h0_argumentCount h0_reason h0_place h0_loaded wa ws h0_program_r h0_coder_r h0_reader_r h0_validator_r ma ou cou f2)) [1, 0] rfl
  have hD9 := hD.sb (wq := (wz_632 h0 ta rw ag h0_argumentCount h0_reason h0_place h0_loaded wa ws h0_program_r h0_coder_r h0_reader_r h0_validator_r ma ou cou f2)) [1, 0] (by decide) rfl
  refine W.widen (k := 1) (n := 6) (Nat.le_of_ble_eq_true rfl) (Nat.le_of_ble_eq_true rfl) ?_
  exact W.iret (v := 0) hx hb hr (fun t ht hW => ⟨⟨0, f2, rfl, (trivial), va_P.he ht.symm hP9, va_K.moved hW.alike hK, hD9⟩, hS.F ht⟩) hS.2.2 d_LW_call_21
end q_n41
section q_n42
/-! the law: its helpers with one handler -/
abbrev at_LW_call (dC : Nat → ClassId) (dI : Nat → Nat → Nat) (sa : Nat → Nat) (h0 ta rw ag wa ws h0_program_r h0_coder_r h0_reader_r h0_validator_r ma wab wac watt watp watg waft wagt wafy wafv wagc waek waei waes waez wacfi waclk wacly wacop wacva wacpt wacel wacla magl mace mask mafb mafs maff mafl malb malh ou : Nat) (cag cwatt cwatp cwatg cwaft cwacfi cwaclk cwacly cwacop cwacva cwacpt cwacel cwacla cmagl cmace cmask cmafb cmafs cmaff cmafl cmalb cmalh cou : ClassId) (h0_place : Int32) (h0_loaded : Int32) (gag : Nat → Int64) (wa_typeCount : Int32) (wa_functionCount : Int32) (wa_hasMemory : Int32) (wa_pagesLeast : Int64) (wa_pagesMost : Int64) (wa_globalCount : Int32) (wa_exportCount : Int32) (gwatt : Nat → Int32) (gwatp : Nat → Int32) (gwatg : Nat → Int32) (gwaft : Nat → Int32) (wac_length : Int32) (wac_labelCount : Int32) (gwacfi : Nat → Int32) (gwaclk : Nat → Int32) (gwacly : Nat → Int32) (gwacop : Nat → Int32) (gwacva : Nat → Int64) (gwacpt : Nat → Int32) (gwacel : Nat → Int32) (gwacla : Nat → Int32) (A : Nat → Prop) (u : (Nat → Int64) × (Nat → Int32) × (Nat → Int32) × (Nat → Int32) × (Nat → Int32) × (Nat → Int64) × (Nat → Int32) × (Nat → Int32) × (Nat → Int64) × (Nat → Int64) × Int32 × Int32 × Int32 × Int32 × Int32 × Int32 × Int32 × Int32 × Int32) (t : State) : Prop := match u with | (gmace, gmafb, gmaff, gmafl, gmafs, gmagl, gmalb, gmalh, gmask, gou, h0_argumentCount, h0_reason, ma_at, ma_frameCount, ma_height, ma_labelCount, ma_pages, ma_reason, ma_steps) => va_P (dC, dI) cls (wz_634 h0 ta rw ag h0_argumentCount h0_reason h0_place h0_loaded wa ws h0_program_r h0_coder_r h0_reader_r h0_validator_r ma ag cag gag wa wab wac wa_typeCount watt watp watg wa_functionCount waft wa_hasMemory wa_pagesLeast wa_pagesMost wa_globalCount wagt wafy wafv wagc wa_exportCount waek waei waes waez watt cwatt gwatt watp cwatp gwatp watg cwatg gwatg waft cwaft gwaft wac wacfi waclk wacly wac_length wacop wacva wacpt wacel wac_labelCount wacla wacfi cwacfi gwacfi waclk cwaclk gwaclk wacly cwacly gwacly wacop cwacop gwacop wacva cwacva gwacva wacpt cwacpt gwacpt wacel cwacel gwacel wacla cwacla gwacla ma ma_pages ma_steps ma_reason magl wa wac mace mask ma_height mafb mafs maff mafl ma_frameCount malb malh ma_labelCount ma_at magl cmagl gmagl mace cmace gmace mask cmask gmask mafb cmafb gmafb mafs cmafs gmafs maff cmaff gmaff mafl cmafl gmafl malb cmalb gmalb malh cmalh gmalh ou cou gou) t.heap ∧ va_K (dC, dI) cls [(cag, .long), (cwatt, .int), (cwatp, .int), (cwatg, .int), (cwaft, .int), (cwacfi, .int), (cwaclk, .int), (cwacly, .int), (cwacop, .int), (cwacva, .long), (cwacpt, .int), (cwacel, .int), (cwacla, .int), (cmagl, .long), (cmace, .long), (cmask, .long), (cmafb, .int), (cmafs, .int), (cmaff, .int), (cmafl, .int), (cmalb, .int), (cmalh, .int), (cou, .long)] t ∧ va_D A (wz_634 h0 ta rw ag h0_argumentCount h0_reason h0_place h0_loaded wa ws h0_program_r h0_coder_r h0_reader_r h0_validator_r ma ag cag gag wa wab wac wa_typeCount watt watp watg wa_functionCount waft wa_hasMemory wa_pagesLeast wa_pagesMost wa_globalCount wagt wafy wafv wagc wa_exportCount waek waei waes waez watt cwatt gwatt watp cwatp gwatp watg cwatg gwatg waft cwaft gwaft wac wacfi waclk wacly wac_length wacop wacva wacpt wacel wac_labelCount wacla wacfi cwacfi gwacfi waclk cwaclk gwaclk wacly cwacly gwacly wacop cwacop gwacop wacva cwacva gwacva wacpt cwacpt gwacpt wacel cwacel gwacel wacla cwacla gwacla ma ma_pages ma_steps ma_reason magl wa wac mace mask ma_height mafb mafs maff mafl ma_frameCount malb malh ma_labelCount ma_at magl cmagl gmagl mace cmace gmace mask cmask gmask mafb cmafb gmafb mafs cmafs gmafs maff cmaff gmaff mafl cmafl gmafl malb cmalb gmalb malh cmalh gmalh ou cou gou)
set_option maxHeartbeats 4000000 in
set_option maxRecDepth 100000 in
theorem c_LW_call (l : Launch) (hlt : l.stackTraces = false) (dC : Nat → ClassId) (dI : Nat → Nat → Nat) (sz : Nat) (sa : Nat → Nat) (h0 ta rw ag wa ws h0_program_r h0_coder_r h0_reader_r h0_validator_r ma wab wac watt watp watg waft wagt wafy wafv wagc waek waei waes waez wacfi waclk wacly wacop wacva wacpt wacel wacla magl mace mask mafb mafs maff mafl malb malh ou : Nat) (cag cwatt cwatp cwatg cwaft cwacfi cwaclk cwacly cwacop cwacva cwacpt cwacel cwacla cmagl cmace cmask cmafb cmafs cmaff cmafl cmalb cmalh cou : ClassId) (h0_argumentCount : Int32) (h0_reason : Int32) (h0_place : Int32) (h0_loaded : Int32) (gag : Nat → Int64) (wa_typeCount : Int32) (wa_functionCount : Int32) (wa_hasMemory : Int32) (wa_pagesLeast : Int64) (wa_pagesMost : Int64) (wa_globalCount : Int32) (wa_exportCount : Int32) (gwatt : Nat → Int32) (gwatp : Nat → Int32) (gwatg : Nat → Int32) (gwaft : Nat → Int32) (wac_length : Int32) (wac_labelCount : Int32) (gwacfi : Nat → Int32) (gwaclk : Nat → Int32) (gwacly : Nat → Int32) (gwacop : Nat → Int32) (gwacva : Nat → Int64) (gwacpt : Nat → Int32) (gwacel : Nat → Int32) (gwacla : Nat → Int32) (ma_pages : Int32) (ma_steps : Int32) (ma_reason : Int32) (ma_height : Int32) (ma_frameCount : Int32) (ma_labelCount : Int32) (ma_at : Int32) (gmagl : Nat → Int64) (gmace : Nat → Int64) (gmask : Nat → Int64) (gmafb : Nat → Int32) (gmafs : Nat → Int32) (gmaff : Nat → Int32) (gmafl : Nat → Int32) (gmalb : Nat → Int32) (gmalh : Nat → Int32) (gou : Nat → Int64)  (b_h0_argumentCount : 0 ≤ h0_argumentCount.toInt ∧ h0_argumentCount.toInt ≤ 8) (b_h0_loaded : h0_loaded = 0 ∨ h0_loaded = 1) (b_wa_functionCount : 0 ≤ wa_functionCount.toInt ∧ wa_functionCount.toInt ≤ 30) (b_wa_globalCount : 0 ≤ wa_globalCount.toInt ∧ wa_globalCount.toInt ≤ 20) (b_wac_length : 0 ≤ wac_length.toInt ∧ wac_length.toInt ≤ 5000) (b_ma_pages : 0 ≤ ma_pages.toInt ∧ ma_pages.toInt ≤ 2) (b_ma_steps : 0 ≤ ma_steps.toInt ∧ ma_steps.toInt ≤ 100001) (b_ma_reason : 0 ≤ ma_reason.toInt ∧ ma_reason.toInt ≤ 14) (b_ma_height : 0 ≤ ma_height.toInt ∧ ma_height.toInt ≤ 12096) (b_ma_frameCount : 0 ≤ ma_frameCount.toInt ∧ ma_frameCount.toInt ≤ 100) (b_ma_labelCount : 0 ≤ ma_labelCount.toInt ∧ ma_labelCount.toInt ≤ 10000) (p0 : Int32)  (hld : h0_loaded.toInt = 1) (hmo : mo_ok wa_functionCount.toInt wa_globalCount.toInt gwaft gwatt gwatg gwacfi gwaclk gwacop gwacpt gwacel gwacla gwacva) : Met l y_LW_call w_LW_call ({ frames := 8, cells := 1, slots := 6, locals := 201 }) (va_Pc [.ref h0, .int p0, .ref ou] (fun U => U.heap.size = sz ∧ va_P (dC, dI) cls (wz_634 h0 ta rw ag h0_argumentCount h0_reason h0_place h0_loaded wa ws h0_program_r h0_coder_r h0_reader_r h0_validator_r ma ag cag gag wa wab wac wa_typeCount watt watp watg wa_functionCount waft wa_hasMemory wa_pagesLeast wa_pagesMost wa_globalCount wagt wafy wafv wagc wa_exportCount waek waei waes waez watt cwatt gwatt watp cwatp gwatp watg cwatg gwatg waft cwaft gwaft wac wacfi waclk wacly wac_length wacop wacva wacpt wacel wac_labelCount wacla wacfi cwacfi gwacfi waclk cwaclk gwaclk wacly cwacly gwacly wacop cwacop gwacop wacva cwacva gwacva wacpt cwacpt gwacpt wacel cwacel gwacel wacla cwacla gwacla ma ma_pages ma_steps ma_reason magl wa wac mace mask ma_height mafb mafs maff mafl ma_frameCount malb malh ma_labelCount ma_at magl cmagl gmagl mace cmace gmace mask cmask gmask mafb cmafb gmafb mafs cmafs gmafs maff cmaff gmaff mafl cmafl gmafl malb cmalb gmalb malh cmalh gmalh ou cou gou) U.heap ∧ va_K (dC, dI) cls [(cag, .long), (cwatt, .int), (cwatp, .int), (cwatg, .int), (cwaft, .int), (cwacfi, .int), (cwaclk, .int), (cwacly, .int), (cwacop, .int), (cwacva, .long), (cwacpt, .int), (cwacel, .int), (cwacla, .int), (cmagl, .long), (cmace, .long), (cmask, .long), (cmafb, .int), (cmafs, .int), (cmaff, .int), (cmafl, .int), (cmalb, .int), (cmalh, .int), (cou, .long)] U ∧ va_D (fun _ => True) (wz_634 h0 ta rw ag h0_argumentCount h0_reason h0_place h0_loaded wa ws h0_program_r h0_coder_r h0_reader_r h0_validator_r ma ag cag gag wa wab wac wa_typeCount watt watp watg wa_functionCount waft wa_hasMemory wa_pagesLeast wa_pagesMost wa_globalCount wagt wafy wafv wagc wa_exportCount waek waei waes waez watt cwatt gwatt watp cwatp gwatp watg cwatg gwatg waft cwaft gwaft wac wacfi waclk wacly wac_length wacop wacva wacpt wacel wac_labelCount wacla wacfi cwacfi gwacfi waclk cwaclk gwaclk wacly cwacly gwacly wacop cwacop gwacop wacva cwacva gwacva wacpt cwacpt gwacpt wacel cwacel gwacel wacla cwacla gwacla ma ma_pages ma_steps ma_reason magl wa wac mace mask ma_height mafb mafs maff mafl ma_frameCount malb malh ma_labelCount ma_at magl cmagl gmagl mace cmace gmace mask cmask gmask mafb cmafb gmafb mafs cmafs gmafs maff cmaff gmaff mafl cmafl gmafl malb cmalb gmalb malh cmalh gmalh ou cou gou) ∧ sw sa (va_A (wz_634 h0 ta rw ag h0_argumentCount h0_reason h0_place h0_loaded wa ws h0_program_r h0_coder_r h0_reader_r h0_validator_r ma ag cag gag wa wab wac wa_typeCount watt watp watg wa_functionCount waft wa_hasMemory wa_pagesLeast wa_pagesMost wa_globalCount wagt wafy wafv wagc wa_exportCount waek waei waes waez watt cwatt gwatt watp cwatp gwatp watg cwatg gwatg waft cwaft gwaft wac wacfi waclk wacly wac_length wacop wacva wacpt wacel wac_labelCount wacla wacfi cwacfi gwacfi waclk cwaclk gwaclk wacly cwacly gwacly wacop cwacop gwacop wacva cwacva gwacva wacpt cwacpt gwacpt wacel cwacel gwacel wacla cwacla gwacla ma ma_pages ma_steps ma_reason magl wa wac mace mask ma_height mafb mafs maff mafl ma_frameCount malb malh ma_labelCount ma_at magl cmagl gmagl mace cmace gmace mask cmask gmask mafb cmafb gmafb mafs cmafs gmafs maff cmaff gmaff mafl cmafl gmafl malb cmalb gmalb malh cmalh gmalh ou cou gou) sz) U U.heap)) (va_Qi (fun (r : Int32) (u : (Nat → Int64) × (Nat → Int32) × (Nat → Int32) × (Nat → Int32) × (Nat → Int32) × (Nat → Int64) × (Nat → Int32) × (Nat → Int32) × (Nat → Int64) × (Nat → Int64) × Int32 × Int32 × Int32 × Int32 × Int32 × Int32 × Int32 × Int32 × Int32) => match u with | (gmace2, gmafb2, gmaff2, gmafl2, gmafs2, gmagl2, gmalb2, gmalh2, gmask2, gou2, h0_argumentCount2, h0_reason2, ma_at2, ma_frameCount2, ma_height2, ma_labelCount2, ma_pages2, ma_reason2, ma_steps2) => (0 ≤ h0_argumentCount2.toInt ∧ h0_argumentCount2.toInt ≤ 8) ∧ (0 ≤ ma_frameCount2.toInt ∧ ma_frameCount2.toInt ≤ 100) ∧ (0 ≤ ma_height2.toInt ∧ ma_height2.toInt ≤ 12096) ∧ (0 ≤ ma_labelCount2.toInt ∧ ma_labelCount2.toInt ≤ 10000) ∧ (0 ≤ ma_pages2.toInt ∧ ma_pages2.toInt ≤ 2) ∧ (0 ≤ ma_reason2.toInt ∧ ma_reason2.toInt ≤ 14) ∧ (0 ≤ ma_steps2.toInt ∧ ma_steps2.toInt ≤ 100001) ∧ (True)) (at_LW_call dC dI sa h0 ta rw ag wa ws h0_program_r h0_coder_r h0_reader_r h0_validator_r ma wab wac watt watp watg waft wagt wafy wafv wagc waek waei waes waez wacfi waclk wacly wacop wacva wacpt wacel wacla magl mace mask mafb mafs maff mafl malb malh ou cag cwatt cwatp cwatg cwaft cwacfi cwaclk cwacly cwacop cwacva cwacpt cwacel cwacla cmagl cmace cmask cmafb cmafs cmaff cmafl cmalb cmalh cou h0_place h0_loaded gag wa_typeCount wa_functionCount wa_hasMemory wa_pagesLeast wa_pagesMost wa_globalCount wa_exportCount gwatt gwatp gwatg gwaft wac_length wac_labelCount gwacfi gwaclk gwacly gwacop gwacva gwacpt gwacel gwacla (va_A (wz_634 h0 ta rw ag h0_argumentCount h0_reason h0_place h0_loaded wa ws h0_program_r h0_coder_r h0_reader_r h0_validator_r ma ag cag gag wa wab wac wa_typeCount watt watp watg wa_functionCount waft wa_hasMemory wa_pagesLeast wa_pagesMost wa_globalCount wagt wafy wafv wagc wa_exportCount waek waei waes waez watt cwatt gwatt watp cwatp gwatp watg cwatg gwatg waft cwaft gwaft wac wacfi waclk wacly wac_length wacop wacva wacpt wacel wac_labelCount wacla wacfi cwacfi gwacfi waclk cwaclk gwaclk wacly cwacly gwacly wacop cwacop gwacop wacva cwacva gwacva wacpt cwacpt gwacpt wacel cwacel gwacel wacla cwacla gwacla ma ma_pages ma_steps ma_reason magl wa wac mace mask ma_height mafb mafs maff mafl ma_frameCount malb malh ma_labelCount ma_at magl cmagl gmagl mace cmace gmace mask cmask gmask mafb cmafb gmafb mafs cmafs gmafs maff cmaff gmaff mafl cmafl gmafl malb cmalb gmalb malh cmalh gmalh ou cou gou) sz)) (va_A (wz_634 h0 ta rw ag h0_argumentCount h0_reason h0_place h0_loaded wa ws h0_program_r h0_coder_r h0_reader_r h0_validator_r ma ag cag gag wa wab wac wa_typeCount watt watp watg wa_functionCount waft wa_hasMemory wa_pagesLeast wa_pagesMost wa_globalCount wagt wafy wafv wagc wa_exportCount waek waei waes waez watt cwatt gwatt watp cwatp gwatp watg cwatg gwatg waft cwaft gwaft wac wacfi waclk wacly wac_length wacop wacva wacpt wacel wac_labelCount wacla wacfi cwacfi gwacfi waclk cwaclk gwaclk wacly cwacly gwacly wacop cwacop gwacop wacva cwacva gwacva wacpt cwacpt gwacpt wacel cwacel gwacel wacla cwacla gwacla ma ma_pages ma_steps ma_reason magl wa wac mace mask ma_height mafb mafs maff mafl ma_frameCount malb malh ma_labelCount ma_at magl cmagl gmagl mace cmace gmace mask cmask gmask mafb cmafb gmafb mafs cmafs gmafs maff cmaff gmaff mafl cmafl gmafl malb cmalb gmalb malh cmalh gmalh ou cou gou) sz)) 1 6 (va_A (wz_634 h0 ta rw ag h0_argumentCount h0_reason h0_place h0_loaded wa ws h0_program_r h0_coder_r h0_reader_r h0_validator_r ma ag cag gag wa wab wac wa_typeCount watt watp watg wa_functionCount waft wa_hasMemory wa_pagesLeast wa_pagesMost wa_globalCount wagt wafy wafv wagc wa_exportCount waek waei waes waez watt cwatt gwatt watp cwatp gwatp watg cwatg gwatg waft cwaft gwaft wac wacfi waclk wacly wac_length wacop wacva wacpt wacel wac_labelCount wacla wacfi cwacfi gwacfi waclk cwaclk gwaclk wacly cwacly gwacly wacop cwacop gwacop wacva cwacva gwacva wacpt cwacpt gwacpt wacel cwacel gwacel wacla cwacla gwacla ma ma_pages ma_steps ma_reason magl wa wac mace mask ma_height mafb mafs maff mafl ma_frameCount malb malh ma_labelCount ma_at magl cmagl gmagl mace cmace gmace mask cmask gmask mafb cmafb gmafb mafs cmafs gmafs maff cmaff gmaff mafl cmafl gmafl malb cmalb gmalb malh cmalh gmalh ou cou gou) sz) := by
  refine va_MetW (cc := b_LW_call) (maxL := 4) (ret := (Option.some .int)) (hh := [(0, 8, 11, 19), (0, 8, 14, 33), (0, 8, 17, 43)]) (by decide) rfl ?_
  intro p e s m args below meth c s₁ B hml hv
  obtain ⟨rfl, hsz, hP, hK, hD0, hSW⟩ := hv
  have hx := B.exec
  have hb := B.bytes
  have hr := B.returns
  have hts0 := atoms_spec (ws := w_LW_call) B.pre
  have hts : ∀ w ∈ lw_g, w.before _ s = true := fun w h => hts0 w (List.mem_cons_of_mem _ h)
  have hown : s.vm.findClass R_LW = some m.cls := findClass_of_methodNamed B.named
  have hlocks := B.notSynchronized
  have hE := uw_table B (hts0 _ List.mem_cons_self)
  clear hts0
  subst hsz
  have hD := hD0.self (sz := s.heap.size)
  generalize hAe : va_A (wz_634 h0 ta rw ag h0_argumentCount h0_reason h0_place h0_loaded wa ws h0_program_r h0_coder_r h0_reader_r h0_validator_r ma ag cag gag wa wab wac wa_typeCount watt watp watg wa_functionCount waft wa_hasMemory wa_pagesLeast wa_pagesMost wa_globalCount wagt wafy wafv wagc wa_exportCount waek waei waes waez watt cwatt gwatt watp cwatp gwatp watg cwatg gwatg waft cwaft gwaft wac wacfi waclk wacly wac_length wacop wacva wacpt wacel wac_labelCount wacla wacfi cwacfi gwacfi waclk cwaclk gwaclk wacly cwacly gwacly wacop cwacop gwacop wacva cwacva gwacva wacpt cwacpt gwacpt wacel cwacel gwacel wacla cwacla gwacla ma ma_pages ma_steps ma_reason magl wa wac mace mask ma_height mafb mafs maff mafl ma_frameCount malb malh ma_labelCount ma_at magl cmagl gmagl mace cmace gmace mask cmask gmask mafb cmafb gmafb mafs cmafs gmafs maff cmaff gmaff mafl cmafl gmafl malb cmalb gmalb malh cmalh gmalh ou cou gou) s.heap.size = A at hD hSW ⊢
  have hA : ∀ q : Nat, s.heap.size ≤ q → A q := fun q h => by rw [← hAe]; exact Or.inr h
  clear hAe
  have hP : va_P (dC, dI) cls (wz_634 h0 ta rw ag h0_argumentCount h0_reason h0_place h0_loaded wa ws h0_program_r h0_coder_r h0_reader_r h0_validator_r ma ag cag gag wa wab wac wa_typeCount watt watp watg wa_functionCount waft wa_hasMemory wa_pagesLeast wa_pagesMost wa_globalCount wagt wafy wafv wagc wa_exportCount waek waei waes waez watt cwatt gwatt watp cwatp gwatp watg cwatg gwatg waft cwaft gwaft wac wacfi waclk wacly wac_length wacop wacva wacpt wacel wac_labelCount wacla wacfi cwacfi gwacfi waclk cwaclk gwaclk wacly cwacly gwacly wacop cwacop gwacop wacva cwacva gwacva wacpt cwacpt gwacpt wacel cwacel gwacel wacla cwacla gwacla ma ma_pages ma_steps ma_reason magl wa wac mace mask ma_height mafb mafs maff mafl ma_frameCount malb malh ma_labelCount ma_at magl cmagl gmagl mace cmace gmace mask cmask gmask mafb cmafb gmafb mafs cmafs gmafs maff cmaff gmaff mafl cmafl gmafl malb cmalb gmalb malh cmalh gmalh ou cou gou) s.heap := hP
  have hl := lv_entry ([.ref h0, .int p0, .ref ou]) (n := 4) (Nat.le_of_ble_eq_true rfl)
  rw [lg_entry_eq]
  generalize (lg_sl ([.ref h0, .int p0, .ref ou]) ++ List.replicate (4 - (lg_sl ([.ref h0, .int p0, .ref ou])).length) Slot.unset).toArray = ls at hl ⊢
  have hl : lv_has ls 4 [(0, .ref h0), (1, .int p0), (2, .ref ou)] := hl
  have k0 : (0 : Int32).toInt = 0 := by decide
  refine w_gen (A := A) hP (fun H locs hP hS => ?_)
  have k1 : (1 : Int32).toInt = 1 := by decide
  have k2 : (2 : Int32).toInt = 2 := by decide
  have k3 : (3 : Int32).toInt = 3 := by decide
  have lo_p0 := i32_lo p0
  have hi_p0 := i32_hi p0
  have th0_loaded := b01 b_h0_loaded
  refine lv_aload_n hx hb d_LW_call_0 rfl (lv_at hl 2 rfl) ?_
  refine lv_iconst (v := 0) hx hb d_LW_call_1 (by decide) ?_
  refine lv_aload_n hx hb d_LW_call_2 rfl (lv_at hl 0 rfl) ?_
  refine lv_iload_n hx hb d_LW_call_3 rfl (lv_at hl 1 rfl) ?_
  have hPc := hP.sb (wq := (wz_268 h0 ta rw ag h0_argumentCount h0_reason h0_place h0_loaded wa ws h0_program_r h0_coder_r h0_reader_r h0_validator_r ma ag cag gag wa wab wac wa_typeCount watt watp watg wa_functionCount waft wa_hasMemory wa_pagesLeast wa_pagesMost wa_globalCount wagt wafy wafv wagc wa_exportCount waek waei waes waez watt cwatt gwatt watp cwatp gwatp watg cwatg gwatg waft cwaft gwaft wac wacfi waclk wacly wac_length wacop wacva wacpt wacel wac_labelCount wacla wacfi cwacfi gwacfi waclk cwaclk gwaclk wacly cwacly gwacly wacop cwacop gwacop wacva cwacva gwacva wacpt cwacpt gwacpt wacel cwacel gwacel wacla cwacla gwacla ma ma_pages ma_steps ma_reason magl wa wac mace mask ma_height mafb mafs maff mafl ma_frameCount malb malh ma_labelCount ma_at magl cmagl gmagl mace cmace gmace mask cmask gmask mafb cmafb gmafb mafs cmafs gmafs maff cmaff gmaff mafl cmafl gmafl malb cmalb gmalb malh cmalh gmalh)) [0, 1, 2, 3, 4, 5, 6, 7, 8, 9, 10, 11, 12, 13, 14, 15, 16, 17, 18, 19, 20, 21, 22, 23, 24, 25] rfl
  have hDc := hD.sb (wq := (wz_268 h0 ta rw ag h0_argumentCount h0_reason h0_place h0_loaded wa ws h0_program_r h0_coder_r h0_reader_r h0_validator_r ma ag cag gag wa wab wac wa_typeCount watt watp watg wa_functionCount waft wa_hasMemory wa_pagesLeast wa_pagesMost wa_globalCount wagt wafy wafv wagc wa_exportCount waek waei waes waez watt cwatt gwatt watp cwatp gwatp watg cwatg gwatg waft cwaft gwaft wac wacfi waclk wacly wac_length wacop wacva wacpt wacel wac_labelCount wacla wacfi cwacfi gwacfi waclk cwaclk gwaclk wacly cwacly gwacly wacop cwacop gwacop wacva cwacva gwacva wacpt cwacpt gwacpt wacel cwacel gwacel wacla cwacla gwacla ma ma_pages ma_steps ma_reason magl wa wac mace mask ma_height mafb mafs maff mafl ma_frameCount malb malh ma_labelCount ma_at magl cmagl gmagl mace cmace gmace mask cmask gmask mafb cmafb gmafb mafs cmafs gmafs maff cmaff gmaff mafl cmafl gmafl malb cmalb gmalb malh cmalh gmalh)) [0, 1, 2, 3, 4, 5, 6, 7, 8, 9, 10, 11, 12, 13, 14, 15, 16, 17, 18, 19, 20, 21, 22, 23, 24, 25] (by decide) rfl
  have hKc := hK.sb (tyq := [(cag, .long), (cwatt, .int), (cwatp, .int), (cwatg, .int), (cwaft, .int), (cwacfi, .int), (cwaclk, .int), (cwacly, .int), (cwacop, .int), (cwacva, .long), (cwacpt, .int), (cwacel, .int), (cwacla, .int), (cmagl, .long), (cmace, .long), (cmask, .long), (cmafb, .int), (cmafs, .int), (cmaff, .int), (cmafl, .int), (cmalb, .int), (cmalh, .int)]) [0, 1, 2, 3, 4, 5, 6, 7, 8, 9, 10, 11, 12, 13, 14, 15, 16, 17, 18, 19, 20, 21] rfl
  have hFc := va_free (wc := (wz_268 h0 ta rw ag h0_argumentCount h0_reason h0_place h0_loaded wa ws h0_program_r h0_coder_r h0_reader_r h0_validator_r ma ag cag gag wa wab wac wa_typeCount watt watp watg wa_functionCount waft wa_hasMemory wa_pagesLeast wa_pagesMost wa_globalCount wagt wafy wafv wagc wa_exportCount waek waei waes waez watt cwatt gwatt watp cwatp gwatp watg cwatg gwatg waft cwaft gwaft wac wacfi waclk wacly wac_length wacop wacva wacpt wacel wac_labelCount wacla wacfi cwacfi gwacfi waclk cwaclk gwaclk wacly cwacly gwacly wacop cwacop gwacop wacva cwacva gwacva wacpt cwacpt gwacpt wacel cwacel gwacel wacla cwacla gwacla ma ma_pages ma_steps ma_reason magl wa wac mace mask ma_height mafb mafs maff mafl ma_frameCount malb malh ma_labelCount ma_at magl cmagl gmagl mace cmace gmace mask cmask gmask mafb cmafb gmafb mafs cmafs gmafs maff cmaff gmaff mafl cmafl gmafl malb cmalb gmalb malh cmalh gmalh)) hD hS hA [0, 1, 2, 3, 4, 5, 6, 7, 8, 9, 10, 11, 12, 13, 14, 15, 16, 17, 18, 19, 20, 21, 22, 23, 24, 25] rfl
  refine tm_calll (tz_runV (As := [.int p0]) (rest := [.int 0, .ref ou]) ⟨hx, hb, hml, hown, hts⟩ (c_WF_call l hlt dC dI H.size sa h0 ta rw ag wa ws h0_program_r h0_coder_r h0_reader_r h0_validator_r ma wab wac watt watp watg waft wagt wafy wafv wagc waek waei waes waez wacfi waclk wacly wacop wacva wacpt wacel wacla magl mace mask mafb mafs maff mafl malb malh cag cwatt cwatp cwatg cwaft cwacfi cwaclk cwacly cwacop cwacva cwacpt cwacel cwacla cmagl cmace cmask cmafb cmafs cmaff cmafl cmalb cmalh h0_argumentCount h0_reason h0_place h0_loaded gag wa_typeCount wa_functionCount wa_hasMemory wa_pagesLeast wa_pagesMost wa_globalCount wa_exportCount gwatt gwatp gwatg gwaft wac_length wac_labelCount gwacfi gwaclk gwacly gwacop gwacva gwacpt gwacel gwacla ma_pages ma_steps ma_reason ma_height ma_frameCount ma_labelCount ma_at gmagl gmace gmask gmafb gmafs gmaff gmafl gmalb gmalh (b_h0_argumentCount) (b_h0_loaded) (b_wa_functionCount) (b_wa_globalCount) (b_wac_length) (b_ma_pages) (b_ma_steps) (b_ma_reason) (b_ma_height) (b_ma_frameCount) (b_ma_labelCount) p0 (hld) (hmo)) (cwV 1 hts (gV kM_LW_39 kV_WF_call kS_WF_call kI_WF kC_WF_call) rfl rfl rfl (by decide +kernel) ⟨Nat.le_of_ble_eq_true rfl, Nat.le_of_ble_eq_true rfl⟩) ⟨fun a U g mk z => by obtain ⟨z0, z1, zP, zK, zD, zS⟩ := z; exact ⟨z0, z1, zP, va_K.moved (u := U) (U := U.calling g mk a) (Vm.Alike.refl U.vm) zK, zD, sw.same (u := U) (U := U.calling g mk a) rfl zS⟩, va_recv hKc hPc (ci := 0) (q0 := 0) rfl rfl, fun U hU hW => ⟨rfl, by rw [hU], va_P.he hU.symm hPc, va_K.moved hW.alike hKc, hDc.weaken (fun _ _ _ _ => trivial), hSW.call hS hFc hW hU⟩⟩ rfl rfl hl.1 rfl (lv_room (Nat.le_of_ble_eq_true rfl)) d_LW_call_4 ⟨Nat.le_of_ble_eq_true rfl, Nat.le_of_ble_eq_true rfl⟩) hS (fun q _ h => hFc q h) hFc (fun r1 u t H1 locs ht hvm hw hB hz1 hk1 hS => ?_) (fun xx u t H1 locs ht hvm hw hXX hB hz1 hk1 hS => ?_)
  rotate_left
  · skip
    obtain ⟨n2, n3, n4, n5, n6, n7, n8, n9, n10, n11, hq9r⟩ := u
    obtain ⟨n12, n13, n14, n15, n16, n17, n18, n19⟩ := hq9r
    try dsimp only at hw
    obtain ⟨bn11, bn14, bn15, bn16, bn17, bn18, bn19⟩ := hw
    obtain ⟨hP1, hK1, hD1⟩ := hB
    replace hP1 := va_P.he ht hP1
    obtain ⟨hP, hD⟩ := va_join (wr := [(ou, .inl (cou, 1, .inr (.inl gou)))]) (w1 := (wz_268 h0 ta rw ag n11 n12 h0_place h0_loaded wa ws h0_program_r h0_coder_r h0_reader_r h0_validator_r ma ag cag gag wa wab wac wa_typeCount watt watp watg wa_functionCount waft wa_hasMemory wa_pagesLeast wa_pagesMost wa_globalCount wagt wafy wafv wagc wa_exportCount waek waei waes waez watt cwatt gwatt watp cwatp gwatp watg cwatg gwatg waft cwaft gwaft wac wacfi waclk wacly wac_length wacop wacva wacpt wacel wac_labelCount wacla wacfi cwacfi gwacfi waclk cwaclk gwaclk wacly cwacly gwacly wacop cwacop gwacop wacva cwacva gwacva wacpt cwacpt gwacpt wacel cwacel gwacel wacla cwacla gwacla ma n17 n19 n18 magl wa wac mace mask n15 mafb mafs maff mafl n14 malb malh n16 n13 magl cmagl n7 mace cmace n2 mask cmask n10 mafb cmafb n3 mafs cmafs n6 maff cmaff n4 mafl cmafl n5 malb cmalb n8 malh cmalh n9)) hP hD [0, 1, 2, 3, 4, 5, 6, 7, 8, 9, 10, 11, 12, 13, 14, 15, 16, 17, 18, 19, 20, 21, 22, 23, 24, 25] [26] rfl rfl (by decide) (by decide) hk1 hFc hP1 hD1
    have hP : va_P (dC, dI) cls (wz_635 ou cou gou h0 ta rw ag n11 n12 h0_place h0_loaded wa ws h0_program_r h0_coder_r h0_reader_r h0_validator_r ma ag cag gag wa wab wac wa_typeCount watt watp watg wa_functionCount waft wa_hasMemory wa_pagesLeast wa_pagesMost wa_globalCount wagt wafy wafv wagc wa_exportCount waek waei waes waez watt cwatt gwatt watp cwatp gwatp watg cwatg gwatg waft cwaft gwaft wac wacfi waclk wacly wac_length wacop wacva wacpt wacel wac_labelCount wacla wacfi cwacfi gwacfi waclk cwaclk gwaclk wacly cwacly gwacly wacop cwacop gwacop wacva cwacva gwacva wacpt cwacpt gwacpt wacel cwacel gwacel wacla cwacla gwacla ma n17 n19 n18 magl wa wac mace mask n15 mafb mafs maff mafl n14 malb malh n16 n13 magl cmagl n7 mace cmace n2 mask cmask n10 mafb cmafb n3 mafs cmafs n6 maff cmaff n4 mafl cmafl n5 malb cmalb n8 malh cmalh n9) H1 := hP
    have hD : va_D A (wz_635 ou cou gou h0 ta rw ag n11 n12 h0_place h0_loaded wa ws h0_program_r h0_coder_r h0_reader_r h0_validator_r ma ag cag gag wa wab wac wa_typeCount watt watp watg wa_functionCount waft wa_hasMemory wa_pagesLeast wa_pagesMost wa_globalCount wagt wafy wafv wagc wa_exportCount waek waei waes waez watt cwatt gwatt watp cwatp gwatp watg cwatg gwatg waft cwaft gwaft wac wacfi waclk wacly wac_length wacop wacva wacpt wacel wac_labelCount wacla wacfi cwacfi gwacfi waclk cwaclk gwaclk wacly cwacly gwacly wacop cwacop gwacop wacva cwacva gwacva wacpt cwacpt gwacpt wacel cwacel gwacel wacla cwacla gwacla ma n17 n19 n18 magl wa wac mace mask n15 mafb mafs maff mafl n14 malb malh n16 n13 magl cmagl n7 mace cmace n2 mask cmask n10 mafb cmafb n3 mafs cmafs n6 maff cmaff n4 mafl cmafl n5 malb cmalb n8 malh cmalh n9) := hD
    obtain ⟨cX, hcX, hXX⟩ := hXX
    refine tc_multi (nm := (fun ct => if ct = 19 then "java/lang/IllegalArgumentException" else if ct = 33 then "java/lang/IllegalStateException" else "java/lang/ArithmeticException")) hE (fun q hq => ?_) ?_ hown hXX (fun q hq => ?_)
    · simp only [List.mem_cons, List.not_mem_nil, or_false] at hq
      rcases hq with rfl | rfl | rfl
      · exact ⟨by decide, by decide, by decide, hts _ kK_LW_19⟩
      · exact ⟨by decide, by decide, by decide, hts _ kK_LW_33⟩
      · exact ⟨by decide, by decide, by decide, hts _ kK_LW_43⟩
    · simp only [List.mem_cons, List.not_mem_nil, or_false] at hcX
      rcases hcX with rfl | rfl | rfl
      · exact ⟨(0, 8, 11, 19), by simp, rfl⟩
      · exact ⟨(0, 8, 14, 33), by simp, rfl⟩
      · exact ⟨(0, 8, 17, 43), by simp, rfl⟩
    · simp only [List.mem_cons, List.not_mem_nil, or_false] at hq
      clear hPc hDc hKc hFc hz1 hk1 hP1 hK1 hD1 hXX
      rcases hq with rfl | rfl | rfl
      · dsimp only
        refine lv_astore_n (lv' := [(3, .ref xx), (0, .ref h0), (1, .int p0), (2, .ref ou)]) hx hb d_LW_call_11 rfl hl (by decide) rfl (fun ls hl => ?_)
        refine lv_iconst (v := 1) hx hb d_LW_call_12 (by decide) ?_
        have hP9 := hP.sb (wq := (wz_634 h0 ta rw ag n11 n12 h0_place h0_loaded wa ws h0_program_r h0_coder_r h0_reader_r h0_validator_r ma ag cag gag wa wab wac wa_typeCount watt watp watg wa_functionCount waft wa_hasMemory wa_pagesLeast wa_pagesMost wa_globalCount wagt wafy wafv wagc wa_exportCount waek waei waes waez watt cwatt gwatt watp cwatp gwatp watg cwatg gwatg waft cwaft gwaft wac wacfi waclk wacly wac_length wacop wacva wacpt wacel wac_labelCount wacla wacfi cwacfi gwacfi waclk cwaclk gwaclk wacly cwacly gwacly wacop cwacop gwacop wacva cwacva gwacva wacpt cwacpt gwacpt wacel cwacel gwacel wacla cwacla gwacla ma n17 n19 n18 magl wa wac mace mask n15 mafb mafs maff mafl n14 malb malh n16 n13 magl cmagl n7 mace cmace n2 mask cmask n10 mafb cmafb n3 mafs cmafs n6 maff cmaff n4 mafl cmafl n5 malb cmalb n8 malh cmalh n9 ou cou gou)) [1, 2, 3, 4, 5, 6, 7, 8, 9, 10, 11, 12, 13, 14, 15, 16, 17, 18, 19, 20, 21, 22, 23, 24, 25, 26, 0] rfl
        have hD9 := hD.sb (wq := (wz_634 h0 ta rw ag n11 n12 h0_place h0_loaded wa ws h0_program_r h0_coder_r h0_reader_r h0_validator_r ma ag cag gag wa wab wac wa_typeCount watt watp watg wa_functionCount waft wa_hasMemory wa_pagesLeast wa_pagesMost wa_globalCount wagt wafy wafv wagc wa_exportCount waek waei waes waez watt cwatt gwatt watp cwatp gwatp watg cwatg gwatg waft cwaft gwaft wac wacfi waclk wacly wac_length wacop wacva wacpt wacel wac_labelCount wacla wacfi cwacfi gwacfi waclk cwaclk gwaclk wacly cwacly gwacly wacop cwacop gwacop wacva cwacva gwacva wacpt cwacpt gwacpt wacel cwacel gwacel wacla cwacla gwacla ma n17 n19 n18 magl wa wac mace mask n15 mafb mafs maff mafl n14 malb malh n16 n13 magl cmagl n7 mace cmace n2 mask cmask n10 mafb cmafb n3 mafs cmafs n6 maff cmaff n4 mafl cmafl n5 malb cmalb n8 malh cmalh n9 ou cou gou)) [1, 2, 3, 4, 5, 6, 7, 8, 9, 10, 11, 12, 13, 14, 15, 16, 17, 18, 19, 20, 21, 22, 23, 24, 25, 26, 0] (by decide) rfl
        refine W.widen (k := 1) (n := 6) (Nat.le_of_ble_eq_true rfl) (Nat.le_of_ble_eq_true rfl) ?_
        exact W.iret (v := 1) hx hb hr (fun t ht hW => ⟨⟨1, (n2, n3, n4, n5, n6, n7, n8, n9, n10, gou, n11, n12, n13, n14, n15, n16, n17, n18, n19), rfl, ⟨bn11, bn14, bn15, bn16, bn17, bn18, bn19, trivial⟩, va_P.he ht.symm hP9, va_K.moved hW.alike hK, hD9⟩, hS.F ht⟩) hS.2.2 d_LW_call_13
      · dsimp only
        refine lv_astore_n (lv' := [(3, .ref xx), (0, .ref h0), (1, .int p0), (2, .ref ou)]) hx hb d_LW_call_14 rfl hl (by decide) rfl (fun ls hl => ?_)
        refine lv_iconst (v := 2) hx hb d_LW_call_15 (by decide) ?_
        have hP9 := hP.sb (wq := (wz_634 h0 ta rw ag n11 n12 h0_place h0_loaded wa ws h0_program_r h0_coder_r h0_reader_r h0_validator_r ma ag cag gag wa wab wac wa_typeCount watt watp watg wa_functionCount waft wa_hasMemory wa_pagesLeast wa_pagesMost wa_globalCount wagt wafy wafv wagc wa_exportCount waek waei waes waez watt cwatt gwatt watp cwatp gwatp watg cwatg gwatg waft cwaft gwaft wac wacfi waclk wacly wac_length wacop wacva wacpt wacel wac_labelCount wacla wacfi cwacfi gwacfi waclk cwaclk gwaclk wacly cwacly gwacly wacop cwacop gwacop wacva cwacva gwacva wacpt cwacpt gwacpt wacel cwacel gwacel wacla cwacla gwacla ma n17 n19 n18 magl wa wac mace mask n15 mafb mafs maff mafl n14 malb malh n16 n13 magl cmagl n7 mace cmace n2 mask cmask n10 mafb cmafb n3 mafs cmafs n6 maff cmaff n4 mafl cmafl n5 malb cmalb n8 malh cmalh n9 ou cou gou)) [1, 2, 3, 4, 5, 6, 7, 8, 9, 10, 11, 12, 13, 14, 15, 16, 17, 18, 19, 20, 21, 22, 23, 24, 25, 26, 0] rfl
        have hD9 := hD.sb (wq := (wz_634 h0 ta rw ag n11 n12 h0_place h0_loaded wa ws h0_program_r h0_coder_r h0_reader_r h0_validator_r ma ag cag gag wa wab wac wa_typeCount watt watp watg wa_functionCount waft wa_hasMemory wa_pagesLeast wa_pagesMost wa_globalCount wagt wafy wafv wagc wa_exportCount waek waei waes waez watt cwatt gwatt watp cwatp gwatp watg cwatg gwatg waft cwaft gwaft wac wacfi waclk wacly wac_length wacop wacva wacpt wacel wac_labelCount wacla wacfi cwacfi gwacfi waclk cwaclk gwaclk wacly cwacly gwacly wacop cwacop gwacop wacva cwacva gwacva wacpt cwacpt gwacpt wacel cwacel gwacel wacla cwacla gwacla ma n17 n19 n18 magl wa wac mace mask n15 mafb mafs maff mafl n14 malb malh n16 n13 magl cmagl n7 mace cmace n2 mask cmask n10 mafb cmafb n3 mafs cmafs n6 maff cmaff n4 mafl cmafl n5 malb cmalb n8 malh cmalh n9 ou cou gou)) [1, 2, 3, 4, 5, 6, 7, 8, 9, 10, 11, 12, 13, 14, 15, 16, 17, 18, 19, 20, 21, 22, 23, 24, 25, 26, 0] (by decide) rfl
        refine W.widen (k := 1) (n := 6) (Nat.le_of_ble_eq_true rfl) (Nat.le_of_ble_eq_true rfl) ?_
        exact W.iret (v := 2) hx hb hr (fun t ht hW => ⟨⟨2, (n2, n3, n4, n5, n6, n7, n8, n9, n10, gou, n11, n12, n13, n14, n15, n16, n17, n18, n19), rfl, ⟨bn11, bn14, bn15, bn16, bn17, bn18, bn19, trivial⟩, va_P.he ht.symm hP9, va_K.moved hW.alike hK, hD9⟩, hS.F ht⟩) hS.2.2 d_LW_call_16
      · dsimp only
        refine lv_astore_n (lv' := [(3, .ref xx), (0, .ref h0), (1, .int p0), (2, .ref ou)]) hx hb d_LW_call_17 rfl hl (by decide) rfl (fun ls hl => ?_)
        refine lv_iconst (v := 3) hx hb d_LW_call_18 (by decide) ?_
        have hP9 := hP.sb (wq := (wz_634 h0 ta rw ag n11 n12 h0_place h0_loaded wa ws h0_program_r h0_coder_r h0_reader_r h0_validator_r ma ag cag gag wa wab wac wa_typeCount watt watp watg wa_functionCount waft wa_hasMemory wa_pagesLeast wa_pagesMost wa_globalCount wagt wafy wafv wagc wa_exportCount waek waei waes waez watt cwatt gwatt watp cwatp gwatp watg cwatg gwatg waft cwaft gwaft wac wacfi waclk wacly wac_length wacop wacva wacpt wacel wac_labelCount wacla wacfi cwacfi gwacfi waclk cwaclk gwaclk wacly cwacly gwacly wacop cwacop gwacop wacva cwacva gwacva wacpt cwacpt gwacpt wacel cwacel gwacel wacla cwacla gwacla ma n17 n19 n18 magl wa wac mace mask n15 mafb mafs maff mafl n14 malb malh n16 n13 magl cmagl n7 mace cmace n2 mask cmask n10 mafb cmafb n3 mafs cmafs n6 maff cmaff n4 mafl cmafl n5 malb cmalb n8 malh cmalh n9 ou cou gou)) [1, 2, 3, 4, 5, 6, 7, 8, 9, 10, 11, 12, 13, 14, 15, 16, 17, 18, 19, 20, 21, 22, 23, 24, 25, 26, 0] rfl
        have hD9 := hD.sb (wq := (wz_634 h0 ta rw ag n11 n12 h0_place h0_loaded wa ws h0_program_r h0_coder_r h0_reader_r h0_validator_r ma ag cag gag wa wab wac wa_typeCount watt watp watg wa_functionCount waft wa_hasMemory wa_pagesLeast wa_pagesMost wa_globalCount wagt wafy wafv wagc wa_exportCount waek waei waes waez watt cwatt gwatt watp cwatp gwatp watg cwatg gwatg waft cwaft gwaft wac wacfi waclk wacly wac_length wacop wacva wacpt wacel wac_labelCount wacla wacfi cwacfi gwacfi waclk cwaclk gwaclk wacly cwacly gwacly wacop cwacop gwacop wacva cwacva gwacva wacpt cwacpt gwacpt wacel cwacel gwacel wacla cwacla gwacla ma n17 n19 n18 magl wa wac mace mask n15 mafb mafs maff mafl n14 malb malh n16 n13 magl cmagl n7 mace cmace n2 mask cmask n10 mafb cmafb n3 mafs cmafs n6 maff cmaff n4 mafl cmafl n5 malb cmalb n8 malh cmalh n9 ou cou gou)) [1, 2, 3, 4, 5, 6, 7, 8, 9, 10, 11, 12, 13, 14, 15, 16, 17, 18, 19, 20, 21, 22, 23, 24, 25, 26, 0] (by decide) rfl
        refine W.widen (k := 1) (n := 6) (Nat.le_of_ble_eq_true rfl) (Nat.le_of_ble_eq_true rfl) ?_
        exact W.iret (v := 3) hx hb hr (fun t ht hW => ⟨⟨3, (n2, n3, n4, n5, n6, n7, n8, n9, n10, gou, n11, n12, n13, n14, n15, n16, n17, n18, n19), rfl, ⟨bn11, bn14, bn15, bn16, bn17, bn18, bn19, trivial⟩, va_P.he ht.symm hP9, va_K.moved hW.alike hK, hD9⟩, hS.F ht⟩) hS.2.2 d_LW_call_19
  obtain ⟨n20, n21, n22, n23, n24, n25, n26, n27, n28, n29, hq9r⟩ := u
  obtain ⟨n30, n31, n32, n33, n34, n35, n36, n37⟩ := hq9r
  try dsimp only at hw
  obtain ⟨bn29, bn32, bn33, bn34, bn35, bn36, bn37, xr1⟩ := hw
  try clear hw
  obtain ⟨hP1, hK1, hD1⟩ := hB
  replace hP1 := va_P.he ht hP1
  obtain ⟨hP, hD⟩ := va_join (wr := [(ou, .inl (cou, 1, .inr (.inl gou)))]) (w1 := (wz_268 h0 ta rw ag n29 n30 h0_place h0_loaded wa ws h0_program_r h0_coder_r h0_reader_r h0_validator_r ma ag cag gag wa wab wac wa_typeCount watt watp watg wa_functionCount waft wa_hasMemory wa_pagesLeast wa_pagesMost wa_globalCount wagt wafy wafv wagc wa_exportCount waek waei waes waez watt cwatt gwatt watp cwatp gwatp watg cwatg gwatg waft cwaft gwaft wac wacfi waclk wacly wac_length wacop wacva wacpt wacel wac_labelCount wacla wacfi cwacfi gwacfi waclk cwaclk gwaclk wacly cwacly gwacly wacop cwacop gwacop wacva cwacva gwacva wacpt cwacpt gwacpt wacel cwacel gwacel wacla cwacla gwacla ma n35 n37 n36 magl wa wac mace mask n33 mafb mafs maff mafl n32 malb malh n34 n31 magl cmagl n25 mace cmace n20 mask cmask n28 mafb cmafb n21 mafs cmafs n24 maff cmaff n22 mafl cmafl n23 malb cmalb n26 malh cmalh n27)) hP hD [0, 1, 2, 3, 4, 5, 6, 7, 8, 9, 10, 11, 12, 13, 14, 15, 16, 17, 18, 19, 20, 21, 22, 23, 24, 25] [26] rfl rfl (by decide) (by decide) hk1 hFc hP1 hD1
  clear hPc hDc hKc hFc hz1 hk1 hP1 hK1 hD1
  rename Heap => H
  have hP : va_P (dC, dI) cls (wz_635 ou cou gou h0 ta rw ag n29 n30 h0_place h0_loaded wa ws h0_program_r h0_coder_r h0_reader_r h0_validator_r ma ag cag gag wa wab wac wa_typeCount watt watp watg wa_functionCount waft wa_hasMemory wa_pagesLeast wa_pagesMost wa_globalCount wagt wafy wafv wagc wa_exportCount waek waei waes waez watt cwatt gwatt watp cwatp gwatp watg cwatg gwatg waft cwaft gwaft wac wacfi waclk wacly wac_length wacop wacva wacpt wacel wac_labelCount wacla wacfi cwacfi gwacfi waclk cwaclk gwaclk wacly cwacly gwacly wacop cwacop gwacop wacva cwacva gwacva wacpt cwacpt gwacpt wacel cwacel gwacel wacla cwacla gwacla ma n35 n37 n36 magl wa wac mace mask n33 mafb mafs maff mafl n32 malb malh n34 n31 magl cmagl n25 mace cmace n20 mask cmask n28 mafb cmafb n21 mafs cmafs n24 maff cmaff n22 mafl cmafl n23 malb cmalb n26 malh cmalh n27) H := hP
  have hD : va_D A (wz_635 ou cou gou h0 ta rw ag n29 n30 h0_place h0_loaded wa ws h0_program_r h0_coder_r h0_reader_r h0_validator_r ma ag cag gag wa wab wac wa_typeCount watt watp watg wa_functionCount waft wa_hasMemory wa_pagesLeast wa_pagesMost wa_globalCount wagt wafy wafv wagc wa_exportCount waek waei waes waez watt cwatt gwatt watp cwatp gwatp watg cwatg gwatg waft cwaft gwaft wac wacfi waclk wacly wac_length wacop wacva wacpt wacel wac_labelCount wacla wacfi cwacfi gwacfi waclk cwaclk gwaclk wacly cwacly gwacly wacop cwacop gwacop wacva cwacva gwacva wacpt cwacpt gwacpt wacel cwacel gwacel wacla cwacla gwacla ma n35 n37 n36 magl wa wac mace mask n33 mafb mafs maff mafl n32 malb malh n34 n31 magl cmagl n25 mace cmace n20 mask cmask n28 mafb cmafb n21 mafs cmafs n24 maff cmaff n22 mafl cmafl n23 malb cmalb n26 malh cmalh n27) := hD
  have g7 : vp_in 0 1 := vp_in_iff.mpr ⟨by (first | (apply Int.le_antisymm <;> omega) | omega), by (first | (apply Int.le_antisymm <;> omega) | omega)⟩
  refine va_last hx hb hK hP hD hS 0 22 rfl rfl g7 d_LW_call_7 (fun H locs hP hD hS => ?_)
  generalize ef38 : vp_updL gou (0 : Int32).toNatClampNeg r1 = f38 at hP hD
  refine lv_goto (tgt := 20) hx hb d_LW_call_8 (by decide) ?_
  refine lv_iconst (v := 0) hx hb d_LW_call_20 (by decide) ?_
  have hP9 := hP.sb (wq := (wz_634 h0 ta rw ag n29 n30 h0_place h0_loaded wa ws h0_program_r h0_coder_r h0_reader_r h0_validator_r ma ag cag gag wa wab wac wa_typeCount watt watp watg wa_functionCount waft wa_hasMemory wa_pagesLeast wa_pagesMost wa_globalCount wagt wafy wafv wagc wa_exportCount waek waei waes waez watt cwatt gwatt watp cwatp gwatp watg cwatg gwatg waft cwaft gwaft wac wacfi waclk wacly wac_length wacop wacva wacpt wacel wac_labelCount wacla wacfi cwacfi gwacfi waclk cwaclk gwaclk wacly cwacly gwacly wacop cwacop gwacop wacva cwacva gwacva wacpt cwacpt gwacpt wacel cwacel gwacel wacla cwacla gwacla ma n35 n37 n36 magl wa wac mace mask n33 mafb mafs maff mafl n32 malb malh n34 n31 magl cmagl n25 mace cmace n20 mask cmask n28 mafb cmafb n21 mafs cmafs n24 maff cmaff n22 mafl cmafl n23 malb cmalb n26 malh cmalh n27 ou cou f38)) [1, 2, 3, 4, 5, 6, 7, 8, 9, 10, 11, 12, 13, 14, 15, 16, 17, 18, 19, 20, 21, 22, 23, 24, 25, 26, 0] rfl
  have hD9 := hD.sb (wq := (wz_634 h0 ta rw ag n29 n30 h0_place h0_loaded wa ws h0_program_r h0_coder_r h0_reader_r h0_validator_r ma ag cag gag wa wab wac wa_typeCount watt watp watg wa_functionCount waft wa_hasMemory wa_pagesLeast wa_pagesMost wa_globalCount wagt wafy wafv wagc wa_exportCount waek waei waes waez watt cwatt gwatt watp cwatp gwatp watg cwatg gwatg waft cwaft gwaft wac wacfi waclk wacly wac_length wacop wacva wacpt wacel wac_labelCount wacla wacfi cwacfi gwacfi waclk cwaclk gwaclk wacly cwacly gwacly wacop cwacop gwacop wacva cwacva gwacva wacpt cwacpt gwacpt wacel cwacel gwacel wacla cwacla gwacla ma n35 n37 n36 magl wa wac mace mask n33 mafb mafs maff mafl n32 malb malh n34 n31 magl cmagl n25 mace cmace n20 mask cmask n28 mafb cmafb n21 mafs cmafs n24 maff cmaff n22 mafl cmafl n23 malb cmalb n26 malh cmalh n27 ou cou f38)) [1, 2, 3, 4, 5, 6, 7, 8, 9, 10, 11, 12, 13, 14, 15, 16, 17, 18, 19, 20, 21, 22, 23, 24, 25, 26, 0] (by decide) rfl
  refine W.widen (k := 1) (n := 6) (Nat.le_of_ble_eq_true rfl) (Nat.le_of_ble_eq_true rfl) ?_
  exact W.iret (v := 0) hx hb hr (fun t ht hW => ⟨⟨0, (n20, n21, n22, n23, n24, n25, n26, n27, n28, f38, n29, n30, n31, n32, n33, n34, n35, n36, n37), rfl, ⟨bn29, bn32, bn33, bn34, bn35, bn36, bn37, trivial⟩, va_P.he ht.symm hP9, va_K.moved hW.alike hK, hD9⟩, hS.F ht⟩) hS.2.2 d_LW_call_21
end q_n42
section q_n43
/-! the law: the class's world, as one -/
theorem p2_at {D : va_G} {q : Nat × va_E} {H : Heap} (h : (match q.2 with | .inl _ => true | .inr o => decide (o.1 < 11)) = true) : va_at D cls q H ↔ va_at D cls2 q H := by
  obtain ⟨a, e⟩ := q
  cases e with
  | inl e => exact Iff.rfl
  | inr o =>
    have ho : o.1 < 11 := of_decide_eq_true h
    have e1 : cls2[o.1]? = cls[o.1]? := by
      rw [show cls2 = cls ++ [(R_MR, F_MR, 8), (R_JS, F_JS, 4), (R_JB, F_JB, 4)] from rfl, List.getElem?_append_left (Nat.lt_of_lt_of_le ho (by decide))]
    unfold va_at
    dsimp only
    rw [e1]
def p2_ok (ws : va_W) : Bool := ws.all (fun q => match q.2 with | .inl _ => true | .inr o => decide (o.1 < 11))
theorem p2_iff {D : va_G} {ws : va_W} {H : Heap} (h : p2_ok ws = true) : va_P D cls ws H ↔ va_P D cls2 ws H := by
  rw [vq_P, vq_P]
  have h2 := List.all_eq_true.mp h
  exact ⟨fun g q hq => (p2_at (h2 q hq)).mp (g q hq), fun g q hq => (p2_at (h2 q hq)).mpr (g q hq)⟩
set_option maxRecDepth 100000 in
def XW (dC : Nat → ClassId) (dI : Nat → Nat → Nat) (sa : Nat → Nat) (U : State) (h0 ou : Nat) (tl : Int) (ov : Int64) (wl : va_W) : Prop := ∃ (ad : Nat → Nat) (cd : Nat → ClassId) (iv : Nat → Int32) (lv : Nat → Int64) (fi : Nat → Nat → Int32) (fl : Nat → Nat → Int64) (vv : Nat → Value) (sc_sign : Nat) (gss : Nat → Option Nat) (gpg : Nat → Option Nat) (gwg : Nat → Option Nat), wl = ((h0, .inr (0, [.ref (ad 0), .ref (ad 1), .ref (ad 2), .int (iv 0), .int (iv 1), .int (iv 2), .int (iv 3), .ref (ad 3), .ref (ad 4), .ref (ad 5), .ref (ad 6), .ref (ad 7), .ref (ad 8), .ref (ad 9)])) :: ((ad 0), .inr (1, [.ref (ad 10), .int (iv 4)])) :: ((ad 10), .inl ((cd 0), 2000, .inl (fi 0))) :: ((ad 1), .inr (1, [.ref (ad 11), .int (iv 5)])) :: ((ad 11), .inl ((cd 1), 8192, .inl (fi 1))) :: ((ad 2), .inl ((cd 2), 8, .inr (.inl (fl 0)))) :: ((ad 3), .inr (10, [.ref (ad 12), .ref (ad 13), .int (iv 6), .ref (ad 14), .ref (ad 15), .ref (ad 16), .int (iv 7), .ref (ad 17), .int (iv 8), .long (lv 0), .long (lv 1), .int (iv 9), .ref (ad 18), .ref (ad 19), .ref (ad 20), .ref (ad 21), .int (iv 10), .ref (ad 22), .ref (ad 23), .ref (ad 24), .ref (ad 25)])) :: ((ad 12), .inr (1, [.ref (ad 26), .int (iv 11)])) :: ((ad 26), .inl ((cd 3), 8192, .inl (fi 2))) :: ((ad 14), .inl ((cd 4), 20, .inl (fi 3))) :: ((ad 15), .inl ((cd 5), 160, .inl (fi 4))) :: ((ad 16), .inl ((cd 6), 20, .inl (fi 5))) :: ((ad 17), .inl ((cd 7), 30, .inl (fi 6))) :: ((ad 18), .inl ((cd 8), 20, .inl (fi 7))) :: ((ad 19), .inl ((cd 9), 20, .inl (fi 8))) :: ((ad 20), .inl ((cd 10), 20, .inr (.inl (fl 1)))) :: ((ad 21), .inl ((cd 11), 20, .inl (fi 9))) :: ((ad 22), .inl ((cd 12), 40, .inl (fi 10))) :: ((ad 23), .inl ((cd 13), 40, .inl (fi 11))) :: ((ad 24), .inl ((cd 14), 40, .inl (fi 12))) :: ((ad 25), .inl ((cd 15), 40, .inl (fi 13))) :: ((ad 13), .inr (3, [.ref (ad 27), .ref (ad 28), .ref (ad 29), .int (iv 12), .ref (ad 30), .ref (ad 31), .ref (ad 32), .ref (ad 33), .int (iv 13), .ref (ad 34)])) :: ((ad 27), .inl ((cd 16), 31, .inl (fi 14))) :: ((ad 28), .inl ((cd 17), 30, .inl (fi 15))) :: ((ad 29), .inl ((cd 18), 1800, .inl (fi 16))) :: ((ad 30), .inl ((cd 19), 5000, .inl (fi 17))) :: ((ad 31), .inl ((cd 20), 5000, .inr (.inl (fl 2)))) :: ((ad 32), .inl ((cd 21), 5000, .inl (fi 18))) :: ((ad 33), .inl ((cd 22), 5000, .inl (fi 19))) :: ((ad 34), .inl ((cd 23), 2000, .inl (fi 20))) :: ((ad 4), .inr (10, [.ref (ad 35), .ref (ad 36), .int (iv 14), .ref (ad 37), .ref (ad 38), .ref (ad 39), .int (iv 15), .ref (ad 40), .int (iv 16), .long (lv 2), .long (lv 3), .int (iv 17), .ref (ad 41), .ref (ad 42), .ref (ad 43), .ref (ad 44), .int (iv 18), .ref (ad 45), .ref (ad 46), .ref (ad 47), .ref (ad 48)])) :: ((ad 35), .inr (1, [.ref (ad 49), .int (iv 19)])) :: ((ad 49), .inl ((cd 24), 8192, .inl (fi 21))) :: ((ad 37), .inl ((cd 25), 20, .inl (fi 22))) :: ((ad 38), .inl ((cd 26), 160, .inl (fi 23))) :: ((ad 39), .inl ((cd 27), 20, .inl (fi 24))) :: ((ad 40), .inl ((cd 28), 30, .inl (fi 25))) :: ((ad 41), .inl ((cd 29), 20, .inl (fi 26))) :: ((ad 42), .inl ((cd 30), 20, .inl (fi 27))) :: ((ad 43), .inl ((cd 31), 20, .inr (.inl (fl 3)))) :: ((ad 44), .inl ((cd 32), 20, .inl (fi 28))) :: ((ad 45), .inl ((cd 33), 40, .inl (fi 29))) :: ((ad 46), .inl ((cd 34), 40, .inl (fi 30))) :: ((ad 47), .inl ((cd 35), 40, .inl (fi 31))) :: ((ad 48), .inl ((cd 36), 40, .inl (fi 32))) :: ((ad 36), .inr (3, [.ref (ad 50), .ref (ad 51), .ref (ad 52), .int (iv 20), .ref (ad 53), .ref (ad 54), .ref (ad 55), .ref (ad 56), .int (iv 21), .ref (ad 57)])) :: ((ad 50), .inl ((cd 37), 31, .inl (fi 33))) :: ((ad 51), .inl ((cd 38), 30, .inl (fi 34))) :: ((ad 52), .inl ((cd 39), 1800, .inl (fi 35))) :: ((ad 53), .inl ((cd 40), 5000, .inl (fi 36))) :: ((ad 54), .inl ((cd 41), 5000, .inr (.inl (fl 4)))) :: ((ad 55), .inl ((cd 42), 5000, .inl (fi 37))) :: ((ad 56), .inl ((cd 43), 5000, .inl (fi 38))) :: ((ad 57), .inl ((cd 44), 2000, .inl (fi 39))) :: ((ad 9), .inr (4, [.int (iv 22), .int (iv 23), .int (iv 24), .ref (ad 58), (vv 0), (vv 1), .ref (ad 59), .ref (ad 60), .int (iv 25), .ref (ad 61), .ref (ad 62), .ref (ad 63), .ref (ad 64), .int (iv 26), .ref (ad 65), .ref (ad 66), .int (iv 27), .int (iv 28)])) :: ((ad 58), .inl ((cd 45), 20, .inr (.inl (fl 5)))) :: ((ad 59), .inl ((cd 46), 16384, .inr (.inl (fl 6)))) :: ((ad 60), .inl ((cd 47), 12096, .inr (.inl (fl 7)))) :: ((ad 61), .inl ((cd 48), 100, .inl (fi 40))) :: ((ad 62), .inl ((cd 49), 100, .inl (fi 41))) :: ((ad 63), .inl ((cd 50), 100, .inl (fi 42))) :: ((ad 64), .inl ((cd 51), 100, .inl (fi 43))) :: ((ad 65), .inl ((cd 52), 10000, .inl (fi 44))) :: ((ad 66), .inl ((cd 53), 10000, .inl (fi 45))) :: ((ad 5), .inr (6, [.ref (ad 67), .ref (ad 68), .ref (ad 69), .ref (ad 70), .ref (ad 71), .ref (ad 72), .ref (ad 73), .ref (ad 74), .ref (ad 75), .ref (ad 76), .int (iv 29), .int (iv 30), .ref (ad 77), .int (iv 31), .int (iv 32), .int (iv 33), .ref (ad 78), .ref (ad 79), .int (iv 34)])) :: ((ad 77), .inr (8, [.ref (ad 0), .ref (sg sa sc_sign), .int (iv 35), .int (iv 36), .long (lv 4), .ref (ad 80), .ref (ad 81), .ref (ad 82), .ref (ad 83), .int (iv 37), .int (iv 38)])) :: ((ad 80), .inl ((cd 54), 2001, .inr (.inr (.inr (.inr (fun j => (gss j).map (sg sa))))))) :: ((ad 81), .inl ((cd 55), 2001, .inl (fi 46))) :: ((ad 82), .inl ((cd 56), 2001, .inl (fi 47))) :: ((ad 83), .inl ((cd 57), 2001, .inr (.inl (fl 8)))) :: ((ad 70), .inl ((cd 58), 21, .inl (fi 48))) :: ((ad 71), .inl ((cd 59), 21, .inl (fi 49))) :: ((ad 72), .inl ((cd 60), 4100, .inl (fi 50))) :: ((ad 73), .inl ((cd 61), 4100, .inr (.inr (.inr (.inr (fun j => (gpg j).map (sg sa))))))) :: ((ad 74), .inl ((cd 62), 4100, .inl (fi 51))) :: ((ad 75), .inl ((cd 63), 4100, .inl (fi 52))) :: ((ad 76), .inl ((cd 64), 4100, .inr (.inl (fl 9)))) :: ((ad 78), .inl ((cd 65), 360, .inr (.inr (.inr (.inr (fun j => (gwg j).map (sg sa))))))) :: ((ad 79), .inl ((cd 66), 360, .inl (fi 53))) :: ((ad 67), .inr (5, [.ref (ad 0), .ref (ad 84), .ref (ad 85), .ref (ad 86), .ref (ad 87), .int (iv 39)])) :: ((ad 84), .inl ((cd 67), 20, .inl (fi 54))) :: ((ad 85), .inl ((cd 68), 20, .inl (fi 55))) :: ((ad 86), .inl ((cd 69), 20, .inl (fi 56))) :: ((ad 87), .inl ((cd 70), 20, .inr (.inl (fl 10)))) :: ((ad 68), .inr (5, [.ref (ad 0), .ref (ad 88), .ref (ad 89), .ref (ad 90), .ref (ad 91), .int (iv 40)])) :: ((ad 88), .inl ((cd 71), 20, .inl (fi 57))) :: ((ad 89), .inl ((cd 72), 20, .inl (fi 58))) :: ((ad 90), .inl ((cd 73), 20, .inl (fi 59))) :: ((ad 91), .inl ((cd 74), 20, .inr (.inl (fl 11)))) :: ((ad 69), .inr (5, [.ref (ad 0), .ref (ad 92), .ref (ad 93), .ref (ad 94), .ref (ad 95), .int (iv 41)])) :: ((ad 92), .inl ((cd 75), 160, .inl (fi 60))) :: ((ad 93), .inl ((cd 76), 160, .inl (fi 61))) :: ((ad 94), .inl ((cd 77), 160, .inl (fi 62))) :: ((ad 95), .inl ((cd 78), 160, .inr (.inl (fl 12)))) :: ((ad 6), .inr (2, [.ref (ad 5), .ref (ad 96), .ref (ad 97), .int (iv 42), .ref (ad 98), .int (iv 43), .int (iv 44), .int (iv 45), .int (iv 46), .ref (ad 99), .ref (ad 100), .ref (ad 101), .ref (ad 102)])) :: ((ad 97), .inl ((cd 79), 50, .inl (fi 63))) :: ((ad 98), .inl ((cd 80), 680, .inl (fi 64))) :: ((ad 99), .inl ((cd 81), 20, .inl (fi 65))) :: ((ad 100), .inr (1, [.ref (ad 103), .int (iv 47)])) :: ((ad 103), .inl ((cd 82), 8192, .inl (fi 66))) :: ((ad 101), .inr (1, [.ref (ad 104), .int (iv 48)])) :: ((ad 104), .inl ((cd 83), 8192, .inl (fi 67))) :: ((ad 102), .inr (1, [.ref (ad 105), .int (iv 49)])) :: ((ad 105), .inl ((cd 84), 8192, .inl (fi 68))) :: ((ad 96), .inr (5, [.ref (ad 0), .ref (ad 106), .ref (ad 107), .ref (ad 108), .ref (ad 109), .int (iv 50)])) :: ((ad 106), .inl ((cd 85), 50, .inl (fi 69))) :: ((ad 107), .inl ((cd 86), 50, .inl (fi 70))) :: ((ad 108), .inl ((cd 87), 50, .inl (fi 71))) :: ((ad 109), .inl ((cd 88), 50, .inr (.inl (fl 13)))) :: ((ad 7), .inr (7, [(vv 2), (vv 3), .int (iv 51), .int (iv 52), .int (iv 53), .int (iv 54), .ref (ad 110), .int (iv 55)])) :: ((ad 110), .inl ((cd 89), 100, .inl (fi 72))) :: ((ad 8), .inr (9, [(vv 4), (vv 5), .int (iv 56), .int (iv 57), .ref (ad 111), .int (iv 58), .ref (ad 112), .ref (ad 113), .ref (ad 114), .ref (ad 115), .int (iv 59)])) :: ((ad 111), .inl ((cd 90), 5000, .inl (fi 73))) :: ((ad 112), .inl ((cd 91), 101, .inl (fi 74))) :: ((ad 113), .inl ((cd 92), 101, .inl (fi 75))) :: ((ad 114), .inl ((cd 93), 101, .inl (fi 76))) :: ((ad 115), .inl ((cd 94), 101, .inl (fi 77))) :: (ou, .inl ((cd 95), 1, .inr (.inl (fl 14)))) :: []) ∧ va_K (dC, dI) cls (((cd 0), .byte) :: ((cd 1), .byte) :: ((cd 2), .long) :: ((cd 3), .byte) :: ((cd 4), .int) :: ((cd 5), .int) :: ((cd 6), .int) :: ((cd 7), .int) :: ((cd 8), .int) :: ((cd 9), .int) :: ((cd 10), .long) :: ((cd 11), .boolean) :: ((cd 12), .int) :: ((cd 13), .int) :: ((cd 14), .int) :: ((cd 15), .int) :: ((cd 16), .int) :: ((cd 17), .int) :: ((cd 18), .int) :: ((cd 19), .int) :: ((cd 20), .long) :: ((cd 21), .int) :: ((cd 22), .int) :: ((cd 23), .int) :: ((cd 24), .byte) :: ((cd 25), .int) :: ((cd 26), .int) :: ((cd 27), .int) :: ((cd 28), .int) :: ((cd 29), .int) :: ((cd 30), .int) :: ((cd 31), .long) :: ((cd 32), .boolean) :: ((cd 33), .int) :: ((cd 34), .int) :: ((cd 35), .int) :: ((cd 36), .int) :: ((cd 37), .int) :: ((cd 38), .int) :: ((cd 39), .int) :: ((cd 40), .int) :: ((cd 41), .long) :: ((cd 42), .int) :: ((cd 43), .int) :: ((cd 44), .int) :: ((cd 45), .long) :: ((cd 46), .long) :: ((cd 47), .long) :: ((cd 48), .int) :: ((cd 49), .int) :: ((cd 50), .int) :: ((cd 51), .int) :: ((cd 52), .int) :: ((cd 53), .int) :: ((cd 54), .object "WaferForge$Sign") :: ((cd 55), .int) :: ((cd 56), .int) :: ((cd 57), .long) :: ((cd 58), .int) :: ((cd 59), .int) :: ((cd 60), .int) :: ((cd 61), .object "WaferForge$Sign") :: ((cd 62), .int) :: ((cd 63), .int) :: ((cd 64), .long) :: ((cd 65), .object "WaferForge$Sign") :: ((cd 66), .int) :: ((cd 67), .int) :: ((cd 68), .int) :: ((cd 69), .int) :: ((cd 70), .long) :: ((cd 71), .int) :: ((cd 72), .int) :: ((cd 73), .int) :: ((cd 74), .long) :: ((cd 75), .int) :: ((cd 76), .int) :: ((cd 77), .int) :: ((cd 78), .long) :: ((cd 79), .int) :: ((cd 80), .int) :: ((cd 81), .int) :: ((cd 82), .byte) :: ((cd 83), .byte) :: ((cd 84), .byte) :: ((cd 85), .int) :: ((cd 86), .int) :: ((cd 87), .int) :: ((cd 88), .long) :: ((cd 89), .int) :: ((cd 90), .int) :: ((cd 91), .int) :: ((cd 92), .int) :: ((cd 93), .int) :: ((cd 94), .boolean) :: ((cd 95), .long) :: []) U ∧ ((iv 3) = 0 ∨ (iv 3) = 1) ∧ (0 ≤ (iv 4).toInt ∧ (iv 4).toInt ≤ 2000) ∧ (0 ≤ (iv 14).toInt ∧ (iv 14).toInt ≤ 20) ∧ (0 ≤ (iv 15).toInt ∧ (iv 15).toInt ≤ 30) ∧ ((iv 16) = 0 ∨ (iv 16) = 1) ∧ (0 ≤ (iv 17).toInt ∧ (iv 17).toInt ≤ 20) ∧ (0 ≤ (iv 18).toInt ∧ (iv 18).toInt ≤ 40) ∧ (0 ≤ (iv 19).toInt ∧ (iv 19).toInt ≤ 8192) ∧ (0 ≤ (iv 20).toInt ∧ (iv 20).toInt ≤ 5000) ∧ (0 ≤ (iv 21).toInt ∧ (iv 21).toInt ≤ 2000) ∧ (0 ≤ (iv 22).toInt ∧ (iv 22).toInt ≤ 2) ∧ (0 ≤ (iv 31).toInt ∧ (iv 31).toInt ≤ 4100) ∧ (0 ≤ (iv 32).toInt ∧ (iv 32).toInt ≤ 40) ∧ (0 ≤ (iv 33).toInt ∧ (iv 33).toInt ≤ 400) ∧ (0 ≤ (iv 34).toInt ∧ (iv 34).toInt ≤ 360) ∧ (sc_sign < 55) ∧ (0 ≤ (iv 35).toInt ∧ (iv 35).toInt ≤ 2000) ∧ (0 ≤ (iv 36).toInt ∧ (iv 36).toInt ≤ 2000) ∧ (0 ≤ (iv 37).toInt ∧ (iv 37).toInt ≤ 2001) ∧ (-1 ≤ (iv 38).toInt ∧ (iv 38).toInt ≤ 2000) ∧ (0 ≤ (iv 39).toInt ∧ (iv 39).toInt ≤ 20) ∧ (0 ≤ (iv 40).toInt ∧ (iv 40).toInt ≤ 20) ∧ (0 ≤ (iv 41).toInt ∧ (iv 41).toInt ≤ 160) ∧ (0 ≤ (iv 42).toInt ∧ (iv 42).toInt ≤ 50) ∧ (0 ≤ (iv 43).toInt ∧ (iv 43).toInt ≤ 680) ∧ (0 ≤ (iv 47).toInt ∧ (iv 47).toInt ≤ 8192) ∧ (0 ≤ (iv 48).toInt ∧ (iv 48).toInt ≤ 8192) ∧ (0 ≤ (iv 49).toInt ∧ (iv 49).toInt ≤ 8192) ∧ (0 ≤ (iv 50).toInt ∧ (iv 50).toInt ≤ 50) ∧ ((iv 53) = 0 ∨ (iv 53) = 1) ∧ (0 ≤ (iv 54).toInt ∧ (iv 54).toInt ≤ 30) ∧ (0 ≤ (iv 55).toInt ∧ (iv 55).toInt ≤ 100) ∧ (∀ j : Nat, ((fi 73) j).toInt ≠ 64) ∧ (∀ j : Nat, 0 ≤ ((fi 76) j).toInt ∧ ((fi 76) j).toInt ≤ 5000) ∧ (0 ≤ (iv 5).toInt ∧ (iv 5).toInt ≤ 8192) ∧ (0 ≤ (iv 0).toInt ∧ (iv 0).toInt ≤ 8) ∧ (0 ≤ (iv 7).toInt ∧ (iv 7).toInt ≤ 30) ∧ (0 ≤ (iv 9).toInt ∧ (iv 9).toInt ≤ 20) ∧ (0 ≤ (iv 23).toInt ∧ (iv 23).toInt ≤ 100001) ∧ (0 ≤ (iv 11).toInt ∧ (iv 11).toInt ≤ 8192) ∧ ((iv 56) = 0 ∨ (iv 56) = 1) ∧ (0 ≤ (iv 58).toInt ∧ (iv 58).toInt ≤ 5000) ∧ (0 ≤ (iv 59).toInt ∧ (iv 59).toInt ≤ 101) ∧ (0 ≤ (iv 12).toInt ∧ (iv 12).toInt ≤ 5000) ∧ (0 ≤ (iv 24).toInt ∧ (iv 24).toInt ≤ 14) ∧ (0 ≤ (iv 25).toInt ∧ (iv 25).toInt ≤ 12096) ∧ (0 ≤ (iv 26).toInt ∧ (iv 26).toInt ≤ 100) ∧ (0 ≤ (iv 27).toInt ∧ (iv 27).toInt ≤ 10000) ∧ (0 ≤ (iv 10).toInt ∧ (iv 10).toInt ≤ 40) ∧ (0 ≤ (iv 6).toInt ∧ (iv 6).toInt ≤ 20) ∧ ((iv 8) = 0 ∨ (iv 8) = 1) ∧ (0 ≤ (iv 13).toInt ∧ (iv 13).toInt ≤ 2000) ∧ (iv 4).toInt = tl ∧ (fl 14) 0 = ov ∧ (∀ j : Nat, ((fi 38) j).toInt < 5000) ∧ (∀ j : Nat, ((fi 19) j).toInt < 5000) ∧ ((iv 3).toInt = 1 → (vv 0) = .ref (ad 3) ∧ (vv 1) = .ref (ad 13) ∧ mo_ok (iv 7).toInt (iv 9).toInt (fi 6) (fi 3) (fi 5) (fi 14) (fi 15) (fi 17) (fi 18) (fi 19) (fi 20) (fl 2))
end q_n43
section q_n44
/-! the law: contracts at a world as one -/
/-- a contract taken at a start of its own choice -/
theorem met_cq {l : Launch} {y : MethodName} {ws : List Cond} {rm : Room} {P1 : Array Value → State → Prop} {Q1 : Array Value → State → Outcome → State → Prop} {mc ms : Nat} {fr : Addr → Prop}
    (h : ∀ (a : Array Value) (s : State), P1 a s → ∃ (Pc : Array Value → State → Prop) (Qc : Array Value → State → Outcome → State → Prop) (f2 : Addr → Prop), Met l y ws rm Pc Qc mc ms f2 ∧ Pc a s ∧ (∀ (o : Outcome) (t : State), s.vm.Alike t.vm → Qc a s o t → Q1 a s o t) ∧ ∀ q, f2 q → fr q) : Met l y ws rm P1 Q1 mc ms fr := by
  intro p e ha hc hk s m args below hf happ hP _
  obtain ⟨Pc, Qc, f2, hM, hpc, hq, hfr⟩ := h args s hP
  obtain ⟨n, o, h1, h2, h3, h4, L, hF, hL⟩ := hM p e ha hc hk s m args below hf happ hpc trivial
  exact ⟨n, o, h1, h2, h3, hq _ _ hF.2.1.alike h4, L, hF, fun q hq2 => hfr _ (hL q hq2)⟩
/-- a world's part keeps what it may touch within the world's -/
theorem va_As {ws wc : va_W} {sz : Nat} (is : List Nat) (hs : is.map (fun i => ws[i]?) = wc.map some) : ∀ q, va_A wc sz q → va_A ws sz q := by
  intro q h
  rcases h with ⟨k, e, h⟩ | h
  · obtain ⟨i, -, h2⟩ := va_in_of is hs h
    exact Or.inl ⟨i, e, h2⟩
  · exact Or.inr h
theorem va_Af {ws wc : va_W} {sz : Nat} (_hD : va_D (va_A ws sz) ws) (is : List Nat) (hs : is.map (fun i => ws[i]?) = wc.map some) : ∀ q, va_A wc sz q → va_A ws sz q := va_As is hs
/-- two worlds side by side: a call has the second -/
theorem lj_y {A0 : Nat → Prop} {D : va_G} {cl : List vw_C} {wx wy wy1 : va_W} {H H1 : Heap} (hP : va_P D cl (wx ++ wy) H) (hD : va_D A0 (wx ++ wy)) (hk : ∀ q : Nat, q < H.size → ¬ va_A wy H.size q → H1[q]? = H[q]?) (hF : ∀ q, va_A wy H.size q → A0 q) (hP1 : va_P D cl wy1 H1) (hD1 : va_D (va_A wy H.size) wy1) : va_P D cl (wx ++ wy1) H1 ∧ va_D A0 (wx ++ wy1) :=
  va_joinR (X := []) (cx := []) (wr := []) (rx := []) (pr := wx) (pl := wy) (pl1 := wy1) hP hD [] [] rfl rfl (by decide) (by decide) hk hF hP1 hD1
/-- .. the first -/
theorem lj_x {A0 : Nat → Prop} {D : va_G} {cl : List vw_C} {wx wy wx1 : va_W} {H H1 : Heap} (hP : va_P D cl (wx ++ wy) H) (hD : va_D A0 (wx ++ wy)) (hk : ∀ q : Nat, q < H.size → ¬ va_A wx H.size q → H1[q]? = H[q]?) (hF : ∀ q, va_A wx H.size q → A0 q) (hP1 : va_P D cl wx1 H1) (hD1 : va_D (va_A wx H.size) wx1) : va_P D cl (wx1 ++ wy) H1 ∧ va_D A0 (wx1 ++ wy) := by
  obtain ⟨h1, h2⟩ := lj_y (vq_Pp List.perm_append_comm hP) (vq_Dp List.perm_append_comm hD) hk hF hP1 hD1
  exact ⟨vq_Pp List.perm_append_comm h1, vq_Dp List.perm_append_comm h2⟩
theorem lj_Px {D : va_G} {cl : List vw_C} {wx wy : va_W} {H : Heap} (hP : va_P D cl (wx ++ wy) H) : va_P D cl wx H := vq_P.mpr (fun q hq => vq_P.mp hP q (List.mem_append_left _ hq))
theorem lj_Py {D : va_G} {cl : List vw_C} {wx wy : va_W} {H : Heap} (hP : va_P D cl (wx ++ wy) H) : va_P D cl wy H := vq_P.mpr (fun q hq => vq_P.mp hP q (List.mem_append_right _ hq))
theorem lj_Dx {A0 : Nat → Prop} {wx wy : va_W} (hD : va_D A0 (wx ++ wy)) : va_D A0 wx := by
  obtain ⟨h1, h2⟩ := vq_D.mp hD
  exact vq_D.mpr ⟨List.Pairwise.sublist ((List.sublist_append_left wx wy).map _) h1, fun q hq => h2 q (List.mem_append_left _ hq)⟩
theorem lj_Dy {A0 : Nat → Prop} {wx wy : va_W} (hD : va_D A0 (wx ++ wy)) : va_D A0 wy := by
  obtain ⟨h1, h2⟩ := vq_D.mp hD
  exact vq_D.mpr ⟨List.Pairwise.sublist ((List.sublist_append_right wx wy).map _) h1, fun q hq => h2 q (List.mem_append_right _ hq)⟩
theorem lj_F {A0 : Nat → Prop} {w : va_W} {H0 H : Heap} {locs : List Loc} (hD : va_D A0 w) (hS : va_S A0 H0 H locs) (hA : ∀ q, H0.size ≤ q → A0 q) : ∀ q, va_A w H.size q → A0 q := by
  intro q h
  rcases h with ⟨k, e, h⟩ | h
  · exact hD.2 k _ h
  · exact hA q (Nat.le_trans hS.1 h)
/-- cells put at their places -/
def zs9 : List Nat → va_W → va_W → va_W
  | i :: is, c :: cs, ws => zs9 is cs (ws.set i c)
  | _, _, ws => ws
theorem zs_get : ∀ (is : List Nat) (cs ws : va_W) (i : Nat) (q : Nat × va_E), is.length = cs.length → (zs9 is cs ws)[i]? = some q → (∃ k : Nat, is[k]? = some i ∧ cs[k]? = some q) ∨ (i ∉ is ∧ ws[i]? = some q)
  | [], cs, ws, i, q, _, h => by
    have h : ws[i]? = some q := by cases cs <;> exact h
    exact Or.inr ⟨List.not_mem_nil, h⟩
  | i0 :: is, [], ws, i, q, hl, h => by simp at hl
  | i0 :: is, c :: cs, ws, i, q, hl, h => by
    have hl2 : is.length = cs.length := by simpa using hl
    rcases zs_get is cs (ws.set i0 c) i q hl2 h with ⟨k, h1, h2⟩ | ⟨h1, h2⟩
    · exact Or.inl ⟨k + 1, by simpa using h1, by simpa using h2⟩
    · rw [List.getElem?_set] at h2
      by_cases e : i0 = i
      · rw [if_pos e] at h2
        by_cases g : i0 < ws.length
        · rw [if_pos g] at h2
          exact Or.inl ⟨0, by simp [e], by simpa using h2⟩
        · rw [if_neg g] at h2
          cases h2
      · rw [if_neg e] at h2
        exact Or.inr ⟨fun z => by
          rcases List.mem_cons.mp z with z | z
          · exact e z.symm
          · exact h1 z, h2⟩
/-- what a call left goes back to its places -/
theorem va_zs {A0 : Nat → Prop} {D : va_G} {cl : List vw_C} {ws wc w1 : va_W} {H H1 : Heap} (hP : va_P D cl ws H) (hD : va_D A0 ws) (is : List Nat) (hC : is.map (fun i => ws[i]?) = wc.map some) (hl : is.length = w1.length) (hk : ∀ q : Nat, q < H.size → ¬ va_A wc H.size q → H1[q]? = H[q]?) (hF : ∀ q, va_A wc H.size q → A0 q) (hP1 : va_P D cl w1 H1) (hD1 : va_D (va_A wc H.size) w1) : va_P D cl (zs9 is w1 ws) H1 ∧ va_D A0 (zs9 is w1 ws) := by
  have far : ∀ (j : Nat) (q : Nat × va_E), j ∉ is → ws[j]? = some q → q.1 < H.size ∧ ¬ va_A wc H.size q.1 := by
    intro j q hj hq
    have hlt := (hP j q hq).lt
    refine ⟨hlt, fun h => ?_⟩
    rcases h with ⟨k, e, h⟩ | h
    · obtain ⟨i, h1, h2⟩ := va_in_of is hC h
      have := hD.1 i j _ _ h2 hq rfl
      rw [this] at h1
      exact hj (List.mem_of_getElem? h1)
    · (first | (apply Int.le_antisymm <;> omega) | omega)
  refine ⟨fun i q hq => ?_, fun i j p q hp hq e => ?_, fun i q hq => ?_⟩
  · rcases zs_get is w1 ws i q hl hq with ⟨k, -, h2⟩ | ⟨h1, h2⟩
    · exact hP1 k q h2
    · obtain ⟨g1, g2⟩ := far i q h1 h2
      exact (hP i q h2).kept (hk q.1 g1 g2)
  · rcases zs_get is w1 ws i p hl hp with ⟨k, h1, h2⟩ | ⟨h1, h2⟩
    · rcases zs_get is w1 ws j q hl hq with ⟨k2, g1, g2⟩ | ⟨g1, g2⟩
      · have := hD1.1 k k2 p q h2 g2 e
        rw [this] at h1
        exact Option.some.inj (h1.symm.trans g1)
      · exact absurd (by rw [← e]; exact hD1.2 k p h2) (far j q g1 g2).2
    · rcases zs_get is w1 ws j q hl hq with ⟨k2, g1, g2⟩ | ⟨g1, g2⟩
      · exact absurd (by rw [e]; exact hD1.2 k2 q g2) (far i p h1 h2).2
      · exact hD.1 i j p q h2 g2 e
  · rcases zs_get is w1 ws i q hl hq with ⟨k, -, h2⟩ | ⟨h1, h2⟩
    · exact hF _ (hD1.2 k q h2)
    · exact hD.2 i q h2
theorem va_zsE {A0 : Nat → Prop} {D : va_G} {cl : List vw_C} {ws wc w1 : va_W} {H H1 : Heap} (hP : va_P D cl ws H) (hD : va_D A0 ws) (is : List Nat) (hC : is.map (fun i => ws[i]?) = wc.map some) (hl : is.length = w1.length) (hk : ∀ q : Nat, q < H.size → ¬ va_A wc H.size q → H1[q]? = H[q]?) (hF : ∀ q, va_A wc H.size q → A0 q) (hP1 : va_P D cl w1 H1) (hD1 : va_D (va_A wc H.size) w1) : ∃ w : va_W, w = zs9 is w1 ws ∧ va_P D cl w H1 ∧ va_D A0 w := ⟨_, rfl, va_zs hP hD is hC hl hk hF hP1 hD1⟩
def xl9 {α : Type} (l : List α) (d : α) (k : Nat) : α := l.getD k d
theorem XW.moved {dC : Nat → ClassId} {dI : Nat → Nat → Nat} {sa : Nat → Nat} {u U : State} {h0 ou : Nat} {tl : Int} {ov : Int64} {wl : va_W} (hvm : u.vm.Alike U.vm) (h : XW dC dI sa u h0 ou tl ov wl) : XW dC dI sa U h0 ou tl ov wl := by
  obtain ⟨ad, cd, iv, lv, fi, fl, vv, sc_sign, gss, gpg, gwg, e, hK, hr⟩ := h
  exact ⟨ad, cd, iv, lv, fi, fl, vv, sc_sign, gss, gpg, gwg, e, va_K.moved hvm hK, hr⟩
theorem XW.out {dC : Nat → ClassId} {dI : Nat → Nat → Nat} {sa : Nat → Nat} {U : State} {h0 ou : Nat} {tl : Int} {ov : Int64} {wl : va_W} (h : XW dC dI sa U h0 ou tl ov wl) : ∃ (cou : ClassId) (gou : Nat → Int64), wl[117]? = some (ou, .inl (cou, 1, .inr (.inl gou))) ∧ gou 0 = ov ∧ va_K (dC, dI) cls [(cou, .long)] U ∧ wl.length = 118 := by
  obtain ⟨ad, cd, iv, lv, fi, fl, vv, sc_sign, gss, gpg, gwg, rfl, hK, hr⟩ := h
  have ho := hr.2.2.2.2.2.2.2.2.2.2.2.2.2.2.2.2.2.2.2.2.2.2.2.2.2.2.2.2.2.2.2.2.2.2.2.2.2.2.2.2.2.2.2.2.2.2.2.2.2.2.2.2.2.1
  exact ⟨_, _, rfl, ho, hK.sb (tyq := [((cd 95), .long)]) [95] rfl, rfl⟩
abbrev XI (dC : Nat → ClassId) (dI : Nat → Nat → Nat) (sz : Nat) (sa : Nat → Nat) (h0 ou : Nat) (tl : Int) (ov : Int64) (wl : va_W) (U : State) : Prop := U.heap.size = sz ∧ va_P (dC, dI) cls2 wl U.heap ∧ XW dC dI sa U h0 ou tl ov wl ∧ va_D (fun _ => True) wl ∧ sw sa (va_A wl sz) U U.heap
abbrev XO (dC : Nat → ClassId) (dI : Nat → Nat → Nat) (sa : Nat → Nat) (h0 ou : Nat) (A : Nat → Prop) (u : va_W × Int × Int64) (t : State) : Prop := va_P (dC, dI) cls2 u.1 t.heap ∧ XW dC dI sa t h0 ou u.2.1 u.2.2 u.1 ∧ va_D A u.1
end q_n44

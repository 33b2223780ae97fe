section q_n44q27
/-! p5: the class: a function -/
abbrev at_VA_checkFunctiony (dC : Nat → ClassId) (dI : Nat → Nat → Nat) (h0 aw ac ty bo bg bh bd wat wap wag waf wgt wgc cfi clk clt cop cva cpt cel cla : Nat) (cty cbo cbg cbh cbd cwaf cwat cwap cwag cwgt cwgc ccfi cclk cclt ccop ccva ccpt ccla : ClassId) (law : List Value) (aw_functionCount : Int32) (aw_hasMemory : Int32) (aw_globalCount : Int32) (ac_length : Int32) (ac_labelCount : Int32) (gwaf : Nat → Int32) (gwat : Nat → Int32) (gwap : Nat → Int32) (gwag : Nat → Int32) (gwgt : Nat → Int32) (gwgc : Nat → Int32) (gcfi : Nat → Int32) (gclk : Nat → Int32) (gclt : Nat → Int32) (gcop : Nat → Int32) (gcva : Nat → Int64) (gcpt : Nat → Int32) (gcla : Nat → Int32) (A : Nat → Prop) (u : (Nat → Int32) × (Nat → Int32) × (Nat → Int32) × (Nat → Int32) × (Nat → Int32) × Int32 × Int32 × Int32 × Int32) (t : State) : Prop := match u with | (gbd, gbg, gbh, gbo, gty, h0_depth, h0_function, h0_height, h0_sound) => va_P (dC, dI) cls [(h0, .inr (9, [.ref aw, .ref ac, .int h0_sound, .int h0_function, .ref ty, .int h0_height, .ref bo, .ref bg, .ref bh, .ref bd, .int h0_depth])), (aw, .inr (10, law)), (ac, .inr (3, [.ref cfi, .ref clk, .ref clt, .int ac_length, .ref cop, .ref cva, .ref cpt, .ref cel, .int ac_labelCount, .ref cla])), (ty, .inl (cty, 5000, .inl gty)), (bo, .inl (cbo, 101, .inl gbo)), (bg, .inl (cbg, 101, .inl gbg)), (bh, .inl (cbh, 101, .inl gbh)), (bd, .inl (cbd, 101, .inl gbd)), (waf, .inl (cwaf, 30, .inl gwaf)), (wat, .inl (cwat, 20, .inl gwat)), (wap, .inl (cwap, 160, .inl gwap)), (wag, .inl (cwag, 20, .inl gwag)), (wgt, .inl (cwgt, 20, .inl gwgt)), (wgc, .inl (cwgc, 20, .inl gwgc)), (cfi, .inl (ccfi, 31, .inl gcfi)), (clk, .inl (cclk, 30, .inl gclk)), (clt, .inl (cclt, 1800, .inl gclt)), (cop, .inl (ccop, 5000, .inl gcop)), (cva, .inl (ccva, 5000, .inr (.inl gcva))), (cpt, .inl (ccpt, 5000, .inl gcpt)), (cla, .inl (ccla, 2000, .inl gcla))] t.heap ∧ va_K (dC, dI) cls [(cty, .int), (cbo, .int), (cbg, .int), (cbh, .int), (cbd, .boolean), (cwaf, .int), (cwat, .int), (cwap, .int), (cwag, .int), (cwgt, .int), (cwgc, .boolean), (ccfi, .int), (cclk, .int), (cclt, .int), (ccop, .int), (ccva, .long), (ccpt, .int), (ccla, .int)] t ∧ va_D A [(h0, .inr (9, [.ref aw, .ref ac, .int h0_sound, .int h0_function, .ref ty, .int h0_height, .ref bo, .ref bg, .ref bh, .ref bd, .int h0_depth])), (aw, .inr (10, law)), (ac, .inr (3, [.ref cfi, .ref clk, .ref clt, .int ac_length, .ref cop, .ref cva, .ref cpt, .ref cel, .int ac_labelCount, .ref cla])), (ty, .inl (cty, 5000, .inl gty)), (bo, .inl (cbo, 101, .inl gbo)), (bg, .inl (cbg, 101, .inl gbg)), (bh, .inl (cbh, 101, .inl gbh)), (bd, .inl (cbd, 101, .inl gbd)), (waf, .inl (cwaf, 30, .inl gwaf)), (wat, .inl (cwat, 20, .inl gwat)), (wap, .inl (cwap, 160, .inl gwap)), (wag, .inl (cwag, 20, .inl gwag)), (wgt, .inl (cwgt, 20, .inl gwgt)), (wgc, .inl (cwgc, 20, .inl gwgc)), (cfi, .inl (ccfi, 31, .inl gcfi)), (clk, .inl (cclk, 30, .inl gclk)), (clt, .inl (cclt, 1800, .inl gclt)), (cop, .inl (ccop, 5000, .inl gcop)), (cva, .inl (ccva, 5000, .inr (.inl gcva))), (cpt, .inl (ccpt, 5000, .inl gcpt)), (cla, .inl (ccla, 2000, .inl gcla))]
set_option maxHeartbeats 4000000 in
set_option maxRecDepth 100000 in
theorem c_VA_checkFunctiony (l : Launch) (dC : Nat → ClassId) (dI : Nat → Nat → Nat) (sz : Nat) (h0 aw ac ty bo bg bh bd wat wap wag waf wgt wgc cfi clk clt cop cva cpt cel cla : Nat) (cty cbo cbg cbh cbd cwaf cwat cwap cwag cwgt cwgc ccfi cclk cclt ccop ccva ccpt ccla : ClassId) (h0_sound : Int32) (h0_function : Int32) (h0_height : Int32) (h0_depth : Int32) (law : List Value) (aw_functionCount : Int32) (aw_hasMemory : Int32) (aw_globalCount : Int32) (ac_length : Int32) (ac_labelCount : Int32) (gty : Nat → Int32) (gbo : Nat → Int32) (gbg : Nat → Int32) (gbh : Nat → Int32) (gbd : Nat → Int32) (gwaf : Nat → Int32) (gwat : Nat → Int32) (gwap : Nat → Int32) (gwag : Nat → Int32) (gwgt : Nat → Int32) (gwgc : Nat → Int32) (gcfi : Nat → Int32) (gclk : Nat → Int32) (gclt : Nat → Int32) (gcop : Nat → Int32) (gcva : Nat → Int64) (gcpt : Nat → Int32) (gcla : Nat → Int32) (T9 : zTab) (paw_1 : law[1]? = some (.ref ac)) (paw_3 : law[3]? = some (.ref wat)) (paw_4 : law[4]? = some (.ref wap)) (paw_5 : law[5]? = some (.ref wag)) (paw_6 : law[6]? = some (.int aw_functionCount)) (paw_7 : law[7]? = some (.ref waf)) (paw_8 : law[8]? = some (.int aw_hasMemory)) (paw_11 : law[11]? = some (.int aw_globalCount)) (paw_12 : law[12]? = some (.ref wgt)) (paw_15 : law[15]? = some (.ref wgc)) (plaw : law.length = 21) (b_h0_sound : h0_sound = 0 ∨ h0_sound = 1) (b_h0_height : 0 ≤ h0_height.toInt ∧ h0_height.toInt ≤ 5000) (b_h0_depth : 0 ≤ h0_depth.toInt ∧ h0_depth.toInt ≤ 101) (b_ac_length : 0 ≤ ac_length.toInt ∧ ac_length.toInt ≤ 5000) (b_ac_labelCount : 0 ≤ ac_labelCount.toInt ∧ ac_labelCount.toInt ≤ 2000) (b_gty : ∀ j : Nat, (gty j).toInt ≠ 64) (b_gbh : ∀ j : Nat, 0 ≤ (gbh j).toInt ∧ (gbh j).toInt ≤ 5000) (b_aw_functionCount : 0 ≤ aw_functionCount.toInt ∧ aw_functionCount.toInt ≤ 30) (b_aw_hasMemory : aw_hasMemory = 0 ∨ aw_hasMemory = 1) (b_aw_globalCount : 0 ≤ aw_globalCount.toInt ∧ aw_globalCount.toInt ≤ 20) (p0 : Int32) (ba0 : 0 ≤ p0.toInt ∧ p0.toInt ≤ 29) (hpf : p0.toInt < aw_functionCount.toInt ∧ aw_functionCount.toInt ≤ 30) (hfT : fT T9 aw_functionCount gwaf gwat gwap gwag) (hck : bx (∀ f : Nat, (f : Int) < aw_functionCount.toInt → 0 ≤ (gclk f).toInt ∧ (gclk f).toInt ≤ 60)) (hgl : aw_globalCount.toInt = (T9.2.2.2.1.length : Int) ∧ glB gwgt gwgc T9.2.2.2.1) (htk : bx (∀ x ∈ T9.2.2.2.1, (x.1 = 127 ∨ x.1 = 126) ∧ x.2.1 ≤ 1)) (hme : aw_hasMemory.toInt = (T9.2.2.1.1 : Int)) (hcd : cdA gcfi gclk gclt gcop gcpt gcla gcva ac_labelCount.toInt T9.2.2.2.2.2 ∧ ac_length.toInt = ((flC T9.2.2.2.2.2).length : Int) ∧ ac_labelCount.toInt ≤ 2000 ∧ T9.2.1.length = T9.2.2.2.2.2.length) (hco : bx (∀ c ∈ T9.2.2.2.2.2, (∀ l ∈ c.1, l = 127 ∨ l = 126) ∧ wn 0 c.2 ∧ ∀ i ∈ c.2, yiok i)) : Met l y_VA_checkFunction w_VA_checkFunction ({ frames := 4, cells := 0, slots := 0, locals := 90 }) (va_Pc [.ref h0, .int p0] (fun U => U.heap.size = sz ∧ va_P (dC, dI) cls [(h0, .inr (9, [.ref aw, .ref ac, .int h0_sound, .int h0_function, .ref ty, .int h0_height, .ref bo, .ref bg, .ref bh, .ref bd, .int h0_depth])), (aw, .inr (10, law)), (ac, .inr (3, [.ref cfi, .ref clk, .ref clt, .int ac_length, .ref cop, .ref cva, .ref cpt, .ref cel, .int ac_labelCount, .ref cla])), (ty, .inl (cty, 5000, .inl gty)), (bo, .inl (cbo, 101, .inl gbo)), (bg, .inl (cbg, 101, .inl gbg)), (bh, .inl (cbh, 101, .inl gbh)), (bd, .inl (cbd, 101, .inl gbd)), (waf, .inl (cwaf, 30, .inl gwaf)), (wat, .inl (cwat, 20, .inl gwat)), (wap, .inl (cwap, 160, .inl gwap)), (wag, .inl (cwag, 20, .inl gwag)), (wgt, .inl (cwgt, 20, .inl gwgt)), (wgc, .inl (cwgc, 20, .inl gwgc)), (cfi, .inl (ccfi, 31, .inl gcfi)), (clk, .inl (cclk, 30, .inl gclk)), (clt, .inl (cclt, 1800, .inl gclt)), (cop, .inl (ccop, 5000, .inl gcop)), (cva, .inl (ccva, 5000, .inr (.inl gcva))), (cpt, .inl (ccpt, 5000, .inl gcpt)), (cla, .inl (ccla, 2000, .inl gcla))] U.heap ∧ va_K (dC, dI) cls [(cty, .int), (cbo, .int), (cbg, .int), (cbh, .int), (cbd, .boolean), (cwaf, .int), (cwat, .int), (cwap, .int), (cwag, .int), (cwgt, .int), (cwgc, .boolean), (ccfi, .int), (cclk, .int), (cclt, .int), (ccop, .int), (ccva, .long), (ccpt, .int), (ccla, .int)] U ∧ va_D (fun _ => True) [(h0, .inr (9, [.ref aw, .ref ac, .int h0_sound, .int h0_function, .ref ty, .int h0_height, .ref bo, .ref bg, .ref bh, .ref bd, .int h0_depth])), (aw, .inr (10, law)), (ac, .inr (3, [.ref cfi, .ref clk, .ref clt, .int ac_length, .ref cop, .ref cva, .ref cpt, .ref cel, .int ac_labelCount, .ref cla])), (ty, .inl (cty, 5000, .inl gty)), (bo, .inl (cbo, 101, .inl gbo)), (bg, .inl (cbg, 101, .inl gbg)), (bh, .inl (cbh, 101, .inl gbh)), (bd, .inl (cbd, 101, .inl gbd)), (waf, .inl (cwaf, 30, .inl gwaf)), (wat, .inl (cwat, 20, .inl gwat)), (wap, .inl (cwap, 160, .inl gwap)), (wag, .inl (cwag, 20, .inl gwag)), (wgt, .inl (cwgt, 20, .inl gwgt)), (wgc, .inl (cwgc, 20, .inl gwgc)), (cfi, .inl (ccfi, 31, .inl gcfi)), (clk, .inl (cclk, 30, .inl gclk)), (clt, .inl (cclt, 1800, .inl gclt)), (cop, .inl (ccop, 5000, .inl gcop)), (cva, .inl (ccva, 5000, .inr (.inl gcva))), (cpt, .inl (ccpt, 5000, .inl gcpt)), (cla, .inl (ccla, 2000, .inl gcla))])) (va_Qv (fun (u : (Nat → Int32) × (Nat → Int32) × (Nat → Int32) × (Nat → Int32) × (Nat → Int32) × Int32 × Int32 × Int32 × Int32) => match u with | (gbd2, gbg2, gbh2, gbo2, gty2, h0_depth2, h0_function2, h0_height2, h0_sound2) => (∀ j : Nat, 0 ≤ (gbh2 j).toInt ∧ (gbh2 j).toInt ≤ 5000) ∧ (∀ j : Nat, (gty2 j).toInt ≠ 64) ∧ (0 ≤ h0_depth2.toInt ∧ h0_depth2.toInt ≤ 101) ∧ (0 ≤ h0_height2.toInt ∧ h0_height2.toInt ≤ 5000) ∧ (h0_sound2 = 0 ∨ h0_sound2 = 1) ∧ (((h0_sound2.toInt = 1 ∧ h0_sound.toInt = 1 ∧ vfun T9 p0.toInt.toNat = true) ∨ (h0_sound2.toInt = 0 ∧ (h0_sound.toInt = 1 → vfun T9 p0.toInt.toNat = false))))) (at_VA_checkFunctiony dC dI h0 aw ac ty bo bg bh bd wat wap wag waf wgt wgc cfi clk clt cop cva cpt cel cla cty cbo cbg cbh cbd cwaf cwat cwap cwag cwgt cwgc ccfi cclk cclt ccop ccva ccpt ccla law aw_functionCount aw_hasMemory aw_globalCount ac_length ac_labelCount gwaf gwat gwap gwag gwgt gwgc gcfi gclk gclt gcop gcva gcpt gcla (va_A [(h0, .inr (9, [.ref aw, .ref ac, .int h0_sound, .int h0_function, .ref ty, .int h0_height, .ref bo, .ref bg, .ref bh, .ref bd, .int h0_depth])), (aw, .inr (10, law)), (ac, .inr (3, [.ref cfi, .ref clk, .ref clt, .int ac_length, .ref cop, .ref cva, .ref cpt, .ref cel, .int ac_labelCount, .ref cla])), (ty, .inl (cty, 5000, .inl gty)), (bo, .inl (cbo, 101, .inl gbo)), (bg, .inl (cbg, 101, .inl gbg)), (bh, .inl (cbh, 101, .inl gbh)), (bd, .inl (cbd, 101, .inl gbd)), (waf, .inl (cwaf, 30, .inl gwaf)), (wat, .inl (cwat, 20, .inl gwat)), (wap, .inl (cwap, 160, .inl gwap)), (wag, .inl (cwag, 20, .inl gwag)), (wgt, .inl (cwgt, 20, .inl gwgt)), (wgc, .inl (cwgc, 20, .inl gwgc)), (cfi, .inl (ccfi, 31, .inl gcfi)), (clk, .inl (cclk, 30, .inl gclk)), (clt, .inl (cclt, 1800, .inl gclt)), (cop, .inl (ccop, 5000, .inl gcop)), (cva, .inl (ccva, 5000, .inr (.inl gcva))), (cpt, .inl (ccpt, 5000, .inl gcpt)), (cla, .inl (ccla, 2000, .inl gcla))] sz)) (va_A [(h0, .inr (9, [.ref aw, .ref ac, .int h0_sound, .int h0_function, .ref ty, .int h0_height, .ref bo, .ref bg, .ref bh, .ref bd, .int h0_depth])), (aw, .inr (10, law)), (ac, .inr (3, [.ref cfi, .ref clk, .ref clt, .int ac_length, .ref cop, .ref cva, .ref cpt, .ref cel, .int ac_labelCount, .ref cla])), (ty, .inl (cty, 5000, .inl gty)), (bo, .inl (cbo, 101, .inl gbo)), (bg, .inl (cbg, 101, .inl gbg)), (bh, .inl (cbh, 101, .inl gbh)), (bd, .inl (cbd, 101, .inl gbd)), (waf, .inl (cwaf, 30, .inl gwaf)), (wat, .inl (cwat, 20, .inl gwat)), (wap, .inl (cwap, 160, .inl gwap)), (wag, .inl (cwag, 20, .inl gwag)), (wgt, .inl (cwgt, 20, .inl gwgt)), (wgc, .inl (cwgc, 20, .inl gwgc)), (cfi, .inl (ccfi, 31, .inl gcfi)), (clk, .inl (cclk, 30, .inl gclk)), (clt, .inl (cclt, 1800, .inl gclt)), (cop, .inl (ccop, 5000, .inl gcop)), (cva, .inl (ccva, 5000, .inr (.inl gcva))), (cpt, .inl (ccpt, 5000, .inl gcpt)), (cla, .inl (ccla, 2000, .inl gcla))] sz)) 0 0 (va_A [(h0, .inr (9, [.ref aw, .ref ac, .int h0_sound, .int h0_function, .ref ty, .int h0_height, .ref bo, .ref bg, .ref bh, .ref bd, .int h0_depth])), (aw, .inr (10, law)), (ac, .inr (3, [.ref cfi, .ref clk, .ref clt, .int ac_length, .ref cop, .ref cva, .ref cpt, .ref cel, .int ac_labelCount, .ref cla])), (ty, .inl (cty, 5000, .inl gty)), (bo, .inl (cbo, 101, .inl gbo)), (bg, .inl (cbg, 101, .inl gbg)), (bh, .inl (cbh, 101, .inl gbh)), (bd, .inl (cbd, 101, .inl gbd)), (waf, .inl (cwaf, 30, .inl gwaf)), (wat, .inl (cwat, 20, .inl gwat)), (wap, .inl (cwap, 160, .inl gwap)), (wag, .inl (cwag, 20, .inl gwag)), (wgt, .inl (cwgt, 20, .inl gwgt)), (wgc, .inl (cwgc, 20, .inl gwgc)), (cfi, .inl (ccfi, 31, .inl gcfi)), (clk, .inl (cclk, 30, .inl gclk)), (clt, .inl (cclt, 1800, .inl gclt)), (cop, .inl (ccop, 5000, .inl gcop)), (cva, .inl (ccva, 5000, .inr (.inl gcva))), (cpt, .inl (ccpt, 5000, .inl gcpt)), (cla, .inl (ccla, 2000, .inl gcla))] sz) := by
  refine Met.ofW (cc := b_VA_checkFunction) (maxL := 4) (ret := none) (by decide) rfl ?_
  intro p e s m args below meth c s₁ B hml hv
  obtain ⟨rfl, hsz, hP, hK, hD0⟩ := hv
  have hx := B.exec
  have hb := B.bytes
  have hr := B.returns
  have hts0 := atoms_spec (ws := w_VA_checkFunction) B.pre
  have hts : ∀ w ∈ lw_g, w.before _ s = true := fun w h => hts0 w (List.mem_cons_of_mem _ h)
  have hown : s.vm.findClass R_VA = some m.cls := findClass_of_methodNamed B.named
  have hlocks := B.notSynchronized
  clear hts0
  subst hsz
  have hD := hD0.self (sz := s.heap.size)
  generalize hAe : va_A [(h0, .inr (9, [.ref aw, .ref ac, .int h0_sound, .int h0_function, .ref ty, .int h0_height, .ref bo, .ref bg, .ref bh, .ref bd, .int h0_depth])), (aw, .inr (10, law)), (ac, .inr (3, [.ref cfi, .ref clk, .ref clt, .int ac_length, .ref cop, .ref cva, .ref cpt, .ref cel, .int ac_labelCount, .ref cla])), (ty, .inl (cty, 5000, .inl gty)), (bo, .inl (cbo, 101, .inl gbo)), (bg, .inl (cbg, 101, .inl gbg)), (bh, .inl (cbh, 101, .inl gbh)), (bd, .inl (cbd, 101, .inl gbd)), (waf, .inl (cwaf, 30, .inl gwaf)), (wat, .inl (cwat, 20, .inl gwat)), (wap, .inl (cwap, 160, .inl gwap)), (wag, .inl (cwag, 20, .inl gwag)), (wgt, .inl (cwgt, 20, .inl gwgt)), (wgc, .inl (cwgc, 20, .inl gwgc)), (cfi, .inl (ccfi, 31, .inl gcfi)), (clk, .inl (cclk, 30, .inl gclk)), (clt, .inl (cclt, 1800, .inl gclt)), (cop, .inl (ccop, 5000, .inl gcop)), (cva, .inl (ccva, 5000, .inr (.inl gcva))), (cpt, .inl (ccpt, 5000, .inl gcpt)), (cla, .inl (ccla, 2000, .inl gcla))] s.heap.size = A at hD ⊢
  have hA : ∀ q : Nat, s.heap.size ≤ q → A q := fun q h => by rw [← hAe]; exact Or.inr h
  clear hAe
  have hP : va_P (dC, dI) cls [(h0, .inr (9, [.ref aw, .ref ac, .int h0_sound, .int h0_function, .ref ty, .int h0_height, .ref bo, .ref bg, .ref bh, .ref bd, .int h0_depth])), (aw, .inr (10, law)), (ac, .inr (3, [.ref cfi, .ref clk, .ref clt, .int ac_length, .ref cop, .ref cva, .ref cpt, .ref cel, .int ac_labelCount, .ref cla])), (ty, .inl (cty, 5000, .inl gty)), (bo, .inl (cbo, 101, .inl gbo)), (bg, .inl (cbg, 101, .inl gbg)), (bh, .inl (cbh, 101, .inl gbh)), (bd, .inl (cbd, 101, .inl gbd)), (waf, .inl (cwaf, 30, .inl gwaf)), (wat, .inl (cwat, 20, .inl gwat)), (wap, .inl (cwap, 160, .inl gwap)), (wag, .inl (cwag, 20, .inl gwag)), (wgt, .inl (cwgt, 20, .inl gwgt)), (wgc, .inl (cwgc, 20, .inl gwgc)), (cfi, .inl (ccfi, 31, .inl gcfi)), (clk, .inl (cclk, 30, .inl gclk)), (clt, .inl (cclt, 1800, .inl gclt)), (cop, .inl (ccop, 5000, .inl gcop)), (cva, .inl (ccva, 5000, .inr (.inl gcva))), (cpt, .inl (ccpt, 5000, .inl gcpt)), (cla, .inl (ccla, 2000, .inl gcla))] s.heap := hP
  have hl := lv_entry ([.ref h0, .int p0]) (n := 4) (Nat.le_of_ble_eq_true rfl)
  rw [lg_entry_eq]
  generalize (lg_sl ([.ref h0, .int p0]) ++ List.replicate (4 - (lg_sl ([.ref h0, .int p0])).length) Slot.unset).toArray = ls at hl ⊢
  have hl : lv_has ls 4 [(0, .ref h0), (1, .int p0)] := hl
  have k0 : (0 : Int32).toInt = 0 := by decide
  refine w_gen (A := A) hP (fun H locs hP hS => ?_)
  have k1 : (1 : Int32).toInt = 1 := by decide
  have k2 : (2 : Int32).toInt = 2 := by decide
  have k5 : (5 : Int32).toInt = 5 := by decide
  have k11 : (11 : Int32).toInt = 11 := by decide
  have k16 : (16 : Int32).toInt = 16 := by decide
  have k36 : (36 : Int32).toInt = 36 := by decide
  have k64 : (64 : Int32).toInt = 64 := by decide
  have lo_p0 := i32_lo p0
  have hi_p0 := i32_hi p0
  have th0_sound := b01 b_h0_sound
  have taw_hasMemory := b01 b_aw_hasMemory
  have c9 := i32_clamp (x := p0) (by (first | (apply Int.le_antisymm <;> omega) | omega))
  obtain ⟨tn9, tp9, f1, f2, f3, f4, f5, f6, f7, f8, f9, f10⟩ := fT_get hfT (f := p0) (by (first | (apply Int.le_antisymm <;> omega) | omega)) (by (first | (apply Int.le_antisymm <;> omega) | omega))
  obtain ⟨co9, c1⟩ : ∃ co, T9.2.2.2.2.2[p0.toInt.toNat]? = some co := ⟨_, List.getElem?_eq_getElem (by have := hcd.2.2.2; have := hfT.1; (first | (apply Int.le_antisymm <;> omega) | omega))⟩
  obtain ⟨d1, d2, d3, d4, d5⟩ := hcd.1.2 _ _ c1
  have e0 : p0.toInt.toNat = p0.toNatClampNeg := by (first | (apply Int.le_antisymm <;> omega) | omega)
  have d6 := flC_len c1
  have d7 := flC_le (C := T9.2.2.2.2.2) (k := p0.toInt.toNat + 1)
  rw [e0] at d1 d3 d4 d5
  rw [e0] at d6 d7
  obtain ⟨m1, m2, m3⟩ := hco.out co9 (List.mem_of_getElem? c1)
  have hlo9 : loA (gwat (gwaf p0.toNatClampNeg).toNatClampNeg).toInt (gclk p0.toNatClampNeg).toInt (8 * (gwaf p0.toNatClampNeg).toInt) (60 * p0.toInt) gwap gclt (tp9.1 ++ co9.1) := loA_of f5 d1 f8 (fun j z hz => by rw [show (60 * p0.toInt).toNat + j = 60 * p0.toNatClampNeg + j from by (first | (apply Int.le_antisymm <;> omega) | omega)]; exact d3 j z hz) (by (first | (apply Int.le_antisymm <;> omega) | omega)) f9 m1
  have dc := hcd.2.1
  have dl := hcd.2.2.1
  replace f8 : bx _ := f8
  replace f9 : bx _ := f9
  replace d3 : bx _ := d3
  replace m1 : bx _ := m1
  replace m3 : bx _ := m3
  replace f10 : bx _ := f10
  refine lv_aload_n hx hb d_VA_checkFunction_0 rfl (lv_at hl 0 rfl) ?_
  refine lv_iload_n hx hb d_VA_checkFunction_1 rfl (lv_at hl 1 rfl) ?_
  refine va_put (D := (dC, dI)) (ci := 9) (v := .int p0) (ty := .int) (C := R_VA) (T := F_VA) (N := 11) hx hb hts i_VA t_VA t_VA_ok n_VA hown hK hP hD hS 0 rfl rfl 3 (by decide) (hts _ kF_VA_111) (fun _ h9 => h9) rfl (by decide +kernel) rfl rfl (Nat.le_of_ble_eq_true rfl) d_VA_checkFunction_2 (fun H locs hP hD hS => ?_)
  refine lv_aload_n hx hb d_VA_checkFunction_5 rfl (lv_at hl 0 rfl) ?_
  refine lv_iconst (v := 0) hx hb d_VA_checkFunction_6 (by decide) ?_
  refine va_put (D := (dC, dI)) (ci := 9) (v := .int 0) (ty := .int) (C := R_VA) (T := F_VA) (N := 11) hx hb hts i_VA t_VA t_VA_ok n_VA hown hK hP hD hS 0 rfl rfl 5 (by decide) (hts _ kF_VA_114) (fun _ h9 => h9) rfl (by decide +kernel) rfl rfl (Nat.le_of_ble_eq_true rfl) d_VA_checkFunction_7 (fun H locs hP hD hS => ?_)
  refine lv_aload_n hx hb d_VA_checkFunction_10 rfl (lv_at hl 0 rfl) ?_
  refine lv_iconst (v := 0) hx hb d_VA_checkFunction_11 (by decide) ?_
  refine va_put (D := (dC, dI)) (ci := 9) (v := .int 0) (ty := .int) (C := R_VA) (T := F_VA) (N := 11) hx hb hts i_VA t_VA t_VA_ok n_VA hown hK hP hD hS 0 rfl rfl 10 (by decide) (hts _ kF_VA_117) (fun _ h9 => h9) rfl (by decide +kernel) rfl rfl (Nat.le_of_ble_eq_true rfl) d_VA_checkFunction_12 (fun H locs hP hD hS => ?_)
  refine lv_aload_n hx hb d_VA_checkFunction_15 rfl (lv_at hl 0 rfl) ?_
  refine lv_iconst (v := 2) hx hb d_VA_checkFunction_16 (by decide) ?_
  refine lv_aload_n hx hb d_VA_checkFunction_17 rfl (lv_at hl 0 rfl) ?_
  refine va_get (D := (dC, dI)) (ci := 9) (v := .ref aw) (C := R_VA) (T := F_VA) (N := 11) hx hb hts i_VA hown hK hP 0 rfl rfl 0 (by decide) (hts _ kF_VA_28) (fun _ h9 => h9) rfl d_VA_checkFunction_18 ?_
  refine lv_iload_n hx hb d_VA_checkFunction_21 rfl (lv_at hl 1 rfl) ?_
  have hPc := hP.sb (wq := (wz_16 aw law waf cwaf gwaf wag cwag gwag)) [1, 8, 11] rfl
  have hDc := hD.sb (wq := (wz_16 aw law waf cwaf gwaf wag cwag gwag)) [1, 8, 11] (by decide) rfl
  have hKc := hK.sb (tyq := [(cwaf, .int), (cwag, .int)]) [5, 8] rfl
  have hFc := va_free (wc := (wz_16 aw law waf cwaf gwaf wag cwag gwag)) hD hS hA [1, 8, 11] rfl
  refine va_calli (va_runV (As := [.int p0]) (rest := [.int 2, .ref h0]) ⟨hx, hb, hml, hown, hts⟩ (c_WA_gives l dC dI aw waf wag H.size cwaf cwag gwaf gwag law paw_7 paw_5 plaw p0 (by (first | (apply Int.le_antisymm <;> omega) | omega)) (by (first | (apply Int.le_antisymm <;> omega) | omega))) (cwV 1 hts (gV kM_VA_120 kV_WA_gives kS_WA_gives kI_WA kC_WA_gives) rfl rfl rfl (by decide +kernel) ⟨Nat.le_of_ble_eq_true rfl, Nat.le_of_ble_eq_true rfl⟩) ⟨fun a U g mk z => by obtain ⟨z0, z1, zP, zK, zD⟩ := z; exact ⟨z0, z1, zP, va_K.moved (u := U) (U := U.calling g mk a) (Vm.Alike.refl U.vm) zK, zD⟩, va_recv hKc hPc (ci := 10) (q0 := 0) rfl rfl, fun U hU hW => ⟨rfl, by rw [hU], va_P.he hU.symm hPc, va_K.moved hW.alike hKc, hDc.weaken (fun _ _ _ _ => trivial)⟩⟩ rfl rfl hl.1 rfl (lv_room (Nat.le_of_ble_eq_true rfl)) d_VA_checkFunction_22 ⟨(Nat.zero_le _), (Nat.zero_le _)⟩) hS (fun q _ h => hFc q h) hFc (fun r1 u t H1 locs ht hvm hw hB hz1 hk1 hS => ?_)
  try dsimp only at hw
  have er1 := hw
  try clear hw
  have u22 : r1.toInt = (tp9.2 : Int) := by rw [er1]; exact f7
  obtain ⟨hP1, hK1, hD1⟩ := hB
  replace hP1 := va_P.he ht hP1
  obtain ⟨hP, hD⟩ := va_join (wr := [(h0, .inr (9, [.ref aw, .ref ac, .int h0_sound, .int p0, .ref ty, .int 0, .ref bo, .ref bg, .ref bh, .ref bd, .int 0])), (ac, .inr (3, [.ref cfi, .ref clk, .ref clt, .int ac_length, .ref cop, .ref cva, .ref cpt, .ref cel, .int ac_labelCount, .ref cla])), (ty, .inl (cty, 5000, .inl gty)), (bo, .inl (cbo, 101, .inl gbo)), (bg, .inl (cbg, 101, .inl gbg)), (bh, .inl (cbh, 101, .inl gbh)), (bd, .inl (cbd, 101, .inl gbd)), (wat, .inl (cwat, 20, .inl gwat)), (wap, .inl (cwap, 160, .inl gwap)), (wgt, .inl (cwgt, 20, .inl gwgt)), (wgc, .inl (cwgc, 20, .inl gwgc)), (cfi, .inl (ccfi, 31, .inl gcfi)), (clk, .inl (cclk, 30, .inl gclk)), (clt, .inl (cclt, 1800, .inl gclt)), (cop, .inl (ccop, 5000, .inl gcop)), (cva, .inl (ccva, 5000, .inr (.inl gcva))), (cpt, .inl (ccpt, 5000, .inl gcpt)), (cla, .inl (ccla, 2000, .inl gcla))]) (w1 := (wz_16 aw law waf cwaf gwaf wag cwag gwag)) hP hD [1, 8, 11] [0, 2, 3, 4, 5, 6, 7, 9, 10, 12, 13, 14, 15, 16, 17, 18, 19, 20] rfl rfl (by decide) (by decide) hk1 hFc hP1 hD1
  clear hPc hDc hKc hFc hz1 hk1 hP1 hK1 hD1
  rename Heap => H
  have hP : va_P (dC, dI) cls [(h0, .inr (9, [.ref aw, .ref ac, .int h0_sound, .int p0, .ref ty, .int 0, .ref bo, .ref bg, .ref bh, .ref bd, .int 0])), (ac, .inr (3, [.ref cfi, .ref clk, .ref clt, .int ac_length, .ref cop, .ref cva, .ref cpt, .ref cel, .int ac_labelCount, .ref cla])), (ty, .inl (cty, 5000, .inl gty)), (bo, .inl (cbo, 101, .inl gbo)), (bg, .inl (cbg, 101, .inl gbg)), (bh, .inl (cbh, 101, .inl gbh)), (bd, .inl (cbd, 101, .inl gbd)), (wat, .inl (cwat, 20, .inl gwat)), (wap, .inl (cwap, 160, .inl gwap)), (wgt, .inl (cwgt, 20, .inl gwgt)), (wgc, .inl (cwgc, 20, .inl gwgc)), (cfi, .inl (ccfi, 31, .inl gcfi)), (clk, .inl (cclk, 30, .inl gclk)), (clt, .inl (cclt, 1800, .inl gclt)), (cop, .inl (ccop, 5000, .inl gcop)), (cva, .inl (ccva, 5000, .inr (.inl gcva))), (cpt, .inl (ccpt, 5000, .inl gcpt)), (cla, .inl (ccla, 2000, .inl gcla)), (aw, .inr (10, law)), (waf, .inl (cwaf, 30, .inl gwaf)), (wag, .inl (cwag, 20, .inl gwag))] H := hP
  have hD : va_D A [(h0, .inr (9, [.ref aw, .ref ac, .int h0_sound, .int p0, .ref ty, .int 0, .ref bo, .ref bg, .ref bh, .ref bd, .int 0])), (ac, .inr (3, [.ref cfi, .ref clk, .ref clt, .int ac_length, .ref cop, .ref cva, .ref cpt, .ref cel, .int ac_labelCount, .ref cla])), (ty, .inl (cty, 5000, .inl gty)), (bo, .inl (cbo, 101, .inl gbo)), (bg, .inl (cbg, 101, .inl gbg)), (bh, .inl (cbh, 101, .inl gbh)), (bd, .inl (cbd, 101, .inl gbd)), (wat, .inl (cwat, 20, .inl gwat)), (wap, .inl (cwap, 160, .inl gwap)), (wgt, .inl (cwgt, 20, .inl gwgt)), (wgc, .inl (cwgc, 20, .inl gwgc)), (cfi, .inl (ccfi, 31, .inl gcfi)), (clk, .inl (cclk, 30, .inl gclk)), (clt, .inl (cclt, 1800, .inl gclt)), (cop, .inl (ccop, 5000, .inl gcop)), (cva, .inl (ccva, 5000, .inr (.inl gcva))), (cpt, .inl (ccpt, 5000, .inl gcpt)), (cla, .inl (ccla, 2000, .inl gcla)), (aw, .inr (10, law)), (waf, .inl (cwaf, 30, .inl gwaf)), (wag, .inl (cwag, 20, .inl gwag))] := hD
  have hPc := hP.sb (wq := (wz_86 h0 aw ac h0_sound p0 ty 0 bo bg bh bd 0 ty cty gty bo cbo gbo bg cbg gbg bh cbh gbh bd cbd gbd)) [0, 2, 3, 4, 5, 6] rfl
  have hDc := hD.sb (wq := (wz_86 h0 aw ac h0_sound p0 ty 0 bo bg bh bd 0 ty cty gty bo cbo gbo bg cbg gbg bh cbh gbh bd cbd gbd)) [0, 2, 3, 4, 5, 6] (by decide) rfl
  have hKc := hK.sb (tyq := [(cty, .int), (cbo, .int), (cbg, .int), (cbh, .int), (cbd, .boolean)]) [0, 1, 2, 3, 4] rfl
  have hFc := va_free (wc := (wz_86 h0 aw ac h0_sound p0 ty 0 bo bg bh bd 0 ty cty gty bo cbo gbo bg cbg gbg bh cbh gbh bd cbd gbd)) hD hS hA [0, 2, 3, 4, 5, 6] rfl
  refine va_callv (va_runV (As := [.int 2, .int r1]) (rest := []) ⟨hx, hb, hml, hown, hts⟩ (c_VA_openy l dC dI H.size h0 aw ac ty bo bg bh bd cty cbo cbg cbh cbd h0_sound p0 0 0 gty gbo gbg gbh gbd ([]) ([]) (b_h0_sound) (by (try dsimp only) <;> (first | (apply Int.le_antisymm <;> omega) | omega)) (by (try dsimp only) <;> (first | (apply Int.le_antisymm <;> omega) | omega)) (b_gty) (b_gbh) 2 r1 ((fun _ => ⟨by decide, by decide, trivial, trivial, trivial⟩)) ((fun _ => ⟨by decide, by (first | (apply Int.le_antisymm <;> omega) | omega)⟩)) ((fun _ => by decide))) (cwV 2 hts (gV kM_VA_124 kV_VA_open kS_VA_open kI_VA kC_VA_open) rfl rfl rfl (by decide +kernel) ⟨Nat.le_of_ble_eq_true rfl, Nat.le_of_ble_eq_true rfl⟩) ⟨fun a U g mk z => by obtain ⟨z0, z1, zP, zK, zD⟩ := z; exact ⟨z0, z1, zP, va_K.moved (u := U) (U := U.calling g mk a) (Vm.Alike.refl U.vm) zK, zD⟩, va_recv hKc hPc (ci := 9) (q0 := 0) rfl rfl, fun U hU hW => ⟨rfl, by rw [hU], va_P.he hU.symm hPc, va_K.moved hW.alike hKc, hDc.weaken (fun _ _ _ _ => trivial)⟩⟩ rfl rfl hl.1 rfl (lv_room (Nat.le_of_ble_eq_true rfl)) d_VA_checkFunction_25 ⟨(Nat.zero_le _), (Nat.zero_le _)⟩) hS (fun q _ h => hFc q h) hFc (fun u t H1 locs ht hvm hw hB hz1 hk1 hS => ?_)
  obtain ⟨n3, n4, n5, n6, n7⟩ := u
  try dsimp only at hw
  obtain ⟨bn5, bn7, xr2⟩ := hw
  try clear hw
  have w25 := xr2.2
  obtain ⟨hP1, hK1, hD1⟩ := hB
  replace hP1 := va_P.he ht hP1
  obtain ⟨hP, hD⟩ := va_join (wr := [(ac, .inr (3, [.ref cfi, .ref clk, .ref clt, .int ac_length, .ref cop, .ref cva, .ref cpt, .ref cel, .int ac_labelCount, .ref cla])), (wat, .inl (cwat, 20, .inl gwat)), (wap, .inl (cwap, 160, .inl gwap)), (wgt, .inl (cwgt, 20, .inl gwgt)), (wgc, .inl (cwgc, 20, .inl gwgc)), (cfi, .inl (ccfi, 31, .inl gcfi)), (clk, .inl (cclk, 30, .inl gclk)), (clt, .inl (cclt, 1800, .inl gclt)), (cop, .inl (ccop, 5000, .inl gcop)), (cva, .inl (ccva, 5000, .inr (.inl gcva))), (cpt, .inl (ccpt, 5000, .inl gcpt)), (cla, .inl (ccla, 2000, .inl gcla)), (aw, .inr (10, law)), (waf, .inl (cwaf, 30, .inl gwaf)), (wag, .inl (cwag, 20, .inl gwag))]) (w1 := (wz_86 h0 aw ac h0_sound p0 ty 0 bo bg bh bd n7 ty cty gty bo cbo n6 bg cbg n4 bh cbh n5 bd cbd n3)) hP hD [0, 2, 3, 4, 5, 6] [1, 7, 8, 9, 10, 11, 12, 13, 14, 15, 16, 17, 18, 19, 20] rfl rfl (by decide) (by decide) hk1 hFc hP1 hD1
  clear hPc hDc hKc hFc hz1 hk1 hP1 hK1 hD1
  rename Heap => H
  have hP : va_P (dC, dI) cls [(ac, .inr (3, [.ref cfi, .ref clk, .ref clt, .int ac_length, .ref cop, .ref cva, .ref cpt, .ref cel, .int ac_labelCount, .ref cla])), (wat, .inl (cwat, 20, .inl gwat)), (wap, .inl (cwap, 160, .inl gwap)), (wgt, .inl (cwgt, 20, .inl gwgt)), (wgc, .inl (cwgc, 20, .inl gwgc)), (cfi, .inl (ccfi, 31, .inl gcfi)), (clk, .inl (cclk, 30, .inl gclk)), (clt, .inl (cclt, 1800, .inl gclt)), (cop, .inl (ccop, 5000, .inl gcop)), (cva, .inl (ccva, 5000, .inr (.inl gcva))), (cpt, .inl (ccpt, 5000, .inl gcpt)), (cla, .inl (ccla, 2000, .inl gcla)), (aw, .inr (10, law)), (waf, .inl (cwaf, 30, .inl gwaf)), (wag, .inl (cwag, 20, .inl gwag)), (h0, .inr (9, [.ref aw, .ref ac, .int h0_sound, .int p0, .ref ty, .int 0, .ref bo, .ref bg, .ref bh, .ref bd, .int n7])), (ty, .inl (cty, 5000, .inl gty)), (bo, .inl (cbo, 101, .inl n6)), (bg, .inl (cbg, 101, .inl n4)), (bh, .inl (cbh, 101, .inl n5)), (bd, .inl (cbd, 101, .inl n3))] H := hP
  have hD : va_D A [(ac, .inr (3, [.ref cfi, .ref clk, .ref clt, .int ac_length, .ref cop, .ref cva, .ref cpt, .ref cel, .int ac_labelCount, .ref cla])), (wat, .inl (cwat, 20, .inl gwat)), (wap, .inl (cwap, 160, .inl gwap)), (wgt, .inl (cwgt, 20, .inl gwgt)), (wgc, .inl (cwgc, 20, .inl gwgc)), (cfi, .inl (ccfi, 31, .inl gcfi)), (clk, .inl (cclk, 30, .inl gclk)), (clt, .inl (cclt, 1800, .inl gclt)), (cop, .inl (ccop, 5000, .inl gcop)), (cva, .inl (ccva, 5000, .inr (.inl gcva))), (cpt, .inl (ccpt, 5000, .inl gcpt)), (cla, .inl (ccla, 2000, .inl gcla)), (aw, .inr (10, law)), (waf, .inl (cwaf, 30, .inl gwaf)), (wag, .inl (cwag, 20, .inl gwag)), (h0, .inr (9, [.ref aw, .ref ac, .int h0_sound, .int p0, .ref ty, .int 0, .ref bo, .ref bg, .ref bh, .ref bd, .int n7])), (ty, .inl (cty, 5000, .inl gty)), (bo, .inl (cbo, 101, .inl n6)), (bg, .inl (cbg, 101, .inl n4)), (bh, .inl (cbh, 101, .inl n5)), (bd, .inl (cbd, 101, .inl n3))] := hD
  refine lv_aload_n hx hb d_VA_checkFunction_28 rfl (lv_at hl 0 rfl) ?_
  refine va_get (D := (dC, dI)) (ci := 9) (v := .ref ac) (C := R_VA) (T := F_VA) (N := 11) hx hb hts i_VA hown hK hP 15 rfl rfl 1 (by decide) (hts _ kF_VA_38) (fun _ h9 => h9) rfl d_VA_checkFunction_29 ?_
  refine va_get (D := (dC, dI)) (ci := 3) (v := .ref cfi) (C := R_CD) (T := F_CD) (N := 10) hx hb hts i_CD hown hK hP 0 rfl rfl 0 (by decide) (hts _ kF_VA_128) (fun _ h9 => h9) rfl d_VA_checkFunction_32 ?_
  refine lv_iload_n hx hb d_VA_checkFunction_35 rfl (lv_at hl 1 rfl) ?_
  have g36 : vp_in p0 31 := vp_in_iff.mpr ⟨by (first | (apply Int.le_antisymm <;> omega) | omega), by (first | (apply Int.le_antisymm <;> omega) | omega)⟩
  refine va_iald hx hb hK hP 5 11 rfl rfl g36 d_VA_checkFunction_36 ?_
  refine lv_topi (fun x8 ex8 => ?_)
  have tx8 : x8.toInt = (gcfi p0.toNatClampNeg).toInt := by rw [ex8]
  refine lv_istore_n (lv' := [(2, .int x8), (0, .ref h0), (1, .int p0)]) hx hb d_VA_checkFunction_37 rfl hl (by decide) rfl (fun ls hl => ?_)
  refine w_loop (σ := Int32 × (Nat → Int32) × (Nat → Int32) × (Nat → Int32) × (Nat → Int32) × (Nat → Int32) × Int32 × Int32 × Int32) (fun u H locs ls => match u with | (j38_l2, j38_bd, j38_bg, j38_bh, j38_bo, j38_ty, j38_h0_depth, j38_h0_height, j38_h0_sound) => (∀ j : Nat, 0 ≤ (j38_bh j).toInt ∧ (j38_bh j).toInt ≤ 5000) ∧ (∀ j : Nat, (j38_ty j).toInt ≠ 64) ∧ (0 ≤ j38_h0_depth.toInt ∧ j38_h0_depth.toInt ≤ 101) ∧ (0 ≤ j38_h0_height.toInt ∧ j38_h0_height.toInt ≤ 5000) ∧ (j38_h0_sound = 0 ∨ j38_h0_sound = 1) ∧ (rnI T9 (tp9.1 ++ co9.1) tp9.2 co9.2 h0_sound j38_h0_sound j38_h0_height j38_h0_depth j38_ty j38_bo j38_bg j38_bh j38_bd (j38_l2.toInt - (gcfi p0.toNatClampNeg).toInt).toNat) ∧ ((gcfi p0.toNatClampNeg).toInt ≤ j38_l2.toInt ∧ j38_l2.toInt ≤ (gcfi (p0.toNatClampNeg + 1)).toInt) ∧ va_P (dC, dI) cls [(ac, .inr (3, [.ref cfi, .ref clk, .ref clt, .int ac_length, .ref cop, .ref cva, .ref cpt, .ref cel, .int ac_labelCount, .ref cla])), (wat, .inl (cwat, 20, .inl gwat)), (wap, .inl (cwap, 160, .inl gwap)), (wgt, .inl (cwgt, 20, .inl gwgt)), (wgc, .inl (cwgc, 20, .inl gwgc)), (cfi, .inl (ccfi, 31, .inl gcfi)), (clk, .inl (cclk, 30, .inl gclk)), (clt, .inl (cclt, 1800, .inl gclt)), (cop, .inl (ccop, 5000, .inl gcop)), (cva, .inl (ccva, 5000, .inr (.inl gcva))), (cpt, .inl (ccpt, 5000, .inl gcpt)), (cla, .inl (ccla, 2000, .inl gcla)), (aw, .inr (10, law)), (waf, .inl (cwaf, 30, .inl gwaf)), (wag, .inl (cwag, 20, .inl gwag)), (h0, .inr (9, [.ref aw, .ref ac, .int j38_h0_sound, .int p0, .ref ty, .int j38_h0_height, .ref bo, .ref bg, .ref bh, .ref bd, .int j38_h0_depth])), (ty, .inl (cty, 5000, .inl j38_ty)), (bo, .inl (cbo, 101, .inl j38_bo)), (bg, .inl (cbg, 101, .inl j38_bg)), (bh, .inl (cbh, 101, .inl j38_bh)), (bd, .inl (cbd, 101, .inl j38_bd))] H ∧ va_D A [(ac, .inr (3, [.ref cfi, .ref clk, .ref clt, .int ac_length, .ref cop, .ref cva, .ref cpt, .ref cel, .int ac_labelCount, .ref cla])), (wat, .inl (cwat, 20, .inl gwat)), (wap, .inl (cwap, 160, .inl gwap)), (wgt, .inl (cwgt, 20, .inl gwgt)), (wgc, .inl (cwgc, 20, .inl gwgc)), (cfi, .inl (ccfi, 31, .inl gcfi)), (clk, .inl (cclk, 30, .inl gclk)), (clt, .inl (cclt, 1800, .inl gclt)), (cop, .inl (ccop, 5000, .inl gcop)), (cva, .inl (ccva, 5000, .inr (.inl gcva))), (cpt, .inl (ccpt, 5000, .inl gcpt)), (cla, .inl (ccla, 2000, .inl gcla)), (aw, .inr (10, law)), (waf, .inl (cwaf, 30, .inl gwaf)), (wag, .inl (cwag, 20, .inl gwag)), (h0, .inr (9, [.ref aw, .ref ac, .int j38_h0_sound, .int p0, .ref ty, .int j38_h0_height, .ref bo, .ref bg, .ref bh, .ref bd, .int j38_h0_depth])), (ty, .inl (cty, 5000, .inl j38_ty)), (bo, .inl (cbo, 101, .inl j38_bo)), (bg, .inl (cbg, 101, .inl j38_bg)), (bh, .inl (cbh, 101, .inl j38_bh)), (bd, .inl (cbd, 101, .inl j38_bd))] ∧ va_S A s.heap H locs ∧ lv_has ls 4 [(0, .ref h0), (1, .int p0), (2, .int j38_l2)]) (fun u => match u with | (j38_l2, j38_bd, j38_bg, j38_bh, j38_bo, j38_ty, j38_h0_depth, j38_h0_height, j38_h0_sound) => ((gcfi (p0.toNatClampNeg + 1)).toInt - j38_l2.toInt).toNat) ?_ (x8, n3, n4, n5, n6, gty, n7, 0, h0_sound) ⟨bn5, b_gty, bn7, by (try dsimp only) <;> (first | (apply Int.le_antisymm <;> omega) | omega), b_h0_sound, (by rw [show (x8.toInt - (gcfi p0.toNatClampNeg).toInt).toNat = 0 from by (first | (apply Int.le_antisymm <;> omega) | omega)]; exact rn_0 th0_sound w25 (by decide) (by (first | (apply Int.le_antisymm <;> omega) | omega)) m2), by (try dsimp only) <;> (first | (apply Int.le_antisymm <;> omega) | omega), hP, hD, hS, lv_sub hl [1, 2, 0] rfl⟩
  intro N38 ih38 u H locs ls hN38 hI
  obtain ⟨j38_l2, j38_bd, j38_bg, j38_bh, j38_bo, j38_ty, j38_h0_depth, j38_h0_height, j38_h0_sound⟩ := u
  obtain ⟨b_j38_bh, b_j38_ty, b_j38_h0_depth, b_j38_h0_height, b_j38_h0_sound, v1, v2, hP, hD, hS, hl⟩ := hI
  have tj38_h0_sound := b01 b_j38_h0_sound
  have hN38 : ((gcfi (p0.toNatClampNeg + 1)).toInt - j38_l2.toInt).toNat < N38 + 1 := hN38
  refine lv_iload_n hx hb d_VA_checkFunction_38 rfl (lv_at hl 2 rfl) ?_
  refine lv_aload_n hx hb d_VA_checkFunction_39 rfl (lv_at hl 0 rfl) ?_
  refine va_get (D := (dC, dI)) (ci := 9) (v := .ref ac) (C := R_VA) (T := F_VA) (N := 11) hx hb hts i_VA hown hK hP 15 rfl rfl 1 (by decide) (hts _ kF_VA_38) (fun _ h9 => h9) rfl d_VA_checkFunction_40 ?_
  refine va_get (D := (dC, dI)) (ci := 3) (v := .ref cfi) (C := R_CD) (T := F_CD) (N := 10) hx hb hts i_CD hown hK hP 0 rfl rfl 0 (by decide) (hts _ kF_VA_128) (fun _ h9 => h9) rfl d_VA_checkFunction_43 ?_
  refine lv_iload_n hx hb d_VA_checkFunction_46 rfl (lv_at hl 1 rfl) ?_
  refine lv_iconst (v := 1) hx hb d_VA_checkFunction_47 (by decide) ?_
  refine lv_iadd hx hb d_VA_checkFunction_48 ?_
  refine lv_topi (fun x9 ex9 => ?_)
  have tx9 : x9.toInt = p0.toInt + 1 := by have z := i32_add ex9 (by (first | (apply Int.le_antisymm <;> omega) | omega)) (by (first | (apply Int.le_antisymm <;> omega) | omega)); first | exact z | (first | (apply Int.le_antisymm <;> omega) | omega)
  have g49 : vp_in x9 31 := vp_in_iff.mpr ⟨by (first | (apply Int.le_antisymm <;> omega) | omega), by (first | (apply Int.le_antisymm <;> omega) | omega)⟩
  refine va_iald hx hb hK hP 5 11 rfl rfl g49 d_VA_checkFunction_49 ?_
  refine lv_topi (fun x10 ex10 => ?_)
  rw [i32_natI (x := x9) (n := p0.toInt + 1) (by (first | (apply Int.le_antisymm <;> omega) | omega)), show (p0.toInt + 1).toNat = p0.toNatClampNeg + 1 from by (first | (apply Int.le_antisymm <;> omega) | omega)] at ex10
  have tx10 : x10.toInt = (gcfi (p0.toNatClampNeg + 1)).toInt := by rw [ex10]
  refine lv_icmp_ge (tgt := 172) hx hb d_VA_checkFunction_50 (by decide) (fun c50 => ?_) (fun c50 => ?_)
  · have q50 := leI c50
    have hP9 := hP.sb (wq := [(h0, .inr (9, [.ref aw, .ref ac, .int j38_h0_sound, .int p0, .ref ty, .int j38_h0_height, .ref bo, .ref bg, .ref bh, .ref bd, .int j38_h0_depth])), (aw, .inr (10, law)), (ac, .inr (3, [.ref cfi, .ref clk, .ref clt, .int ac_length, .ref cop, .ref cva, .ref cpt, .ref cel, .int ac_labelCount, .ref cla])), (ty, .inl (cty, 5000, .inl j38_ty)), (bo, .inl (cbo, 101, .inl j38_bo)), (bg, .inl (cbg, 101, .inl j38_bg)), (bh, .inl (cbh, 101, .inl j38_bh)), (bd, .inl (cbd, 101, .inl j38_bd)), (waf, .inl (cwaf, 30, .inl gwaf)), (wat, .inl (cwat, 20, .inl gwat)), (wap, .inl (cwap, 160, .inl gwap)), (wag, .inl (cwag, 20, .inl gwag)), (wgt, .inl (cwgt, 20, .inl gwgt)), (wgc, .inl (cwgc, 20, .inl gwgc)), (cfi, .inl (ccfi, 31, .inl gcfi)), (clk, .inl (cclk, 30, .inl gclk)), (clt, .inl (cclt, 1800, .inl gclt)), (cop, .inl (ccop, 5000, .inl gcop)), (cva, .inl (ccva, 5000, .inr (.inl gcva))), (cpt, .inl (ccpt, 5000, .inl gcpt)), (cla, .inl (ccla, 2000, .inl gcla))]) [15, 12, 0, 16, 17, 18, 19, 20, 13, 1, 2, 14, 3, 4, 5, 6, 7, 8, 9, 10, 11] rfl
    have hD9 := hD.sb (wq := [(h0, .inr (9, [.ref aw, .ref ac, .int j38_h0_sound, .int p0, .ref ty, .int j38_h0_height, .ref bo, .ref bg, .ref bh, .ref bd, .int j38_h0_depth])), (aw, .inr (10, law)), (ac, .inr (3, [.ref cfi, .ref clk, .ref clt, .int ac_length, .ref cop, .ref cva, .ref cpt, .ref cel, .int ac_labelCount, .ref cla])), (ty, .inl (cty, 5000, .inl j38_ty)), (bo, .inl (cbo, 101, .inl j38_bo)), (bg, .inl (cbg, 101, .inl j38_bg)), (bh, .inl (cbh, 101, .inl j38_bh)), (bd, .inl (cbd, 101, .inl j38_bd)), (waf, .inl (cwaf, 30, .inl gwaf)), (wat, .inl (cwat, 20, .inl gwat)), (wap, .inl (cwap, 160, .inl gwap)), (wag, .inl (cwag, 20, .inl gwag)), (wgt, .inl (cwgt, 20, .inl gwgt)), (wgc, .inl (cwgc, 20, .inl gwgc)), (cfi, .inl (ccfi, 31, .inl gcfi)), (clk, .inl (cclk, 30, .inl gclk)), (clt, .inl (cclt, 1800, .inl gclt)), (cop, .inl (ccop, 5000, .inl gcop)), (cva, .inl (ccva, 5000, .inr (.inl gcva))), (cpt, .inl (ccpt, 5000, .inl gcpt)), (cla, .inl (ccla, 2000, .inl gcla))]) [15, 12, 0, 16, 17, 18, 19, 20, 13, 1, 2, 14, 3, 4, 5, 6, 7, 8, 9, 10, 11] (by decide) rfl
    exact W.vret hx hb hr (fun t ht hW => ⟨⟨(j38_bd, j38_bg, j38_bh, j38_bo, j38_ty, j38_h0_depth, p0, j38_h0_height, j38_h0_sound), rfl, ⟨b_j38_bh, b_j38_ty, b_j38_h0_depth, b_j38_h0_height, b_j38_h0_sound, (by rw [vfun_e f1 f2 c1]; exact rn_e v1 (by (first | (apply Int.le_antisymm <;> omega) | omega)))⟩, va_P.he ht.symm hP9, va_K.moved hW.alike hK, hD9⟩, hS.F ht⟩) hS.2.2 d_VA_checkFunction_172
  · have q50 := nleI c50
    refine lv_aload_n hx hb d_VA_checkFunction_53 rfl (lv_at hl 0 rfl) ?_
    refine va_get (D := (dC, dI)) (ci := 9) (v := .int j38_h0_sound) (C := R_VA) (T := F_VA) (N := 11) hx hb hts i_VA hown hK hP 15 rfl rfl 2 (by decide) (hts _ kF_VA_39) (fun _ h9 => h9) rfl d_VA_checkFunction_54 ?_
    refine lv_if_eq (tgt := 172) hx hb d_VA_checkFunction_57 (by decide) (fun c57 => ?_) (fun c57 => ?_)
    · have q57 := eqI c57
      have hP9 := hP.sb (wq := [(h0, .inr (9, [.ref aw, .ref ac, .int j38_h0_sound, .int p0, .ref ty, .int j38_h0_height, .ref bo, .ref bg, .ref bh, .ref bd, .int j38_h0_depth])), (aw, .inr (10, law)), (ac, .inr (3, [.ref cfi, .ref clk, .ref clt, .int ac_length, .ref cop, .ref cva, .ref cpt, .ref cel, .int ac_labelCount, .ref cla])), (ty, .inl (cty, 5000, .inl j38_ty)), (bo, .inl (cbo, 101, .inl j38_bo)), (bg, .inl (cbg, 101, .inl j38_bg)), (bh, .inl (cbh, 101, .inl j38_bh)), (bd, .inl (cbd, 101, .inl j38_bd)), (waf, .inl (cwaf, 30, .inl gwaf)), (wat, .inl (cwat, 20, .inl gwat)), (wap, .inl (cwap, 160, .inl gwap)), (wag, .inl (cwag, 20, .inl gwag)), (wgt, .inl (cwgt, 20, .inl gwgt)), (wgc, .inl (cwgc, 20, .inl gwgc)), (cfi, .inl (ccfi, 31, .inl gcfi)), (clk, .inl (cclk, 30, .inl gclk)), (clt, .inl (cclt, 1800, .inl gclt)), (cop, .inl (ccop, 5000, .inl gcop)), (cva, .inl (ccva, 5000, .inr (.inl gcva))), (cpt, .inl (ccpt, 5000, .inl gcpt)), (cla, .inl (ccla, 2000, .inl gcla))]) [15, 12, 0, 16, 17, 18, 19, 20, 13, 1, 2, 14, 3, 4, 5, 6, 7, 8, 9, 10, 11] rfl
      have hD9 := hD.sb (wq := [(h0, .inr (9, [.ref aw, .ref ac, .int j38_h0_sound, .int p0, .ref ty, .int j38_h0_height, .ref bo, .ref bg, .ref bh, .ref bd, .int j38_h0_depth])), (aw, .inr (10, law)), (ac, .inr (3, [.ref cfi, .ref clk, .ref clt, .int ac_length, .ref cop, .ref cva, .ref cpt, .ref cel, .int ac_labelCount, .ref cla])), (ty, .inl (cty, 5000, .inl j38_ty)), (bo, .inl (cbo, 101, .inl j38_bo)), (bg, .inl (cbg, 101, .inl j38_bg)), (bh, .inl (cbh, 101, .inl j38_bh)), (bd, .inl (cbd, 101, .inl j38_bd)), (waf, .inl (cwaf, 30, .inl gwaf)), (wat, .inl (cwat, 20, .inl gwat)), (wap, .inl (cwap, 160, .inl gwap)), (wag, .inl (cwag, 20, .inl gwag)), (wgt, .inl (cwgt, 20, .inl gwgt)), (wgc, .inl (cwgc, 20, .inl gwgc)), (cfi, .inl (ccfi, 31, .inl gcfi)), (clk, .inl (cclk, 30, .inl gclk)), (clt, .inl (cclt, 1800, .inl gclt)), (cop, .inl (ccop, 5000, .inl gcop)), (cva, .inl (ccva, 5000, .inr (.inl gcva))), (cpt, .inl (ccpt, 5000, .inl gcpt)), (cla, .inl (ccla, 2000, .inl gcla))]) [15, 12, 0, 16, 17, 18, 19, 20, 13, 1, 2, 14, 3, 4, 5, 6, 7, 8, 9, 10, 11] (by decide) rfl
      exact W.vret hx hb hr (fun t ht hW => ⟨⟨(j38_bd, j38_bg, j38_bh, j38_bo, j38_ty, j38_h0_depth, p0, j38_h0_height, j38_h0_sound), rfl, ⟨b_j38_bh, b_j38_ty, b_j38_h0_depth, b_j38_h0_height, b_j38_h0_sound, (by rw [vfun_e f1 f2 c1]; exact rn_e v1 (by (first | (apply Int.le_antisymm <;> omega) | omega)))⟩, va_P.he ht.symm hP9, va_K.moved hW.alike hK, hD9⟩, hS.F ht⟩) hS.2.2 d_VA_checkFunction_172
    · have q57 := neI c57
      have ci := i32_clamp (x := j38_l2) (by (first | (apply Int.le_antisymm <;> omega) | omega))
      have hk9 : (j38_l2.toInt - (gcfi p0.toNatClampNeg).toInt).toNat < co9.2.length := by (first | (apply Int.le_antisymm <;> omega) | omega)
      have hi9 := List.getElem?_eq_getElem hk9
      obtain ⟨i9, ei9⟩ : ∃ i, i = co9.2[(j38_l2.toInt - (gcfi p0.toNatClampNeg).toInt).toNat] := ⟨_, rfl⟩
      rw [← ei9] at hi9
      obtain ⟨s1, S8, B8, dd8, k1, k2, k3, k4, k5⟩ := rn_in v1 (by (first | (apply Int.le_antisymm <;> omega) | omega)) hi9
      have iC9 := hcd.1.1 _ _ (flC_get c1 hi9).1
      rw [e0] at iC9
      rw [show (flC (T9.2.2.2.2.2.take p0.toNatClampNeg)).length + (j38_l2.toInt - (gcfi p0.toNatClampNeg).toInt).toNat = j38_l2.toNatClampNeg from by (first | (apply Int.le_antisymm <;> omega) | omega)] at iC9
      have io9 := m3.out i9 (List.mem_of_getElem? hi9)
      have i1 := iC9.1
      have i2 := io9.2
      have kD := k2.2.1
      have kH := k2.1
      replace iC9 : bx _ := iC9
      replace k5 : bx _ := k5
      replace io9 : bx _ := io9
      refine lv_aload_n hx hb d_VA_checkFunction_60 rfl (lv_at hl 0 rfl) ?_
      refine va_get (D := (dC, dI)) (ci := 9) (v := .ref ac) (C := R_VA) (T := F_VA) (N := 11) hx hb hts i_VA hown hK hP 15 rfl rfl 1 (by decide) (hts _ kF_VA_38) (fun _ h9 => h9) rfl d_VA_checkFunction_61 ?_
      refine va_get (D := (dC, dI)) (ci := 3) (v := .ref cop) (C := R_CD) (T := F_CD) (N := 10) hx hb hts i_CD hown hK hP 0 rfl rfl 4 (by decide) (hts _ kF_VA_133) (fun _ h9 => h9) rfl d_VA_checkFunction_64 ?_
      refine lv_iload_n hx hb d_VA_checkFunction_67 rfl (lv_at hl 2 rfl) ?_
      have g68 : vp_in j38_l2 5000 := vp_in_iff.mpr ⟨by (first | (apply Int.le_antisymm <;> omega) | omega), by (first | (apply Int.le_antisymm <;> omega) | omega)⟩
      refine va_iald hx hb hK hP 8 14 rfl rfl g68 d_VA_checkFunction_68 ?_
      refine lv_topi (fun x11 ex11 => ?_)
      have t69 : x11.toInt = (gcop j38_l2.toNatClampNeg).toInt := by rw [ex11]
      refine lv_istore_n (lv' := [(3, .int x11), (0, .ref h0), (1, .int p0), (2, .int j38_l2)]) hx hb d_VA_checkFunction_69 rfl hl (by decide) rfl (fun ls hl => ?_)
      refine lv_iload_n hx hb d_VA_checkFunction_70 rfl (lv_at hl 0 rfl) ?_
      refine lv_iconst (v := 5) hx hb d_VA_checkFunction_71 (by decide) ?_
      refine w_cut (pc2 := 166) (σ := (Nat → Int32) × (Nat → Int32) × (Nat → Int32) × (Nat → Int32) × (Nat → Int32) × Int32 × Int32 × Int32) (fun u H locs ls => match u with | (j166_bd, j166_bg, j166_bh, j166_bo, j166_ty, j166_h0_depth, j166_h0_height, j166_h0_sound) => (∀ j : Nat, 0 ≤ (j166_bh j).toInt ∧ (j166_bh j).toInt ≤ 5000) ∧ (∀ j : Nat, (j166_ty j).toInt ≠ 64) ∧ (0 ≤ j166_h0_depth.toInt ∧ j166_h0_depth.toInt ≤ 101) ∧ (0 ≤ j166_h0_height.toInt ∧ j166_h0_height.toInt ≤ 5000) ∧ (j166_h0_sound = 0 ∨ j166_h0_sound = 1) ∧ (rnI T9 (tp9.1 ++ co9.1) tp9.2 co9.2 h0_sound j166_h0_sound j166_h0_height j166_h0_depth j166_ty j166_bo j166_bg j166_bh j166_bd ((j38_l2.toInt - (gcfi p0.toNatClampNeg).toInt).toNat + 1)) ∧ va_P (dC, dI) cls [(ac, .inr (3, [.ref cfi, .ref clk, .ref clt, .int ac_length, .ref cop, .ref cva, .ref cpt, .ref cel, .int ac_labelCount, .ref cla])), (wat, .inl (cwat, 20, .inl gwat)), (wap, .inl (cwap, 160, .inl gwap)), (wgt, .inl (cwgt, 20, .inl gwgt)), (wgc, .inl (cwgc, 20, .inl gwgc)), (cfi, .inl (ccfi, 31, .inl gcfi)), (clk, .inl (cclk, 30, .inl gclk)), (clt, .inl (cclt, 1800, .inl gclt)), (cop, .inl (ccop, 5000, .inl gcop)), (cva, .inl (ccva, 5000, .inr (.inl gcva))), (cpt, .inl (ccpt, 5000, .inl gcpt)), (cla, .inl (ccla, 2000, .inl gcla)), (aw, .inr (10, law)), (waf, .inl (cwaf, 30, .inl gwaf)), (wag, .inl (cwag, 20, .inl gwag)), (h0, .inr (9, [.ref aw, .ref ac, .int j166_h0_sound, .int p0, .ref ty, .int j166_h0_height, .ref bo, .ref bg, .ref bh, .ref bd, .int j166_h0_depth])), (ty, .inl (cty, 5000, .inl j166_ty)), (bo, .inl (cbo, 101, .inl j166_bo)), (bg, .inl (cbg, 101, .inl j166_bg)), (bh, .inl (cbh, 101, .inl j166_bh)), (bd, .inl (cbd, 101, .inl j166_bd))] H ∧ va_D A [(ac, .inr (3, [.ref cfi, .ref clk, .ref clt, .int ac_length, .ref cop, .ref cva, .ref cpt, .ref cel, .int ac_labelCount, .ref cla])), (wat, .inl (cwat, 20, .inl gwat)), (wap, .inl (cwap, 160, .inl gwap)), (wgt, .inl (cwgt, 20, .inl gwgt)), (wgc, .inl (cwgc, 20, .inl gwgc)), (cfi, .inl (ccfi, 31, .inl gcfi)), (clk, .inl (cclk, 30, .inl gclk)), (clt, .inl (cclt, 1800, .inl gclt)), (cop, .inl (ccop, 5000, .inl gcop)), (cva, .inl (ccva, 5000, .inr (.inl gcva))), (cpt, .inl (ccpt, 5000, .inl gcpt)), (cla, .inl (ccla, 2000, .inl gcla)), (aw, .inr (10, law)), (waf, .inl (cwaf, 30, .inl gwaf)), (wag, .inl (cwag, 20, .inl gwag)), (h0, .inr (9, [.ref aw, .ref ac, .int j166_h0_sound, .int p0, .ref ty, .int j166_h0_height, .ref bo, .ref bg, .ref bh, .ref bd, .int j166_h0_depth])), (ty, .inl (cty, 5000, .inl j166_ty)), (bo, .inl (cbo, 101, .inl j166_bo)), (bg, .inl (cbg, 101, .inl j166_bg)), (bh, .inl (cbh, 101, .inl j166_bh)), (bd, .inl (cbd, 101, .inl j166_bd))] ∧ va_S A s.heap H locs ∧ lv_has ls 4 [(0, .ref h0), (1, .int p0), (2, .int j38_l2)]) (fun u => match u with | (j166_bd, j166_bg, j166_bh, j166_bo, j166_ty, j166_h0_depth, j166_h0_height, j166_h0_sound) => []) ?_ (fun jn166 => ?_)
      · intro u H locs ls hI
        obtain ⟨j166_bd, j166_bg, j166_bh, j166_bo, j166_ty, j166_h0_depth, j166_h0_height, j166_h0_sound⟩ := u
        obtain ⟨b_j166_bh, b_j166_ty, b_j166_h0_depth, b_j166_h0_height, b_j166_h0_sound, w1, hP, hD, hS, hl⟩ := hI
        have tj166_h0_sound := b01 b_j166_h0_sound
        obtain ⟨x12, ex12⟩ : ∃ z : Int32, z = j38_l2 + 1 := ⟨_, rfl⟩
        have tx12 : x12.toInt = j38_l2.toInt + 1 := by have z := i32_add ex12 (by (first | (apply Int.le_antisymm <;> omega) | omega)) (by (first | (apply Int.le_antisymm <;> omega) | omega)); first | exact z | (first | (apply Int.le_antisymm <;> omega) | omega)
        refine lv_iinc (v := x12) (lv' := [(2, .int x12), (0, .ref h0), (1, .int p0)]) hx hb d_VA_checkFunction_166 hl (k := 2) rfl (by rw [ex12]; rfl) (by decide) rfl (fun ls hl => ?_)
        refine lv_goto (tgt := 38) hx hb d_VA_checkFunction_169 (by decide) ?_
        exact ih38 (x12, j166_bd, j166_bg, j166_bh, j166_bo, j166_ty, j166_h0_depth, j166_h0_height, j166_h0_sound) _ _ _ (by show ((gcfi (p0.toNatClampNeg + 1)).toInt - x12.toInt).toNat < N38; (first | (apply Int.le_antisymm <;> omega) | omega)) ⟨b_j166_bh, b_j166_ty, b_j166_h0_depth, b_j166_h0_height, b_j166_h0_sound, (by rw [show (x12.toInt - (gcfi p0.toNatClampNeg).toInt).toNat = (j38_l2.toInt - (gcfi p0.toNatClampNeg).toInt).toNat + 1 from by (first | (apply Int.le_antisymm <;> omega) | omega)]; exact w1), by (try dsimp only) <;> (first | (apply Int.le_antisymm <;> omega) | omega), hP, hD, hS, lv_sub hl [1, 2, 0] rfl⟩
      · skip
        refine lv_icmp_le (tgt := 81) hx hb d_VA_checkFunction_72 (by decide) (fun c72 => ?_) (fun c72 => ?_)
        · have q72 := leI c72
          refine lv_aload_n hx hb d_VA_checkFunction_81 rfl (lv_at hl 1 rfl) ?_
          refine lv_iload_n hx hb d_VA_checkFunction_82 rfl (lv_at hl 0 rfl) ?_
          refine lv_aload_n hx hb d_VA_checkFunction_83 rfl (lv_at hl 1 rfl) ?_
          refine va_get (D := (dC, dI)) (ci := 9) (v := .ref ac) (C := R_VA) (T := F_VA) (N := 11) hx hb hts i_VA hown hK hP 15 rfl rfl 1 (by decide) (hts _ kF_VA_38) (fun _ h9 => h9) rfl d_VA_checkFunction_84 ?_
          refine va_get (D := (dC, dI)) (ci := 3) (v := .ref cva) (C := R_CD) (T := F_CD) (N := 10) hx hb hts i_CD hown hK hP 0 rfl rfl 5 (by decide) (hts _ kF_VA_136) (fun _ h9 => h9) rfl d_VA_checkFunction_87 ?_
          refine lv_iload_n hx hb d_VA_checkFunction_90 rfl (lv_at hl 3 rfl) ?_
          have g91 : vp_in j38_l2 5000 := vp_in_iff.mpr ⟨by (first | (apply Int.le_antisymm <;> omega) | omega), by (first | (apply Int.le_antisymm <;> omega) | omega)⟩
          refine va_lald hx hb hK hP 9 15 rfl rfl g91 d_VA_checkFunction_91 ?_
          refine lv_topl (fun x13 ex13 => ?_)
          refine lv_l2i hx hb d_VA_checkFunction_92 rfl ?_
          refine lv_topi (fun x14 ex14 => ?_)
          have v9 : 0 ≤ (gcva j38_l2.toNatClampNeg).toInt ∧ (gcva j38_l2.toNatClampNeg).toInt ≤ 2147483647 → x14.toInt = (gcva j38_l2.toNatClampNeg).toInt := fun z => by have y := l2i_t ex14 (by rw [ex13]; (first | (apply Int.le_antisymm <;> omega) | omega)) (by rw [ex13]; (first | (apply Int.le_antisymm <;> omega) | omega)); rw [y, ex13]
          have hPc := hP.sb (wq := (wz_86 h0 aw ac j38_h0_sound p0 ty j38_h0_height bo bg bh bd j38_h0_depth ty cty j38_ty bo cbo j38_bo bg cbg j38_bg bh cbh j38_bh bd cbd j38_bd)) [15, 16, 17, 18, 19, 20] rfl
          have hDc := hD.sb (wq := (wz_86 h0 aw ac j38_h0_sound p0 ty j38_h0_height bo bg bh bd j38_h0_depth ty cty j38_ty bo cbo j38_bo bg cbg j38_bg bh cbh j38_bh bd cbd j38_bd)) [15, 16, 17, 18, 19, 20] (by decide) rfl
          have hKc := hK.sb (tyq := [(cty, .int), (cbo, .int), (cbg, .int), (cbh, .int), (cbd, .boolean)]) [0, 1, 2, 3, 4] rfl
          have hFc := va_free (wc := (wz_86 h0 aw ac j38_h0_sound p0 ty j38_h0_height bo bg bh bd j38_h0_depth ty cty j38_ty bo cbo j38_bo bg cbg j38_bg bh cbh j38_bh bd cbd j38_bd)) hD hS hA [15, 16, 17, 18, 19, 20] rfl
          refine va_callv (va_runV (As := [.int x11, .int x14]) (rest := []) ⟨hx, hb, hml, hown, hts⟩ (c_VA_checkBlocksy l dC dI H.size h0 aw ac ty bo bg bh bd cty cbo cbg cbh cbd j38_h0_sound p0 j38_h0_height j38_h0_depth j38_ty j38_bo j38_bg j38_bh j38_bd S8 B8 i9.2.1 (b_j38_h0_sound) (b_j38_h0_height) (b_j38_h0_depth) (b_j38_ty) (b_j38_bh) x11 x14 ((fun _ => k2)) ((fun _ => by (first | (apply Int.le_antisymm <;> omega) | omega))) ((fun z => by have qa := iC9.out.2.1 (Or.inr (by (first | (apply Int.le_antisymm <;> omega) | omega))); have qb := v9 (by (first | (apply Int.le_antisymm <;> omega) | omega)); (first | (apply Int.le_antisymm <;> omega) | omega))) ((fun _ => by (first | (apply Int.le_antisymm <;> omega) | omega))) ((fun _ z => by have q := (k5.out.1 (by (first | (apply Int.le_antisymm <;> omega) | omega))).1; (first | (apply Int.le_antisymm <;> omega) | omega))) ((by (first | (apply Int.le_antisymm <;> omega) | omega)))) (cwV 2 hts (gV kM_VA_140 kV_VA_checkBlocks kS_VA_checkBlocks kI_VA kC_VA_checkBlocks) rfl rfl rfl (by decide +kernel) ⟨Nat.le_of_ble_eq_true rfl, Nat.le_of_ble_eq_true rfl⟩) ⟨fun a U g mk z => by obtain ⟨z0, z1, zP, zK, zD⟩ := z; exact ⟨z0, z1, zP, va_K.moved (u := U) (U := U.calling g mk a) (Vm.Alike.refl U.vm) zK, zD⟩, va_recv hKc hPc (ci := 9) (q0 := 0) rfl rfl, fun U hU hW => ⟨rfl, by rw [hU], va_P.he hU.symm hPc, va_K.moved hW.alike hKc, hDc.weaken (fun _ _ _ _ => trivial)⟩⟩ rfl rfl hl.1 rfl (lv_room (Nat.le_of_ble_eq_true rfl)) d_VA_checkFunction_93 ⟨(Nat.zero_le _), (Nat.zero_le _)⟩) hS (fun q _ h => hFc q h) hFc (fun u t H1 locs ht hvm hw hB hz1 hk1 hS => ?_)
          obtain ⟨n16, n17, n18, n19, n20, n21, n22, n23⟩ := u
          try dsimp only at hw
          obtain ⟨bn18, bn20, bn21, bn22, bn23, xr15⟩ := hw
          try clear hw
          have tn23 := b01 bn23
          have x9 : vsz (vstep T9 (tp9.1 ++ co9.1) tp9.2 i9 S8 B8) j38_h0_sound n23 n22 n21 n20 n19 n17 n18 n16 := by rw [vst_blk (by (first | (apply Int.le_antisymm <;> omega) | omega)), show i9.1 = x11.toInt.toNat from by (first | (apply Int.le_antisymm <;> omega) | omega)]; exact xr15.2
          have h9 : n23.toInt = 1 → n22.toInt ≤ ((j38_l2.toInt - (gcfi p0.toNatClampNeg).toInt).toNat : Int) + 1 := fun z => by have := xr15.1 z; (first | (apply Int.le_antisymm <;> omega) | omega)
          have rn9 := rn_s s1 k1 k4 k5.out io9.out x9 (by (first | (apply Int.le_antisymm <;> omega) | omega)) h9
          clear xr15
          obtain ⟨hP1, hK1, hD1⟩ := hB
          replace hP1 := va_P.he ht hP1
          obtain ⟨hP, hD⟩ := va_join (wr := [(ac, .inr (3, [.ref cfi, .ref clk, .ref clt, .int ac_length, .ref cop, .ref cva, .ref cpt, .ref cel, .int ac_labelCount, .ref cla])), (wat, .inl (cwat, 20, .inl gwat)), (wap, .inl (cwap, 160, .inl gwap)), (wgt, .inl (cwgt, 20, .inl gwgt)), (wgc, .inl (cwgc, 20, .inl gwgc)), (cfi, .inl (ccfi, 31, .inl gcfi)), (clk, .inl (cclk, 30, .inl gclk)), (clt, .inl (cclt, 1800, .inl gclt)), (cop, .inl (ccop, 5000, .inl gcop)), (cva, .inl (ccva, 5000, .inr (.inl gcva))), (cpt, .inl (ccpt, 5000, .inl gcpt)), (cla, .inl (ccla, 2000, .inl gcla)), (aw, .inr (10, law)), (waf, .inl (cwaf, 30, .inl gwaf)), (wag, .inl (cwag, 20, .inl gwag))]) (w1 := (wz_86 h0 aw ac n23 p0 ty n22 bo bg bh bd n21 ty cty n20 bo cbo n19 bg cbg n17 bh cbh n18 bd cbd n16)) hP hD [15, 16, 17, 18, 19, 20] [0, 1, 2, 3, 4, 5, 6, 7, 8, 9, 10, 11, 12, 13, 14] rfl rfl (by decide) (by decide) hk1 hFc hP1 hD1
          clear hPc hDc hKc hFc hz1 hk1 hP1 hK1 hD1
          rename Heap => H
          have hP : va_P (dC, dI) cls [(ac, .inr (3, [.ref cfi, .ref clk, .ref clt, .int ac_length, .ref cop, .ref cva, .ref cpt, .ref cel, .int ac_labelCount, .ref cla])), (wat, .inl (cwat, 20, .inl gwat)), (wap, .inl (cwap, 160, .inl gwap)), (wgt, .inl (cwgt, 20, .inl gwgt)), (wgc, .inl (cwgc, 20, .inl gwgc)), (cfi, .inl (ccfi, 31, .inl gcfi)), (clk, .inl (cclk, 30, .inl gclk)), (clt, .inl (cclt, 1800, .inl gclt)), (cop, .inl (ccop, 5000, .inl gcop)), (cva, .inl (ccva, 5000, .inr (.inl gcva))), (cpt, .inl (ccpt, 5000, .inl gcpt)), (cla, .inl (ccla, 2000, .inl gcla)), (aw, .inr (10, law)), (waf, .inl (cwaf, 30, .inl gwaf)), (wag, .inl (cwag, 20, .inl gwag)), (h0, .inr (9, [.ref aw, .ref ac, .int n23, .int p0, .ref ty, .int n22, .ref bo, .ref bg, .ref bh, .ref bd, .int n21])), (ty, .inl (cty, 5000, .inl n20)), (bo, .inl (cbo, 101, .inl n19)), (bg, .inl (cbg, 101, .inl n17)), (bh, .inl (cbh, 101, .inl n18)), (bd, .inl (cbd, 101, .inl n16))] H := hP
          have hD : va_D A [(ac, .inr (3, [.ref cfi, .ref clk, .ref clt, .int ac_length, .ref cop, .ref cva, .ref cpt, .ref cel, .int ac_labelCount, .ref cla])), (wat, .inl (cwat, 20, .inl gwat)), (wap, .inl (cwap, 160, .inl gwap)), (wgt, .inl (cwgt, 20, .inl gwgt)), (wgc, .inl (cwgc, 20, .inl gwgc)), (cfi, .inl (ccfi, 31, .inl gcfi)), (clk, .inl (cclk, 30, .inl gclk)), (clt, .inl (cclt, 1800, .inl gclt)), (cop, .inl (ccop, 5000, .inl gcop)), (cva, .inl (ccva, 5000, .inr (.inl gcva))), (cpt, .inl (ccpt, 5000, .inl gcpt)), (cla, .inl (ccla, 2000, .inl gcla)), (aw, .inr (10, law)), (waf, .inl (cwaf, 30, .inl gwaf)), (wag, .inl (cwag, 20, .inl gwag)), (h0, .inr (9, [.ref aw, .ref ac, .int n23, .int p0, .ref ty, .int n22, .ref bo, .ref bg, .ref bh, .ref bd, .int n21])), (ty, .inl (cty, 5000, .inl n20)), (bo, .inl (cbo, 101, .inl n19)), (bg, .inl (cbg, 101, .inl n17)), (bh, .inl (cbh, 101, .inl n18)), (bd, .inl (cbd, 101, .inl n16))] := hD
          refine lv_goto (tgt := 166) hx hb d_VA_checkFunction_96 (by decide) ?_
          exact jn166 (n16, n17, n18, n19, n20, n21, n22, n23) _ _ _ ⟨bn18, bn20, bn21, bn22, bn23, rn9, hP, hD, hS, lv_sub hl [1, 2, 3] rfl⟩
        · have q72 := nleI c72
          refine lv_iload_n hx hb d_VA_checkFunction_75 rfl (lv_at hl 0 rfl) ?_
          refine lv_bipush (v := 11) hx hb d_VA_checkFunction_76 (by decide) ?_
          refine lv_icmp_ne (tgt := 99) hx hb d_VA_checkFunction_78 (by decide) (fun c78 => ?_) (fun c78 => ?_)
          · have q78 := neI c78
            refine lv_iload_n hx hb d_VA_checkFunction_99 rfl (lv_at hl 0 rfl) ?_
            refine lv_bipush (v := 16) hx hb d_VA_checkFunction_100 (by decide) ?_
            refine lv_icmp_gt (tgt := 114) hx hb d_VA_checkFunction_102 (by decide) (fun c102 => ?_) (fun c102 => ?_)
            · have q102 := ltI c102
              refine lv_iload_n hx hb d_VA_checkFunction_114 rfl (lv_at hl 0 rfl) ?_
              refine lv_bipush (v := 36) hx hb d_VA_checkFunction_115 (by decide) ?_
              refine lv_icmp_gt (tgt := 138) hx hb d_VA_checkFunction_117 (by decide) (fun c117 => ?_) (fun c117 => ?_)
              · have q117 := ltI c117
                refine lv_iload_n hx hb d_VA_checkFunction_138 rfl (lv_at hl 0 rfl) ?_
                refine lv_bipush (v := 64) hx hb d_VA_checkFunction_139 (by decide) ?_
                refine lv_icmp_gt (tgt := 161) hx hb d_VA_checkFunction_141 (by decide) (fun c141 => ?_) (fun c141 => ?_)
                · have q141 := ltI c141
                  refine lv_aload_n hx hb d_VA_checkFunction_161 rfl (lv_at hl 1 rfl) ?_
                  refine lv_iload_n hx hb d_VA_checkFunction_162 rfl (lv_at hl 0 rfl) ?_
                  have hPc := hP.sb (wq := (wz_86 h0 aw ac j38_h0_sound p0 ty j38_h0_height bo bg bh bd j38_h0_depth ty cty j38_ty bo cbo j38_bo bg cbg j38_bg bh cbh j38_bh bd cbd j38_bd)) [15, 16, 17, 18, 19, 20] rfl
                  have hDc := hD.sb (wq := (wz_86 h0 aw ac j38_h0_sound p0 ty j38_h0_height bo bg bh bd j38_h0_depth ty cty j38_ty bo cbo j38_bo bg cbg j38_bg bh cbh j38_bh bd cbd j38_bd)) [15, 16, 17, 18, 19, 20] (by decide) rfl
                  have hKc := hK.sb (tyq := [(cty, .int), (cbo, .int), (cbg, .int), (cbh, .int), (cbd, .boolean)]) [0, 1, 2, 3, 4] rfl
                  have hFc := va_free (wc := (wz_86 h0 aw ac j38_h0_sound p0 ty j38_h0_height bo bg bh bd j38_h0_depth ty cty j38_ty bo cbo j38_bo bg cbg j38_bg bh cbh j38_bh bd cbd j38_bd)) hD hS hA [15, 16, 17, 18, 19, 20] rfl
                  refine va_callv (va_runV (As := [.int x11]) (rest := []) ⟨hx, hb, hml, hown, hts⟩ (c_VA_checkNumbery l dC dI H.size h0 aw ac ty bo bg bh bd cty cbo cbg cbh cbd j38_h0_sound p0 j38_h0_height j38_h0_depth j38_ty j38_bo j38_bg j38_bh j38_bd S8 B8 (b_j38_h0_sound) (b_j38_h0_height) (b_j38_h0_depth) (b_j38_ty) (b_j38_bh) x11 ((fun _ => k2)) ((fun _ => by (first | (apply Int.le_antisymm <;> omega) | omega))) (by (first | (apply Int.le_antisymm <;> omega) | omega))) (cwV 1 hts (gV kM_VA_155 kV_VA_checkNumber kS_VA_checkNumber kI_VA kC_VA_checkNumber) rfl rfl rfl (by decide +kernel) ⟨Nat.le_of_ble_eq_true rfl, Nat.le_of_ble_eq_true rfl⟩) ⟨fun a U g mk z => by obtain ⟨z0, z1, zP, zK, zD⟩ := z; exact ⟨z0, z1, zP, va_K.moved (u := U) (U := U.calling g mk a) (Vm.Alike.refl U.vm) zK, zD⟩, va_recv hKc hPc (ci := 9) (q0 := 0) rfl rfl, fun U hU hW => ⟨rfl, by rw [hU], va_P.he hU.symm hPc, va_K.moved hW.alike hKc, hDc.weaken (fun _ _ _ _ => trivial)⟩⟩ rfl rfl hl.1 rfl (lv_room (Nat.le_of_ble_eq_true rfl)) d_VA_checkFunction_163 ⟨(Nat.zero_le _), (Nat.zero_le _)⟩) hS (fun q _ h => hFc q h) hFc (fun u t H1 locs ht hvm hw hB hz1 hk1 hS => ?_)
                  obtain ⟨n25, n26, n27⟩ := u
                  try dsimp only at hw
                  obtain ⟨bn25, bn26, bn27, xr24⟩ := hw
                  try clear hw
                  have tn27 := b01 bn27
                  have x9 : vsz (vstep T9 (tp9.1 ++ co9.1) tp9.2 i9 S8 B8) j38_h0_sound n27 n26 j38_h0_depth n25 j38_bo j38_bg j38_bh j38_bd := by rw [vst_num (by have q9 := io9.out.1; (first | (apply Int.le_antisymm <;> omega) | omega)), show i9.1 = x11.toInt.toNat from by (first | (apply Int.le_antisymm <;> omega) | omega)]; exact xr24.2
                  have h9 : n27.toInt = 1 → n26.toInt ≤ ((j38_l2.toInt - (gcfi p0.toNatClampNeg).toInt).toNat : Int) + 1 := fun z => by have := xr24.1; (first | (apply Int.le_antisymm <;> omega) | omega)
                  have rn9 := rn_s s1 k1 k4 k5.out io9.out x9 (by (first | (apply Int.le_antisymm <;> omega) | omega)) h9
                  clear xr24
                  obtain ⟨hP1, hK1, hD1⟩ := hB
                  replace hP1 := va_P.he ht hP1
                  obtain ⟨hP, hD⟩ := va_join (wr := [(ac, .inr (3, [.ref cfi, .ref clk, .ref clt, .int ac_length, .ref cop, .ref cva, .ref cpt, .ref cel, .int ac_labelCount, .ref cla])), (wat, .inl (cwat, 20, .inl gwat)), (wap, .inl (cwap, 160, .inl gwap)), (wgt, .inl (cwgt, 20, .inl gwgt)), (wgc, .inl (cwgc, 20, .inl gwgc)), (cfi, .inl (ccfi, 31, .inl gcfi)), (clk, .inl (cclk, 30, .inl gclk)), (clt, .inl (cclt, 1800, .inl gclt)), (cop, .inl (ccop, 5000, .inl gcop)), (cva, .inl (ccva, 5000, .inr (.inl gcva))), (cpt, .inl (ccpt, 5000, .inl gcpt)), (cla, .inl (ccla, 2000, .inl gcla)), (aw, .inr (10, law)), (waf, .inl (cwaf, 30, .inl gwaf)), (wag, .inl (cwag, 20, .inl gwag))]) (w1 := (wz_86 h0 aw ac n27 p0 ty n26 bo bg bh bd j38_h0_depth ty cty n25 bo cbo j38_bo bg cbg j38_bg bh cbh j38_bh bd cbd j38_bd)) hP hD [15, 16, 17, 18, 19, 20] [0, 1, 2, 3, 4, 5, 6, 7, 8, 9, 10, 11, 12, 13, 14] rfl rfl (by decide) (by decide) hk1 hFc hP1 hD1
                  clear hPc hDc hKc hFc hz1 hk1 hP1 hK1 hD1
                  rename Heap => H
                  have hP : va_P (dC, dI) cls [(ac, .inr (3, [.ref cfi, .ref clk, .ref clt, .int ac_length, .ref cop, .ref cva, .ref cpt, .ref cel, .int ac_labelCount, .ref cla])), (wat, .inl (cwat, 20, .inl gwat)), (wap, .inl (cwap, 160, .inl gwap)), (wgt, .inl (cwgt, 20, .inl gwgt)), (wgc, .inl (cwgc, 20, .inl gwgc)), (cfi, .inl (ccfi, 31, .inl gcfi)), (clk, .inl (cclk, 30, .inl gclk)), (clt, .inl (cclt, 1800, .inl gclt)), (cop, .inl (ccop, 5000, .inl gcop)), (cva, .inl (ccva, 5000, .inr (.inl gcva))), (cpt, .inl (ccpt, 5000, .inl gcpt)), (cla, .inl (ccla, 2000, .inl gcla)), (aw, .inr (10, law)), (waf, .inl (cwaf, 30, .inl gwaf)), (wag, .inl (cwag, 20, .inl gwag)), (h0, .inr (9, [.ref aw, .ref ac, .int n27, .int p0, .ref ty, .int n26, .ref bo, .ref bg, .ref bh, .ref bd, .int j38_h0_depth])), (ty, .inl (cty, 5000, .inl n25)), (bo, .inl (cbo, 101, .inl j38_bo)), (bg, .inl (cbg, 101, .inl j38_bg)), (bh, .inl (cbh, 101, .inl j38_bh)), (bd, .inl (cbd, 101, .inl j38_bd))] H := hP
                  have hD : va_D A [(ac, .inr (3, [.ref cfi, .ref clk, .ref clt, .int ac_length, .ref cop, .ref cva, .ref cpt, .ref cel, .int ac_labelCount, .ref cla])), (wat, .inl (cwat, 20, .inl gwat)), (wap, .inl (cwap, 160, .inl gwap)), (wgt, .inl (cwgt, 20, .inl gwgt)), (wgc, .inl (cwgc, 20, .inl gwgc)), (cfi, .inl (ccfi, 31, .inl gcfi)), (clk, .inl (cclk, 30, .inl gclk)), (clt, .inl (cclt, 1800, .inl gclt)), (cop, .inl (ccop, 5000, .inl gcop)), (cva, .inl (ccva, 5000, .inr (.inl gcva))), (cpt, .inl (ccpt, 5000, .inl gcpt)), (cla, .inl (ccla, 2000, .inl gcla)), (aw, .inr (10, law)), (waf, .inl (cwaf, 30, .inl gwaf)), (wag, .inl (cwag, 20, .inl gwag)), (h0, .inr (9, [.ref aw, .ref ac, .int n27, .int p0, .ref ty, .int n26, .ref bo, .ref bg, .ref bh, .ref bd, .int j38_h0_depth])), (ty, .inl (cty, 5000, .inl n25)), (bo, .inl (cbo, 101, .inl j38_bo)), (bg, .inl (cbg, 101, .inl j38_bg)), (bh, .inl (cbh, 101, .inl j38_bh)), (bd, .inl (cbd, 101, .inl j38_bd))] := hD
                  exact jn166 (j38_bd, j38_bg, j38_bh, j38_bo, n25, j38_h0_depth, n26, n27) _ _ _ ⟨b_j38_bh, bn25, b_j38_h0_depth, bn26, bn27, rn9, hP, hD, hS, lv_sub hl [1, 2, 3] rfl⟩
                · have q141 := nltI c141
                  refine lv_aload_n hx hb d_VA_checkFunction_144 rfl (lv_at hl 1 rfl) ?_
                  refine lv_iload_n hx hb d_VA_checkFunction_145 rfl (lv_at hl 0 rfl) ?_
                  refine lv_aload_n hx hb d_VA_checkFunction_146 rfl (lv_at hl 1 rfl) ?_
                  refine va_get (D := (dC, dI)) (ci := 9) (v := .ref ac) (C := R_VA) (T := F_VA) (N := 11) hx hb hts i_VA hown hK hP 15 rfl rfl 1 (by decide) (hts _ kF_VA_38) (fun _ h9 => h9) rfl d_VA_checkFunction_147 ?_
                  refine va_get (D := (dC, dI)) (ci := 3) (v := .ref cpt) (C := R_CD) (T := F_CD) (N := 10) hx hb hts i_CD hown hK hP 0 rfl rfl 6 (by decide) (hts _ kF_VA_149) (fun _ h9 => h9) rfl d_VA_checkFunction_150 ?_
                  refine lv_iload_n hx hb d_VA_checkFunction_153 rfl (lv_at hl 3 rfl) ?_
                  have g154 : vp_in j38_l2 5000 := vp_in_iff.mpr ⟨by (first | (apply Int.le_antisymm <;> omega) | omega), by (first | (apply Int.le_antisymm <;> omega) | omega)⟩
                  refine va_iald hx hb hK hP 10 16 rfl rfl g154 d_VA_checkFunction_154 ?_
                  refine lv_topi (fun x28 ex28 => ?_)
                  have tx28 : x28.toInt = (gcpt j38_l2.toNatClampNeg).toInt := by rw [ex28]
                  have hPc := hP.sb (wq := [(h0, .inr (9, [.ref aw, .ref ac, .int j38_h0_sound, .int p0, .ref ty, .int j38_h0_height, .ref bo, .ref bg, .ref bh, .ref bd, .int j38_h0_depth])), (aw, .inr (10, law)), (ty, .inl (cty, 5000, .inl j38_ty)), (bo, .inl (cbo, 101, .inl j38_bo)), (bg, .inl (cbg, 101, .inl j38_bg)), (bh, .inl (cbh, 101, .inl j38_bh)), (bd, .inl (cbd, 101, .inl j38_bd))]) [15, 12, 16, 17, 18, 19, 20] rfl
                  have hDc := hD.sb (wq := [(h0, .inr (9, [.ref aw, .ref ac, .int j38_h0_sound, .int p0, .ref ty, .int j38_h0_height, .ref bo, .ref bg, .ref bh, .ref bd, .int j38_h0_depth])), (aw, .inr (10, law)), (ty, .inl (cty, 5000, .inl j38_ty)), (bo, .inl (cbo, 101, .inl j38_bo)), (bg, .inl (cbg, 101, .inl j38_bg)), (bh, .inl (cbh, 101, .inl j38_bh)), (bd, .inl (cbd, 101, .inl j38_bd))]) [15, 12, 16, 17, 18, 19, 20] (by decide) rfl
                  have hKc := hK.sb (tyq := [(cty, .int), (cbo, .int), (cbg, .int), (cbh, .int), (cbd, .boolean)]) [0, 1, 2, 3, 4] rfl
                  have hFc := va_free (wc := [(h0, .inr (9, [.ref aw, .ref ac, .int j38_h0_sound, .int p0, .ref ty, .int j38_h0_height, .ref bo, .ref bg, .ref bh, .ref bd, .int j38_h0_depth])), (aw, .inr (10, law)), (ty, .inl (cty, 5000, .inl j38_ty)), (bo, .inl (cbo, 101, .inl j38_bo)), (bg, .inl (cbg, 101, .inl j38_bg)), (bh, .inl (cbh, 101, .inl j38_bh)), (bd, .inl (cbd, 101, .inl j38_bd))]) hD hS hA [15, 12, 16, 17, 18, 19, 20] rfl
                  refine va_callv (va_runV (As := [.int x11, .int x28]) (rest := []) ⟨hx, hb, hml, hown, hts⟩ (c_VA_checkMemoryy l dC dI H.size h0 aw ac ty bo bg bh bd cty cbo cbg cbh cbd j38_h0_sound p0 j38_h0_height j38_h0_depth law aw_hasMemory j38_ty j38_bo j38_bg j38_bh j38_bd S8 B8 paw_8 plaw (b_j38_h0_sound) (b_j38_h0_height) (b_j38_h0_depth) (b_j38_ty) (b_j38_bh) (b_aw_hasMemory) x11 x28 ((fun _ => k2)) ((fun _ => by (first | (apply Int.le_antisymm <;> omega) | omega))) ((by have q9 := io9.out.1; (first | (apply Int.le_antisymm <;> omega) | omega))) ((by by_cases q : x11.toInt = 63 ∨ x11.toInt = 64; ((first | (apply Int.le_antisymm <;> omega) | omega)); (have qa := iC9.out.2.2.1 (by rw [show i9.1 = x11.toInt.toNat from by (first | (apply Int.le_antisymm <;> omega) | omega)]; exact (zacc_i (by (first | (apply Int.le_antisymm <;> omega) | omega))).mpr (by have q9 := io9.out.1; (first | (apply Int.le_antisymm <;> omega) | omega))); (first | (apply Int.le_antisymm <;> omega) | omega))))) (cwV 2 hts (gV kM_VA_152 kV_VA_checkMemory kS_VA_checkMemory kI_VA kC_VA_checkMemory) rfl rfl rfl (by decide +kernel) ⟨Nat.le_of_ble_eq_true rfl, Nat.le_of_ble_eq_true rfl⟩) ⟨fun a U g mk z => by obtain ⟨z0, z1, zP, zK, zD⟩ := z; exact ⟨z0, z1, zP, va_K.moved (u := U) (U := U.calling g mk a) (Vm.Alike.refl U.vm) zK, zD⟩, va_recv hKc hPc (ci := 9) (q0 := 0) rfl rfl, fun U hU hW => ⟨rfl, by rw [hU], va_P.he hU.symm hPc, va_K.moved hW.alike hKc, hDc.weaken (fun _ _ _ _ => trivial)⟩⟩ rfl rfl hl.1 rfl (lv_room (Nat.le_of_ble_eq_true rfl)) d_VA_checkFunction_155 ⟨(Nat.zero_le _), (Nat.zero_le _)⟩) hS (fun q _ h => hFc q h) hFc (fun u t H1 locs ht hvm hw hB hz1 hk1 hS => ?_)
                  obtain ⟨n30, n31, n32⟩ := u
                  try dsimp only at hw
                  obtain ⟨bn30, bn31, bn32, xr29⟩ := hw
                  try clear hw
                  have tn32 := b01 bn32
                  have x9 : vsz (vstep T9 (tp9.1 ++ co9.1) tp9.2 i9 S8 B8) j38_h0_sound n32 n31 j38_h0_depth n30 j38_bo j38_bg j38_bh j38_bd := by rw [vst_mem (by (first | (apply Int.le_antisymm <;> omega) | omega)) (by (first | (apply Int.le_antisymm <;> omega) | omega)), show i9.1 = x11.toInt.toNat from by (first | (apply Int.le_antisymm <;> omega) | omega), show T9.2.2.1.1 = aw_hasMemory.toInt.toNat from by (first | (apply Int.le_antisymm <;> omega) | omega), show vmem aw_hasMemory.toInt.toNat x11.toInt.toNat i9.2.1 S8 B8 = vmem aw_hasMemory.toInt.toNat x11.toInt.toNat x28.toInt.toNat S8 B8 from (by by_cases q : x11.toInt.toNat = 63 ∨ x11.toInt.toNat = 64; (exact vmem_v q); (have qa := iC9.out.2.2.1 (by rw [show i9.1 = x11.toInt.toNat from by (first | (apply Int.le_antisymm <;> omega) | omega)]; exact (zacc_i (by (first | (apply Int.le_antisymm <;> omega) | omega))).mpr (by have q9 := io9.out.1; (first | (apply Int.le_antisymm <;> omega) | omega))); rw [show x28.toInt.toNat = i9.2.1 from by (first | (apply Int.le_antisymm <;> omega) | omega)]))]; exact xr29.2
                  have h9 : n32.toInt = 1 → n31.toInt ≤ ((j38_l2.toInt - (gcfi p0.toNatClampNeg).toInt).toNat : Int) + 1 := fun z => by have := xr29.1; (first | (apply Int.le_antisymm <;> omega) | omega)
                  have rn9 := rn_s s1 k1 k4 k5.out io9.out x9 (by (first | (apply Int.le_antisymm <;> omega) | omega)) h9
                  clear xr29
                  obtain ⟨hP1, hK1, hD1⟩ := hB
                  replace hP1 := va_P.he ht hP1
                  obtain ⟨hP, hD⟩ := va_join (wr := [(ac, .inr (3, [.ref cfi, .ref clk, .ref clt, .int ac_length, .ref cop, .ref cva, .ref cpt, .ref cel, .int ac_labelCount, .ref cla])), (wat, .inl (cwat, 20, .inl gwat)), (wap, .inl (cwap, 160, .inl gwap)), (wgt, .inl (cwgt, 20, .inl gwgt)), (wgc, .inl (cwgc, 20, .inl gwgc)), (cfi, .inl (ccfi, 31, .inl gcfi)), (clk, .inl (cclk, 30, .inl gclk)), (clt, .inl (cclt, 1800, .inl gclt)), (cop, .inl (ccop, 5000, .inl gcop)), (cva, .inl (ccva, 5000, .inr (.inl gcva))), (cpt, .inl (ccpt, 5000, .inl gcpt)), (cla, .inl (ccla, 2000, .inl gcla)), (waf, .inl (cwaf, 30, .inl gwaf)), (wag, .inl (cwag, 20, .inl gwag))]) (w1 := [(h0, .inr (9, [.ref aw, .ref ac, .int n32, .int p0, .ref ty, .int n31, .ref bo, .ref bg, .ref bh, .ref bd, .int j38_h0_depth])), (aw, .inr (10, law)), (ty, .inl (cty, 5000, .inl n30)), (bo, .inl (cbo, 101, .inl j38_bo)), (bg, .inl (cbg, 101, .inl j38_bg)), (bh, .inl (cbh, 101, .inl j38_bh)), (bd, .inl (cbd, 101, .inl j38_bd))]) hP hD [15, 12, 16, 17, 18, 19, 20] [0, 1, 2, 3, 4, 5, 6, 7, 8, 9, 10, 11, 13, 14] rfl rfl (by decide) (by decide) hk1 hFc hP1 hD1
                  clear hPc hDc hKc hFc hz1 hk1 hP1 hK1 hD1
                  rename Heap => H
                  have hP : va_P (dC, dI) cls [(ac, .inr (3, [.ref cfi, .ref clk, .ref clt, .int ac_length, .ref cop, .ref cva, .ref cpt, .ref cel, .int ac_labelCount, .ref cla])), (wat, .inl (cwat, 20, .inl gwat)), (wap, .inl (cwap, 160, .inl gwap)), (wgt, .inl (cwgt, 20, .inl gwgt)), (wgc, .inl (cwgc, 20, .inl gwgc)), (cfi, .inl (ccfi, 31, .inl gcfi)), (clk, .inl (cclk, 30, .inl gclk)), (clt, .inl (cclt, 1800, .inl gclt)), (cop, .inl (ccop, 5000, .inl gcop)), (cva, .inl (ccva, 5000, .inr (.inl gcva))), (cpt, .inl (ccpt, 5000, .inl gcpt)), (cla, .inl (ccla, 2000, .inl gcla)), (waf, .inl (cwaf, 30, .inl gwaf)), (wag, .inl (cwag, 20, .inl gwag)), (h0, .inr (9, [.ref aw, .ref ac, .int n32, .int p0, .ref ty, .int n31, .ref bo, .ref bg, .ref bh, .ref bd, .int j38_h0_depth])), (aw, .inr (10, law)), (ty, .inl (cty, 5000, .inl n30)), (bo, .inl (cbo, 101, .inl j38_bo)), (bg, .inl (cbg, 101, .inl j38_bg)), (bh, .inl (cbh, 101, .inl j38_bh)), (bd, .inl (cbd, 101, .inl j38_bd))] H := hP
                  have hD : va_D A [(ac, .inr (3, [.ref cfi, .ref clk, .ref clt, .int ac_length, .ref cop, .ref cva, .ref cpt, .ref cel, .int ac_labelCount, .ref cla])), (wat, .inl (cwat, 20, .inl gwat)), (wap, .inl (cwap, 160, .inl gwap)), (wgt, .inl (cwgt, 20, .inl gwgt)), (wgc, .inl (cwgc, 20, .inl gwgc)), (cfi, .inl (ccfi, 31, .inl gcfi)), (clk, .inl (cclk, 30, .inl gclk)), (clt, .inl (cclt, 1800, .inl gclt)), (cop, .inl (ccop, 5000, .inl gcop)), (cva, .inl (ccva, 5000, .inr (.inl gcva))), (cpt, .inl (ccpt, 5000, .inl gcpt)), (cla, .inl (ccla, 2000, .inl gcla)), (waf, .inl (cwaf, 30, .inl gwaf)), (wag, .inl (cwag, 20, .inl gwag)), (h0, .inr (9, [.ref aw, .ref ac, .int n32, .int p0, .ref ty, .int n31, .ref bo, .ref bg, .ref bh, .ref bd, .int j38_h0_depth])), (aw, .inr (10, law)), (ty, .inl (cty, 5000, .inl n30)), (bo, .inl (cbo, 101, .inl j38_bo)), (bg, .inl (cbg, 101, .inl j38_bg)), (bh, .inl (cbh, 101, .inl j38_bh)), (bd, .inl (cbd, 101, .inl j38_bd))] := hD
                  refine lv_goto (tgt := 166) hx hb d_VA_checkFunction_158 (by decide) ?_
                  exact jn166 (j38_bd, j38_bg, j38_bh, j38_bo, n30, j38_h0_depth, n31, n32) _ _ _ ⟨b_j38_bh, bn30, b_j38_h0_depth, bn31, bn32, rn9, hP.sub [0, 1, 2, 3, 4, 5, 6, 7, 8, 9, 10, 11, 15, 12, 13, 14, 16, 17, 18, 19, 20] rfl, hD.sub [0, 1, 2, 3, 4, 5, 6, 7, 8, 9, 10, 11, 15, 12, 13, 14, 16, 17, 18, 19, 20] (by decide) rfl, hS, lv_sub hl [1, 2, 3] rfl⟩
              · have q117 := nltI c117
                refine lv_aload_n hx hb d_VA_checkFunction_120 rfl (lv_at hl 1 rfl) ?_
                refine lv_iload_n hx hb d_VA_checkFunction_121 rfl (lv_at hl 0 rfl) ?_
                refine lv_aload_n hx hb d_VA_checkFunction_122 rfl (lv_at hl 1 rfl) ?_
                refine va_get (D := (dC, dI)) (ci := 9) (v := .ref ac) (C := R_VA) (T := F_VA) (N := 11) hx hb hts i_VA hown hK hP 15 rfl rfl 1 (by decide) (hts _ kF_VA_38) (fun _ h9 => h9) rfl d_VA_checkFunction_123 ?_
                refine va_get (D := (dC, dI)) (ci := 3) (v := .ref cva) (C := R_CD) (T := F_CD) (N := 10) hx hb hts i_CD hown hK hP 0 rfl rfl 5 (by decide) (hts _ kF_VA_136) (fun _ h9 => h9) rfl d_VA_checkFunction_126 ?_
                refine lv_iload_n hx hb d_VA_checkFunction_129 rfl (lv_at hl 3 rfl) ?_
                have g130 : vp_in j38_l2 5000 := vp_in_iff.mpr ⟨by (first | (apply Int.le_antisymm <;> omega) | omega), by (first | (apply Int.le_antisymm <;> omega) | omega)⟩
                refine va_lald hx hb hK hP 9 15 rfl rfl g130 d_VA_checkFunction_130 ?_
                refine lv_topl (fun x33 ex33 => ?_)
                refine lv_l2i hx hb d_VA_checkFunction_131 rfl ?_
                refine lv_topi (fun x34 ex34 => ?_)
                have v9 : 0 ≤ (gcva j38_l2.toNatClampNeg).toInt ∧ (gcva j38_l2.toNatClampNeg).toInt ≤ 2147483647 → x34.toInt = (gcva j38_l2.toNatClampNeg).toInt := fun z => by have y := l2i_t ex34 (by rw [ex33]; (first | (apply Int.le_antisymm <;> omega) | omega)) (by rw [ex33]; (first | (apply Int.le_antisymm <;> omega) | omega)); rw [y, ex33]
                have hPc := hP.sb (wq := [(h0, .inr (9, [.ref aw, .ref ac, .int j38_h0_sound, .int p0, .ref ty, .int j38_h0_height, .ref bo, .ref bg, .ref bh, .ref bd, .int j38_h0_depth])), (aw, .inr (10, law)), (ac, .inr (3, [.ref cfi, .ref clk, .ref clt, .int ac_length, .ref cop, .ref cva, .ref cpt, .ref cel, .int ac_labelCount, .ref cla])), (ty, .inl (cty, 5000, .inl j38_ty)), (bo, .inl (cbo, 101, .inl j38_bo)), (bg, .inl (cbg, 101, .inl j38_bg)), (bh, .inl (cbh, 101, .inl j38_bh)), (bd, .inl (cbd, 101, .inl j38_bd)), (waf, .inl (cwaf, 30, .inl gwaf)), (wat, .inl (cwat, 20, .inl gwat)), (wap, .inl (cwap, 160, .inl gwap)), (wgt, .inl (cwgt, 20, .inl gwgt)), (wgc, .inl (cwgc, 20, .inl gwgc)), (clk, .inl (cclk, 30, .inl gclk)), (clt, .inl (cclt, 1800, .inl gclt))]) [15, 12, 0, 16, 17, 18, 19, 20, 13, 1, 2, 3, 4, 6, 7] rfl
                have hDc := hD.sb (wq := [(h0, .inr (9, [.ref aw, .ref ac, .int j38_h0_sound, .int p0, .ref ty, .int j38_h0_height, .ref bo, .ref bg, .ref bh, .ref bd, .int j38_h0_depth])), (aw, .inr (10, law)), (ac, .inr (3, [.ref cfi, .ref clk, .ref clt, .int ac_length, .ref cop, .ref cva, .ref cpt, .ref cel, .int ac_labelCount, .ref cla])), (ty, .inl (cty, 5000, .inl j38_ty)), (bo, .inl (cbo, 101, .inl j38_bo)), (bg, .inl (cbg, 101, .inl j38_bg)), (bh, .inl (cbh, 101, .inl j38_bh)), (bd, .inl (cbd, 101, .inl j38_bd)), (waf, .inl (cwaf, 30, .inl gwaf)), (wat, .inl (cwat, 20, .inl gwat)), (wap, .inl (cwap, 160, .inl gwap)), (wgt, .inl (cwgt, 20, .inl gwgt)), (wgc, .inl (cwgc, 20, .inl gwgc)), (clk, .inl (cclk, 30, .inl gclk)), (clt, .inl (cclt, 1800, .inl gclt))]) [15, 12, 0, 16, 17, 18, 19, 20, 13, 1, 2, 3, 4, 6, 7] (by decide) rfl
                have hKc := hK.sb (tyq := [(cty, .int), (cbo, .int), (cbg, .int), (cbh, .int), (cbd, .boolean), (cwaf, .int), (cwat, .int), (cwap, .int), (cwgt, .int), (cwgc, .boolean), (cclk, .int), (cclt, .int)]) [0, 1, 2, 3, 4, 5, 6, 7, 9, 10, 12, 13] rfl
                have hFc := va_free (wc := [(h0, .inr (9, [.ref aw, .ref ac, .int j38_h0_sound, .int p0, .ref ty, .int j38_h0_height, .ref bo, .ref bg, .ref bh, .ref bd, .int j38_h0_depth])), (aw, .inr (10, law)), (ac, .inr (3, [.ref cfi, .ref clk, .ref clt, .int ac_length, .ref cop, .ref cva, .ref cpt, .ref cel, .int ac_labelCount, .ref cla])), (ty, .inl (cty, 5000, .inl j38_ty)), (bo, .inl (cbo, 101, .inl j38_bo)), (bg, .inl (cbg, 101, .inl j38_bg)), (bh, .inl (cbh, 101, .inl j38_bh)), (bd, .inl (cbd, 101, .inl j38_bd)), (waf, .inl (cwaf, 30, .inl gwaf)), (wat, .inl (cwat, 20, .inl gwat)), (wap, .inl (cwap, 160, .inl gwap)), (wgt, .inl (cwgt, 20, .inl gwgt)), (wgc, .inl (cwgc, 20, .inl gwgc)), (clk, .inl (cclk, 30, .inl gclk)), (clt, .inl (cclt, 1800, .inl gclt))]) hD hS hA [15, 12, 0, 16, 17, 18, 19, 20, 13, 1, 2, 3, 4, 6, 7] rfl
                refine va_callv (va_runV (As := [.int x11, .int x34]) (rest := []) ⟨hx, hb, hml, hown, hts⟩ (c_VA_checkVariabley l dC dI H.size h0 aw ac ty bo bg bh bd wat wap waf wgt wgc cfi clk clt cop cva cpt cel cla cty cbo cbg cbh cbd cwaf cwat cwap cwgt cwgc cclk cclt j38_h0_sound p0 j38_h0_height j38_h0_depth law aw_globalCount ac_length ac_labelCount j38_ty j38_bo j38_bg j38_bh j38_bd gwaf gwat gwap gwgt gwgc gclk gclt S8 B8 ((tp9.1 ++ co9.1)) T9.2.2.2.1 paw_1 paw_3 paw_4 paw_7 paw_11 paw_12 paw_15 plaw (b_j38_h0_sound) (b_j38_h0_height) (b_j38_h0_depth) (b_j38_ty) (b_j38_bh) (b_aw_globalCount) x11 x34 ((fun _ => k2)) ((fun _ => by (first | (apply Int.le_antisymm <;> omega) | omega))) (by (first | (apply Int.le_antisymm <;> omega) | omega)) (hlo9) (hgl) (htk) ((by have q9 := io9.out.1; (first | (apply Int.le_antisymm <;> omega) | omega))) ((fun z => by have qa := iC9.out.2.1 (Or.inl (by rw [show i9.1 = x11.toInt.toNat from by (first | (apply Int.le_antisymm <;> omega) | omega)]; exact (zidx_i (by (first | (apply Int.le_antisymm <;> omega) | omega))).mpr (by have q9 := io9.out.1; (first | (apply Int.le_antisymm <;> omega) | omega)))); have qb := v9 (by (first | (apply Int.le_antisymm <;> omega) | omega)); (first | (apply Int.le_antisymm <;> omega) | omega)))) (cwV 2 hts (gV kM_VA_146 kV_VA_checkVariable kS_VA_checkVariable kI_VA kC_VA_checkVariable) rfl rfl rfl (by decide +kernel) ⟨Nat.le_of_ble_eq_true rfl, Nat.le_of_ble_eq_true rfl⟩) ⟨fun a U g mk z => by obtain ⟨z0, z1, zP, zK, zD⟩ := z; exact ⟨z0, z1, zP, va_K.moved (u := U) (U := U.calling g mk a) (Vm.Alike.refl U.vm) zK, zD⟩, va_recv hKc hPc (ci := 9) (q0 := 0) rfl rfl, fun U hU hW => ⟨rfl, by rw [hU], va_P.he hU.symm hPc, va_K.moved hW.alike hKc, hDc.weaken (fun _ _ _ _ => trivial)⟩⟩ rfl rfl hl.1 rfl (lv_room (Nat.le_of_ble_eq_true rfl)) d_VA_checkFunction_132 ⟨(Nat.zero_le _), (Nat.zero_le _)⟩) hS (fun q _ h => hFc q h) hFc (fun u t H1 locs ht hvm hw hB hz1 hk1 hS => ?_)
                obtain ⟨n36, n37, n38⟩ := u
                try dsimp only at hw
                obtain ⟨bn36, bn37, bn38, xr35⟩ := hw
                try clear hw
                have tn38 := b01 bn38
                have x9 : vsz (vstep T9 (tp9.1 ++ co9.1) tp9.2 i9 S8 B8) j38_h0_sound n38 n37 j38_h0_depth n36 j38_bo j38_bg j38_bh j38_bd := by rw [vst_var (by have q9 := io9.out.1; (first | (apply Int.le_antisymm <;> omega) | omega)), show i9.1 = x11.toInt.toNat from by (first | (apply Int.le_antisymm <;> omega) | omega), show vvar T9.2.2.2.1 (tp9.1 ++ co9.1) x11.toInt.toNat i9.2.1 S8 B8 = vvar T9.2.2.2.1 (tp9.1 ++ co9.1) x11.toInt.toNat x34.toInt.toNat S8 B8 from (by by_cases q : x11.toInt.toNat = 26 ∨ x11.toInt.toNat = 27; (exact vvar_v q); (have qa := iC9.out.2.1 (Or.inl (by rw [show i9.1 = x11.toInt.toNat from by (first | (apply Int.le_antisymm <;> omega) | omega)]; exact (zidx_i (by (first | (apply Int.le_antisymm <;> omega) | omega))).mpr (by have q9 := io9.out.1; (first | (apply Int.le_antisymm <;> omega) | omega)))); have qb := v9 (by (first | (apply Int.le_antisymm <;> omega) | omega)); rw [show x34.toInt.toNat = i9.2.1 from by (first | (apply Int.le_antisymm <;> omega) | omega)]))]; exact xr35.2
                have h9 : n38.toInt = 1 → n37.toInt ≤ ((j38_l2.toInt - (gcfi p0.toNatClampNeg).toInt).toNat : Int) + 1 := fun z => by have := xr35.1; (first | (apply Int.le_antisymm <;> omega) | omega)
                have rn9 := rn_s s1 k1 k4 k5.out io9.out x9 (by (first | (apply Int.le_antisymm <;> omega) | omega)) h9
                clear xr35
                obtain ⟨hP1, hK1, hD1⟩ := hB
                replace hP1 := va_P.he ht hP1
                obtain ⟨hP, hD⟩ := va_join (wr := [(cfi, .inl (ccfi, 31, .inl gcfi)), (cop, .inl (ccop, 5000, .inl gcop)), (cva, .inl (ccva, 5000, .inr (.inl gcva))), (cpt, .inl (ccpt, 5000, .inl gcpt)), (cla, .inl (ccla, 2000, .inl gcla)), (wag, .inl (cwag, 20, .inl gwag))]) (w1 := [(h0, .inr (9, [.ref aw, .ref ac, .int n38, .int p0, .ref ty, .int n37, .ref bo, .ref bg, .ref bh, .ref bd, .int j38_h0_depth])), (aw, .inr (10, law)), (ac, .inr (3, [.ref cfi, .ref clk, .ref clt, .int ac_length, .ref cop, .ref cva, .ref cpt, .ref cel, .int ac_labelCount, .ref cla])), (ty, .inl (cty, 5000, .inl n36)), (bo, .inl (cbo, 101, .inl j38_bo)), (bg, .inl (cbg, 101, .inl j38_bg)), (bh, .inl (cbh, 101, .inl j38_bh)), (bd, .inl (cbd, 101, .inl j38_bd)), (waf, .inl (cwaf, 30, .inl gwaf)), (wat, .inl (cwat, 20, .inl gwat)), (wap, .inl (cwap, 160, .inl gwap)), (wgt, .inl (cwgt, 20, .inl gwgt)), (wgc, .inl (cwgc, 20, .inl gwgc)), (clk, .inl (cclk, 30, .inl gclk)), (clt, .inl (cclt, 1800, .inl gclt))]) hP hD [15, 12, 0, 16, 17, 18, 19, 20, 13, 1, 2, 3, 4, 6, 7] [5, 8, 9, 10, 11, 14] rfl rfl (by decide) (by decide) hk1 hFc hP1 hD1
                clear hPc hDc hKc hFc hz1 hk1 hP1 hK1 hD1
                rename Heap => H
                have hP : va_P (dC, dI) cls [(cfi, .inl (ccfi, 31, .inl gcfi)), (cop, .inl (ccop, 5000, .inl gcop)), (cva, .inl (ccva, 5000, .inr (.inl gcva))), (cpt, .inl (ccpt, 5000, .inl gcpt)), (cla, .inl (ccla, 2000, .inl gcla)), (wag, .inl (cwag, 20, .inl gwag)), (h0, .inr (9, [.ref aw, .ref ac, .int n38, .int p0, .ref ty, .int n37, .ref bo, .ref bg, .ref bh, .ref bd, .int j38_h0_depth])), (aw, .inr (10, law)), (ac, .inr (3, [.ref cfi, .ref clk, .ref clt, .int ac_length, .ref cop, .ref cva, .ref cpt, .ref cel, .int ac_labelCount, .ref cla])), (ty, .inl (cty, 5000, .inl n36)), (bo, .inl (cbo, 101, .inl j38_bo)), (bg, .inl (cbg, 101, .inl j38_bg)), (bh, .inl (cbh, 101, .inl j38_bh)), (bd, .inl (cbd, 101, .inl j38_bd)), (waf, .inl (cwaf, 30, .inl gwaf)), (wat, .inl (cwat, 20, .inl gwat)), (wap, .inl (cwap, 160, .inl gwap)), (wgt, .inl (cwgt, 20, .inl gwgt)), (wgc, .inl (cwgc, 20, .inl gwgc)), (clk, .inl (cclk, 30, .inl gclk)), (clt, .inl (cclt, 1800, .inl gclt))] H := hP
                have hD : va_D A [(cfi, .inl (ccfi, 31, .inl gcfi)), (cop, .inl (ccop, 5000, .inl gcop)), (cva, .inl (ccva, 5000, .inr (.inl gcva))), (cpt, .inl (ccpt, 5000, .inl gcpt)), (cla, .inl (ccla, 2000, .inl gcla)), (wag, .inl (cwag, 20, .inl gwag)), (h0, .inr (9, [.ref aw, .ref ac, .int n38, .int p0, .ref ty, .int n37, .ref bo, .ref bg, .ref bh, .ref bd, .int j38_h0_depth])), (aw, .inr (10, law)), (ac, .inr (3, [.ref cfi, .ref clk, .ref clt, .int ac_length, .ref cop, .ref cva, .ref cpt, .ref cel, .int ac_labelCount, .ref cla])), (ty, .inl (cty, 5000, .inl n36)), (bo, .inl (cbo, 101, .inl j38_bo)), (bg, .inl (cbg, 101, .inl j38_bg)), (bh, .inl (cbh, 101, .inl j38_bh)), (bd, .inl (cbd, 101, .inl j38_bd)), (waf, .inl (cwaf, 30, .inl gwaf)), (wat, .inl (cwat, 20, .inl gwat)), (wap, .inl (cwap, 160, .inl gwap)), (wgt, .inl (cwgt, 20, .inl gwgt)), (wgc, .inl (cwgc, 20, .inl gwgc)), (clk, .inl (cclk, 30, .inl gclk)), (clt, .inl (cclt, 1800, .inl gclt))] := hD
                refine lv_goto (tgt := 166) hx hb d_VA_checkFunction_135 (by decide) ?_
                exact jn166 (j38_bd, j38_bg, j38_bh, j38_bo, n36, j38_h0_depth, n37, n38) _ _ _ ⟨b_j38_bh, bn36, b_j38_h0_depth, bn37, bn38, rn9, hP.sub [8, 15, 16, 17, 18, 0, 19, 20, 1, 2, 3, 4, 7, 14, 5, 6, 9, 10, 11, 12, 13] rfl, hD.sub [8, 15, 16, 17, 18, 0, 19, 20, 1, 2, 3, 4, 7, 14, 5, 6, 9, 10, 11, 12, 13] (by decide) rfl, hS, lv_sub hl [1, 2, 3] rfl⟩
            · have q102 := nltI c102
              refine lv_aload_n hx hb d_VA_checkFunction_105 rfl (lv_at hl 1 rfl) ?_
              refine lv_iload_n hx hb d_VA_checkFunction_106 rfl (lv_at hl 0 rfl) ?_
              refine lv_iload_n hx hb d_VA_checkFunction_107 rfl (lv_at hl 3 rfl) ?_
              have hPc := hP.sb (wq := (wz_83 h0 aw ac j38_h0_sound p0 ty j38_h0_height bo bg bh bd j38_h0_depth aw law ac cfi clk clt ac_length cop cva cpt cel ac_labelCount cla ty cty j38_ty bo cbo j38_bo bg cbg j38_bg bh cbh j38_bh bd cbd j38_bd waf cwaf gwaf wat cwat gwat wap cwap gwap wag cwag gwag clk cclk gclk clt cclt gclt cop ccop gcop cva ccva gcva cpt ccpt gcpt cla ccla gcla)) [15, 12, 0, 16, 17, 18, 19, 20, 13, 1, 2, 14, 6, 7, 8, 9, 10, 11] rfl
              have hDc := hD.sb (wq := (wz_83 h0 aw ac j38_h0_sound p0 ty j38_h0_height bo bg bh bd j38_h0_depth aw law ac cfi clk clt ac_length cop cva cpt cel ac_labelCount cla ty cty j38_ty bo cbo j38_bo bg cbg j38_bg bh cbh j38_bh bd cbd j38_bd waf cwaf gwaf wat cwat gwat wap cwap gwap wag cwag gwag clk cclk gclk clt cclt gclt cop ccop gcop cva ccva gcva cpt ccpt gcpt cla ccla gcla)) [15, 12, 0, 16, 17, 18, 19, 20, 13, 1, 2, 14, 6, 7, 8, 9, 10, 11] (by decide) rfl
              have hKc := hK.sb (tyq := [(cty, .int), (cbo, .int), (cbg, .int), (cbh, .int), (cbd, .boolean), (cwaf, .int), (cwat, .int), (cwap, .int), (cwag, .int), (cclk, .int), (cclt, .int), (ccop, .int), (ccva, .long), (ccpt, .int), (ccla, .int)]) [0, 1, 2, 3, 4, 5, 6, 7, 8, 12, 13, 14, 15, 16, 17] rfl
              have hFc := va_free (wc := (wz_83 h0 aw ac j38_h0_sound p0 ty j38_h0_height bo bg bh bd j38_h0_depth aw law ac cfi clk clt ac_length cop cva cpt cel ac_labelCount cla ty cty j38_ty bo cbo j38_bo bg cbg j38_bg bh cbh j38_bh bd cbd j38_bd waf cwaf gwaf wat cwat gwat wap cwap gwap wag cwag gwag clk cclk gclk clt cclt gclt cop ccop gcop cva ccva gcva cpt ccpt gcpt cla ccla gcla)) hD hS hA [15, 12, 0, 16, 17, 18, 19, 20, 13, 1, 2, 14, 6, 7, 8, 9, 10, 11] rfl
              refine va_callv (va_runV (As := [.int x11, .int j38_l2]) (rest := []) ⟨hx, hb, hml, hown, hts⟩ (c_VA_checkJumpy l dC dI H.size h0 aw ac ty bo bg bh bd wat wap wag waf cfi clk clt cop cva cpt cel cla cty cbo cbg cbh cbd cwaf cwat cwap cwag cclk cclt ccop ccva ccpt ccla j38_h0_sound p0 j38_h0_height j38_h0_depth law aw_functionCount ac_length ac_labelCount j38_ty j38_bo j38_bg j38_bh j38_bd gwaf gwat gwap gwag gclk gclt gcop gcva gcpt gcla S8 B8 T9 tp9.2 i9 paw_1 paw_3 paw_4 paw_5 paw_6 paw_7 plaw (b_j38_h0_sound) (b_j38_h0_height) (b_j38_h0_depth) (b_ac_labelCount) (b_j38_ty) (b_j38_bh) (b_aw_functionCount) x11 j38_l2 (by (try dsimp only) <;> (first | (apply Int.le_antisymm <;> omega) | omega)) ((fun _ => k2)) ((fun _ => by (first | (apply Int.le_antisymm <;> omega) | omega))) (hfT) (hck) (by (first | (apply Int.le_antisymm <;> omega) | omega)) (iC9) (i2) ((by have q9 := io9.out.1; (first | (apply Int.le_antisymm <;> omega) | omega))) (dl)) (cwV 2 hts (gV kM_VA_143 kV_VA_checkJump kS_VA_checkJump kI_VA kC_VA_checkJump) rfl rfl rfl (by decide +kernel) ⟨Nat.le_of_ble_eq_true rfl, Nat.le_of_ble_eq_true rfl⟩) ⟨fun a U g mk z => by obtain ⟨z0, z1, zP, zK, zD⟩ := z; exact ⟨z0, z1, zP, va_K.moved (u := U) (U := U.calling g mk a) (Vm.Alike.refl U.vm) zK, zD⟩, va_recv hKc hPc (ci := 9) (q0 := 0) rfl rfl, fun U hU hW => ⟨rfl, by rw [hU], va_P.he hU.symm hPc, va_K.moved hW.alike hKc, hDc.weaken (fun _ _ _ _ => trivial)⟩⟩ rfl rfl hl.1 rfl (lv_room (Nat.le_of_ble_eq_true rfl)) d_VA_checkFunction_108 ⟨(Nat.zero_le _), (Nat.zero_le _)⟩) hS (fun q _ h => hFc q h) hFc (fun u t H1 locs ht hvm hw hB hz1 hk1 hS => ?_)
              obtain ⟨n40, n41, n42, n43⟩ := u
              try dsimp only at hw
              obtain ⟨bn41, bn42, bn43, xr39⟩ := hw
              try clear hw
              have tn43 := b01 bn43
              have x9 : vsz (vstep T9 (tp9.1 ++ co9.1) tp9.2 i9 S8 B8) j38_h0_sound n43 n42 j38_h0_depth n41 j38_bo j38_bg j38_bh n40 := by rw [vst_jmp (by have q9 := io9.out.1; (first | (apply Int.le_antisymm <;> omega) | omega)) (by (first | (apply Int.le_antisymm <;> omega) | omega)), show i9.1 = x11.toInt.toNat from by (first | (apply Int.le_antisymm <;> omega) | omega)]; exact xr39.2
              have h9 : n43.toInt = 1 → n42.toInt ≤ ((j38_l2.toInt - (gcfi p0.toNatClampNeg).toInt).toNat : Int) + 1 := fun z => by have := xr39.1 z; (first | (apply Int.le_antisymm <;> omega) | omega)
              have rn9 := rn_s s1 k1 k4 k5.out io9.out x9 (by (first | (apply Int.le_antisymm <;> omega) | omega)) h9
              clear xr39
              obtain ⟨hP1, hK1, hD1⟩ := hB
              replace hP1 := va_P.he ht hP1
              obtain ⟨hP, hD⟩ := va_join (wr := [(wgt, .inl (cwgt, 20, .inl gwgt)), (wgc, .inl (cwgc, 20, .inl gwgc)), (cfi, .inl (ccfi, 31, .inl gcfi))]) (w1 := (wz_83 h0 aw ac n43 p0 ty n42 bo bg bh bd j38_h0_depth aw law ac cfi clk clt ac_length cop cva cpt cel ac_labelCount cla ty cty n41 bo cbo j38_bo bg cbg j38_bg bh cbh j38_bh bd cbd n40 waf cwaf gwaf wat cwat gwat wap cwap gwap wag cwag gwag clk cclk gclk clt cclt gclt cop ccop gcop cva ccva gcva cpt ccpt gcpt cla ccla gcla)) hP hD [15, 12, 0, 16, 17, 18, 19, 20, 13, 1, 2, 14, 6, 7, 8, 9, 10, 11] [3, 4, 5] rfl rfl (by decide) (by decide) hk1 hFc hP1 hD1
              clear hPc hDc hKc hFc hz1 hk1 hP1 hK1 hD1
              rename Heap => H
              have hP : va_P (dC, dI) cls [(wgt, .inl (cwgt, 20, .inl gwgt)), (wgc, .inl (cwgc, 20, .inl gwgc)), (cfi, .inl (ccfi, 31, .inl gcfi)), (h0, .inr (9, [.ref aw, .ref ac, .int n43, .int p0, .ref ty, .int n42, .ref bo, .ref bg, .ref bh, .ref bd, .int j38_h0_depth])), (aw, .inr (10, law)), (ac, .inr (3, [.ref cfi, .ref clk, .ref clt, .int ac_length, .ref cop, .ref cva, .ref cpt, .ref cel, .int ac_labelCount, .ref cla])), (ty, .inl (cty, 5000, .inl n41)), (bo, .inl (cbo, 101, .inl j38_bo)), (bg, .inl (cbg, 101, .inl j38_bg)), (bh, .inl (cbh, 101, .inl j38_bh)), (bd, .inl (cbd, 101, .inl n40)), (waf, .inl (cwaf, 30, .inl gwaf)), (wat, .inl (cwat, 20, .inl gwat)), (wap, .inl (cwap, 160, .inl gwap)), (wag, .inl (cwag, 20, .inl gwag)), (clk, .inl (cclk, 30, .inl gclk)), (clt, .inl (cclt, 1800, .inl gclt)), (cop, .inl (ccop, 5000, .inl gcop)), (cva, .inl (ccva, 5000, .inr (.inl gcva))), (cpt, .inl (ccpt, 5000, .inl gcpt)), (cla, .inl (ccla, 2000, .inl gcla))] H := hP
              have hD : va_D A [(wgt, .inl (cwgt, 20, .inl gwgt)), (wgc, .inl (cwgc, 20, .inl gwgc)), (cfi, .inl (ccfi, 31, .inl gcfi)), (h0, .inr (9, [.ref aw, .ref ac, .int n43, .int p0, .ref ty, .int n42, .ref bo, .ref bg, .ref bh, .ref bd, .int j38_h0_depth])), (aw, .inr (10, law)), (ac, .inr (3, [.ref cfi, .ref clk, .ref clt, .int ac_length, .ref cop, .ref cva, .ref cpt, .ref cel, .int ac_labelCount, .ref cla])), (ty, .inl (cty, 5000, .inl n41)), (bo, .inl (cbo, 101, .inl j38_bo)), (bg, .inl (cbg, 101, .inl j38_bg)), (bh, .inl (cbh, 101, .inl j38_bh)), (bd, .inl (cbd, 101, .inl n40)), (waf, .inl (cwaf, 30, .inl gwaf)), (wat, .inl (cwat, 20, .inl gwat)), (wap, .inl (cwap, 160, .inl gwap)), (wag, .inl (cwag, 20, .inl gwag)), (clk, .inl (cclk, 30, .inl gclk)), (clt, .inl (cclt, 1800, .inl gclt)), (cop, .inl (ccop, 5000, .inl gcop)), (cva, .inl (ccva, 5000, .inr (.inl gcva))), (cpt, .inl (ccpt, 5000, .inl gcpt)), (cla, .inl (ccla, 2000, .inl gcla))] := hD
              refine lv_goto (tgt := 166) hx hb d_VA_checkFunction_111 (by decide) ?_
              exact jn166 (n40, j38_bg, j38_bh, j38_bo, n41, j38_h0_depth, n42, n43) _ _ _ ⟨b_j38_bh, bn41, b_j38_h0_depth, bn42, bn43, rn9, hP.sub [5, 12, 13, 0, 1, 2, 15, 16, 17, 18, 19, 20, 4, 11, 14, 3, 6, 7, 8, 9, 10] rfl, hD.sub [5, 12, 13, 0, 1, 2, 15, 16, 17, 18, 19, 20, 4, 11, 14, 3, 6, 7, 8, 9, 10] (by decide) rfl, hS, lv_sub hl [1, 2, 3] rfl⟩
          · have q78 := eqI c78
            refine lv_aload_n hx hb d_VA_checkFunction_81 rfl (lv_at hl 1 rfl) ?_
            refine lv_iload_n hx hb d_VA_checkFunction_82 rfl (lv_at hl 0 rfl) ?_
            refine lv_aload_n hx hb d_VA_checkFunction_83 rfl (lv_at hl 1 rfl) ?_
            refine va_get (D := (dC, dI)) (ci := 9) (v := .ref ac) (C := R_VA) (T := F_VA) (N := 11) hx hb hts i_VA hown hK hP 15 rfl rfl 1 (by decide) (hts _ kF_VA_38) (fun _ h9 => h9) rfl d_VA_checkFunction_84 ?_
            refine va_get (D := (dC, dI)) (ci := 3) (v := .ref cva) (C := R_CD) (T := F_CD) (N := 10) hx hb hts i_CD hown hK hP 0 rfl rfl 5 (by decide) (hts _ kF_VA_136) (fun _ h9 => h9) rfl d_VA_checkFunction_87 ?_
            refine lv_iload_n hx hb d_VA_checkFunction_90 rfl (lv_at hl 3 rfl) ?_
            have g91 : vp_in j38_l2 5000 := vp_in_iff.mpr ⟨by (first | (apply Int.le_antisymm <;> omega) | omega), by (first | (apply Int.le_antisymm <;> omega) | omega)⟩
            refine va_lald hx hb hK hP 9 15 rfl rfl g91 d_VA_checkFunction_91 ?_
            refine lv_topl (fun x44 ex44 => ?_)
            refine lv_l2i hx hb d_VA_checkFunction_92 rfl ?_
            refine lv_topi (fun x45 ex45 => ?_)
            have v9 : 0 ≤ (gcva j38_l2.toNatClampNeg).toInt ∧ (gcva j38_l2.toNatClampNeg).toInt ≤ 2147483647 → x45.toInt = (gcva j38_l2.toNatClampNeg).toInt := fun z => by have y := l2i_t ex45 (by rw [ex44]; (first | (apply Int.le_antisymm <;> omega) | omega)) (by rw [ex44]; (first | (apply Int.le_antisymm <;> omega) | omega)); rw [y, ex44]
            have hPc := hP.sb (wq := (wz_86 h0 aw ac j38_h0_sound p0 ty j38_h0_height bo bg bh bd j38_h0_depth ty cty j38_ty bo cbo j38_bo bg cbg j38_bg bh cbh j38_bh bd cbd j38_bd)) [15, 16, 17, 18, 19, 20] rfl
            have hDc := hD.sb (wq := (wz_86 h0 aw ac j38_h0_sound p0 ty j38_h0_height bo bg bh bd j38_h0_depth ty cty j38_ty bo cbo j38_bo bg cbg j38_bg bh cbh j38_bh bd cbd j38_bd)) [15, 16, 17, 18, 19, 20] (by decide) rfl
            have hKc := hK.sb (tyq := [(cty, .int), (cbo, .int), (cbg, .int), (cbh, .int), (cbd, .boolean)]) [0, 1, 2, 3, 4] rfl
            have hFc := va_free (wc := (wz_86 h0 aw ac j38_h0_sound p0 ty j38_h0_height bo bg bh bd j38_h0_depth ty cty j38_ty bo cbo j38_bo bg cbg j38_bg bh cbh j38_bh bd cbd j38_bd)) hD hS hA [15, 16, 17, 18, 19, 20] rfl
            refine va_callv (va_runV (As := [.int x11, .int x45]) (rest := []) ⟨hx, hb, hml, hown, hts⟩ (c_VA_checkBlocksy l dC dI H.size h0 aw ac ty bo bg bh bd cty cbo cbg cbh cbd j38_h0_sound p0 j38_h0_height j38_h0_depth j38_ty j38_bo j38_bg j38_bh j38_bd S8 B8 i9.2.1 (b_j38_h0_sound) (b_j38_h0_height) (b_j38_h0_depth) (b_j38_ty) (b_j38_bh) x11 x45 ((fun _ => k2)) ((fun _ => by (first | (apply Int.le_antisymm <;> omega) | omega))) ((fun z => by have qa := iC9.out.2.1 (Or.inr (by (first | (apply Int.le_antisymm <;> omega) | omega))); have qb := v9 (by (first | (apply Int.le_antisymm <;> omega) | omega)); (first | (apply Int.le_antisymm <;> omega) | omega))) ((fun _ => by (first | (apply Int.le_antisymm <;> omega) | omega))) ((fun _ z => by have q := (k5.out.1 (by (first | (apply Int.le_antisymm <;> omega) | omega))).1; (first | (apply Int.le_antisymm <;> omega) | omega))) ((by (first | (apply Int.le_antisymm <;> omega) | omega)))) (cwV 2 hts (gV kM_VA_140 kV_VA_checkBlocks kS_VA_checkBlocks kI_VA kC_VA_checkBlocks) rfl rfl rfl (by decide +kernel) ⟨Nat.le_of_ble_eq_true rfl, Nat.le_of_ble_eq_true rfl⟩) ⟨fun a U g mk z => by obtain ⟨z0, z1, zP, zK, zD⟩ := z; exact ⟨z0, z1, zP, va_K.moved (u := U) (U := U.calling g mk a) (Vm.Alike.refl U.vm) zK, zD⟩, va_recv hKc hPc (ci := 9) (q0 := 0) rfl rfl, fun U hU hW => ⟨rfl, by rw [hU], va_P.he hU.symm hPc, va_K.moved hW.alike hKc, hDc.weaken (fun _ _ _ _ => trivial)⟩⟩ rfl rfl hl.1 rfl (lv_room (Nat.le_of_ble_eq_true rfl)) d_VA_checkFunction_93 ⟨(Nat.zero_le _), (Nat.zero_le _)⟩) hS (fun q _ h => hFc q h) hFc (fun u t H1 locs ht hvm hw hB hz1 hk1 hS => ?_)
            obtain ⟨n47, n48, n49, n50, n51, n52, n53, n54⟩ := u
            try dsimp only at hw
            obtain ⟨bn49, bn51, bn52, bn53, bn54, xr46⟩ := hw
            try clear hw
            have tn54 := b01 bn54
            have x9 : vsz (vstep T9 (tp9.1 ++ co9.1) tp9.2 i9 S8 B8) j38_h0_sound n54 n53 n52 n51 n50 n48 n49 n47 := by rw [vst_blk (by (first | (apply Int.le_antisymm <;> omega) | omega)), show i9.1 = x11.toInt.toNat from by (first | (apply Int.le_antisymm <;> omega) | omega)]; exact xr46.2
            have h9 : n54.toInt = 1 → n53.toInt ≤ ((j38_l2.toInt - (gcfi p0.toNatClampNeg).toInt).toNat : Int) + 1 := fun z => by have := xr46.1 z; (first | (apply Int.le_antisymm <;> omega) | omega)
            have rn9 := rn_s s1 k1 k4 k5.out io9.out x9 (by (first | (apply Int.le_antisymm <;> omega) | omega)) h9
            clear xr46
            obtain ⟨hP1, hK1, hD1⟩ := hB
            replace hP1 := va_P.he ht hP1
            obtain ⟨hP, hD⟩ := va_join (wr := [(ac, .inr (3, [.ref cfi, .ref clk, .ref clt, .int ac_length, .ref cop, .ref cva, .ref cpt, .ref cel, .int ac_labelCount, .ref cla])), (wat, .inl (cwat, 20, .inl gwat)), (wap, .inl (cwap, 160, .inl gwap)), (wgt, .inl (cwgt, 20, .inl gwgt)), (wgc, .inl (cwgc, 20, .inl gwgc)), (cfi, .inl (ccfi, 31, .inl gcfi)), (clk, .inl (cclk, 30, .inl gclk)), (clt, .inl (cclt, 1800, .inl gclt)), (cop, .inl (ccop, 5000, .inl gcop)), (cva, .inl (ccva, 5000, .inr (.inl gcva))), (cpt, .inl (ccpt, 5000, .inl gcpt)), (cla, .inl (ccla, 2000, .inl gcla)), (aw, .inr (10, law)), (waf, .inl (cwaf, 30, .inl gwaf)), (wag, .inl (cwag, 20, .inl gwag))]) (w1 := (wz_86 h0 aw ac n54 p0 ty n53 bo bg bh bd n52 ty cty n51 bo cbo n50 bg cbg n48 bh cbh n49 bd cbd n47)) hP hD [15, 16, 17, 18, 19, 20] [0, 1, 2, 3, 4, 5, 6, 7, 8, 9, 10, 11, 12, 13, 14] rfl rfl (by decide) (by decide) hk1 hFc hP1 hD1
            clear hPc hDc hKc hFc hz1 hk1 hP1 hK1 hD1
            rename Heap => H
            have hP : va_P (dC, dI) cls [(ac, .inr (3, [.ref cfi, .ref clk, .ref clt, .int ac_length, .ref cop, .ref cva, .ref cpt, .ref cel, .int ac_labelCount, .ref cla])), (wat, .inl (cwat, 20, .inl gwat)), (wap, .inl (cwap, 160, .inl gwap)), (wgt, .inl (cwgt, 20, .inl gwgt)), (wgc, .inl (cwgc, 20, .inl gwgc)), (cfi, .inl (ccfi, 31, .inl gcfi)), (clk, .inl (cclk, 30, .inl gclk)), (clt, .inl (cclt, 1800, .inl gclt)), (cop, .inl (ccop, 5000, .inl gcop)), (cva, .inl (ccva, 5000, .inr (.inl gcva))), (cpt, .inl (ccpt, 5000, .inl gcpt)), (cla, .inl (ccla, 2000, .inl gcla)), (aw, .inr (10, law)), (waf, .inl (cwaf, 30, .inl gwaf)), (wag, .inl (cwag, 20, .inl gwag)), (h0, .inr (9, [.ref aw, .ref ac, .int n54, .int p0, .ref ty, .int n53, .ref bo, .ref bg, .ref bh, .ref bd, .int n52])), (ty, .inl (cty, 5000, .inl n51)), (bo, .inl (cbo, 101, .inl n50)), (bg, .inl (cbg, 101, .inl n48)), (bh, .inl (cbh, 101, .inl n49)), (bd, .inl (cbd, 101, .inl n47))] H := hP
            have hD : va_D A [(ac, .inr (3, [.ref cfi, .ref clk, .ref clt, .int ac_length, .ref cop, .ref cva, .ref cpt, .ref cel, .int ac_labelCount, .ref cla])), (wat, .inl (cwat, 20, .inl gwat)), (wap, .inl (cwap, 160, .inl gwap)), (wgt, .inl (cwgt, 20, .inl gwgt)), (wgc, .inl (cwgc, 20, .inl gwgc)), (cfi, .inl (ccfi, 31, .inl gcfi)), (clk, .inl (cclk, 30, .inl gclk)), (clt, .inl (cclt, 1800, .inl gclt)), (cop, .inl (ccop, 5000, .inl gcop)), (cva, .inl (ccva, 5000, .inr (.inl gcva))), (cpt, .inl (ccpt, 5000, .inl gcpt)), (cla, .inl (ccla, 2000, .inl gcla)), (aw, .inr (10, law)), (waf, .inl (cwaf, 30, .inl gwaf)), (wag, .inl (cwag, 20, .inl gwag)), (h0, .inr (9, [.ref aw, .ref ac, .int n54, .int p0, .ref ty, .int n53, .ref bo, .ref bg, .ref bh, .ref bd, .int n52])), (ty, .inl (cty, 5000, .inl n51)), (bo, .inl (cbo, 101, .inl n50)), (bg, .inl (cbg, 101, .inl n48)), (bh, .inl (cbh, 101, .inl n49)), (bd, .inl (cbd, 101, .inl n47))] := hD
            refine lv_goto (tgt := 166) hx hb d_VA_checkFunction_96 (by decide) ?_
            exact jn166 (n47, n48, n49, n50, n51, n52, n53, n54) _ _ _ ⟨bn49, bn51, bn52, bn53, bn54, rn9, hP, hD, hS, lv_sub hl [1, 2, 3] rfl⟩
end q_n44q27
section q_n44q28
/-! p5: the class: tables and exports are checked as vmod checks them -/
def ctab (T : zTab) : Prop := (∀ t ∈ T.2.1, t < T.1.length) ∧ (∀ g ∈ T.2.2.2.1, g.1 = g.2.2) ∧ (T.2.2.1.2.1 ≤ 2 ∧ T.2.2.1.2.2 ≤ 65536 ∧ T.2.2.1.2.1 ≤ T.2.2.1.2.2)
def ctF (T : zTab) (s s2 : Int32) (k : Int) : Prop := (s2.toInt = 1 ∧ s.toInt = 1 ∧ ∀ (j x : Nat), (j : Int) < k → T.2.1[j]? = some x → x < T.1.length) ∨ (s2.toInt = 0 ∧ (s.toInt = 1 → ¬ ctab T))
def ctG (T : zTab) (s s2 : Int32) (k : Int) : Prop := (s2.toInt = 1 ∧ s.toInt = 1 ∧ (∀ t ∈ T.2.1, t < T.1.length) ∧ ∀ (j : Nat) (x : Nat × Nat × Nat), (j : Int) < k → T.2.2.2.1[j]? = some x → x.1 = x.2.2) ∨ (s2.toInt = 0 ∧ (s.toInt = 1 → ¬ ctab T))
theorem ctF_0 {T : zTab} {s : Int32} {k : Int} (hs : s.toInt = 0 ∨ s.toInt = 1) (hk : k = 0) : ctF T s s k := by
  rcases hs with q | q
  · exact Or.inr ⟨q, fun z => absurd z (by (first | (apply Int.le_antisymm <;> omega) | omega))⟩
  · exact Or.inl ⟨q, q, fun j x hj => absurd hj (by (first | (apply Int.le_antisymm <;> omega) | omega))⟩
theorem ctF_s {T : zTab} {s s1 s2 tc x : Int32} {k : Int} {wf : Nat → Int32} (h : ctF T s s1 k) (hk : 0 ≤ k) (hl : k < (T.2.1.length : Int)) (hA : fnA wf T.2.1) (hx : x = wf k.toNat) (ht : tc.toInt = (T.1.length : Int)) (c : (s2.toInt = 1 ∧ s1.toInt = 1 ∧ x.toInt < tc.toInt) ∨ (s2.toInt = 0 ∧ ¬ (s1.toInt = 1 ∧ x.toInt < tc.toInt))) : ctF T s s2 (k + 1) := by
  have q : k.toNat < T.2.1.length := by (first | (apply Int.le_antisymm <;> omega) | omega)
  have e := List.getElem?_eq_getElem q
  have e1 := hA _ _ e
  rw [← hx] at e1
  rcases h with ⟨a1, a2, a3⟩ | ⟨a1, a2⟩
  · rcases c with ⟨c1, c2, c3⟩ | ⟨c1, c2⟩
    · refine Or.inl ⟨c1, a2, fun j y hj hy => ?_⟩
      by_cases w : (j : Int) < k
      · exact a3 j y w hy
      · rw [show j = k.toNat by (first | (apply Int.le_antisymm <;> omega) | omega), e] at hy
        cases hy
        (first | (apply Int.le_antisymm <;> omega) | omega)
    · refine Or.inr ⟨c1, fun _ z => ?_⟩
      have := z.1 _ (List.getElem_mem q)
      (first | (apply Int.le_antisymm <;> omega) | omega)
  · exact Or.inr ⟨by (first | (apply Int.le_antisymm <;> omega) | omega), a2⟩
theorem ctG_0 {T : zTab} {s s1 : Int32} {k n : Int} (h : ctF T s s1 n) (hn : n = (T.2.1.length : Int)) (hk : k = 0) : ctG T s s1 k := by
  rcases h with ⟨a1, a2, a3⟩ | ⟨a1, a2⟩
  · refine Or.inl ⟨a1, a2, fun t ht => ?_, fun j x hj => absurd hj (by (first | (apply Int.le_antisymm <;> omega) | omega))⟩
    obtain ⟨j, hj⟩ := List.getElem?_of_mem ht
    have := (List.getElem?_eq_some_iff.mp hj).1
    exact a3 j t (by (first | (apply Int.le_antisymm <;> omega) | omega)) hj
  · exact Or.inr ⟨a1, a2⟩
theorem ctG_s {T : zTab} {s s1 s2 x y : Int32} {k : Int} {gt ft gc : Nat → Int32} (h : ctG T s s1 k) (hk : 0 ≤ k) (hl : k < (T.2.2.2.1.length : Int)) (hA : glA gt ft gc T.2.2.2.1) (hx : x = gt k.toNat) (hy : y = ft k.toNat) (c : (s2.toInt = 1 ∧ s1.toInt = 1 ∧ x.toInt = y.toInt) ∨ (s2.toInt = 0 ∧ ¬ (s1.toInt = 1 ∧ x.toInt = y.toInt))) : ctG T s s2 (k + 1) := by
  have q : k.toNat < T.2.2.2.1.length := by (first | (apply Int.le_antisymm <;> omega) | omega)
  have e := List.getElem?_eq_getElem q
  obtain ⟨e1, -, e2⟩ := hA _ _ e
  rw [← hx] at e1
  rw [← hy] at e2
  rcases h with ⟨a1, a2, a3, a4⟩ | ⟨a1, a2⟩
  · rcases c with ⟨c1, c2, c3⟩ | ⟨c1, c2⟩
    · refine Or.inl ⟨c1, a2, a3, fun j z hj hz => ?_⟩
      by_cases w : (j : Int) < k
      · exact a4 j z w hz
      · rw [show j = k.toNat by (first | (apply Int.le_antisymm <;> omega) | omega), e] at hz
        cases hz
        (first | (apply Int.le_antisymm <;> omega) | omega)
    · refine Or.inr ⟨c1, fun _ z => ?_⟩
      have := z.2.1 _ (List.getElem_mem q)
      exact c2 ⟨a1, by (first | (apply Int.le_antisymm <;> omega) | omega)⟩
  · exact Or.inr ⟨by (first | (apply Int.le_antisymm <;> omega) | omega), a2⟩
theorem ct_e {T : zTab} {s s1 s2 hm : Int32} {k pl pm : Int} (h : ctG T s s1 k) (hk : k = (T.2.2.2.1.length : Int)) (hm9 : meA T.2.2.1 hm pl pm) (c : (s2.toInt = 1 ∧ s1.toInt = 1 ∧ pl ≤ 2 ∧ pm ≤ 65536 ∧ (pm < 0 ∨ pl ≤ pm)) ∨ (s2.toInt = 0 ∧ ¬ (s1.toInt = 1 ∧ pl ≤ 2 ∧ pm ≤ 65536 ∧ (pm < 0 ∨ pl ≤ pm)))) : (s2.toInt = 1 ∧ s.toInt = 1 ∧ ctab T) ∨ (s2.toInt = 0 ∧ (s.toInt = 1 → ¬ ctab T)) := by
  have hq : (pl ≤ 2 ∧ pm ≤ 65536 ∧ (pm < 0 ∨ pl ≤ pm)) ↔ (T.2.2.1.2.1 ≤ 2 ∧ T.2.2.1.2.2 ≤ 65536 ∧ T.2.2.1.2.1 ≤ T.2.2.1.2.2) := by
    rcases hm9 with ⟨m1, m2, m3, m4⟩ | ⟨m1, m2, m3, m4⟩
    · (first | (apply Int.le_antisymm <;> omega) | omega)
    · rw [m2]
      constructor
      · intro _
        exact ⟨by decide, by decide, by decide⟩
      · intro _
        (first | (apply Int.le_antisymm <;> omega) | omega)
  rcases h with ⟨a1, a2, a3, a4⟩ | ⟨a1, a2⟩
  · rcases c with ⟨c1, c2, c3⟩ | ⟨c1, c2⟩
    · refine Or.inl ⟨c1, a2, a3, fun g hg => ?_, hq.mp c3⟩
      obtain ⟨j, hj⟩ := List.getElem?_of_mem hg
      have := (List.getElem?_eq_some_iff.mp hj).1
      exact a4 j g (by (first | (apply Int.le_antisymm <;> omega) | omega)) hj
    · exact Or.inr ⟨c1, fun _ z => c2 ⟨a1, hq.mpr z.2.2⟩⟩
  · exact Or.inr ⟨by (first | (apply Int.le_antisymm <;> omega) | omega), a2⟩
/-! exports -/
theorem vs_s {f : Nat → Int32} {a b n : Nat} : vsame f a b (n + 1) = (decide (bn (f a) = bn (f b)) && vsame f (a + 1) (b + 1) n) := rfl
theorem bn_mod (x : Int32) : (bn x : Int) = x.toInt % 256 := by
  have e : x.toInt = x.toBitVec.toInt := rfl
  unfold bn
  rw [e, BitVec.toInt_eq_toNat_cond]
  split <;> (first | (apply Int.le_antisymm <;> omega) | omega)
theorem bn_ij {x y : Int32} (hx : -128 ≤ x.toInt ∧ x.toInt ≤ 127) (hy : -128 ≤ y.toInt ∧ y.toInt ≤ 127) : bn x = bn y ↔ x.toInt = y.toInt := by
  have h1 := bn_mod x
  have h2 := bn_mod y
  (first | (apply Int.le_antisymm <;> omega) | omega)
def exB (f : Nat → Int32) (e x : Nat × Nat × Nat × Nat) : Bool := !(decide (x.2.1 = e.2.1) && vsame f e.1 x.1 e.2.1)
def exth (T : zTab) (e : Nat × Nat × Nat × Nat) : Nat := if e.2.2.1 = 0 then T.2.1.length else if e.2.2.1 = 2 then T.2.2.1.1 else T.2.2.2.1.length
def exK (f : Nat → Int32) (T : zTab) (s s2 : Int32) (k : Int) : Prop := (s2.toInt = 1 ∧ s.toInt = 1 ∧ vexps f T T.2.2.2.2.1 [] = vexps f T (T.2.2.2.2.1.drop k.toNat) (T.2.2.2.2.1.take k.toNat)) ∨ (s2.toInt = 0 ∧ (s.toInt = 1 → vexps f T T.2.2.2.2.1 [] = false))
/-- against the exports before j -/
def exN (f : Nat → Int32) (e : Nat × Nat × Nat × Nat) (o : List (Nat × Nat × Nat × Nat)) (s s2 : Int32) (j : Int) : Prop := (s2.toInt = 1 ∧ s.toInt = 1 ∧ ∀ (i : Nat) (x : Nat × Nat × Nat × Nat), (i : Int) < j → o[i]? = some x → exB f e x = true) ∨ (s2.toInt = 0 ∧ (s.toInt = 1 → o.all (exB f e) = false))
theorem exK_0 {f : Nat → Int32} {T : zTab} {s : Int32} {k : Int} (hs : s.toInt = 0 ∨ s.toInt = 1) (hk : k = 0) : exK f T s s k := by
  subst hk
  rcases hs with q | q
  · exact Or.inr ⟨q, fun z => absurd z (by (first | (apply Int.le_antisymm <;> omega) | omega))⟩
  · exact Or.inl ⟨q, q, rfl⟩
theorem exN_0 {f : Nat → Int32} {e : Nat × Nat × Nat × Nat} {o : List (Nat × Nat × Nat × Nat)} {s : Int32} {j : Int} (hs : s.toInt = 0 ∨ s.toInt = 1) (hj : j = 0) : exN f e o s s j := by
  rcases hs with q | q
  · exact Or.inr ⟨q, fun z => absurd z (by (first | (apply Int.le_antisymm <;> omega) | omega))⟩
  · exact Or.inl ⟨q, q, fun i x hi => absurd hi (by (first | (apply Int.le_antisymm <;> omega) | omega))⟩
theorem exN_s {f : Nat → Int32} {e x : Nat × Nat × Nat × Nat} {o : List (Nat × Nat × Nat × Nat)} {s s1 s2 : Int32} {j : Int} (h : exN f e o s s1 j) (hj : 0 ≤ j) (hx : o[j.toNat]? = some x) (c : (s2.toInt = 1 ∧ s1.toInt = 1 ∧ exB f e x = true) ∨ (s2.toInt = 0 ∧ ¬ (s1.toInt = 1 ∧ exB f e x = true))) : exN f e o s s2 (j + 1) := by
  rcases h with ⟨a1, a2, a3⟩ | ⟨a1, a2⟩
  · rcases c with ⟨c1, c2, c3⟩ | ⟨c1, c2⟩
    · refine Or.inl ⟨c1, a2, fun i y hi hy => ?_⟩
      by_cases w : (i : Int) < j
      · exact a3 i y w hy
      · rw [show i = j.toNat by (first | (apply Int.le_antisymm <;> omega) | omega), hx] at hy
        cases hy
        exact c3
    · refine Or.inr ⟨c1, fun _ => ?_⟩
      apply bF
      intro z
      exact c2 ⟨a1, List.all_eq_true.mp z x (List.mem_of_getElem? hx)⟩
  · exact Or.inr ⟨by (first | (apply Int.le_antisymm <;> omega) | omega), a2⟩
theorem exK_s {f : Nat → Int32} {T : zTab} {s s1 s2 s3 : Int32} {k j : Int} {e : Nat × Nat × Nat × Nat} (h : exK f T s s1 k) (hk : 0 ≤ k) (he : T.2.2.2.2.1[k.toNat]? = some e) (c : (s2.toInt = 1 ∧ s1.toInt = 1 ∧ e.2.2.2 < exth T e) ∨ (s2.toInt = 0 ∧ ¬ (s1.toInt = 1 ∧ e.2.2.2 < exth T e))) (hn : exN f e (T.2.2.2.2.1.take k.toNat) s2 s3 j) (hj : k ≤ j) : exK f T s s3 (k + 1) := by
  obtain ⟨q, rfl⟩ := List.getElem?_eq_some_iff.mp he
  have e1 : vexps f T (T.2.2.2.2.1.drop k.toNat) (T.2.2.2.2.1.take k.toNat) = ((decide (T.2.2.2.2.1[k.toNat].2.2.2 < exth T T.2.2.2.2.1[k.toNat]) && (T.2.2.2.2.1.take k.toNat).all (exB f T.2.2.2.2.1[k.toNat])) && vexps f T (T.2.2.2.2.1.drop (k + 1).toNat) (T.2.2.2.2.1.take (k + 1).toNat)) := by
    rw [List.drop_eq_getElem_cons q, show (k + 1).toNat = k.toNat + 1 by (first | (apply Int.le_antisymm <;> omega) | omega), List.take_succ_eq_append_getElem q]
    rfl
  rcases h with ⟨a1, a2, a3⟩ | ⟨a1, a2⟩
  · rw [e1] at a3
    rcases c with ⟨c1, c2, c3⟩ | ⟨c1, c2⟩
    · rw [decide_eq_true c3, Bool.true_and] at a3
      rcases hn with ⟨b1, b2, b3⟩ | ⟨b1, b2⟩
      · have ea : (T.2.2.2.2.1.take k.toNat).all (exB f T.2.2.2.2.1[k.toNat]) = true := by
          refine List.all_eq_true.mpr (fun x hx => ?_)
          obtain ⟨i, hi⟩ := List.getElem?_of_mem hx
          have := (List.getElem?_eq_some_iff.mp hi).1
          rw [List.length_take] at this
          exact b3 i x (by (first | (apply Int.le_antisymm <;> omega) | omega)) hi
        rw [ea, Bool.true_and] at a3
        exact Or.inl ⟨b1, a2, a3⟩
      · rw [b2 c1, Bool.false_and] at a3
        exact Or.inr ⟨b1, fun _ => a3⟩
    · have c3 : ¬ T.2.2.2.2.1[k.toNat].2.2.2 < exth T T.2.2.2.2.1[k.toNat] := fun z => c2 ⟨a1, z⟩
      rw [decide_eq_false c3, Bool.false_and, Bool.false_and] at a3
      refine Or.inr ⟨?_, fun _ => a3⟩
      rcases hn with ⟨b1, b2, b3⟩ | ⟨b1, b2⟩ <;> (first | (apply Int.le_antisymm <;> omega) | omega)
  · refine Or.inr ⟨?_, a2⟩
    rcases c with ⟨c1, c2, c3⟩ | ⟨c1, c2⟩
    · (first | (apply Int.le_antisymm <;> omega) | omega)
    · rcases hn with ⟨b1, b2, b3⟩ | ⟨b1, b2⟩ <;> (first | (apply Int.le_antisymm <;> omega) | omega)
theorem exK_e {f : Nat → Int32} {T : zTab} {s s1 : Int32} {k : Int} (h : exK f T s s1 k) (hk : (T.2.2.2.2.1.length : Int) ≤ k) : (s1.toInt = 1 ∧ s.toInt = 1 ∧ vexps f T T.2.2.2.2.1 [] = true) ∨ (s1.toInt = 0 ∧ (s.toInt = 1 → vexps f T T.2.2.2.2.1 [] = false)) := by
  rcases h with ⟨a1, a2, a3⟩ | ⟨a1, a2⟩
  · rw [List.drop_of_length_le (by (first | (apply Int.le_antisymm <;> omega) | omega))] at a3
    exact Or.inl ⟨a1, a2, a3⟩
  · exact Or.inr ⟨a1, a2⟩
/-- one pair of exports -/
theorem exB_t {f : Nat → Int32} {e x : Nat × Nat × Nat × Nat} {z1 z2 : Int32} (h1 : z1.toInt = (e.2.1 : Int)) (h2 : z2.toInt = (x.2.1 : Int)) (h : z1.toInt ≠ z2.toInt) : exB f e x = true := by
  unfold exB
  rw [decide_eq_false (by (first | (apply Int.le_antisymm <;> omega) | omega)), Bool.false_and]
  rfl
theorem exB_s {f : Nat → Int32} {e x : Nat × Nat × Nat × Nat} {z1 z2 : Int32} (h1 : z1.toInt = (e.2.1 : Int)) (h2 : z2.toInt = (x.2.1 : Int)) (h : z1.toInt = z2.toInt) : exB f e x = !(vsame f e.1 x.1 e.2.1) := by
  unfold exB
  rw [decide_eq_true (by (first | (apply Int.le_antisymm <;> omega) | omega)), Bool.true_and]
/-! functions -/
def fnK (T : zTab) (s s2 : Int32) (k : Int) : Prop := (s2.toInt = 1 ∧ s.toInt = 1 ∧ ∀ j : Nat, (j : Int) < k → vfun T j = true) ∨ (s2.toInt = 0 ∧ (s.toInt = 1 → (List.range T.2.1.length).all (fun k => vfun T k) = false))
theorem fnK_0 {T : zTab} {s : Int32} {k : Int} (hs : s.toInt = 0 ∨ s.toInt = 1) (hk : k = 0) : fnK T s s k := by
  rcases hs with q | q
  · exact Or.inr ⟨q, fun z => absurd z (by (first | (apply Int.le_antisymm <;> omega) | omega))⟩
  · exact Or.inl ⟨q, q, fun j hj => absurd hj (by (first | (apply Int.le_antisymm <;> omega) | omega))⟩
theorem fnK_s {T : zTab} {s s1 s2 : Int32} {k : Int} (h : fnK T s s1 k) (hk : 0 ≤ k) (hl : k < (T.2.1.length : Int)) (c : (s2.toInt = 1 ∧ s1.toInt = 1 ∧ vfun T k.toNat = true) ∨ (s2.toInt = 0 ∧ (s1.toInt = 1 → vfun T k.toNat = false))) : fnK T s s2 (k + 1) := by
  rcases h with ⟨a1, a2, a3⟩ | ⟨a1, a2⟩
  · rcases c with ⟨c1, c2, c3⟩ | ⟨c1, c2⟩
    · refine Or.inl ⟨c1, a2, fun j hj => ?_⟩
      by_cases w : (j : Int) < k
      · exact a3 j w
      · rw [show j = k.toNat by (first | (apply Int.le_antisymm <;> omega) | omega)]
        exact c3
    · refine Or.inr ⟨c1, fun _ => bF (fun z => ?_)⟩
      have z1 := List.all_eq_true.mp z k.toNat (List.mem_range.mpr (by (first | (apply Int.le_antisymm <;> omega) | omega)))
      rw [c2 a1] at z1
      cases z1
  · refine Or.inr ⟨?_, a2⟩
    rcases c with ⟨c1, c2, c3⟩ | ⟨c1, c2⟩ <;> (first | (apply Int.le_antisymm <;> omega) | omega)
theorem ctab_b {T : zTab} {f : Nat → Int32} : vmod f T = true ↔ ctab T ∧ vexps f T T.2.2.2.2.1 [] = true ∧ (List.range T.2.1.length).all (fun k => vfun T k) = true := by
  unfold vmod ctab
  simp only [Bool.and_eq_true, List.all_eq_true, decide_eq_true_eq]
  constructor
  · intro h
    exact ⟨⟨h.1.1, h.1.2, h.2.1⟩, h.2.2.1, h.2.2.2⟩
  · intro h
    exact ⟨⟨h.1.1, h.1.2.1⟩, h.1.2.2, h.2.1, h.2.2⟩
theorem chk_e {f : Nat → Int32} {T : zTab} {s1 s2 s3 : Int32} {k : Int} (h1 : (s1.toInt = 1 ∧ (1 : Int32).toInt = 1 ∧ ctab T) ∨ (s1.toInt = 0 ∧ ((1 : Int32).toInt = 1 → ¬ ctab T))) (h2 : (s2.toInt = 1 ∧ s1.toInt = 1 ∧ vexps f T T.2.2.2.2.1 [] = true) ∨ (s2.toInt = 0 ∧ (s1.toInt = 1 → vexps f T T.2.2.2.2.1 [] = false))) (h3 : fnK T s2 s3 k) (hk : s3.toInt = 0 ∨ (T.2.1.length : Int) ≤ k) : (s3.toInt = 1 ∧ vmod f T = true) ∨ (s3.toInt = 0 ∧ vmod f T = false) := by
  rcases h1 with ⟨a1, -, a3⟩ | ⟨a1, a2⟩
  · rcases h2 with ⟨b1, b2, b3⟩ | ⟨b1, b2⟩
    · rcases h3 with ⟨c1, c2, c3⟩ | ⟨c1, c2⟩
      · refine Or.inl ⟨c1, ctab_b.mpr ⟨a3, b3, List.all_eq_true.mpr (fun j hj => c3 j ?_)⟩⟩
        have := List.mem_range.mp hj
        (first | (apply Int.le_antisymm <;> omega) | omega)
      · refine Or.inr ⟨c1, bF (fun z => ?_)⟩
        have := (ctab_b.mp z).2.2
        rw [c2 b1] at this
        cases this
    · refine Or.inr ⟨by rcases h3 with ⟨c1, c2, c3⟩ | ⟨c1, c2⟩ <;> (first | (apply Int.le_antisymm <;> omega) | omega), bF (fun z => ?_)⟩
      have := (ctab_b.mp z).2.1
      rw [b2 a1] at this
      cases this
  · refine Or.inr ⟨?_, bF (fun z => a2 (by decide) (ctab_b.mp z).1)⟩
    rcases h2 with ⟨b1, b2, b3⟩ | ⟨b1, b2⟩
    · (first | (apply Int.le_antisymm <;> omega) | omega)
    · rcases h3 with ⟨c1, c2, c3⟩ | ⟨c1, c2⟩ <;> (first | (apply Int.le_antisymm <;> omega) | omega)
end q_n44q28

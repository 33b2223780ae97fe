section q_n44q31
/-! p5: the class: a module is checked as vmod checks it -/
abbrev at_VA_checky (dC : Nat → ClassId) (dI : Nat → Nat → Nat) (sa : Nat → Nat) (h0 ty bo bg bh bd aw ab ac wat wap wag waf wgt wft wgc wek wei wes wez ax cfi clk clt cop cva cpt cel cla : Nat) (cax cty cbo cbg cbh cbd cwaf cwat cwap cwag cwgt cwft cwgc cwek cwei cwes cwez ccfi cclk cclt ccop ccva ccpt ccla : ClassId) (h0_wafer : Value) (h0_codes : Value) (law : List Value) (aw_typeCount : Int32) (aw_functionCount : Int32) (aw_hasMemory : Int32) (aw_pagesLeast : Int64) (aw_pagesMost : Int64) (aw_globalCount : Int32) (aw_exportCount : Int32) (ab_length : Int32) (ac_length : Int32) (ac_labelCount : Int32) (gax : Nat → Int32) (gwaf : Nat → Int32) (gwat : Nat → Int32) (gwap : Nat → Int32) (gwag : Nat → Int32) (gwgt : Nat → Int32) (gwft : Nat → Int32) (gwgc : Nat → Int32) (gwek : Nat → Int32) (gwei : Nat → Int32) (gwes : Nat → Int32) (gwez : Nat → Int32) (gcfi : Nat → Int32) (gclk : Nat → Int32) (gclt : Nat → Int32) (gcop : Nat → Int32) (gcva : Nat → Int64) (gcpt : Nat → Int32) (gcla : Nat → Int32) (A : Nat → Prop) (u : (Nat → Int32) × (Nat → Int32) × (Nat → Int32) × (Nat → Int32) × (Nat → Int32) × Int32 × Int32 × Int32 × Int32) (t : State) : Prop := match u with | (gbd, gbg, gbh, gbo, gty, h0_depth, h0_function, h0_height, h0_sound) => va_P (dC, dI) cls [(h0, .inr (9, [.ref aw, .ref ac, .int h0_sound, .int h0_function, .ref ty, .int h0_height, .ref bo, .ref bg, .ref bh, .ref bd, .int h0_depth])), (aw, .inr (10, law)), (ab, .inr (1, [.ref ax, .int ab_length])), (ac, .inr (3, [.ref cfi, .ref clk, .ref clt, .int ac_length, .ref cop, .ref cva, .ref cpt, .ref cel, .int ac_labelCount, .ref cla])), (ax, .inl (cax, 8192, .inl gax)), (ty, .inl (cty, 5000, .inl gty)), (bo, .inl (cbo, 101, .inl gbo)), (bg, .inl (cbg, 101, .inl gbg)), (bh, .inl (cbh, 101, .inl gbh)), (bd, .inl (cbd, 101, .inl gbd)), (waf, .inl (cwaf, 30, .inl gwaf)), (wat, .inl (cwat, 20, .inl gwat)), (wap, .inl (cwap, 160, .inl gwap)), (wag, .inl (cwag, 20, .inl gwag)), (wgt, .inl (cwgt, 20, .inl gwgt)), (wft, .inl (cwft, 20, .inl gwft)), (wgc, .inl (cwgc, 20, .inl gwgc)), (wek, .inl (cwek, 40, .inl gwek)), (wei, .inl (cwei, 40, .inl gwei)), (wes, .inl (cwes, 40, .inl gwes)), (wez, .inl (cwez, 40, .inl gwez)), (cfi, .inl (ccfi, 31, .inl gcfi)), (clk, .inl (cclk, 30, .inl gclk)), (clt, .inl (cclt, 1800, .inl gclt)), (cop, .inl (ccop, 5000, .inl gcop)), (cva, .inl (ccva, 5000, .inr (.inl gcva))), (cpt, .inl (ccpt, 5000, .inl gcpt)), (cla, .inl (ccla, 2000, .inl gcla))] t.heap ∧ va_K (dC, dI) cls [(cax, .byte), (cty, .int), (cbo, .int), (cbg, .int), (cbh, .int), (cbd, .boolean), (cwaf, .int), (cwat, .int), (cwap, .int), (cwag, .int), (cwgt, .int), (cwft, .int), (cwgc, .boolean), (cwek, .int), (cwei, .int), (cwes, .int), (cwez, .int), (ccfi, .int), (cclk, .int), (cclt, .int), (ccop, .int), (ccva, .long), (ccpt, .int), (ccla, .int)] t ∧ va_D A [(h0, .inr (9, [.ref aw, .ref ac, .int h0_sound, .int h0_function, .ref ty, .int h0_height, .ref bo, .ref bg, .ref bh, .ref bd, .int h0_depth])), (aw, .inr (10, law)), (ab, .inr (1, [.ref ax, .int ab_length])), (ac, .inr (3, [.ref cfi, .ref clk, .ref clt, .int ac_length, .ref cop, .ref cva, .ref cpt, .ref cel, .int ac_labelCount, .ref cla])), (ax, .inl (cax, 8192, .inl gax)), (ty, .inl (cty, 5000, .inl gty)), (bo, .inl (cbo, 101, .inl gbo)), (bg, .inl (cbg, 101, .inl gbg)), (bh, .inl (cbh, 101, .inl gbh)), (bd, .inl (cbd, 101, .inl gbd)), (waf, .inl (cwaf, 30, .inl gwaf)), (wat, .inl (cwat, 20, .inl gwat)), (wap, .inl (cwap, 160, .inl gwap)), (wag, .inl (cwag, 20, .inl gwag)), (wgt, .inl (cwgt, 20, .inl gwgt)), (wft, .inl (cwft, 20, .inl gwft)), (wgc, .inl (cwgc, 20, .inl gwgc)), (wek, .inl (cwek, 40, .inl gwek)), (wei, .inl (cwei, 40, .inl gwei)), (wes, .inl (cwes, 40, .inl gwes)), (wez, .inl (cwez, 40, .inl gwez)), (cfi, .inl (ccfi, 31, .inl gcfi)), (clk, .inl (cclk, 30, .inl gclk)), (clt, .inl (cclt, 1800, .inl gclt)), (cop, .inl (ccop, 5000, .inl gcop)), (cva, .inl (ccva, 5000, .inr (.inl gcva))), (cpt, .inl (ccpt, 5000, .inl gcpt)), (cla, .inl (ccla, 2000, .inl gcla))]
set_option maxHeartbeats 4000000 in
set_option maxRecDepth 100000 in
theorem c_VA_checky (l : Launch) (dC : Nat → ClassId) (dI : Nat → Nat → Nat) (sz : Nat) (sa : Nat → Nat) (h0 ty bo bg bh bd aw ab ac wat wap wag waf wgt wft wgc wek wei wes wez ax cfi clk clt cop cva cpt cel cla : Nat) (cax cty cbo cbg cbh cbd cwaf cwat cwap cwag cwgt cwft cwgc cwek cwei cwes cwez ccfi cclk cclt ccop ccva ccpt ccla : ClassId) (h0_wafer : Value) (h0_codes : Value) (h0_sound : Int32) (h0_function : Int32) (h0_height : Int32) (h0_depth : Int32) (law : List Value) (aw_typeCount : Int32) (aw_functionCount : Int32) (aw_hasMemory : Int32) (aw_pagesLeast : Int64) (aw_pagesMost : Int64) (aw_globalCount : Int32) (aw_exportCount : Int32) (ab_length : Int32) (ac_length : Int32) (ac_labelCount : Int32) (gax : Nat → Int32) (gty : Nat → Int32) (gbo : Nat → Int32) (gbg : Nat → Int32) (gbh : Nat → Int32) (gbd : Nat → Int32) (gwaf : Nat → Int32) (gwat : Nat → Int32) (gwap : Nat → Int32) (gwag : Nat → Int32) (gwgt : Nat → Int32) (gwft : Nat → Int32) (gwgc : Nat → Int32) (gwek : Nat → Int32) (gwei : Nat → Int32) (gwes : Nat → Int32) (gwez : Nat → Int32) (gcfi : Nat → Int32) (gclk : Nat → Int32) (gclt : Nat → Int32) (gcop : Nat → Int32) (gcva : Nat → Int64) (gcpt : Nat → Int32) (gcla : Nat → Int32) (T9 : zTab) (paw_0 : law[0]? = some (.ref ab)) (paw_1 : law[1]? = some (.ref ac)) (paw_2 : law[2]? = some (.int aw_typeCount)) (paw_3 : law[3]? = some (.ref wat)) (paw_4 : law[4]? = some (.ref wap)) (paw_5 : law[5]? = some (.ref wag)) (paw_6 : law[6]? = some (.int aw_functionCount)) (paw_7 : law[7]? = some (.ref waf)) (paw_8 : law[8]? = some (.int aw_hasMemory)) (paw_9 : law[9]? = some (.long aw_pagesLeast)) (paw_10 : law[10]? = some (.long aw_pagesMost)) (paw_11 : law[11]? = some (.int aw_globalCount)) (paw_12 : law[12]? = some (.ref wgt)) (paw_13 : law[13]? = some (.ref wft)) (paw_15 : law[15]? = some (.ref wgc)) (paw_16 : law[16]? = some (.int aw_exportCount)) (paw_17 : law[17]? = some (.ref wek)) (paw_18 : law[18]? = some (.ref wei)) (paw_19 : law[19]? = some (.ref wes)) (paw_20 : law[20]? = some (.ref wez)) (plaw : law.length = 21) (b_h0_sound : h0_sound = 0 ∨ h0_sound = 1) (b_h0_height : 0 ≤ h0_height.toInt ∧ h0_height.toInt ≤ 5000) (b_h0_depth : 0 ≤ h0_depth.toInt ∧ h0_depth.toInt ≤ 101) (b_ab_length : 0 ≤ ab_length.toInt ∧ ab_length.toInt ≤ 8192) (b_ac_length : 0 ≤ ac_length.toInt ∧ ac_length.toInt ≤ 5000) (b_ac_labelCount : 0 ≤ ac_labelCount.toInt ∧ ac_labelCount.toInt ≤ 2000) (b_gty : ∀ j : Nat, (gty j).toInt ≠ 64) (b_gbh : ∀ j : Nat, 0 ≤ (gbh j).toInt ∧ (gbh j).toInt ≤ 5000) (b_aw_typeCount : 0 ≤ aw_typeCount.toInt ∧ aw_typeCount.toInt ≤ 20) (b_aw_functionCount : 0 ≤ aw_functionCount.toInt ∧ aw_functionCount.toInt ≤ 30) (b_aw_hasMemory : aw_hasMemory = 0 ∨ aw_hasMemory = 1) (b_aw_globalCount : 0 ≤ aw_globalCount.toInt ∧ aw_globalCount.toInt ≤ 20) (b_aw_exportCount : 0 ≤ aw_exportCount.toInt ∧ aw_exportCount.toInt ≤ 40)   (hal : 0 ≤ ab_length.toInt ∧ ab_length.toInt ≤ 2000) (hT : tA T9 aw_typeCount aw_functionCount aw_hasMemory aw_globalCount aw_exportCount aw_functionCount ac_length ac_labelCount aw_pagesLeast.toInt aw_pagesMost.toInt gwat gwap gwag gwaf gwgt gwft gwgc gwes gwez gwek gwei gcfi gclk gclt gcop gcpt gcla gcva) (hTK : TOK T9 ab_length.toNatClampNeg) (hTl : T9.2.1.length = T9.2.2.2.2.2.length) (hlc : ac_labelCount.toInt ≤ 2000) (hbr : bx (∀ j : Nat, (j : Int) < ab_length.toInt → -128 ≤ (gax j).toInt ∧ (gax j).toInt ≤ 127)) : Met l y_VA_check w_VA_check ({ frames := 5, cells := 0, slots := 0, locals := 113 }) (va_Pc [.ref h0, .ref aw] (fun U => U.heap.size = sz ∧ va_P (dC, dI) cls [(h0, .inr (9, [h0_wafer, h0_codes, .int h0_sound, .int h0_function, .ref ty, .int h0_height, .ref bo, .ref bg, .ref bh, .ref bd, .int h0_depth])), (aw, .inr (10, law)), (ab, .inr (1, [.ref ax, .int ab_length])), (ac, .inr (3, [.ref cfi, .ref clk, .ref clt, .int ac_length, .ref cop, .ref cva, .ref cpt, .ref cel, .int ac_labelCount, .ref cla])), (ax, .inl (cax, 8192, .inl gax)), (ty, .inl (cty, 5000, .inl gty)), (bo, .inl (cbo, 101, .inl gbo)), (bg, .inl (cbg, 101, .inl gbg)), (bh, .inl (cbh, 101, .inl gbh)), (bd, .inl (cbd, 101, .inl gbd)), (waf, .inl (cwaf, 30, .inl gwaf)), (wat, .inl (cwat, 20, .inl gwat)), (wap, .inl (cwap, 160, .inl gwap)), (wag, .inl (cwag, 20, .inl gwag)), (wgt, .inl (cwgt, 20, .inl gwgt)), (wft, .inl (cwft, 20, .inl gwft)), (wgc, .inl (cwgc, 20, .inl gwgc)), (wek, .inl (cwek, 40, .inl gwek)), (wei, .inl (cwei, 40, .inl gwei)), (wes, .inl (cwes, 40, .inl gwes)), (wez, .inl (cwez, 40, .inl gwez)), (cfi, .inl (ccfi, 31, .inl gcfi)), (clk, .inl (cclk, 30, .inl gclk)), (clt, .inl (cclt, 1800, .inl gclt)), (cop, .inl (ccop, 5000, .inl gcop)), (cva, .inl (ccva, 5000, .inr (.inl gcva))), (cpt, .inl (ccpt, 5000, .inl gcpt)), (cla, .inl (ccla, 2000, .inl gcla))] U.heap ∧ va_K (dC, dI) cls [(cax, .byte), (cty, .int), (cbo, .int), (cbg, .int), (cbh, .int), (cbd, .boolean), (cwaf, .int), (cwat, .int), (cwap, .int), (cwag, .int), (cwgt, .int), (cwft, .int), (cwgc, .boolean), (cwek, .int), (cwei, .int), (cwes, .int), (cwez, .int), (ccfi, .int), (cclk, .int), (cclt, .int), (ccop, .int), (ccva, .long), (ccpt, .int), (ccla, .int)] U ∧ va_D (fun _ => True) [(h0, .inr (9, [h0_wafer, h0_codes, .int h0_sound, .int h0_function, .ref ty, .int h0_height, .ref bo, .ref bg, .ref bh, .ref bd, .int h0_depth])), (aw, .inr (10, law)), (ab, .inr (1, [.ref ax, .int ab_length])), (ac, .inr (3, [.ref cfi, .ref clk, .ref clt, .int ac_length, .ref cop, .ref cva, .ref cpt, .ref cel, .int ac_labelCount, .ref cla])), (ax, .inl (cax, 8192, .inl gax)), (ty, .inl (cty, 5000, .inl gty)), (bo, .inl (cbo, 101, .inl gbo)), (bg, .inl (cbg, 101, .inl gbg)), (bh, .inl (cbh, 101, .inl gbh)), (bd, .inl (cbd, 101, .inl gbd)), (waf, .inl (cwaf, 30, .inl gwaf)), (wat, .inl (cwat, 20, .inl gwat)), (wap, .inl (cwap, 160, .inl gwap)), (wag, .inl (cwag, 20, .inl gwag)), (wgt, .inl (cwgt, 20, .inl gwgt)), (wft, .inl (cwft, 20, .inl gwft)), (wgc, .inl (cwgc, 20, .inl gwgc)), (wek, .inl (cwek, 40, .inl gwek)), (wei, .inl (cwei, 40, .inl gwei)), (wes, .inl (cwes, 40, .inl gwes)), (wez, .inl (cwez, 40, .inl gwez)), (cfi, .inl (ccfi, 31, .inl gcfi)), (clk, .inl (cclk, 30, .inl gclk)), (clt, .inl (cclt, 1800, .inl gclt)), (cop, .inl (ccop, 5000, .inl gcop)), (cva, .inl (ccva, 5000, .inr (.inl gcva))), (cpt, .inl (ccpt, 5000, .inl gcpt)), (cla, .inl (ccla, 2000, .inl gcla))] ∧ sw sa (va_A [(h0, .inr (9, [h0_wafer, h0_codes, .int h0_sound, .int h0_function, .ref ty, .int h0_height, .ref bo, .ref bg, .ref bh, .ref bd, .int h0_depth])), (aw, .inr (10, law)), (ab, .inr (1, [.ref ax, .int ab_length])), (ac, .inr (3, [.ref cfi, .ref clk, .ref clt, .int ac_length, .ref cop, .ref cva, .ref cpt, .ref cel, .int ac_labelCount, .ref cla])), (ax, .inl (cax, 8192, .inl gax)), (ty, .inl (cty, 5000, .inl gty)), (bo, .inl (cbo, 101, .inl gbo)), (bg, .inl (cbg, 101, .inl gbg)), (bh, .inl (cbh, 101, .inl gbh)), (bd, .inl (cbd, 101, .inl gbd)), (waf, .inl (cwaf, 30, .inl gwaf)), (wat, .inl (cwat, 20, .inl gwat)), (wap, .inl (cwap, 160, .inl gwap)), (wag, .inl (cwag, 20, .inl gwag)), (wgt, .inl (cwgt, 20, .inl gwgt)), (wft, .inl (cwft, 20, .inl gwft)), (wgc, .inl (cwgc, 20, .inl gwgc)), (wek, .inl (cwek, 40, .inl gwek)), (wei, .inl (cwei, 40, .inl gwei)), (wes, .inl (cwes, 40, .inl gwes)), (wez, .inl (cwez, 40, .inl gwez)), (cfi, .inl (ccfi, 31, .inl gcfi)), (clk, .inl (cclk, 30, .inl gclk)), (clt, .inl (cclt, 1800, .inl gclt)), (cop, .inl (ccop, 5000, .inl gcop)), (cva, .inl (ccva, 5000, .inr (.inl gcva))), (cpt, .inl (ccpt, 5000, .inl gcpt)), (cla, .inl (ccla, 2000, .inl gcla))] sz) U U.heap)) (va_Qi (fun (r : Int32) (u : (Nat → Int32) × (Nat → Int32) × (Nat → Int32) × (Nat → Int32) × (Nat → Int32) × Int32 × Int32 × Int32 × Int32) => match u with | (gbd2, gbg2, gbh2, gbo2, gty2, h0_depth2, h0_function2, h0_height2, h0_sound2) => (r = 0 ∨ r = 1) ∧ (∀ j : Nat, 0 ≤ (gbh2 j).toInt ∧ (gbh2 j).toInt ≤ 5000) ∧ (∀ j : Nat, (gty2 j).toInt ≠ 64) ∧ (0 ≤ h0_depth2.toInt ∧ h0_depth2.toInt ≤ 101) ∧ (0 ≤ h0_height2.toInt ∧ h0_height2.toInt ≤ 5000) ∧ (h0_sound2 = 0 ∨ h0_sound2 = 1) ∧ ((r.toInt = 1 ∧ vmod gax T9 = true) ∨ (r.toInt = 0 ∧ vmod gax T9 = false))) (at_VA_checky dC dI sa h0 ty bo bg bh bd aw ab ac wat wap wag waf wgt wft wgc wek wei wes wez ax cfi clk clt cop cva cpt cel cla cax cty cbo cbg cbh cbd cwaf cwat cwap cwag cwgt cwft cwgc cwek cwei cwes cwez ccfi cclk cclt ccop ccva ccpt ccla h0_wafer h0_codes law aw_typeCount aw_functionCount aw_hasMemory aw_pagesLeast aw_pagesMost aw_globalCount aw_exportCount ab_length ac_length ac_labelCount gax gwaf gwat gwap gwag gwgt gwft gwgc gwek gwei gwes gwez gcfi gclk gclt gcop gcva gcpt gcla (va_A [(h0, .inr (9, [h0_wafer, h0_codes, .int h0_sound, .int h0_function, .ref ty, .int h0_height, .ref bo, .ref bg, .ref bh, .ref bd, .int h0_depth])), (aw, .inr (10, law)), (ab, .inr (1, [.ref ax, .int ab_length])), (ac, .inr (3, [.ref cfi, .ref clk, .ref clt, .int ac_length, .ref cop, .ref cva, .ref cpt, .ref cel, .int ac_labelCount, .ref cla])), (ax, .inl (cax, 8192, .inl gax)), (ty, .inl (cty, 5000, .inl gty)), (bo, .inl (cbo, 101, .inl gbo)), (bg, .inl (cbg, 101, .inl gbg)), (bh, .inl (cbh, 101, .inl gbh)), (bd, .inl (cbd, 101, .inl gbd)), (waf, .inl (cwaf, 30, .inl gwaf)), (wat, .inl (cwat, 20, .inl gwat)), (wap, .inl (cwap, 160, .inl gwap)), (wag, .inl (cwag, 20, .inl gwag)), (wgt, .inl (cwgt, 20, .inl gwgt)), (wft, .inl (cwft, 20, .inl gwft)), (wgc, .inl (cwgc, 20, .inl gwgc)), (wek, .inl (cwek, 40, .inl gwek)), (wei, .inl (cwei, 40, .inl gwei)), (wes, .inl (cwes, 40, .inl gwes)), (wez, .inl (cwez, 40, .inl gwez)), (cfi, .inl (ccfi, 31, .inl gcfi)), (clk, .inl (cclk, 30, .inl gclk)), (clt, .inl (cclt, 1800, .inl gclt)), (cop, .inl (ccop, 5000, .inl gcop)), (cva, .inl (ccva, 5000, .inr (.inl gcva))), (cpt, .inl (ccpt, 5000, .inl gcpt)), (cla, .inl (ccla, 2000, .inl gcla))] sz)) (va_A [(h0, .inr (9, [h0_wafer, h0_codes, .int h0_sound, .int h0_function, .ref ty, .int h0_height, .ref bo, .ref bg, .ref bh, .ref bd, .int h0_depth])), (aw, .inr (10, law)), (ab, .inr (1, [.ref ax, .int ab_length])), (ac, .inr (3, [.ref cfi, .ref clk, .ref clt, .int ac_length, .ref cop, .ref cva, .ref cpt, .ref cel, .int ac_labelCount, .ref cla])), (ax, .inl (cax, 8192, .inl gax)), (ty, .inl (cty, 5000, .inl gty)), (bo, .inl (cbo, 101, .inl gbo)), (bg, .inl (cbg, 101, .inl gbg)), (bh, .inl (cbh, 101, .inl gbh)), (bd, .inl (cbd, 101, .inl gbd)), (waf, .inl (cwaf, 30, .inl gwaf)), (wat, .inl (cwat, 20, .inl gwat)), (wap, .inl (cwap, 160, .inl gwap)), (wag, .inl (cwag, 20, .inl gwag)), (wgt, .inl (cwgt, 20, .inl gwgt)), (wft, .inl (cwft, 20, .inl gwft)), (wgc, .inl (cwgc, 20, .inl gwgc)), (wek, .inl (cwek, 40, .inl gwek)), (wei, .inl (cwei, 40, .inl gwei)), (wes, .inl (cwes, 40, .inl gwes)), (wez, .inl (cwez, 40, .inl gwez)), (cfi, .inl (ccfi, 31, .inl gcfi)), (clk, .inl (cclk, 30, .inl gclk)), (clt, .inl (cclt, 1800, .inl gclt)), (cop, .inl (ccop, 5000, .inl gcop)), (cva, .inl (ccva, 5000, .inr (.inl gcva))), (cpt, .inl (ccpt, 5000, .inl gcpt)), (cla, .inl (ccla, 2000, .inl gcla))] sz)) 0 0 (va_A [(h0, .inr (9, [h0_wafer, h0_codes, .int h0_sound, .int h0_function, .ref ty, .int h0_height, .ref bo, .ref bg, .ref bh, .ref bd, .int h0_depth])), (aw, .inr (10, law)), (ab, .inr (1, [.ref ax, .int ab_length])), (ac, .inr (3, [.ref cfi, .ref clk, .ref clt, .int ac_length, .ref cop, .ref cva, .ref cpt, .ref cel, .int ac_labelCount, .ref cla])), (ax, .inl (cax, 8192, .inl gax)), (ty, .inl (cty, 5000, .inl gty)), (bo, .inl (cbo, 101, .inl gbo)), (bg, .inl (cbg, 101, .inl gbg)), (bh, .inl (cbh, 101, .inl gbh)), (bd, .inl (cbd, 101, .inl gbd)), (waf, .inl (cwaf, 30, .inl gwaf)), (wat, .inl (cwat, 20, .inl gwat)), (wap, .inl (cwap, 160, .inl gwap)), (wag, .inl (cwag, 20, .inl gwag)), (wgt, .inl (cwgt, 20, .inl gwgt)), (wft, .inl (cwft, 20, .inl gwft)), (wgc, .inl (cwgc, 20, .inl gwgc)), (wek, .inl (cwek, 40, .inl gwek)), (wei, .inl (cwei, 40, .inl gwei)), (wes, .inl (cwes, 40, .inl gwes)), (wez, .inl (cwez, 40, .inl gwez)), (cfi, .inl (ccfi, 31, .inl gcfi)), (clk, .inl (cclk, 30, .inl gclk)), (clt, .inl (cclt, 1800, .inl gclt)), (cop, .inl (ccop, 5000, .inl gcop)), (cva, .inl (ccva, 5000, .inr (.inl gcva))), (cpt, .inl (ccpt, 5000, .inl gcpt)), (cla, .inl (ccla, 2000, .inl gcla))] sz) := by
  refine Met.ofW (cc := b_VA_check) (maxL := 3) (ret := (Option.some .boolean)) (by decide) rfl ?_
  intro p e s m args below meth c s₁ B hml hv
  obtain ⟨rfl, hsz, hP, hK, hD0, hSW⟩ := hv
  have hx := B.exec
  have hb := B.bytes
  have hr := B.returns
  have hts0 := atoms_spec (ws := w_VA_check) B.pre
  have hts : ∀ w ∈ lw_g, w.before _ s = true := fun w h => hts0 w (List.mem_cons_of_mem _ h)
  have hown : s.vm.findClass R_VA = some m.cls := findClass_of_methodNamed B.named
  have hlocks := B.notSynchronized
  clear hts0
  subst hsz
  have hD := hD0.self (sz := s.heap.size)
  generalize hAe : va_A [(h0, .inr (9, [h0_wafer, h0_codes, .int h0_sound, .int h0_function, .ref ty, .int h0_height, .ref bo, .ref bg, .ref bh, .ref bd, .int h0_depth])), (aw, .inr (10, law)), (ab, .inr (1, [.ref ax, .int ab_length])), (ac, .inr (3, [.ref cfi, .ref clk, .ref clt, .int ac_length, .ref cop, .ref cva, .ref cpt, .ref cel, .int ac_labelCount, .ref cla])), (ax, .inl (cax, 8192, .inl gax)), (ty, .inl (cty, 5000, .inl gty)), (bo, .inl (cbo, 101, .inl gbo)), (bg, .inl (cbg, 101, .inl gbg)), (bh, .inl (cbh, 101, .inl gbh)), (bd, .inl (cbd, 101, .inl gbd)), (waf, .inl (cwaf, 30, .inl gwaf)), (wat, .inl (cwat, 20, .inl gwat)), (wap, .inl (cwap, 160, .inl gwap)), (wag, .inl (cwag, 20, .inl gwag)), (wgt, .inl (cwgt, 20, .inl gwgt)), (wft, .inl (cwft, 20, .inl gwft)), (wgc, .inl (cwgc, 20, .inl gwgc)), (wek, .inl (cwek, 40, .inl gwek)), (wei, .inl (cwei, 40, .inl gwei)), (wes, .inl (cwes, 40, .inl gwes)), (wez, .inl (cwez, 40, .inl gwez)), (cfi, .inl (ccfi, 31, .inl gcfi)), (clk, .inl (cclk, 30, .inl gclk)), (clt, .inl (cclt, 1800, .inl gclt)), (cop, .inl (ccop, 5000, .inl gcop)), (cva, .inl (ccva, 5000, .inr (.inl gcva))), (cpt, .inl (ccpt, 5000, .inl gcpt)), (cla, .inl (ccla, 2000, .inl gcla))] s.heap.size = A at hD hSW ⊢
  have hA : ∀ q : Nat, s.heap.size ≤ q → A q := fun q h => by rw [← hAe]; exact Or.inr h
  clear hAe
  have hP : va_P (dC, dI) cls [(h0, .inr (9, [h0_wafer, h0_codes, .int h0_sound, .int h0_function, .ref ty, .int h0_height, .ref bo, .ref bg, .ref bh, .ref bd, .int h0_depth])), (aw, .inr (10, law)), (ab, .inr (1, [.ref ax, .int ab_length])), (ac, .inr (3, [.ref cfi, .ref clk, .ref clt, .int ac_length, .ref cop, .ref cva, .ref cpt, .ref cel, .int ac_labelCount, .ref cla])), (ax, .inl (cax, 8192, .inl gax)), (ty, .inl (cty, 5000, .inl gty)), (bo, .inl (cbo, 101, .inl gbo)), (bg, .inl (cbg, 101, .inl gbg)), (bh, .inl (cbh, 101, .inl gbh)), (bd, .inl (cbd, 101, .inl gbd)), (waf, .inl (cwaf, 30, .inl gwaf)), (wat, .inl (cwat, 20, .inl gwat)), (wap, .inl (cwap, 160, .inl gwap)), (wag, .inl (cwag, 20, .inl gwag)), (wgt, .inl (cwgt, 20, .inl gwgt)), (wft, .inl (cwft, 20, .inl gwft)), (wgc, .inl (cwgc, 20, .inl gwgc)), (wek, .inl (cwek, 40, .inl gwek)), (wei, .inl (cwei, 40, .inl gwei)), (wes, .inl (cwes, 40, .inl gwes)), (wez, .inl (cwez, 40, .inl gwez)), (cfi, .inl (ccfi, 31, .inl gcfi)), (clk, .inl (cclk, 30, .inl gclk)), (clt, .inl (cclt, 1800, .inl gclt)), (cop, .inl (ccop, 5000, .inl gcop)), (cva, .inl (ccva, 5000, .inr (.inl gcva))), (cpt, .inl (ccpt, 5000, .inl gcpt)), (cla, .inl (ccla, 2000, .inl gcla))] s.heap := hP
  have hl := lv_entry ([.ref h0, .ref aw]) (n := 3) (Nat.le_of_ble_eq_true rfl)
  rw [lg_entry_eq]
  generalize (lg_sl ([.ref h0, .ref aw]) ++ List.replicate (3 - (lg_sl ([.ref h0, .ref aw])).length) Slot.unset).toArray = ls at hl ⊢
  have hl : lv_has ls 3 [(0, .ref h0), (1, .ref aw)] := hl
  have k0 : (0 : Int32).toInt = 0 := by decide
  refine w_gen (A := A) hP (fun H locs hP hS => ?_)
  have k1 : (1 : Int32).toInt = 1 := by decide
  have th0_sound := b01 b_h0_sound
  have taw_hasMemory := b01 b_aw_hasMemory
  obtain ⟨⟨a1, a2⟩, ⟨a3, a4⟩, a5, ⟨a6, a7⟩, ⟨a8, a9⟩, a10, a11, a12⟩ := hT
  obtain ⟨⟨o1, o2⟩, o3, ⟨o4, o5⟩, ⟨o6, o7⟩, ⟨o8, o9⟩⟩ := hTK
  have hme1 : aw_hasMemory.toInt = (T9.2.2.1.1 : Int) := by rcases a5 with ⟨m1, m2, -⟩ | ⟨m1, m2, -⟩; (rw [m2]; (first | (apply Int.le_antisymm <;> omega) | omega)); (rw [m2]; exact m1)
  have hck9 : bx (∀ f : Nat, (f : Int) < aw_functionCount.toInt → 0 ≤ (gclk f).toInt ∧ (gclk f).toInt ≤ 60) := fun f hf => by have q : f < T9.2.2.2.2.2.length := (by (first | (apply Int.le_antisymm <;> omega) | omega)); have e := List.getElem?_eq_getElem q; obtain ⟨d1, d2, -⟩ := a12.2 _ _ e; (first | (apply Int.le_antisymm <;> omega) | omega)
  have hgb9 : glB gwgt gwgc T9.2.2.2.1 := fun k x e => ⟨(a7 k x e).1, (a7 k x e).2.1⟩
  replace o2 : bx _ := o2
  replace o5 : bx _ := o5
  replace o7 : bx _ := o7
  replace o9 : bx _ := o9
  refine lv_aload_n hx hb d_VA_check_0 rfl (lv_at hl 0 rfl) ?_
  refine lv_aload_n hx hb d_VA_check_1 rfl (lv_at hl 1 rfl) ?_
  refine va_put (D := (dC, dI)) (ci := 9) (v := .ref aw) (ty := .object "WaferForge$Wafer") (C := R_VA) (T := F_VA) (N := 11) hx hb hts i_VA t_VA t_VA_ok n_VA hown hK hP hD hS 0 rfl rfl 0 (by decide) (hts _ kF_VA_28) (fun _ h9 => h9) rfl (by decide +kernel) rfl rfl (Nat.le_of_ble_eq_true rfl) d_VA_check_2 (fun H locs hP hD hS => ?_)
  refine lv_aload_n hx hb d_VA_check_5 rfl (lv_at hl 0 rfl) ?_
  refine lv_aload_n hx hb d_VA_check_6 rfl (lv_at hl 1 rfl) ?_
  refine va_get (D := (dC, dI)) (ci := 10) (v := .ref ac) (C := R_WA) (T := F_WA) (N := 21) hx hb hts i_WA hown hK hP 1 rfl rfl 1 (by decide) (hts _ kF_VA_32) (fun _ h9 => h9) paw_1 d_VA_check_7 ?_
  refine va_put (D := (dC, dI)) (ci := 9) (v := .ref ac) (ty := .object "WaferForge$Codes") (C := R_VA) (T := F_VA) (N := 11) hx hb hts i_VA t_VA t_VA_ok n_VA hown hK hP hD hS 0 rfl rfl 1 (by decide) (hts _ kF_VA_38) (fun _ h9 => h9) rfl (by decide +kernel) rfl rfl (Nat.le_of_ble_eq_true rfl) d_VA_check_10 (fun H locs hP hD hS => ?_)
  refine lv_aload_n hx hb d_VA_check_13 rfl (lv_at hl 0 rfl) ?_
  refine lv_iconst (v := 1) hx hb d_VA_check_14 (by decide) ?_
  refine va_put (D := (dC, dI)) (ci := 9) (v := .int 1) (ty := .boolean) (C := R_VA) (T := F_VA) (N := 11) hx hb hts i_VA t_VA t_VA_ok n_VA hown hK hP hD hS 0 rfl rfl 2 (by decide) (hts _ kF_VA_39) (fun _ h9 => h9) rfl (by decide +kernel) rfl rfl (Nat.le_of_ble_eq_true rfl) d_VA_check_15 (fun H locs hP hD hS => ?_)
  refine lv_aload_n hx hb d_VA_check_18 rfl (lv_at hl 0 rfl) ?_
  have hPc := hP.sb (wq := [(h0, .inr (9, [.ref aw, .ref ac, .int 1, .int h0_function, .ref ty, .int h0_height, .ref bo, .ref bg, .ref bh, .ref bd, .int h0_depth])), (aw, .inr (10, law)), (waf, .inl (cwaf, 30, .inl gwaf)), (wgt, .inl (cwgt, 20, .inl gwgt)), (wft, .inl (cwft, 20, .inl gwft)), (wgc, .inl (cwgc, 20, .inl gwgc))]) [0, 1, 10, 14, 15, 16] rfl
  have hDc := hD.sb (wq := [(h0, .inr (9, [.ref aw, .ref ac, .int 1, .int h0_function, .ref ty, .int h0_height, .ref bo, .ref bg, .ref bh, .ref bd, .int h0_depth])), (aw, .inr (10, law)), (waf, .inl (cwaf, 30, .inl gwaf)), (wgt, .inl (cwgt, 20, .inl gwgt)), (wft, .inl (cwft, 20, .inl gwft)), (wgc, .inl (cwgc, 20, .inl gwgc))]) [0, 1, 10, 14, 15, 16] (by decide) rfl
  have hKc := hK.sb (tyq := [(cwaf, .int), (cwgt, .int), (cwft, .int), (cwgc, .boolean)]) [6, 10, 11, 12] rfl
  have hFc := va_free (wc := [(h0, .inr (9, [.ref aw, .ref ac, .int 1, .int h0_function, .ref ty, .int h0_height, .ref bo, .ref bg, .ref bh, .ref bd, .int h0_depth])), (aw, .inr (10, law)), (waf, .inl (cwaf, 30, .inl gwaf)), (wgt, .inl (cwgt, 20, .inl gwgt)), (wft, .inl (cwft, 20, .inl gwft)), (wgc, .inl (cwgc, 20, .inl gwgc))]) hD hS hA [0, 1, 10, 14, 15, 16] rfl
  refine va_callv (va_runV (As := []) (rest := []) ⟨hx, hb, hml, hown, hts⟩ (c_VA_checkTablesy l dC dI H.size h0 aw ac ty bo bg bh bd waf wgt wft wgc cwaf cwgt cwft cwgc 1 h0_function h0_height h0_depth law aw_typeCount aw_functionCount aw_hasMemory aw_pagesLeast aw_pagesMost aw_globalCount gwaf gwgt gwft gwgc T9 paw_2 paw_6 paw_7 paw_8 paw_9 paw_10 paw_11 paw_12 paw_13 plaw (Or.inr rfl) (b_aw_typeCount) (b_aw_functionCount) (b_aw_hasMemory) (b_aw_globalCount) (⟨a3, a1, a6⟩) (a4) (a7) (a5)) (cwV 0 hts (gV kM_VA_43 kV_VA_checkTables kS_VA_checkTables kI_VA kC_VA_checkTables) rfl rfl rfl (by decide +kernel) ⟨Nat.le_of_ble_eq_true rfl, Nat.le_of_ble_eq_true rfl⟩) ⟨fun a U g mk z => by obtain ⟨z0, z1, zP, zK, zD⟩ := z; exact ⟨z0, z1, zP, va_K.moved (u := U) (U := U.calling g mk a) (Vm.Alike.refl U.vm) zK, zD⟩, va_recv hKc hPc (ci := 9) (q0 := 0) rfl rfl, fun U hU hW => ⟨rfl, by rw [hU], va_P.he hU.symm hPc, va_K.moved hW.alike hKc, hDc.weaken (fun _ _ _ _ => trivial)⟩⟩ rfl rfl hl.1 rfl (lv_room (Nat.le_of_ble_eq_true rfl)) d_VA_check_19 ⟨(Nat.zero_le _), (Nat.zero_le _)⟩) hS (fun q _ h => hFc q h) hFc (fun u t H1 locs ht hvm hw hB hz1 hk1 hS => ?_)
  obtain ⟨n2, rfl⟩ : ∃ z, z = u := ⟨_, rfl⟩
  try dsimp only at hw
  obtain ⟨bn2, xr1⟩ := hw
  try clear hw
  have tn2 := b01 bn2
  have x19 := xr1
  have cf9 : n2.toInt = 1 → fT T9 aw_functionCount gwaf gwat gwap gwag := fun z => by rcases x19 with y | y; (exact ⟨a3, a4, a2, y.2.2.1, o1, o3, o2.out⟩); ((first | (apply Int.le_antisymm <;> omega) | omega))
  obtain ⟨hP1, hK1, hD1⟩ := hB
  replace hP1 := va_P.he ht hP1
  obtain ⟨hP, hD⟩ := va_join (wr := [(ab, .inr (1, [.ref ax, .int ab_length])), (ac, .inr (3, [.ref cfi, .ref clk, .ref clt, .int ac_length, .ref cop, .ref cva, .ref cpt, .ref cel, .int ac_labelCount, .ref cla])), (ax, .inl (cax, 8192, .inl gax)), (ty, .inl (cty, 5000, .inl gty)), (bo, .inl (cbo, 101, .inl gbo)), (bg, .inl (cbg, 101, .inl gbg)), (bh, .inl (cbh, 101, .inl gbh)), (bd, .inl (cbd, 101, .inl gbd)), (wat, .inl (cwat, 20, .inl gwat)), (wap, .inl (cwap, 160, .inl gwap)), (wag, .inl (cwag, 20, .inl gwag)), (wek, .inl (cwek, 40, .inl gwek)), (wei, .inl (cwei, 40, .inl gwei)), (wes, .inl (cwes, 40, .inl gwes)), (wez, .inl (cwez, 40, .inl gwez)), (cfi, .inl (ccfi, 31, .inl gcfi)), (clk, .inl (cclk, 30, .inl gclk)), (clt, .inl (cclt, 1800, .inl gclt)), (cop, .inl (ccop, 5000, .inl gcop)), (cva, .inl (ccva, 5000, .inr (.inl gcva))), (cpt, .inl (ccpt, 5000, .inl gcpt)), (cla, .inl (ccla, 2000, .inl gcla))]) (w1 := [(h0, .inr (9, [.ref aw, .ref ac, .int n2, .int h0_function, .ref ty, .int h0_height, .ref bo, .ref bg, .ref bh, .ref bd, .int h0_depth])), (aw, .inr (10, law)), (waf, .inl (cwaf, 30, .inl gwaf)), (wgt, .inl (cwgt, 20, .inl gwgt)), (wft, .inl (cwft, 20, .inl gwft)), (wgc, .inl (cwgc, 20, .inl gwgc))]) hP hD [0, 1, 10, 14, 15, 16] [2, 3, 4, 5, 6, 7, 8, 9, 11, 12, 13, 17, 18, 19, 20, 21, 22, 23, 24, 25, 26, 27] rfl rfl (by decide) (by decide) hk1 hFc hP1 hD1
  clear hPc hDc hKc hFc hz1 hk1 hP1 hK1 hD1
  rename Heap => H
  have hP : va_P (dC, dI) cls [(ab, .inr (1, [.ref ax, .int ab_length])), (ac, .inr (3, [.ref cfi, .ref clk, .ref clt, .int ac_length, .ref cop, .ref cva, .ref cpt, .ref cel, .int ac_labelCount, .ref cla])), (ax, .inl (cax, 8192, .inl gax)), (ty, .inl (cty, 5000, .inl gty)), (bo, .inl (cbo, 101, .inl gbo)), (bg, .inl (cbg, 101, .inl gbg)), (bh, .inl (cbh, 101, .inl gbh)), (bd, .inl (cbd, 101, .inl gbd)), (wat, .inl (cwat, 20, .inl gwat)), (wap, .inl (cwap, 160, .inl gwap)), (wag, .inl (cwag, 20, .inl gwag)), (wek, .inl (cwek, 40, .inl gwek)), (wei, .inl (cwei, 40, .inl gwei)), (wes, .inl (cwes, 40, .inl gwes)), (wez, .inl (cwez, 40, .inl gwez)), (cfi, .inl (ccfi, 31, .inl gcfi)), (clk, .inl (cclk, 30, .inl gclk)), (clt, .inl (cclt, 1800, .inl gclt)), (cop, .inl (ccop, 5000, .inl gcop)), (cva, .inl (ccva, 5000, .inr (.inl gcva))), (cpt, .inl (ccpt, 5000, .inl gcpt)), (cla, .inl (ccla, 2000, .inl gcla)), (h0, .inr (9, [.ref aw, .ref ac, .int n2, .int h0_function, .ref ty, .int h0_height, .ref bo, .ref bg, .ref bh, .ref bd, .int h0_depth])), (aw, .inr (10, law)), (waf, .inl (cwaf, 30, .inl gwaf)), (wgt, .inl (cwgt, 20, .inl gwgt)), (wft, .inl (cwft, 20, .inl gwft)), (wgc, .inl (cwgc, 20, .inl gwgc))] H := hP
  have hD : va_D A [(ab, .inr (1, [.ref ax, .int ab_length])), (ac, .inr (3, [.ref cfi, .ref clk, .ref clt, .int ac_length, .ref cop, .ref cva, .ref cpt, .ref cel, .int ac_labelCount, .ref cla])), (ax, .inl (cax, 8192, .inl gax)), (ty, .inl (cty, 5000, .inl gty)), (bo, .inl (cbo, 101, .inl gbo)), (bg, .inl (cbg, 101, .inl gbg)), (bh, .inl (cbh, 101, .inl gbh)), (bd, .inl (cbd, 101, .inl gbd)), (wat, .inl (cwat, 20, .inl gwat)), (wap, .inl (cwap, 160, .inl gwap)), (wag, .inl (cwag, 20, .inl gwag)), (wek, .inl (cwek, 40, .inl gwek)), (wei, .inl (cwei, 40, .inl gwei)), (wes, .inl (cwes, 40, .inl gwes)), (wez, .inl (cwez, 40, .inl gwez)), (cfi, .inl (ccfi, 31, .inl gcfi)), (clk, .inl (cclk, 30, .inl gclk)), (clt, .inl (cclt, 1800, .inl gclt)), (cop, .inl (ccop, 5000, .inl gcop)), (cva, .inl (ccva, 5000, .inr (.inl gcva))), (cpt, .inl (ccpt, 5000, .inl gcpt)), (cla, .inl (ccla, 2000, .inl gcla)), (h0, .inr (9, [.ref aw, .ref ac, .int n2, .int h0_function, .ref ty, .int h0_height, .ref bo, .ref bg, .ref bh, .ref bd, .int h0_depth])), (aw, .inr (10, law)), (waf, .inl (cwaf, 30, .inl gwaf)), (wgt, .inl (cwgt, 20, .inl gwgt)), (wft, .inl (cwft, 20, .inl gwft)), (wgc, .inl (cwgc, 20, .inl gwgc))] := hD
  refine lv_aload_n hx hb d_VA_check_22 rfl (lv_at hl 0 rfl) ?_
  have hPc := hP.sb (wq := (wz_93 h0 aw ac n2 h0_function ty h0_height bo bg bh bd h0_depth aw law ab ax ab_length ax cax gax wek cwek gwek wei cwei gwei wes cwes gwes wez cwez gwez)) [22, 23, 0, 2, 11, 12, 13, 14] rfl
  have hDc := hD.sb (wq := (wz_93 h0 aw ac n2 h0_function ty h0_height bo bg bh bd h0_depth aw law ab ax ab_length ax cax gax wek cwek gwek wei cwei gwei wes cwes gwes wez cwez gwez)) [22, 23, 0, 2, 11, 12, 13, 14] (by decide) rfl
  have hKc := hK.sb (tyq := [(cax, .byte), (cwek, .int), (cwei, .int), (cwes, .int), (cwez, .int)]) [0, 13, 14, 15, 16] rfl
  have hFc := va_free (wc := (wz_93 h0 aw ac n2 h0_function ty h0_height bo bg bh bd h0_depth aw law ab ax ab_length ax cax gax wek cwek gwek wei cwei gwei wes cwes gwes wez cwez gwez)) hD hS hA [22, 23, 0, 2, 11, 12, 13, 14] rfl
  refine va_callv (va_runV (As := []) (rest := []) ⟨hx, hb, hml, hown, hts⟩ (c_VA_checkExportsy l dC dI H.size h0 aw ac ty bo bg bh bd ab wek wei wes wez ax cax cwek cwei cwes cwez n2 h0_function h0_height h0_depth law aw_functionCount aw_hasMemory aw_globalCount aw_exportCount ab_length gax gwek gwei gwes gwez T9 paw_0 paw_6 paw_8 paw_11 paw_16 paw_17 paw_18 paw_19 paw_20 plaw (bn2) (b_ab_length) (b_aw_functionCount) (b_aw_hasMemory) (b_aw_globalCount) (b_aw_exportCount) (by (first | (apply Int.le_antisymm <;> omega) | omega)) (a9) ((fun e he => by have q := o7.out e he; have := i32_clamp (x := ab_length) (by (first | (apply Int.le_antisymm <;> omega) | omega)); exact ⟨q.1, by have := q.2; (first | (apply Int.le_antisymm <;> omega) | omega)⟩)) (hbr)) (cwV 0 hts (gV kM_VA_46 kV_VA_checkExports kS_VA_checkExports kI_VA kC_VA_checkExports) rfl rfl rfl (by decide +kernel) ⟨Nat.le_of_ble_eq_true rfl, Nat.le_of_ble_eq_true rfl⟩) ⟨fun a U g mk z => by obtain ⟨z0, z1, zP, zK, zD⟩ := z; exact ⟨z0, z1, zP, va_K.moved (u := U) (U := U.calling g mk a) (Vm.Alike.refl U.vm) zK, zD⟩, va_recv hKc hPc (ci := 9) (q0 := 0) rfl rfl, fun U hU hW => ⟨rfl, by rw [hU], va_P.he hU.symm hPc, va_K.moved hW.alike hKc, hDc.weaken (fun _ _ _ _ => trivial)⟩⟩ rfl rfl hl.1 rfl (lv_room (Nat.le_of_ble_eq_true rfl)) d_VA_check_23 ⟨(Nat.zero_le _), (Nat.zero_le _)⟩) hS (fun q _ h => hFc q h) hFc (fun u t H1 locs ht hvm hw hB hz1 hk1 hS => ?_)
  obtain ⟨n4, rfl⟩ : ∃ z, z = u := ⟨_, rfl⟩
  try dsimp only at hw
  obtain ⟨bn4, xr3⟩ := hw
  try clear hw
  have tn4 := b01 bn4
  have x23 := xr3
  have q23 : n4.toInt = 1 → n2.toInt = 1 := by rcases x23 with y | y; (exact fun _ => y.2.1); (exact fun z => absurd y.1 (by (first | (apply Int.le_antisymm <;> omega) | omega)))
  obtain ⟨hP1, hK1, hD1⟩ := hB
  replace hP1 := va_P.he ht hP1
  obtain ⟨hP, hD⟩ := va_join (wr := [(ac, .inr (3, [.ref cfi, .ref clk, .ref clt, .int ac_length, .ref cop, .ref cva, .ref cpt, .ref cel, .int ac_labelCount, .ref cla])), (ty, .inl (cty, 5000, .inl gty)), (bo, .inl (cbo, 101, .inl gbo)), (bg, .inl (cbg, 101, .inl gbg)), (bh, .inl (cbh, 101, .inl gbh)), (bd, .inl (cbd, 101, .inl gbd)), (wat, .inl (cwat, 20, .inl gwat)), (wap, .inl (cwap, 160, .inl gwap)), (wag, .inl (cwag, 20, .inl gwag)), (cfi, .inl (ccfi, 31, .inl gcfi)), (clk, .inl (cclk, 30, .inl gclk)), (clt, .inl (cclt, 1800, .inl gclt)), (cop, .inl (ccop, 5000, .inl gcop)), (cva, .inl (ccva, 5000, .inr (.inl gcva))), (cpt, .inl (ccpt, 5000, .inl gcpt)), (cla, .inl (ccla, 2000, .inl gcla)), (waf, .inl (cwaf, 30, .inl gwaf)), (wgt, .inl (cwgt, 20, .inl gwgt)), (wft, .inl (cwft, 20, .inl gwft)), (wgc, .inl (cwgc, 20, .inl gwgc))]) (w1 := (wz_93 h0 aw ac n4 h0_function ty h0_height bo bg bh bd h0_depth aw law ab ax ab_length ax cax gax wek cwek gwek wei cwei gwei wes cwes gwes wez cwez gwez)) hP hD [22, 23, 0, 2, 11, 12, 13, 14] [1, 3, 4, 5, 6, 7, 8, 9, 10, 15, 16, 17, 18, 19, 20, 21, 24, 25, 26, 27] rfl rfl (by decide) (by decide) hk1 hFc hP1 hD1
  clear hPc hDc hKc hFc hz1 hk1 hP1 hK1 hD1
  rename Heap => H
  have hP : va_P (dC, dI) cls [(ac, .inr (3, [.ref cfi, .ref clk, .ref clt, .int ac_length, .ref cop, .ref cva, .ref cpt, .ref cel, .int ac_labelCount, .ref cla])), (ty, .inl (cty, 5000, .inl gty)), (bo, .inl (cbo, 101, .inl gbo)), (bg, .inl (cbg, 101, .inl gbg)), (bh, .inl (cbh, 101, .inl gbh)), (bd, .inl (cbd, 101, .inl gbd)), (wat, .inl (cwat, 20, .inl gwat)), (wap, .inl (cwap, 160, .inl gwap)), (wag, .inl (cwag, 20, .inl gwag)), (cfi, .inl (ccfi, 31, .inl gcfi)), (clk, .inl (cclk, 30, .inl gclk)), (clt, .inl (cclt, 1800, .inl gclt)), (cop, .inl (ccop, 5000, .inl gcop)), (cva, .inl (ccva, 5000, .inr (.inl gcva))), (cpt, .inl (ccpt, 5000, .inl gcpt)), (cla, .inl (ccla, 2000, .inl gcla)), (waf, .inl (cwaf, 30, .inl gwaf)), (wgt, .inl (cwgt, 20, .inl gwgt)), (wft, .inl (cwft, 20, .inl gwft)), (wgc, .inl (cwgc, 20, .inl gwgc)), (h0, .inr (9, [.ref aw, .ref ac, .int n4, .int h0_function, .ref ty, .int h0_height, .ref bo, .ref bg, .ref bh, .ref bd, .int h0_depth])), (aw, .inr (10, law)), (ab, .inr (1, [.ref ax, .int ab_length])), (ax, .inl (cax, 8192, .inl gax)), (wek, .inl (cwek, 40, .inl gwek)), (wei, .inl (cwei, 40, .inl gwei)), (wes, .inl (cwes, 40, .inl gwes)), (wez, .inl (cwez, 40, .inl gwez))] H := hP
  have hD : va_D A [(ac, .inr (3, [.ref cfi, .ref clk, .ref clt, .int ac_length, .ref cop, .ref cva, .ref cpt, .ref cel, .int ac_labelCount, .ref cla])), (ty, .inl (cty, 5000, .inl gty)), (bo, .inl (cbo, 101, .inl gbo)), (bg, .inl (cbg, 101, .inl gbg)), (bh, .inl (cbh, 101, .inl gbh)), (bd, .inl (cbd, 101, .inl gbd)), (wat, .inl (cwat, 20, .inl gwat)), (wap, .inl (cwap, 160, .inl gwap)), (wag, .inl (cwag, 20, .inl gwag)), (cfi, .inl (ccfi, 31, .inl gcfi)), (clk, .inl (cclk, 30, .inl gclk)), (clt, .inl (cclt, 1800, .inl gclt)), (cop, .inl (ccop, 5000, .inl gcop)), (cva, .inl (ccva, 5000, .inr (.inl gcva))), (cpt, .inl (ccpt, 5000, .inl gcpt)), (cla, .inl (ccla, 2000, .inl gcla)), (waf, .inl (cwaf, 30, .inl gwaf)), (wgt, .inl (cwgt, 20, .inl gwgt)), (wft, .inl (cwft, 20, .inl gwft)), (wgc, .inl (cwgc, 20, .inl gwgc)), (h0, .inr (9, [.ref aw, .ref ac, .int n4, .int h0_function, .ref ty, .int h0_height, .ref bo, .ref bg, .ref bh, .ref bd, .int h0_depth])), (aw, .inr (10, law)), (ab, .inr (1, [.ref ax, .int ab_length])), (ax, .inl (cax, 8192, .inl gax)), (wek, .inl (cwek, 40, .inl gwek)), (wei, .inl (cwei, 40, .inl gwei)), (wes, .inl (cwes, 40, .inl gwes)), (wez, .inl (cwez, 40, .inl gwez))] := hD
  refine lv_iconst (v := 0) hx hb d_VA_check_26 (by decide) ?_
  refine lv_istore_n (lv' := [(2, .int 0), (0, .ref h0), (1, .ref aw)]) hx hb d_VA_check_27 rfl hl (by decide) rfl (fun ls hl => ?_)
  refine w_loop (σ := Int32 × (Nat → Int32) × (Nat → Int32) × (Nat → Int32) × (Nat → Int32) × (Nat → Int32) × Int32 × Int32 × Int32 × Int32) (fun u H locs ls => match u with | (j28_l2, j28_bd, j28_bg, j28_bh, j28_bo, j28_ty, j28_h0_depth, j28_h0_function, j28_h0_height, j28_h0_sound) => (0 ≤ j28_l2.toInt ∧ j28_l2.toInt ≤ 30) ∧ (∀ j : Nat, 0 ≤ (j28_bh j).toInt ∧ (j28_bh j).toInt ≤ 5000) ∧ (∀ j : Nat, (j28_ty j).toInt ≠ 64) ∧ (0 ≤ j28_h0_depth.toInt ∧ j28_h0_depth.toInt ≤ 101) ∧ (0 ≤ j28_h0_height.toInt ∧ j28_h0_height.toInt ≤ 5000) ∧ (j28_h0_sound = 0 ∨ j28_h0_sound = 1) ∧ (j28_l2.toInt ≤ aw_functionCount.toInt) ∧ (fnK T9 n4 j28_h0_sound j28_l2.toInt) ∧ (j28_h0_sound.toInt = 1 → n4.toInt = 1) ∧ va_P (dC, dI) cls [(ac, .inr (3, [.ref cfi, .ref clk, .ref clt, .int ac_length, .ref cop, .ref cva, .ref cpt, .ref cel, .int ac_labelCount, .ref cla])), (ty, .inl (cty, 5000, .inl j28_ty)), (bo, .inl (cbo, 101, .inl j28_bo)), (bg, .inl (cbg, 101, .inl j28_bg)), (bh, .inl (cbh, 101, .inl j28_bh)), (bd, .inl (cbd, 101, .inl j28_bd)), (wat, .inl (cwat, 20, .inl gwat)), (wap, .inl (cwap, 160, .inl gwap)), (wag, .inl (cwag, 20, .inl gwag)), (cfi, .inl (ccfi, 31, .inl gcfi)), (clk, .inl (cclk, 30, .inl gclk)), (clt, .inl (cclt, 1800, .inl gclt)), (cop, .inl (ccop, 5000, .inl gcop)), (cva, .inl (ccva, 5000, .inr (.inl gcva))), (cpt, .inl (ccpt, 5000, .inl gcpt)), (cla, .inl (ccla, 2000, .inl gcla)), (waf, .inl (cwaf, 30, .inl gwaf)), (wgt, .inl (cwgt, 20, .inl gwgt)), (wft, .inl (cwft, 20, .inl gwft)), (wgc, .inl (cwgc, 20, .inl gwgc)), (h0, .inr (9, [.ref aw, .ref ac, .int j28_h0_sound, .int j28_h0_function, .ref ty, .int j28_h0_height, .ref bo, .ref bg, .ref bh, .ref bd, .int j28_h0_depth])), (aw, .inr (10, law)), (ab, .inr (1, [.ref ax, .int ab_length])), (ax, .inl (cax, 8192, .inl gax)), (wek, .inl (cwek, 40, .inl gwek)), (wei, .inl (cwei, 40, .inl gwei)), (wes, .inl (cwes, 40, .inl gwes)), (wez, .inl (cwez, 40, .inl gwez))] H ∧ va_D A [(ac, .inr (3, [.ref cfi, .ref clk, .ref clt, .int ac_length, .ref cop, .ref cva, .ref cpt, .ref cel, .int ac_labelCount, .ref cla])), (ty, .inl (cty, 5000, .inl j28_ty)), (bo, .inl (cbo, 101, .inl j28_bo)), (bg, .inl (cbg, 101, .inl j28_bg)), (bh, .inl (cbh, 101, .inl j28_bh)), (bd, .inl (cbd, 101, .inl j28_bd)), (wat, .inl (cwat, 20, .inl gwat)), (wap, .inl (cwap, 160, .inl gwap)), (wag, .inl (cwag, 20, .inl gwag)), (cfi, .inl (ccfi, 31, .inl gcfi)), (clk, .inl (cclk, 30, .inl gclk)), (clt, .inl (cclt, 1800, .inl gclt)), (cop, .inl (ccop, 5000, .inl gcop)), (cva, .inl (ccva, 5000, .inr (.inl gcva))), (cpt, .inl (ccpt, 5000, .inl gcpt)), (cla, .inl (ccla, 2000, .inl gcla)), (waf, .inl (cwaf, 30, .inl gwaf)), (wgt, .inl (cwgt, 20, .inl gwgt)), (wft, .inl (cwft, 20, .inl gwft)), (wgc, .inl (cwgc, 20, .inl gwgc)), (h0, .inr (9, [.ref aw, .ref ac, .int j28_h0_sound, .int j28_h0_function, .ref ty, .int j28_h0_height, .ref bo, .ref bg, .ref bh, .ref bd, .int j28_h0_depth])), (aw, .inr (10, law)), (ab, .inr (1, [.ref ax, .int ab_length])), (ax, .inl (cax, 8192, .inl gax)), (wek, .inl (cwek, 40, .inl gwek)), (wei, .inl (cwei, 40, .inl gwei)), (wes, .inl (cwes, 40, .inl gwes)), (wez, .inl (cwez, 40, .inl gwez))] ∧ va_S A s.heap H locs ∧ lv_has ls 3 [(0, .ref h0), (2, .int j28_l2)]) (fun u => match u with | (j28_l2, j28_bd, j28_bg, j28_bh, j28_bo, j28_ty, j28_h0_depth, j28_h0_function, j28_h0_height, j28_h0_sound) => (aw_functionCount.toInt - j28_l2.toInt).toNat) ?_ (0, gbd, gbg, gbh, gbo, gty, h0_depth, h0_function, h0_height, n4) ⟨by (try dsimp only) <;> (first | (apply Int.le_antisymm <;> omega) | omega), b_gbh, b_gty, b_h0_depth, b_h0_height, bn4, by (try dsimp only) <;> (first | (apply Int.le_antisymm <;> omega) | omega), (fnK_0 (by (first | (apply Int.le_antisymm <;> omega) | omega)) (by decide)), (fun z => z), hP, hD, hS, lv_sub hl [1, 0] rfl⟩
  intro N28 ih28 u H locs ls hN28 hI
  obtain ⟨j28_l2, j28_bd, j28_bg, j28_bh, j28_bo, j28_ty, j28_h0_depth, j28_h0_function, j28_h0_height, j28_h0_sound⟩ := u
  obtain ⟨b_j28_l2, b_j28_bh, b_j28_ty, b_j28_h0_depth, b_j28_h0_height, b_j28_h0_sound, v1, v2, v3, hP, hD, hS, hl⟩ := hI
  have tj28_h0_sound := b01 b_j28_h0_sound
  have hN28 : (aw_functionCount.toInt - j28_l2.toInt).toNat < N28 + 1 := hN28
  refine lv_iload_n hx hb d_VA_check_28 rfl (lv_at hl 1 rfl) ?_
  refine lv_aload_n hx hb d_VA_check_29 rfl (lv_at hl 0 rfl) ?_
  refine va_get (D := (dC, dI)) (ci := 9) (v := .ref aw) (C := R_VA) (T := F_VA) (N := 11) hx hb hts i_VA hown hK hP 20 rfl rfl 0 (by decide) (hts _ kF_VA_28) (fun _ h9 => h9) rfl d_VA_check_30 ?_
  refine va_get (D := (dC, dI)) (ci := 10) (v := .int aw_functionCount) (C := R_WA) (T := F_WA) (N := 21) hx hb hts i_WA hown hK hP 21 rfl rfl 6 (by decide) (hts _ kF_VA_49) (fun _ h9 => h9) paw_6 d_VA_check_33 ?_
  refine lv_icmp_ge (tgt := 57) hx hb d_VA_check_36 (by decide) (fun c36 => ?_) (fun c36 => ?_)
  · have q36 := leI c36
    refine lv_aload_n hx hb d_VA_check_57 rfl (lv_at hl 0 rfl) ?_
    refine va_get (D := (dC, dI)) (ci := 9) (v := .int j28_h0_sound) (C := R_VA) (T := F_VA) (N := 11) hx hb hts i_VA hown hK hP 20 rfl rfl 2 (by decide) (hts _ kF_VA_39) (fun _ h9 => h9) rfl d_VA_check_58 ?_
    have hP9 := hP.sb (wq := [(h0, .inr (9, [.ref aw, .ref ac, .int j28_h0_sound, .int j28_h0_function, .ref ty, .int j28_h0_height, .ref bo, .ref bg, .ref bh, .ref bd, .int j28_h0_depth])), (aw, .inr (10, law)), (ab, .inr (1, [.ref ax, .int ab_length])), (ac, .inr (3, [.ref cfi, .ref clk, .ref clt, .int ac_length, .ref cop, .ref cva, .ref cpt, .ref cel, .int ac_labelCount, .ref cla])), (ax, .inl (cax, 8192, .inl gax)), (ty, .inl (cty, 5000, .inl j28_ty)), (bo, .inl (cbo, 101, .inl j28_bo)), (bg, .inl (cbg, 101, .inl j28_bg)), (bh, .inl (cbh, 101, .inl j28_bh)), (bd, .inl (cbd, 101, .inl j28_bd)), (waf, .inl (cwaf, 30, .inl gwaf)), (wat, .inl (cwat, 20, .inl gwat)), (wap, .inl (cwap, 160, .inl gwap)), (wag, .inl (cwag, 20, .inl gwag)), (wgt, .inl (cwgt, 20, .inl gwgt)), (wft, .inl (cwft, 20, .inl gwft)), (wgc, .inl (cwgc, 20, .inl gwgc)), (wek, .inl (cwek, 40, .inl gwek)), (wei, .inl (cwei, 40, .inl gwei)), (wes, .inl (cwes, 40, .inl gwes)), (wez, .inl (cwez, 40, .inl gwez)), (cfi, .inl (ccfi, 31, .inl gcfi)), (clk, .inl (cclk, 30, .inl gclk)), (clt, .inl (cclt, 1800, .inl gclt)), (cop, .inl (ccop, 5000, .inl gcop)), (cva, .inl (ccva, 5000, .inr (.inl gcva))), (cpt, .inl (ccpt, 5000, .inl gcpt)), (cla, .inl (ccla, 2000, .inl gcla))]) [20, 21, 22, 0, 23, 1, 2, 3, 4, 5, 16, 6, 7, 8, 17, 18, 19, 24, 25, 26, 27, 9, 10, 11, 12, 13, 14, 15] rfl
    have hD9 := hD.sb (wq := [(h0, .inr (9, [.ref aw, .ref ac, .int j28_h0_sound, .int j28_h0_function, .ref ty, .int j28_h0_height, .ref bo, .ref bg, .ref bh, .ref bd, .int j28_h0_depth])), (aw, .inr (10, law)), (ab, .inr (1, [.ref ax, .int ab_length])), (ac, .inr (3, [.ref cfi, .ref clk, .ref clt, .int ac_length, .ref cop, .ref cva, .ref cpt, .ref cel, .int ac_labelCount, .ref cla])), (ax, .inl (cax, 8192, .inl gax)), (ty, .inl (cty, 5000, .inl j28_ty)), (bo, .inl (cbo, 101, .inl j28_bo)), (bg, .inl (cbg, 101, .inl j28_bg)), (bh, .inl (cbh, 101, .inl j28_bh)), (bd, .inl (cbd, 101, .inl j28_bd)), (waf, .inl (cwaf, 30, .inl gwaf)), (wat, .inl (cwat, 20, .inl gwat)), (wap, .inl (cwap, 160, .inl gwap)), (wag, .inl (cwag, 20, .inl gwag)), (wgt, .inl (cwgt, 20, .inl gwgt)), (wft, .inl (cwft, 20, .inl gwft)), (wgc, .inl (cwgc, 20, .inl gwgc)), (wek, .inl (cwek, 40, .inl gwek)), (wei, .inl (cwei, 40, .inl gwei)), (wes, .inl (cwes, 40, .inl gwes)), (wez, .inl (cwez, 40, .inl gwez)), (cfi, .inl (ccfi, 31, .inl gcfi)), (clk, .inl (cclk, 30, .inl gclk)), (clt, .inl (cclt, 1800, .inl gclt)), (cop, .inl (ccop, 5000, .inl gcop)), (cva, .inl (ccva, 5000, .inr (.inl gcva))), (cpt, .inl (ccpt, 5000, .inl gcpt)), (cla, .inl (ccla, 2000, .inl gcla))]) [20, 21, 22, 0, 23, 1, 2, 3, 4, 5, 16, 6, 7, 8, 17, 18, 19, 24, 25, 26, 27, 9, 10, 11, 12, 13, 14, 15] (by decide) rfl
    exact W.zret (v := j28_h0_sound) hx hb hr (zn01 (b_j28_h0_sound)) (fun t ht hW => ⟨⟨j28_h0_sound, (j28_bd, j28_bg, j28_bh, j28_bo, j28_ty, j28_h0_depth, j28_h0_function, j28_h0_height, j28_h0_sound), rfl, ⟨b_j28_h0_sound, b_j28_bh, b_j28_ty, b_j28_h0_depth, b_j28_h0_height, b_j28_h0_sound, (chk_e x19 x23 v2 (by (first | (apply Int.le_antisymm <;> omega) | omega)))⟩, va_P.he ht.symm hP9, va_K.moved hW.alike hK, hD9⟩, hS.F ht⟩) hS.2.2 d_VA_check_61
  · have q36 := nleI c36
    refine lv_aload_n hx hb d_VA_check_39 rfl (lv_at hl 0 rfl) ?_
    refine va_get (D := (dC, dI)) (ci := 9) (v := .int j28_h0_sound) (C := R_VA) (T := F_VA) (N := 11) hx hb hts i_VA hown hK hP 20 rfl rfl 2 (by decide) (hts _ kF_VA_39) (fun _ h9 => h9) rfl d_VA_check_40 ?_
    refine lv_if_eq (tgt := 57) hx hb d_VA_check_43 (by decide) (fun c43 => ?_) (fun c43 => ?_)
    · have q43 := eqI c43
      refine lv_aload_n hx hb d_VA_check_57 rfl (lv_at hl 0 rfl) ?_
      refine va_get (D := (dC, dI)) (ci := 9) (v := .int j28_h0_sound) (C := R_VA) (T := F_VA) (N := 11) hx hb hts i_VA hown hK hP 20 rfl rfl 2 (by decide) (hts _ kF_VA_39) (fun _ h9 => h9) rfl d_VA_check_58 ?_
      have hP9 := hP.sb (wq := [(h0, .inr (9, [.ref aw, .ref ac, .int j28_h0_sound, .int j28_h0_function, .ref ty, .int j28_h0_height, .ref bo, .ref bg, .ref bh, .ref bd, .int j28_h0_depth])), (aw, .inr (10, law)), (ab, .inr (1, [.ref ax, .int ab_length])), (ac, .inr (3, [.ref cfi, .ref clk, .ref clt, .int ac_length, .ref cop, .ref cva, .ref cpt, .ref cel, .int ac_labelCount, .ref cla])), (ax, .inl (cax, 8192, .inl gax)), (ty, .inl (cty, 5000, .inl j28_ty)), (bo, .inl (cbo, 101, .inl j28_bo)), (bg, .inl (cbg, 101, .inl j28_bg)), (bh, .inl (cbh, 101, .inl j28_bh)), (bd, .inl (cbd, 101, .inl j28_bd)), (waf, .inl (cwaf, 30, .inl gwaf)), (wat, .inl (cwat, 20, .inl gwat)), (wap, .inl (cwap, 160, .inl gwap)), (wag, .inl (cwag, 20, .inl gwag)), (wgt, .inl (cwgt, 20, .inl gwgt)), (wft, .inl (cwft, 20, .inl gwft)), (wgc, .inl (cwgc, 20, .inl gwgc)), (wek, .inl (cwek, 40, .inl gwek)), (wei, .inl (cwei, 40, .inl gwei)), (wes, .inl (cwes, 40, .inl gwes)), (wez, .inl (cwez, 40, .inl gwez)), (cfi, .inl (ccfi, 31, .inl gcfi)), (clk, .inl (cclk, 30, .inl gclk)), (clt, .inl (cclt, 1800, .inl gclt)), (cop, .inl (ccop, 5000, .inl gcop)), (cva, .inl (ccva, 5000, .inr (.inl gcva))), (cpt, .inl (ccpt, 5000, .inl gcpt)), (cla, .inl (ccla, 2000, .inl gcla))]) [20, 21, 22, 0, 23, 1, 2, 3, 4, 5, 16, 6, 7, 8, 17, 18, 19, 24, 25, 26, 27, 9, 10, 11, 12, 13, 14, 15] rfl
      have hD9 := hD.sb (wq := [(h0, .inr (9, [.ref aw, .ref ac, .int j28_h0_sound, .int j28_h0_function, .ref ty, .int j28_h0_height, .ref bo, .ref bg, .ref bh, .ref bd, .int j28_h0_depth])), (aw, .inr (10, law)), (ab, .inr (1, [.ref ax, .int ab_length])), (ac, .inr (3, [.ref cfi, .ref clk, .ref clt, .int ac_length, .ref cop, .ref cva, .ref cpt, .ref cel, .int ac_labelCount, .ref cla])), (ax, .inl (cax, 8192, .inl gax)), (ty, .inl (cty, 5000, .inl j28_ty)), (bo, .inl (cbo, 101, .inl j28_bo)), (bg, .inl (cbg, 101, .inl j28_bg)), (bh, .inl (cbh, 101, .inl j28_bh)), (bd, .inl (cbd, 101, .inl j28_bd)), (waf, .inl (cwaf, 30, .inl gwaf)), (wat, .inl (cwat, 20, .inl gwat)), (wap, .inl (cwap, 160, .inl gwap)), (wag, .inl (cwag, 20, .inl gwag)), (wgt, .inl (cwgt, 20, .inl gwgt)), (wft, .inl (cwft, 20, .inl gwft)), (wgc, .inl (cwgc, 20, .inl gwgc)), (wek, .inl (cwek, 40, .inl gwek)), (wei, .inl (cwei, 40, .inl gwei)), (wes, .inl (cwes, 40, .inl gwes)), (wez, .inl (cwez, 40, .inl gwez)), (cfi, .inl (ccfi, 31, .inl gcfi)), (clk, .inl (cclk, 30, .inl gclk)), (clt, .inl (cclt, 1800, .inl gclt)), (cop, .inl (ccop, 5000, .inl gcop)), (cva, .inl (ccva, 5000, .inr (.inl gcva))), (cpt, .inl (ccpt, 5000, .inl gcpt)), (cla, .inl (ccla, 2000, .inl gcla))]) [20, 21, 22, 0, 23, 1, 2, 3, 4, 5, 16, 6, 7, 8, 17, 18, 19, 24, 25, 26, 27, 9, 10, 11, 12, 13, 14, 15] (by decide) rfl
      exact W.zret (v := j28_h0_sound) hx hb hr (zn01 (b_j28_h0_sound)) (fun t ht hW => ⟨⟨j28_h0_sound, (j28_bd, j28_bg, j28_bh, j28_bo, j28_ty, j28_h0_depth, j28_h0_function, j28_h0_height, j28_h0_sound), rfl, ⟨b_j28_h0_sound, b_j28_bh, b_j28_ty, b_j28_h0_depth, b_j28_h0_height, b_j28_h0_sound, (chk_e x19 x23 v2 (by (first | (apply Int.le_antisymm <;> omega) | omega)))⟩, va_P.he ht.symm hP9, va_K.moved hW.alike hK, hD9⟩, hS.F ht⟩) hS.2.2 d_VA_check_61
    · have q43 := neI c43
      refine lv_aload_n hx hb d_VA_check_46 rfl (lv_at hl 0 rfl) ?_
      refine lv_iload_n hx hb d_VA_check_47 rfl (lv_at hl 1 rfl) ?_
      have hPc := hP.sb (wq := [(h0, .inr (9, [.ref aw, .ref ac, .int j28_h0_sound, .int j28_h0_function, .ref ty, .int j28_h0_height, .ref bo, .ref bg, .ref bh, .ref bd, .int j28_h0_depth])), (aw, .inr (10, law)), (ac, .inr (3, [.ref cfi, .ref clk, .ref clt, .int ac_length, .ref cop, .ref cva, .ref cpt, .ref cel, .int ac_labelCount, .ref cla])), (ty, .inl (cty, 5000, .inl j28_ty)), (bo, .inl (cbo, 101, .inl j28_bo)), (bg, .inl (cbg, 101, .inl j28_bg)), (bh, .inl (cbh, 101, .inl j28_bh)), (bd, .inl (cbd, 101, .inl j28_bd)), (waf, .inl (cwaf, 30, .inl gwaf)), (wat, .inl (cwat, 20, .inl gwat)), (wap, .inl (cwap, 160, .inl gwap)), (wag, .inl (cwag, 20, .inl gwag)), (wgt, .inl (cwgt, 20, .inl gwgt)), (wgc, .inl (cwgc, 20, .inl gwgc)), (cfi, .inl (ccfi, 31, .inl gcfi)), (clk, .inl (cclk, 30, .inl gclk)), (clt, .inl (cclt, 1800, .inl gclt)), (cop, .inl (ccop, 5000, .inl gcop)), (cva, .inl (ccva, 5000, .inr (.inl gcva))), (cpt, .inl (ccpt, 5000, .inl gcpt)), (cla, .inl (ccla, 2000, .inl gcla))]) [20, 21, 0, 1, 2, 3, 4, 5, 16, 6, 7, 8, 17, 19, 9, 10, 11, 12, 13, 14, 15] rfl
      have hDc := hD.sb (wq := [(h0, .inr (9, [.ref aw, .ref ac, .int j28_h0_sound, .int j28_h0_function, .ref ty, .int j28_h0_height, .ref bo, .ref bg, .ref bh, .ref bd, .int j28_h0_depth])), (aw, .inr (10, law)), (ac, .inr (3, [.ref cfi, .ref clk, .ref clt, .int ac_length, .ref cop, .ref cva, .ref cpt, .ref cel, .int ac_labelCount, .ref cla])), (ty, .inl (cty, 5000, .inl j28_ty)), (bo, .inl (cbo, 101, .inl j28_bo)), (bg, .inl (cbg, 101, .inl j28_bg)), (bh, .inl (cbh, 101, .inl j28_bh)), (bd, .inl (cbd, 101, .inl j28_bd)), (waf, .inl (cwaf, 30, .inl gwaf)), (wat, .inl (cwat, 20, .inl gwat)), (wap, .inl (cwap, 160, .inl gwap)), (wag, .inl (cwag, 20, .inl gwag)), (wgt, .inl (cwgt, 20, .inl gwgt)), (wgc, .inl (cwgc, 20, .inl gwgc)), (cfi, .inl (ccfi, 31, .inl gcfi)), (clk, .inl (cclk, 30, .inl gclk)), (clt, .inl (cclt, 1800, .inl gclt)), (cop, .inl (ccop, 5000, .inl gcop)), (cva, .inl (ccva, 5000, .inr (.inl gcva))), (cpt, .inl (ccpt, 5000, .inl gcpt)), (cla, .inl (ccla, 2000, .inl gcla))]) [20, 21, 0, 1, 2, 3, 4, 5, 16, 6, 7, 8, 17, 19, 9, 10, 11, 12, 13, 14, 15] (by decide) rfl
      have hKc := hK.sb (tyq := [(cty, .int), (cbo, .int), (cbg, .int), (cbh, .int), (cbd, .boolean), (cwaf, .int), (cwat, .int), (cwap, .int), (cwag, .int), (cwgt, .int), (cwgc, .boolean), (ccfi, .int), (cclk, .int), (cclt, .int), (ccop, .int), (ccva, .long), (ccpt, .int), (ccla, .int)]) [1, 2, 3, 4, 5, 6, 7, 8, 9, 10, 12, 17, 18, 19, 20, 21, 22, 23] rfl
      have hFc := va_free (wc := [(h0, .inr (9, [.ref aw, .ref ac, .int j28_h0_sound, .int j28_h0_function, .ref ty, .int j28_h0_height, .ref bo, .ref bg, .ref bh, .ref bd, .int j28_h0_depth])), (aw, .inr (10, law)), (ac, .inr (3, [.ref cfi, .ref clk, .ref clt, .int ac_length, .ref cop, .ref cva, .ref cpt, .ref cel, .int ac_labelCount, .ref cla])), (ty, .inl (cty, 5000, .inl j28_ty)), (bo, .inl (cbo, 101, .inl j28_bo)), (bg, .inl (cbg, 101, .inl j28_bg)), (bh, .inl (cbh, 101, .inl j28_bh)), (bd, .inl (cbd, 101, .inl j28_bd)), (waf, .inl (cwaf, 30, .inl gwaf)), (wat, .inl (cwat, 20, .inl gwat)), (wap, .inl (cwap, 160, .inl gwap)), (wag, .inl (cwag, 20, .inl gwag)), (wgt, .inl (cwgt, 20, .inl gwgt)), (wgc, .inl (cwgc, 20, .inl gwgc)), (cfi, .inl (ccfi, 31, .inl gcfi)), (clk, .inl (cclk, 30, .inl gclk)), (clt, .inl (cclt, 1800, .inl gclt)), (cop, .inl (ccop, 5000, .inl gcop)), (cva, .inl (ccva, 5000, .inr (.inl gcva))), (cpt, .inl (ccpt, 5000, .inl gcpt)), (cla, .inl (ccla, 2000, .inl gcla))]) hD hS hA [20, 21, 0, 1, 2, 3, 4, 5, 16, 6, 7, 8, 17, 19, 9, 10, 11, 12, 13, 14, 15] rfl
      refine va_callv (va_runV (As := [.int j28_l2]) (rest := []) ⟨hx, hb, hml, hown, hts⟩ (c_VA_checkFunctiony l dC dI H.size h0 aw ac ty bo bg bh bd wat wap wag waf wgt wgc cfi clk clt cop cva cpt cel cla cty cbo cbg cbh cbd cwaf cwat cwap cwag cwgt cwgc ccfi cclk cclt ccop ccva ccpt ccla j28_h0_sound j28_h0_function j28_h0_height j28_h0_depth law aw_functionCount aw_hasMemory aw_globalCount ac_length ac_labelCount j28_ty j28_bo j28_bg j28_bh j28_bd gwaf gwat gwap gwag gwgt gwgc gcfi gclk gclt gcop gcva gcpt gcla T9 paw_1 paw_3 paw_4 paw_5 paw_6 paw_7 paw_8 paw_11 paw_12 paw_15 plaw (b_j28_h0_sound) (b_j28_h0_height) (b_j28_h0_depth) (b_ac_length) (b_ac_labelCount) (b_j28_ty) (b_j28_bh) (b_aw_functionCount) (b_aw_hasMemory) (b_aw_globalCount) j28_l2 (by (try dsimp only) <;> (first | (apply Int.le_antisymm <;> omega) | omega)) (by (first | (apply Int.le_antisymm <;> omega) | omega)) ((cf9 (q23 (v3 (by (first | (apply Int.le_antisymm <;> omega) | omega)))))) (hck9) (⟨a6, hgb9⟩) (o5) (hme1) (⟨a12, a11, by (first | (apply Int.le_antisymm <;> omega) | omega), hTl⟩) ((fun c hc => (o9.out c hc).2))) (cwV 1 hts (gV kM_VA_53 kV_VA_checkFunction kS_VA_checkFunction kI_VA kC_VA_checkFunction) rfl rfl rfl (by decide +kernel) ⟨Nat.le_of_ble_eq_true rfl, Nat.le_of_ble_eq_true rfl⟩) ⟨fun a U g mk z => by obtain ⟨z0, z1, zP, zK, zD⟩ := z; exact ⟨z0, z1, zP, va_K.moved (u := U) (U := U.calling g mk a) (Vm.Alike.refl U.vm) zK, zD⟩, va_recv hKc hPc (ci := 9) (q0 := 0) rfl rfl, fun U hU hW => ⟨rfl, by rw [hU], va_P.he hU.symm hPc, va_K.moved hW.alike hKc, hDc.weaken (fun _ _ _ _ => trivial)⟩⟩ rfl rfl hl.1 rfl (lv_room (Nat.le_of_ble_eq_true rfl)) d_VA_check_48 ⟨(Nat.zero_le _), (Nat.zero_le _)⟩) hS (fun q _ h => hFc q h) hFc (fun u t H1 locs ht hvm hw hB hz1 hk1 hS => ?_)
      obtain ⟨n6, n7, n8, n9, n10, n11, n12, n13, n14⟩ := u
      try dsimp only at hw
      obtain ⟨bn8, bn10, bn11, bn13, bn14, xr5⟩ := hw
      try clear hw
      have tn14 := b01 bn14
      obtain ⟨hP1, hK1, hD1⟩ := hB
      replace hP1 := va_P.he ht hP1
      obtain ⟨hP, hD⟩ := va_join (wr := [(wft, .inl (cwft, 20, .inl gwft)), (ab, .inr (1, [.ref ax, .int ab_length])), (ax, .inl (cax, 8192, .inl gax)), (wek, .inl (cwek, 40, .inl gwek)), (wei, .inl (cwei, 40, .inl gwei)), (wes, .inl (cwes, 40, .inl gwes)), (wez, .inl (cwez, 40, .inl gwez))]) (w1 := [(h0, .inr (9, [.ref aw, .ref ac, .int n14, .int n12, .ref ty, .int n13, .ref bo, .ref bg, .ref bh, .ref bd, .int n11])), (aw, .inr (10, law)), (ac, .inr (3, [.ref cfi, .ref clk, .ref clt, .int ac_length, .ref cop, .ref cva, .ref cpt, .ref cel, .int ac_labelCount, .ref cla])), (ty, .inl (cty, 5000, .inl n10)), (bo, .inl (cbo, 101, .inl n9)), (bg, .inl (cbg, 101, .inl n7)), (bh, .inl (cbh, 101, .inl n8)), (bd, .inl (cbd, 101, .inl n6)), (waf, .inl (cwaf, 30, .inl gwaf)), (wat, .inl (cwat, 20, .inl gwat)), (wap, .inl (cwap, 160, .inl gwap)), (wag, .inl (cwag, 20, .inl gwag)), (wgt, .inl (cwgt, 20, .inl gwgt)), (wgc, .inl (cwgc, 20, .inl gwgc)), (cfi, .inl (ccfi, 31, .inl gcfi)), (clk, .inl (cclk, 30, .inl gclk)), (clt, .inl (cclt, 1800, .inl gclt)), (cop, .inl (ccop, 5000, .inl gcop)), (cva, .inl (ccva, 5000, .inr (.inl gcva))), (cpt, .inl (ccpt, 5000, .inl gcpt)), (cla, .inl (ccla, 2000, .inl gcla))]) hP hD [20, 21, 0, 1, 2, 3, 4, 5, 16, 6, 7, 8, 17, 19, 9, 10, 11, 12, 13, 14, 15] [18, 22, 23, 24, 25, 26, 27] rfl rfl (by decide) (by decide) hk1 hFc hP1 hD1
      clear hPc hDc hKc hFc hz1 hk1 hP1 hK1 hD1
      rename Heap => H
      have hP : va_P (dC, dI) cls [(wft, .inl (cwft, 20, .inl gwft)), (ab, .inr (1, [.ref ax, .int ab_length])), (ax, .inl (cax, 8192, .inl gax)), (wek, .inl (cwek, 40, .inl gwek)), (wei, .inl (cwei, 40, .inl gwei)), (wes, .inl (cwes, 40, .inl gwes)), (wez, .inl (cwez, 40, .inl gwez)), (h0, .inr (9, [.ref aw, .ref ac, .int n14, .int n12, .ref ty, .int n13, .ref bo, .ref bg, .ref bh, .ref bd, .int n11])), (aw, .inr (10, law)), (ac, .inr (3, [.ref cfi, .ref clk, .ref clt, .int ac_length, .ref cop, .ref cva, .ref cpt, .ref cel, .int ac_labelCount, .ref cla])), (ty, .inl (cty, 5000, .inl n10)), (bo, .inl (cbo, 101, .inl n9)), (bg, .inl (cbg, 101, .inl n7)), (bh, .inl (cbh, 101, .inl n8)), (bd, .inl (cbd, 101, .inl n6)), (waf, .inl (cwaf, 30, .inl gwaf)), (wat, .inl (cwat, 20, .inl gwat)), (wap, .inl (cwap, 160, .inl gwap)), (wag, .inl (cwag, 20, .inl gwag)), (wgt, .inl (cwgt, 20, .inl gwgt)), (wgc, .inl (cwgc, 20, .inl gwgc)), (cfi, .inl (ccfi, 31, .inl gcfi)), (clk, .inl (cclk, 30, .inl gclk)), (clt, .inl (cclt, 1800, .inl gclt)), (cop, .inl (ccop, 5000, .inl gcop)), (cva, .inl (ccva, 5000, .inr (.inl gcva))), (cpt, .inl (ccpt, 5000, .inl gcpt)), (cla, .inl (ccla, 2000, .inl gcla))] H := hP
      have hD : va_D A [(wft, .inl (cwft, 20, .inl gwft)), (ab, .inr (1, [.ref ax, .int ab_length])), (ax, .inl (cax, 8192, .inl gax)), (wek, .inl (cwek, 40, .inl gwek)), (wei, .inl (cwei, 40, .inl gwei)), (wes, .inl (cwes, 40, .inl gwes)), (wez, .inl (cwez, 40, .inl gwez)), (h0, .inr (9, [.ref aw, .ref ac, .int n14, .int n12, .ref ty, .int n13, .ref bo, .ref bg, .ref bh, .ref bd, .int n11])), (aw, .inr (10, law)), (ac, .inr (3, [.ref cfi, .ref clk, .ref clt, .int ac_length, .ref cop, .ref cva, .ref cpt, .ref cel, .int ac_labelCount, .ref cla])), (ty, .inl (cty, 5000, .inl n10)), (bo, .inl (cbo, 101, .inl n9)), (bg, .inl (cbg, 101, .inl n7)), (bh, .inl (cbh, 101, .inl n8)), (bd, .inl (cbd, 101, .inl n6)), (waf, .inl (cwaf, 30, .inl gwaf)), (wat, .inl (cwat, 20, .inl gwat)), (wap, .inl (cwap, 160, .inl gwap)), (wag, .inl (cwag, 20, .inl gwag)), (wgt, .inl (cwgt, 20, .inl gwgt)), (wgc, .inl (cwgc, 20, .inl gwgc)), (cfi, .inl (ccfi, 31, .inl gcfi)), (clk, .inl (cclk, 30, .inl gclk)), (clt, .inl (cclt, 1800, .inl gclt)), (cop, .inl (ccop, 5000, .inl gcop)), (cva, .inl (ccva, 5000, .inr (.inl gcva))), (cpt, .inl (ccpt, 5000, .inl gcpt)), (cla, .inl (ccla, 2000, .inl gcla))] := hD
      obtain ⟨x15, ex15⟩ : ∃ z : Int32, z = j28_l2 + 1 := ⟨_, rfl⟩
      have tx15 : x15.toInt = j28_l2.toInt + 1 := by have z := i32_add ex15 (by (first | (apply Int.le_antisymm <;> omega) | omega)) (by (first | (apply Int.le_antisymm <;> omega) | omega)); first | exact z | (first | (apply Int.le_antisymm <;> omega) | omega)
      refine lv_iinc (v := x15) (lv' := [(2, .int x15), (0, .ref h0)]) hx hb d_VA_check_51 hl (k := 1) rfl (by rw [ex15]; rfl) (by decide) rfl (fun ls hl => ?_)
      refine lv_goto (tgt := 28) hx hb d_VA_check_54 (by decide) ?_
      exact ih28 (x15, n6, n7, n8, n9, n10, n11, n12, n13, n14) _ _ _ (by show (aw_functionCount.toInt - x15.toInt).toNat < N28; (first | (apply Int.le_antisymm <;> omega) | omega)) ⟨by (try dsimp only) <;> (first | (apply Int.le_antisymm <;> omega) | omega), bn8, bn10, bn11, bn13, bn14, by (try dsimp only) <;> (first | (apply Int.le_antisymm <;> omega) | omega), (by rw [show x15.toInt = j28_l2.toInt + 1 from by (first | (apply Int.le_antisymm <;> omega) | omega)]; exact fnK_s v2 (by (first | (apply Int.le_antisymm <;> omega) | omega)) (by (first | (apply Int.le_antisymm <;> omega) | omega)) xr5), (fun z => v3 (by rcases xr5 with y | y; (exact y.2.1); ((first | (apply Int.le_antisymm <;> omega) | omega)))), hP.sub [9, 10, 11, 12, 13, 14, 16, 17, 18, 21, 22, 23, 24, 25, 26, 27, 15, 19, 0, 20, 7, 8, 1, 2, 3, 4, 5, 6] rfl, hD.sub [9, 10, 11, 12, 13, 14, 16, 17, 18, 21, 22, 23, 24, 25, 26, 27, 15, 19, 0, 20, 7, 8, 1, 2, 3, 4, 5, 6] (by decide) rfl, hS, lv_sub hl [1, 0] rfl⟩
end q_n44q31
section q_n44q32
/-! p5: bytes that are alike are read alike (pure) -/
def alk (f g : Nat → Int32) (L : Nat) : Prop := ∀ a, a < L → bn (f a) = bn (g a)
section CG
variable {f g : Nat → Int32} {L N : Nat}
theorem alk_le (h : alk f g N) (hl : L ≤ N) : alk f g L := fun a ha => h a (by (first | (apply Int.le_antisymm <;> omega) | omega))
theorem zU_cg (h : alk f g L) : ∀ n q v a : Nat, zU f L n q v a = zU g L n q v a := by
  intro n
  induction n with
  | zero => intro q v a; rfl
  | succ n ih =>
    intro q v a
    rw [zU, zU]
    by_cases w : a < L
    · rw [if_pos w, if_pos w, h a w, ih]
    · rw [if_neg w, if_neg w]
theorem zM_cg (h : alk f g L) (M : Nat) : zM f L M = zM g L M := by
  funext a
  unfold zM
  rw [zU_cg h]
theorem zSn_cg (h : alk f g L) (ok : Nat → Bool) : ∀ n a : Nat, zSn f L ok n a = zSn g L ok n a := by
  intro n
  induction n with
  | zero => intro a; rfl
  | succ n ih =>
    intro a
    rw [zSn, zSn]
    by_cases w : a < L
    · rw [if_pos w, if_pos w, h a w, ih]
    · rw [if_neg w, if_neg w]
theorem zTy_cg (h : alk f g L) : zTy f L = zTy g L := by
  funext a
  unfold zTy
  by_cases w : a < L
  · rw [h a w]
  · rw [if_neg (fun z => w z.1), if_neg (fun z => w z.1)]
theorem zFl_cg (h : alk f g L) : zFl f L = zFl g L := by
  funext a
  unfold zFl
  by_cases w : a < L
  · rw [h a w]
  · rw [if_neg (fun z => w z.1), if_neg (fun z => w z.1)]
theorem zE_cg (h : alk f g L) (v : Nat) : zE f L v = zE g L v := by
  funext a
  unfold zE
  by_cases w : a < L
  · rw [h a w]
  · rw [if_neg (fun z => w z.1), if_neg (fun z => w z.1)]
theorem zTb_cg (h : alk f g L) : zTb f L = zTb g L := by
  funext a
  unfold zTb
  rw [zM_cg h 50, zM_cg h 2147483647]
theorem zAc_cg (h : alk f g L) : zAc f L = zAc g L := by
  funext a
  unfold zAc
  rw [zM_cg h 2147483647, zM_cg h 4294967295]
theorem zQ_cg (h : alk f g L) (b : Nat) : zQ f L b = zQ g L b := by
  funext a
  unfold zQ
  rw [zM_cg h 2147483647, zTb_cg h, zAc_cg h, zE_cg h 0, zSn_cg h, zSn_cg h]
theorem zK1_cg (h : alk f g L) (st : List Nat) (a : Nat) : zK1 f L st a = zK1 g L st a := by
  unfold zK1
  by_cases w : a < L
  · rw [if_pos w, if_pos w, h a w, zQ_cg h]
    by_cases w2 : a + 1 < L
    · rw [h (a + 1) w2]
    · rw [if_neg (show ¬ (a + 1 < L ∧ (bn (f (a + 1)) = 64 ∨ bn (f (a + 1)) = 127 ∨ bn (f (a + 1)) = 126) ∧ st.length < 100) from fun z => w2 z.1), if_neg (show ¬ (a + 1 < L ∧ (bn (g (a + 1)) = 64 ∨ bn (g (a + 1)) = 127 ∨ bn (g (a + 1)) = 126) ∧ st.length < 100) from fun z => w2 z.1)]
  · rw [if_neg w, if_neg w]
theorem zK_cg (h : alk f g L) : ∀ (n : Nat) (st : List Nat) (l : List zIn) (a : Nat), zK f L n st l a = zK g L n st l a := by
  intro n
  induction n with
  | zero => intro st l a; rfl
  | succ n ih =>
    intro st l a
    rw [zK, zK, zK1_cg h]
    cases zK1 g L st a with
    | none => rfl
    | some x =>
      obtain ⟨i, so, b⟩ := x
      cases so with
      | none => rfl
      | some s2 => exact ih _ _ _
theorem zR_cg (h : alk f g L) : ∀ (k : Nat) (l : List Nat) (a : Nat), zR f L k l a = zR g L k l a := by
  intro k
  induction k with
  | zero => intro l a; rfl
  | succ k ih =>
    intro l a
    rw [zR, zR, zM_cg h]
    cases zM g L (60 - l.length) a with
    | none => rfl
    | some x =>
      obtain ⟨n, b⟩ := x
      dsimp only
      rw [zTy_cg h]
      cases zTy g L b with
      | none => rfl
      | some y =>
        obtain ⟨t, c⟩ := y
        exact ih _ _
theorem zBody_cg (h : alk f g L) (a : Nat) : zBody f L a = zBody g L a := by
  unfold zBody zLo
  rw [zM_cg h 60]
  cases zM g L 60 a with
  | none => rfl
  | some x =>
    obtain ⟨k, c⟩ := x
    dsimp only
    rw [zR_cg h]
    cases zR g L k [] c with
    | none => rfl
    | some y =>
      obtain ⟨ls, d⟩ := y
      dsimp only
      rw [zK_cg h]
theorem zCode_cg (h : alk f g L) : zCode f L = zCode g L := by
  funext a
  unfold zCode
  rw [zM_cg h 4294967295]
  cases e : zM g L 4294967295 a with
  | none => rfl
  | some x =>
    obtain ⟨n, b⟩ := x
    have hb := (zM_le e).2.2
    dsimp only
    by_cases w : n ≤ L - b
    · rw [if_pos w, if_pos w, zBody_cg (alk_le h (by (first | (apply Int.le_antisymm <;> omega) | omega)))]
    · rw [if_neg w, if_neg w]
theorem zType_cg (h : alk f g L) : zType f L = zType g L := by
  funext a
  unfold zType
  rw [zE_cg h 96, zM_cg h 8]
  cases zE g L 96 a with
  | none => rfl
  | some b =>
    dsimp only
    cases zM g L 8 b with
    | none => rfl
    | some x =>
      obtain ⟨n, c⟩ := x
      dsimp only
      unfold zTyC zTyE
      rw [zTy_cg h, zM_cg h 1]
theorem zGlob_cg (h : alk f g L) : zGlob f L = zGlob g L := by
  funext a
  unfold zGlob
  rw [zTy_cg h, zFl_cg h, zE_cg h 11]
  cases zTy g L a with
  | none => rfl
  | some x =>
    obtain ⟨t, b⟩ := x
    dsimp only
    cases zFl g L b with
    | none => rfl
    | some y =>
      obtain ⟨m, c⟩ := y
      dsimp only
      by_cases w : c < L
      · rw [h c w, zSn_cg h]
      · rw [if_neg (fun z => w z.1), if_neg (fun z => w z.1)]
theorem zExp_cg (h : alk f g L) : zExp f L = zExp g L := by
  funext a
  unfold zExp
  rw [zM_cg h 30, zM_cg h 2147483647]
  cases zM g L 30 a with
  | none => rfl
  | some x =>
    obtain ⟨n, b⟩ := x
    dsimp only
    by_cases w : b + n < L
    · rw [h (b + n) w]
    · rw [if_neg (fun z => w z.1), if_neg (fun z => w z.1)]
theorem zMem_cg (h : alk f g L) : zMem f L = zMem g L := by
  funext a
  unfold zMem
  rw [zM_cg h 1, zFl_cg h, zM_cg h 4294967295]
theorem zV_cg {α : Type} (h : alk f g L) (M : Nat) (r : Nat → Option (α × Nat)) : zV f L M r = zV g L M r := by
  funext a
  unfold zV
  rw [zM_cg h M]
theorem zSec_cg (h : alk f g L) (id : Nat) (T : zTab) (a : Nat) : zSec f L id T a = zSec g L id T a := by
  unfold zSec
  rw [zType_cg h, zV_cg h, zM_cg h 2147483647, zV_cg h, zMem_cg h, zGlob_cg h, zV_cg h, zExp_cg h, zV_cg h, zCode_cg h, zV_cg h]
theorem zMod_cg (h : alk f g N) : ∀ (n z : Nat) (T : zTab) (a : Nat), zMod f N n z T a = zMod g N n z T a := by
  intro n
  induction n with
  | zero => intro z T a; rfl
  | succ n ih =>
    intro z T a
    rw [zMod, zMod]
    by_cases w : a < N
    · rw [if_pos w, if_pos w, zM_cg h, h a w]
      cases e : zM g N 4294967295 (a + 1) with
      | none => rfl
      | some x =>
        obtain ⟨k, b⟩ := x
        have hb := (zM_le e).2.2
        dsimp only
        by_cases w2 : k ≤ N - b
        · have h2 : alk f g (b + k) := alk_le h (by (first | (apply Int.le_antisymm <;> omega) | omega))
          rw [if_pos w2, if_pos w2, zM_cg h2, zSec_cg h2]
          by_cases w3 : bn (g a) = 0
          · rw [if_pos w3, if_pos w3]
            cases zM g (b + k) 4294967295 b with
            | none => rfl
            | some y =>
              obtain ⟨j, c⟩ := y
              dsimp only
              rw [ih]
          · rw [if_neg w3, if_neg w3]
            by_cases w4 : z < bn (g a)
            · rw [if_pos w4, if_pos w4]
              cases zSec g (b + k) (bn (g a)) T b with
              | none => rfl
              | some y =>
                obtain ⟨T2, c⟩ := y
                dsimp only
                rw [ih]
            · rw [if_neg w4, if_neg w4]
        · rw [if_neg w2, if_neg w2]
    · rw [if_neg w, if_neg w]
theorem zHd_cg (h : alk f g N) : ∀ (l : List Nat) (a : Nat), zHd f N l a = zHd g N l a := by
  intro l
  induction l with
  | nil => intro a; rfl
  | cons x l ih =>
    intro a
    rw [zHd, zHd, zE_cg h]
    cases zE g N x a with
    | none => rfl
    | some b => exact ih b
theorem zRead_cg (h : alk f g N) : zRead f N = zRead g N := by
  unfold zRead
  rw [zHd_cg h]
  cases zHd g N zH 0 with
  | none => rfl
  | some a => exact zMod_cg h _ _ _ _
theorem vsame_cg (h : alk f g N) : ∀ n a b : Nat, a + n ≤ N → b + n ≤ N → vsame f a b n = vsame g a b n := by
  intro n
  induction n with
  | zero => intro a b _ _; rfl
  | succ n ih =>
    intro a b ha hb
    rw [vs_s, vs_s, h a (by (first | (apply Int.le_antisymm <;> omega) | omega)), h b (by (first | (apply Int.le_antisymm <;> omega) | omega)), ih _ _ (by (first | (apply Int.le_antisymm <;> omega) | omega)) (by (first | (apply Int.le_antisymm <;> omega) | omega))]
theorem vexps_cg {T : zTab} (h : alk f g N) : ∀ (l o : List (Nat × Nat × Nat × Nat)), (∀ e ∈ l, e.1 + e.2.1 ≤ N) → (∀ e ∈ o, e.1 + e.2.1 ≤ N) → vexps f T l o = vexps g T l o := by
  intro l
  induction l with
  | nil => intro o _ _; rfl
  | cons e l ih =>
    intro o hl ho
    have e1 : vexp f T e o = vexp g T e o := by
      unfold vexp
      congr 1
      rw [Bool.eq_iff_iff, List.all_eq_true, List.all_eq_true]
      have he := hl e List.mem_cons_self
      constructor
      · intro z x hx
        have hz := z x hx
        have hxo := ho x hx
        by_cases q : x.2.1 = e.2.1
        · rw [← vsame_cg h _ _ _ he (by (first | (apply Int.le_antisymm <;> omega) | omega))]
          exact hz
        · rw [decide_eq_false q, Bool.false_and]
          rfl
      · intro z x hx
        have hz := z x hx
        have hxo := ho x hx
        by_cases q : x.2.1 = e.2.1
        · rw [vsame_cg h _ _ _ he (by (first | (apply Int.le_antisymm <;> omega) | omega))]
          exact hz
        · rw [decide_eq_false q, Bool.false_and]
          rfl
    show (vexp f T e o && vexps f T l (o ++ [e])) = (vexp g T e o && vexps g T l (o ++ [e]))
    rw [e1, ih (o ++ [e]) (fun x hx => hl x (List.mem_cons_of_mem _ hx)) (fun x hx => by
      rcases List.mem_append.mp hx with z | z
      · exact ho x z
      · rw [List.mem_singleton.mp z]
        exact hl e List.mem_cons_self)]
theorem zOK_cg (h : alk f g N) : zOK f N = zOK g N := by
  unfold zOK
  rw [zRead_cg h]
  cases e : zRead g N with
  | none => rfl
  | some T =>
    have hT := (zRead_k e).1
    have h1 : vmod f T = vmod g T := by
      unfold vmod
      rw [vexps_cg h _ _ (fun x hx => (hT.2.2.2.1.2 x hx).2) (fun x hx => by cases hx)]
    dsimp only
    rw [h1]
end CG
end q_n44q32
section q_n44q33
/-! p5: the class: a row of bytes is copied -/
theorem i8_r (x : Int8) : -128 ≤ x.toInt32.toInt ∧ x.toInt32.toInt ≤ 127 := by
  have h1 := Int8.le_toInt x
  have h2 := Int8.toInt_lt x
  rw [Int8.toInt_toInt32]
  (first | (apply Int.le_antisymm <;> omega) | omega)
theorem nar_b {p x v : Int32} (ex : x = p.toInt8.toInt32) (ev : v = vp_nar .byte x) : bn v = bn p ∧ -128 ≤ v.toInt ∧ v.toInt ≤ 127 := by
  have e : v = x.toInt8.toInt32 := ev
  rw [e, bn_byte, ex, bn_byte]
  exact ⟨rfl, i8_r _⟩
abbrev at_BR_puty (dC : Nat → ClassId) (dI : Nat → Nat → Nat) (h0 ax : Nat) (cax : ClassId)  (A : Nat → Prop) (u : (Nat → Int32) × Int32) (t : State) : Prop := match u with | (gax, h0_length) => va_P (dC, dI) cls (wz_94 h0 ax h0_length ax cax gax) t.heap ∧ va_K (dC, dI) cls [(cax, .byte)] t ∧ va_D A (wz_94 h0 ax h0_length ax cax gax)
set_option maxHeartbeats 4000000 in
set_option maxRecDepth 100000 in
theorem c_BR_puty (l : Launch) (dC : Nat → ClassId) (dI : Nat → Nat → Nat) (sz : Nat) (h0 ax : Nat) (cax : ClassId) (h0_length : Int32) (gax : Nat → Int32)  (b_h0_length : 0 ≤ h0_length.toInt ∧ h0_length.toInt ≤ 8192) (p0 : Int32)  (hl : 0 ≤ h0_length.toInt ∧ h0_length.toInt < 8192) : Met l y_BR_put w_BR_put ({ frames := 0, cells := 0, slots := 0, locals := 0 }) (va_Pc [.ref h0, .int p0] (fun U => U.heap.size = sz ∧ va_P (dC, dI) cls (wz_94 h0 ax h0_length ax cax gax) U.heap ∧ va_K (dC, dI) cls [(cax, .byte)] U ∧ va_D (fun _ => True) (wz_94 h0 ax h0_length ax cax gax))) (va_Qv (fun (u : (Nat → Int32) × Int32) => match u with | (gax2, h0_length2) => (0 ≤ h0_length2.toInt ∧ h0_length2.toInt ≤ 8192) ∧ (h0_length2.toInt = h0_length.toInt + 1 ∧ ∃ v : Int32, gax2 = upd gax h0_length.toNatClampNeg v ∧ (bn v = bn p0 ∧ -128 ≤ v.toInt ∧ v.toInt ≤ 127))) (at_BR_puty dC dI h0 ax cax (va_A (wz_94 h0 ax h0_length ax cax gax) sz)) (va_A (wz_94 h0 ax h0_length ax cax gax) sz)) 0 0 (va_A (wz_94 h0 ax h0_length ax cax gax) sz) := by
  refine Met.ofW (cc := b_BR_put) (maxL := 2) (ret := none) (by decide) rfl ?_
  intro p e s m args below meth c s₁ B hml hv
  obtain ⟨rfl, hsz, hP, hK, hD0⟩ := hv
  have hx := B.exec
  have hb := B.bytes
  have hr := B.returns
  have hts0 := atoms_spec (ws := w_BR_put) B.pre
  have hts : ∀ w ∈ lw_g, w.before _ s = true := fun w h => hts0 w (List.mem_cons_of_mem _ h)
  have hown : s.vm.findClass R_BR = some m.cls := findClass_of_methodNamed B.named
  have hlocks := B.notSynchronized
  clear hts0
  subst hsz
  have hD := hD0.self (sz := s.heap.size)
  generalize hAe : va_A (wz_94 h0 ax h0_length ax cax gax) s.heap.size = A at hD ⊢
  have hA : ∀ q : Nat, s.heap.size ≤ q → A q := fun q h => by rw [← hAe]; exact Or.inr h
  clear hAe
  have hP : va_P (dC, dI) cls (wz_94 h0 ax h0_length ax cax gax) s.heap := hP
  have hl := lv_entry ([.ref h0, .int p0]) (n := 2) (Nat.le_of_ble_eq_true rfl)
  rw [lg_entry_eq]
  generalize (lg_sl ([.ref h0, .int p0]) ++ List.replicate (2 - (lg_sl ([.ref h0, .int p0])).length) Slot.unset).toArray = ls at hl ⊢
  have hl : lv_has ls 2 [(0, .ref h0), (1, .int p0)] := hl
  have k0 : (0 : Int32).toInt = 0 := by decide
  refine w_gen (A := A) hP (fun H locs hP hS => ?_)
  have k1 : (1 : Int32).toInt = 1 := by decide
  have lo_p0 := i32_lo p0
  have hi_p0 := i32_hi p0
  refine lv_aload_n hx hb d_BR_put_0 rfl (lv_at hl 0 rfl) ?_
  refine va_get (D := (dC, dI)) (ci := 1) (v := .int h0_length) (C := R_BR) (T := F_BR) (N := 2) hx hb hts i_BR hown hK hP 0 rfl rfl 1 (by decide) (hts _ kF_BR_13) (fun _ h9 => h9) rfl d_BR_put_1 ?_
  refine lv_aload_n hx hb d_BR_put_4 rfl (lv_at hl 0 rfl) ?_
  refine va_get (D := (dC, dI)) (ci := 1) (v := .ref ax) (C := R_BR) (T := F_BR) (N := 2) hx hb hts i_BR hown hK hP 0 rfl rfl 0 (by decide) (hts _ kF_BR_7) (fun _ h9 => h9) rfl d_BR_put_5 ?_
  refine va_alen hx hb hK hP 1 0 rfl rfl rfl d_BR_put_8 ?_
  refine lv_topi (fun x1 ex1 => ?_)
  have tx1 : x1.toInt = 8192 := by rw [ex1]; exact i32_len (by (first | (apply Int.le_antisymm <;> omega) | omega))
  refine lv_icmp_ge (tgt := 30) hx hb d_BR_put_9 (by decide) (fun c9 => absurd (leI c9) (by (first | (apply Int.le_antisymm <;> omega) | omega))) (fun c9 => ?_)
  have q9 := nleI c9
  refine lv_aload_n hx hb d_BR_put_12 rfl (lv_at hl 0 rfl) ?_
  refine va_get (D := (dC, dI)) (ci := 1) (v := .ref ax) (C := R_BR) (T := F_BR) (N := 2) hx hb hts i_BR hown hK hP 0 rfl rfl 0 (by decide) (hts _ kF_BR_7) (fun _ h9 => h9) rfl d_BR_put_13 ?_
  refine lv_aload_n hx hb d_BR_put_16 rfl (lv_at hl 0 rfl) ?_
  refine lv_dup hx hb d_BR_put_17 rfl ?_
  refine va_get (D := (dC, dI)) (ci := 1) (v := .int h0_length) (C := R_BR) (T := F_BR) (N := 2) hx hb hts i_BR hown hK hP 0 rfl rfl 1 (by decide) (hts _ kF_BR_13) (fun _ h9 => h9) rfl d_BR_put_18 ?_
  refine lv_dup_x1 hx hb d_BR_put_21 rfl rfl ?_
  refine lv_iconst (v := 1) hx hb d_BR_put_22 (by decide) ?_
  refine lv_iadd hx hb d_BR_put_23 ?_
  refine lv_topi (fun x2 ex2 => ?_)
  have tx2 : x2.toInt = h0_length.toInt + 1 := by have z := i32_add ex2 (by (first | (apply Int.le_antisymm <;> omega) | omega)) (by (first | (apply Int.le_antisymm <;> omega) | omega)); first | exact z | (first | (apply Int.le_antisymm <;> omega) | omega)
  refine va_put (D := (dC, dI)) (ci := 1) (v := .int x2) (ty := .int) (C := R_BR) (T := F_BR) (N := 2) hx hb hts i_BR t_BR t_BR_ok n_BR hown hK hP hD hS 0 rfl rfl 1 (by decide) (hts _ kF_BR_13) (fun _ h9 => h9) rfl (by decide +kernel) rfl rfl (Nat.le_of_ble_eq_true rfl) d_BR_put_24 (fun H locs hP hD hS => ?_)
  refine lv_iload_n hx hb d_BR_put_27 rfl (lv_at hl 1 rfl) ?_
  refine lv_i2b hx hb d_BR_put_28 rfl ?_
  refine lv_topi (fun x3 ex3 => ?_)
  have g29 : vp_in h0_length 8192 := vp_in_iff.mpr ⟨by (first | (apply Int.le_antisymm <;> omega) | omega), by (first | (apply Int.le_antisymm <;> omega) | omega)⟩
  refine va_bast hx hb hK hP hD hS 1 0 rfl rfl g29 d_BR_put_29 (fun H locs hP hD hS => ?_)
  generalize ef4 : upd gax h0_length.toNatClampNeg (vp_nar .byte x3) = f4 at hP hD
  have hP9 := hP.sb (wq := (wz_94 h0 ax x2 ax cax f4)) [0, 1] rfl
  have hD9 := hD.sb (wq := (wz_94 h0 ax x2 ax cax f4)) [0, 1] (by decide) rfl
  exact W.vret hx hb hr (fun t ht hW => ⟨⟨(f4, x2), rfl, ⟨by (try dsimp only) <;> (first | (apply Int.le_antisymm <;> omega) | omega), (by rw [← ef4]; exact ⟨by (first | (apply Int.le_antisymm <;> omega) | omega), _, rfl, nar_b ex3 rfl⟩)⟩, va_P.he ht.symm hP9, va_K.moved hW.alike hK, hD9⟩, hS.F ht⟩) hS.2.2 d_BR_put_30
abbrev at_BR_putParty (dC : Nat → ClassId) (dI : Nat → Nat → Nat) (h0 ax h1 ay : Nat) (cax cay : ClassId) (h1_length : Int32) (gay : Nat → Int32) (A : Nat → Prop) (u : (Nat → Int32) × Int32) (t : State) : Prop := match u with | (gax, h0_length) => va_P (dC, dI) cls (wz_231 h0 ax h0_length ax cax gax h1 ay h1_length ay cay gay) t.heap ∧ va_K (dC, dI) cls [(cax, .byte), (cay, .byte)] t ∧ va_D A (wz_231 h0 ax h0_length ax cax gax h1 ay h1_length ay cay gay)
set_option maxHeartbeats 4000000 in
set_option maxRecDepth 100000 in
theorem c_BR_putParty (l : Launch) (dC : Nat → ClassId) (dI : Nat → Nat → Nat) (sz : Nat) (h0 ax h1 ay : Nat) (cax cay : ClassId) (h0_length : Int32) (gax : Nat → Int32) (h1_length : Int32) (gay : Nat → Int32)  (b_h0_length : 0 ≤ h0_length.toInt ∧ h0_length.toInt ≤ 8192) (b_h1_length : 0 ≤ h1_length.toInt ∧ h1_length.toInt ≤ 2000) (p1 : Int32) (p2 : Int32)  (hl : h0_length.toInt = 0 ∧ p1.toInt = 0 ∧ p2.toInt = h1_length.toInt ∧ 0 ≤ h1_length.toInt ∧ h1_length.toInt ≤ 2000) : Met l y_BR_putPart w_BR_putPart ({ frames := 1, cells := 0, slots := 0, locals := 21 }) (va_Pc [.ref h0, .ref h1, .int p1, .int p2] (fun U => U.heap.size = sz ∧ va_P (dC, dI) cls (wz_231 h0 ax h0_length ax cax gax h1 ay h1_length ay cay gay) U.heap ∧ va_K (dC, dI) cls [(cax, .byte), (cay, .byte)] U ∧ va_D (fun _ => True) (wz_231 h0 ax h0_length ax cax gax h1 ay h1_length ay cay gay))) (va_Qv (fun (u : (Nat → Int32) × Int32) => match u with | (gax2, h0_length2) => (0 ≤ h0_length2.toInt ∧ h0_length2.toInt ≤ 8192) ∧ (h0_length2.toInt = h1_length.toInt ∧ (∀ j : Nat, (j : Int) < h1_length.toInt → bn (gax2 j) = bn (gay j) ∧ -128 ≤ (gax2 j).toInt ∧ (gax2 j).toInt ≤ 127))) (at_BR_putParty dC dI h0 ax h1 ay cax cay h1_length gay (va_A (wz_231 h0 ax h0_length ax cax gax h1 ay h1_length ay cay gay) sz)) (va_A (wz_231 h0 ax h0_length ax cax gax h1 ay h1_length ay cay gay) sz)) 0 0 (va_A (wz_231 h0 ax h0_length ax cax gax h1 ay h1_length ay cay gay) sz) := by
  refine Met.ofW (cc := b_BR_putPart) (maxL := 5) (ret := none) (by decide) rfl ?_
  intro p e s m args below meth c s₁ B hml hv
  obtain ⟨rfl, hsz, hP, hK, hD0⟩ := hv
  have hx := B.exec
  have hb := B.bytes
  have hr := B.returns
  have hts0 := atoms_spec (ws := w_BR_putPart) B.pre
  have hts : ∀ w ∈ lw_g, w.before _ s = true := fun w h => hts0 w (List.mem_cons_of_mem _ h)
  have hown : s.vm.findClass R_BR = some m.cls := findClass_of_methodNamed B.named
  have hlocks := B.notSynchronized
  clear hts0
  subst hsz
  have hD := hD0.self (sz := s.heap.size)
  generalize hAe : va_A (wz_231 h0 ax h0_length ax cax gax h1 ay h1_length ay cay gay) s.heap.size = A at hD ⊢
  have hA : ∀ q : Nat, s.heap.size ≤ q → A q := fun q h => by rw [← hAe]; exact Or.inr h
  clear hAe
  have hP : va_P (dC, dI) cls (wz_231 h0 ax h0_length ax cax gax h1 ay h1_length ay cay gay) s.heap := hP
  have hl := lv_entry ([.ref h0, .ref h1, .int p1, .int p2]) (n := 5) (Nat.le_of_ble_eq_true rfl)
  rw [lg_entry_eq]
  generalize (lg_sl ([.ref h0, .ref h1, .int p1, .int p2]) ++ List.replicate (5 - (lg_sl ([.ref h0, .ref h1, .int p1, .int p2])).length) Slot.unset).toArray = ls at hl ⊢
  have hl : lv_has ls 5 [(0, .ref h0), (1, .ref h1), (2, .int p1), (3, .int p2)] := hl
  have k0 : (0 : Int32).toInt = 0 := by decide
  refine w_gen (A := A) hP (fun H locs hP hS => ?_)
  have k1 : (1 : Int32).toInt = 1 := by decide
  have lo_p1 := i32_lo p1
  have hi_p1 := i32_hi p1
  have lo_p2 := i32_lo p2
  have hi_p2 := i32_hi p2
  refine lv_iconst (v := 0) hx hb d_BR_putPart_0 (by decide) ?_
  refine lv_istore (lv' := [(4, .int 0), (0, .ref h0), (1, .ref h1), (2, .int p1), (3, .int p2)]) hx hb d_BR_putPart_1 hl (by decide) rfl (fun ls hl => ?_)
  refine w_loop (σ := Int32 × (Nat → Int32) × Int32) (fun u H locs ls => match u with | (j3_l4, j3_ax, j3_h0_length) => (0 ≤ j3_l4.toInt ∧ j3_l4.toInt ≤ 2000) ∧ (0 ≤ j3_h0_length.toInt ∧ j3_h0_length.toInt ≤ 8192) ∧ (bx (∀ j : Nat, (j : Int) < j3_l4.toInt → bn (j3_ax j) = bn (gay j) ∧ -128 ≤ (j3_ax j).toInt ∧ (j3_ax j).toInt ≤ 127)) ∧ (j3_h0_length.toInt = j3_l4.toInt ∧ 0 ≤ j3_l4.toInt ∧ j3_l4.toInt ≤ p2.toInt) ∧ va_P (dC, dI) cls (wz_231 h0 ax j3_h0_length ax cax j3_ax h1 ay h1_length ay cay gay) H ∧ va_D A (wz_231 h0 ax j3_h0_length ax cax j3_ax h1 ay h1_length ay cay gay) ∧ va_S A s.heap H locs ∧ lv_has ls 5 [(0, .ref h0), (1, .ref h1), (2, .int p1), (3, .int p2), (4, .int j3_l4)]) (fun u => match u with | (j3_l4, j3_ax, j3_h0_length) => (p2.toInt - j3_l4.toInt).toNat) ?_ (0, gax, h0_length) ⟨by (try dsimp only) <;> (first | (apply Int.le_antisymm <;> omega) | omega), b_h0_length, (fun j hj => absurd hj (by show ¬ (j : Int) < 0; (first | (apply Int.le_antisymm <;> omega) | omega))), by (try dsimp only) <;> (first | (apply Int.le_antisymm <;> omega) | omega), hP, hD, hS, lv_sub hl [1, 2, 3, 4, 0] rfl⟩
  intro N3 ih3 u H locs ls hN3 hI
  obtain ⟨j3_l4, j3_ax, j3_h0_length⟩ := u
  obtain ⟨b_j3_l4, b_j3_h0_length, v1, v2, hP, hD, hS, hl⟩ := hI
  have hN3 : (p2.toInt - j3_l4.toInt).toNat < N3 + 1 := hN3
  refine lv_iload hx hb d_BR_putPart_3 (lv_at hl 4 rfl) ?_
  refine lv_iload_n hx hb d_BR_putPart_5 rfl (lv_at hl 3 rfl) ?_
  refine lv_icmp_ge (tgt := 27) hx hb d_BR_putPart_6 (by decide) (fun c6 => ?_) (fun c6 => ?_)
  · have q6 := leI c6
    have hP9 := hP.sb (wq := (wz_231 h0 ax j3_h0_length ax cax j3_ax h1 ay h1_length ay cay gay)) [0, 1, 2, 3] rfl
    have hD9 := hD.sb (wq := (wz_231 h0 ax j3_h0_length ax cax j3_ax h1 ay h1_length ay cay gay)) [0, 1, 2, 3] (by decide) rfl
    exact W.vret hx hb hr (fun t ht hW => ⟨⟨(j3_ax, j3_h0_length), rfl, ⟨b_j3_h0_length, ⟨by (first | (apply Int.le_antisymm <;> omega) | omega), fun j hj => v1.out j (by (first | (apply Int.le_antisymm <;> omega) | omega))⟩⟩, va_P.he ht.symm hP9, va_K.moved hW.alike hK, hD9⟩, hS.F ht⟩) hS.2.2 d_BR_putPart_27
  · have q6 := nleI c6
    refine lv_aload_n hx hb d_BR_putPart_9 rfl (lv_at hl 0 rfl) ?_
    refine lv_aload_n hx hb d_BR_putPart_10 rfl (lv_at hl 1 rfl) ?_
    refine lv_iload_n hx hb d_BR_putPart_11 rfl (lv_at hl 2 rfl) ?_
    refine lv_iload hx hb d_BR_putPart_12 (lv_at hl 4 rfl) ?_
    refine lv_iadd hx hb d_BR_putPart_14 ?_
    refine lv_topi (fun x1 ex1 => ?_)
    have tx1 : x1.toInt = p1.toInt + j3_l4.toInt := by have z := i32_add ex1 (by (first | (apply Int.le_antisymm <;> omega) | omega)) (by (first | (apply Int.le_antisymm <;> omega) | omega)); first | exact z | (first | (apply Int.le_antisymm <;> omega) | omega)
    have hPc := hP.sb (wq := [(h1, .inr (1, [.ref ay, .int h1_length])), (ay, .inl (cay, 2000, .inl gay))]) [2, 3] rfl
    have hDc := hD.sb (wq := [(h1, .inr (1, [.ref ay, .int h1_length])), (ay, .inl (cay, 2000, .inl gay))]) [2, 3] (by decide) rfl
    have hKc := hK.sb (tyq := [(cay, .byte)]) [1] rfl
    have hFc := va_free (wc := [(h1, .inr (1, [.ref ay, .int h1_length])), (ay, .inl (cay, 2000, .inl gay))]) hD hS hA [2, 3] rfl
    refine va_calli (va_runV (As := [.int x1]) (rest := [.ref h0]) ⟨hx, hb, hml, hown, hts⟩ (c_BR_at l dC dI h1 ay H.size cay 2000 h1_length gay (by (first | (apply Int.le_antisymm <;> omega) | omega)) (by (first | (apply Int.le_antisymm <;> omega) | omega)) (by (first | (apply Int.le_antisymm <;> omega) | omega)) x1) (cwV 1 hts (gV kM_BR_36 kV_BR_at kS_BR_at kI_BR kC_BR_at) rfl rfl rfl (by decide +kernel) ⟨Nat.le_of_ble_eq_true rfl, Nat.le_of_ble_eq_true rfl⟩) ⟨fun a U g mk z => by obtain ⟨z0, z1, zP, zK, zD⟩ := z; exact ⟨z0, z1, zP, va_K.moved (u := U) (U := U.calling g mk a) (Vm.Alike.refl U.vm) zK, zD⟩, va_recv hKc hPc (ci := 1) (q0 := 0) rfl rfl, fun U hU hW => ⟨rfl, by rw [hU], va_P.he hU.symm hPc, va_K.moved hW.alike hKc, hDc.weaken (fun _ _ _ _ => trivial)⟩⟩ rfl rfl hl.1 rfl (lv_room (Nat.le_of_ble_eq_true rfl)) d_BR_putPart_15 ⟨(Nat.zero_le _), (Nat.zero_le _)⟩) hS (fun q _ h => hFc q h) hFc (fun r2 u t H1 locs ht hvm hw hB hz1 hk1 hS => ?_)
    obtain ⟨er2, rfl⟩ := hw
    have tr2 := br_get_in gay h1_length x1
    rw [← er2] at tr2
    obtain ⟨hP1, hK1, hD1⟩ := hB
    replace hP1 := va_P.he ht hP1
    obtain ⟨hP, hD⟩ := va_join (wr := (wz_94 h0 ax j3_h0_length ax cax j3_ax)) (w1 := [(h1, .inr (1, [.ref ay, .int h1_length])), (ay, .inl (cay, 2000, .inl gay))]) hP hD [2, 3] [0, 1] rfl rfl (by decide) (by decide) hk1 hFc hP1 hD1
    clear hPc hDc hKc hFc hz1 hk1 hP1 hK1 hD1
    rename Heap => H
    have hP : va_P (dC, dI) cls (wz_231 h0 ax j3_h0_length ax cax j3_ax h1 ay h1_length ay cay gay) H := hP
    have hD : va_D A (wz_231 h0 ax j3_h0_length ax cax j3_ax h1 ay h1_length ay cay gay) := hD
    have z10 := br_get_bn er2 (by (first | (apply Int.le_antisymm <;> omega) | omega)) (by (first | (apply Int.le_antisymm <;> omega) | omega))
    have hPc := hP.sb (wq := (wz_94 h0 ax j3_h0_length ax cax j3_ax)) [0, 1] rfl
    have hDc := hD.sb (wq := (wz_94 h0 ax j3_h0_length ax cax j3_ax)) [0, 1] (by decide) rfl
    have hKc := hK.sb (tyq := [(cax, .byte)]) [0] rfl
    have hFc := va_free (wc := (wz_94 h0 ax j3_h0_length ax cax j3_ax)) hD hS hA [0, 1] rfl
    refine va_callv (va_runV (As := [.int r2]) (rest := []) ⟨hx, hb, hml, hown, hts⟩ (c_BR_puty l dC dI H.size h0 ax cax j3_h0_length j3_ax (b_j3_h0_length) r2 (by (first | (apply Int.le_antisymm <;> omega) | omega))) (cwV 1 hts (gV kM_BR_17 kV_BR_put kS_BR_put kI_BR kC_BR_put) rfl rfl rfl (by decide +kernel) ⟨Nat.le_of_ble_eq_true rfl, Nat.le_of_ble_eq_true rfl⟩) ⟨fun a U g mk z => by obtain ⟨z0, z1, zP, zK, zD⟩ := z; exact ⟨z0, z1, zP, va_K.moved (u := U) (U := U.calling g mk a) (Vm.Alike.refl U.vm) zK, zD⟩, va_recv hKc hPc (ci := 1) (q0 := 0) rfl rfl, fun U hU hW => ⟨rfl, by rw [hU], va_P.he hU.symm hPc, va_K.moved hW.alike hKc, hDc.weaken (fun _ _ _ _ => trivial)⟩⟩ rfl rfl hl.1 rfl (lv_room (Nat.le_of_ble_eq_true rfl)) d_BR_putPart_18 ⟨(Nat.zero_le _), (Nat.zero_le _)⟩) hS (fun q _ h => hFc q h) hFc (fun u t H1 locs ht hvm hw hB hz1 hk1 hS => ?_)
    obtain ⟨n4, n5⟩ := u
    try dsimp only at hw
    obtain ⟨bn5, xr3⟩ := hw
    try clear hw
    obtain ⟨v90, v91, ev9, v92⟩ := xr3
    obtain ⟨hP1, hK1, hD1⟩ := hB
    replace hP1 := va_P.he ht hP1
    obtain ⟨hP, hD⟩ := va_join (wr := [(h1, .inr (1, [.ref ay, .int h1_length])), (ay, .inl (cay, 2000, .inl gay))]) (w1 := (wz_94 h0 ax n5 ax cax n4)) hP hD [0, 1] [2, 3] rfl rfl (by decide) (by decide) hk1 hFc hP1 hD1
    clear hPc hDc hKc hFc hz1 hk1 hP1 hK1 hD1
    rename Heap => H
    have hP : va_P (dC, dI) cls [(h1, .inr (1, [.ref ay, .int h1_length])), (ay, .inl (cay, 2000, .inl gay)), (h0, .inr (1, [.ref ax, .int n5])), (ax, .inl (cax, 8192, .inl n4))] H := hP
    have hD : va_D A [(h1, .inr (1, [.ref ay, .int h1_length])), (ay, .inl (cay, 2000, .inl gay)), (h0, .inr (1, [.ref ax, .int n5])), (ax, .inl (cax, 8192, .inl n4))] := hD
    obtain ⟨x6, ex6⟩ : ∃ z : Int32, z = j3_l4 + 1 := ⟨_, rfl⟩
    have tx6 : x6.toInt = j3_l4.toInt + 1 := by have z := i32_add ex6 (by (first | (apply Int.le_antisymm <;> omega) | omega)) (by (first | (apply Int.le_antisymm <;> omega) | omega)); first | exact z | (first | (apply Int.le_antisymm <;> omega) | omega)
    refine lv_iinc (v := x6) (lv' := [(4, .int x6), (0, .ref h0), (1, .ref h1), (2, .int p1), (3, .int p2)]) hx hb d_BR_putPart_21 hl (k := 4) rfl (by rw [ex6]; rfl) (by decide) rfl (fun ls hl => ?_)
    refine lv_goto (tgt := 3) hx hb d_BR_putPart_24 (by decide) ?_
    exact ih3 (x6, n4, n5) _ _ _ (by show (p2.toInt - x6.toInt).toNat < N3; (first | (apply Int.le_antisymm <;> omega) | omega)) ⟨by (try dsimp only) <;> (first | (apply Int.le_antisymm <;> omega) | omega), bn5, (fun j hj => by rw [ev9]; by_cases q : j = j3_h0_length.toNatClampNeg; (rw [q, pk_us]; refine ⟨?_, v92.2.1, v92.2.2⟩; rw [v92.1, z10, show x1.toNatClampNeg = j3_h0_length.toNatClampNeg from by have := i32_clamp (x := x1) (by (first | (apply Int.le_antisymm <;> omega) | omega)); have := i32_clamp (x := j3_h0_length) (by (first | (apply Int.le_antisymm <;> omega) | omega)); (first | (apply Int.le_antisymm <;> omega) | omega)]); (rw [pk_un q]; exact v1.out j (by have := i32_clamp (x := j3_h0_length) (by (first | (apply Int.le_antisymm <;> omega) | omega)); (first | (apply Int.le_antisymm <;> omega) | omega)))), by (try dsimp only) <;> (first | (apply Int.le_antisymm <;> omega) | omega), hP.sub [2, 3, 0, 1] rfl, hD.sub [2, 3, 0, 1] (by decide) rfl, hS, lv_sub hl [1, 2, 3, 4, 0] rfl⟩
abbrev at_BR_copyy (dC : Nat → ClassId) (dI : Nat → Nat → Nat) (h0 ax h1 ay : Nat) (cax cay : ClassId) (h1_length : Int32) (gay : Nat → Int32) (A : Nat → Prop) (u : (Nat → Int32) × Int32) (t : State) : Prop := match u with | (gax, h0_length) => va_P (dC, dI) cls (wz_231 h0 ax h0_length ax cax gax h1 ay h1_length ay cay gay) t.heap ∧ va_K (dC, dI) cls [(cax, .byte), (cay, .byte)] t ∧ va_D A (wz_231 h0 ax h0_length ax cax gax h1 ay h1_length ay cay gay)
set_option maxHeartbeats 4000000 in
set_option maxRecDepth 100000 in
theorem c_BR_copyy (l : Launch) (dC : Nat → ClassId) (dI : Nat → Nat → Nat) (sz : Nat) (h0 ax h1 ay : Nat) (cax cay : ClassId) (h0_length : Int32) (gax : Nat → Int32) (h1_length : Int32) (gay : Nat → Int32)  (b_h0_length : 0 ≤ h0_length.toInt ∧ h0_length.toInt ≤ 8192) (b_h1_length : 0 ≤ h1_length.toInt ∧ h1_length.toInt ≤ 2000)   (hl : 0 ≤ h1_length.toInt ∧ h1_length.toInt ≤ 2000) : Met l y_BR_copy w_BR_copy ({ frames := 2, cells := 0, slots := 0, locals := 45 }) (va_Pc [.ref h0, .ref h1] (fun U => U.heap.size = sz ∧ va_P (dC, dI) cls (wz_231 h0 ax h0_length ax cax gax h1 ay h1_length ay cay gay) U.heap ∧ va_K (dC, dI) cls [(cax, .byte), (cay, .byte)] U ∧ va_D (fun _ => True) (wz_231 h0 ax h0_length ax cax gax h1 ay h1_length ay cay gay))) (va_Qv (fun (u : (Nat → Int32) × Int32) => match u with | (gax2, h0_length2) => (0 ≤ h0_length2.toInt ∧ h0_length2.toInt ≤ 8192) ∧ (h0_length2.toInt = h1_length.toInt ∧ (∀ j : Nat, (j : Int) < h1_length.toInt → bn (gax2 j) = bn (gay j) ∧ -128 ≤ (gax2 j).toInt ∧ (gax2 j).toInt ≤ 127))) (at_BR_copyy dC dI h0 ax h1 ay cax cay h1_length gay (va_A (wz_231 h0 ax h0_length ax cax gax h1 ay h1_length ay cay gay) sz)) (va_A (wz_231 h0 ax h0_length ax cax gax h1 ay h1_length ay cay gay) sz)) 0 0 (va_A (wz_231 h0 ax h0_length ax cax gax h1 ay h1_length ay cay gay) sz) := by
  refine Met.ofW (cc := b_BR_copy) (maxL := 2) (ret := none) (by decide) rfl ?_
  intro p e s m args below meth c s₁ B hml hv
  obtain ⟨rfl, hsz, hP, hK, hD0⟩ := hv
  have hx := B.exec
  have hb := B.bytes
  have hr := B.returns
  have hts0 := atoms_spec (ws := w_BR_copy) B.pre
  have hts : ∀ w ∈ lw_g, w.before _ s = true := fun w h => hts0 w (List.mem_cons_of_mem _ h)
  have hown : s.vm.findClass R_BR = some m.cls := findClass_of_methodNamed B.named
  have hlocks := B.notSynchronized
  clear hts0
  subst hsz
  have hD := hD0.self (sz := s.heap.size)
  generalize hAe : va_A (wz_231 h0 ax h0_length ax cax gax h1 ay h1_length ay cay gay) s.heap.size = A at hD ⊢
  have hA : ∀ q : Nat, s.heap.size ≤ q → A q := fun q h => by rw [← hAe]; exact Or.inr h
  clear hAe
  have hP : va_P (dC, dI) cls (wz_231 h0 ax h0_length ax cax gax h1 ay h1_length ay cay gay) s.heap := hP
  have hl := lv_entry ([.ref h0, .ref h1]) (n := 2) (Nat.le_of_ble_eq_true rfl)
  rw [lg_entry_eq]
  generalize (lg_sl ([.ref h0, .ref h1]) ++ List.replicate (2 - (lg_sl ([.ref h0, .ref h1])).length) Slot.unset).toArray = ls at hl ⊢
  have hl : lv_has ls 2 [(0, .ref h0), (1, .ref h1)] := hl
  have k0 : (0 : Int32).toInt = 0 := by decide
  refine w_gen (A := A) hP (fun H locs hP hS => ?_)
  refine lv_aload_n hx hb d_BR_copy_0 rfl (lv_at hl 0 rfl) ?_
  refine lv_iconst (v := 0) hx hb d_BR_copy_1 (by decide) ?_
  refine va_put (D := (dC, dI)) (ci := 1) (v := .int 0) (ty := .int) (C := R_BR) (T := F_BR) (N := 2) hx hb hts i_BR t_BR t_BR_ok n_BR hown hK hP hD hS 0 rfl rfl 1 (by decide) (hts _ kF_BR_13) (fun _ h9 => h9) rfl (by decide +kernel) rfl rfl (Nat.le_of_ble_eq_true rfl) d_BR_copy_2 (fun H locs hP hD hS => ?_)
  refine lv_aload_n hx hb d_BR_copy_5 rfl (lv_at hl 0 rfl) ?_
  refine lv_aload_n hx hb d_BR_copy_6 rfl (lv_at hl 1 rfl) ?_
  refine lv_iconst (v := 0) hx hb d_BR_copy_7 (by decide) ?_
  refine lv_aload_n hx hb d_BR_copy_8 rfl (lv_at hl 1 rfl) ?_
  refine va_get (D := (dC, dI)) (ci := 1) (v := .int h1_length) (C := R_BR) (T := F_BR) (N := 2) hx hb hts i_BR hown hK hP 2 rfl rfl 1 (by decide) (hts _ kF_BR_13) (fun _ h9 => h9) rfl d_BR_copy_9 ?_
  have hPc := hP.sb (wq := (wz_231 h0 ax 0 ax cax gax h1 ay h1_length ay cay gay)) [0, 1, 2, 3] rfl
  have hDc := hD.sb (wq := (wz_231 h0 ax 0 ax cax gax h1 ay h1_length ay cay gay)) [0, 1, 2, 3] (by decide) rfl
  have hKc := hK.sb (tyq := [(cax, .byte), (cay, .byte)]) [0, 1] rfl
  have hFc := va_free (wc := (wz_231 h0 ax 0 ax cax gax h1 ay h1_length ay cay gay)) hD hS hA [0, 1, 2, 3] rfl
  refine va_callv (va_runV (As := [.ref h1, .int 0, .int h1_length]) (rest := []) ⟨hx, hb, hml, hown, hts⟩ (c_BR_putParty l dC dI H.size h0 ax h1 ay cax cay 0 gax h1_length gay (by (try dsimp only) <;> (first | (apply Int.le_antisymm <;> omega) | omega)) (b_h1_length) 0 h1_length (by (first | (apply Int.le_antisymm <;> omega) | omega))) (cwV 3 hts (gV kM_BR_40 kV_BR_putPart kS_BR_putPart kI_BR kC_BR_putPart) rfl rfl rfl (by decide +kernel) ⟨Nat.le_of_ble_eq_true rfl, Nat.le_of_ble_eq_true rfl⟩) ⟨fun a U g mk z => by obtain ⟨z0, z1, zP, zK, zD⟩ := z; exact ⟨z0, z1, zP, va_K.moved (u := U) (U := U.calling g mk a) (Vm.Alike.refl U.vm) zK, zD⟩, va_recv hKc hPc (ci := 1) (q0 := 0) rfl rfl, fun U hU hW => ⟨rfl, by rw [hU], va_P.he hU.symm hPc, va_K.moved hW.alike hKc, hDc.weaken (fun _ _ _ _ => trivial)⟩⟩ rfl rfl hl.1 rfl (lv_room (Nat.le_of_ble_eq_true rfl)) d_BR_copy_12 ⟨(Nat.zero_le _), (Nat.zero_le _)⟩) hS (fun q _ h => hFc q h) hFc (fun u t H1 locs ht hvm hw hB hz1 hk1 hS => ?_)
  obtain ⟨n2, n3⟩ := u
  try dsimp only at hw
  obtain ⟨bn3, xr1⟩ := hw
  try clear hw
  obtain ⟨hP1, hK1, hD1⟩ := hB
  replace hP1 := va_P.he ht hP1
  obtain ⟨hP, hD⟩ := va_join (wr := []) (w1 := (wz_231 h0 ax n3 ax cax n2 h1 ay h1_length ay cay gay)) hP hD [0, 1, 2, 3] [] rfl rfl (by decide) (by decide) hk1 hFc hP1 hD1
  clear hPc hDc hKc hFc hz1 hk1 hP1 hK1 hD1
  rename Heap => H
  have hP : va_P (dC, dI) cls (wz_231 h0 ax n3 ax cax n2 h1 ay h1_length ay cay gay) H := hP
  have hD : va_D A (wz_231 h0 ax n3 ax cax n2 h1 ay h1_length ay cay gay) := hD
  have hP9 := hP.sb (wq := (wz_231 h0 ax n3 ax cax n2 h1 ay h1_length ay cay gay)) [0, 1, 2, 3] rfl
  have hD9 := hD.sb (wq := (wz_231 h0 ax n3 ax cax n2 h1 ay h1_length ay cay gay)) [0, 1, 2, 3] (by decide) rfl
  exact W.vret hx hb hr (fun t ht hW => ⟨⟨(n2, n3), rfl, ⟨bn3, xr1⟩, va_P.he ht.symm hP9, va_K.moved hW.alike hK, hD9⟩, hS.F ht⟩) hS.2.2 d_BR_copy_15
end q_n44q33

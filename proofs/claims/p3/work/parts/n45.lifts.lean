/-! the law: the helpers over the class as one -/
set_option maxRecDepth 100000 in
theorem o_LW_feed (l : Launch) (hlt : l.stackTraces = false) (dC : Nat → ClassId) (dI : Nat → Nat → Nat) (sz : Nat) (sa : Nat → Nat) (h0 ou : Nat) (tl : Int) (ov : Int64) (wl : va_W) (p0 : Int32) (p1 : Int32) (p2 : Int32) (p3 : Int32) (p4 : Int32) : Met l y_LW_feed w_LW_feed ({ frames := 7, cells := 1, slots := 6, locals := 115 }) (va_Pc [.ref h0, .int p0, .int p1, .int p2, .int p3, .int p4, .ref ou] (XI dC dI sz sa h0 ou tl ov wl)) (va_Qi (fun (r : Int32) (u : va_W × Int × Int64) => (r.toInt = 0 ∧ u.2.1 = tl + 20) ∨ (r.toInt = 1 ∧ u.2.1 = tl ∧ 1980 < tl)) (XO dC dI sa h0 ou (va_A wl sz)) (va_A wl sz)) 1 6 (va_A wl sz) := by
  refine met_cq (fun a U hU => ?_)
  obtain ⟨rfl, hz, hP, hX, hD0, hSW⟩ := hU
  subst hz
  obtain ⟨ad, cd, iv, lv, fi, fl, vv, sc_sign, gss, gpg, gwg, ewl, hK, hr⟩ := hX
  obtain ⟨b_h0_loaded, b_ta_length, b_ws_typeCount, b_ws_functionCount, b_ws_hasMemory, b_ws_globalCount, b_ws_exportCount, b_wsb_length, hr⟩ := hr
  obtain ⟨b_wsc_length, b_wsc_labelCount, b_ma_pages, b_pr_stepCount, b_pr_open, b_pr_twoSides, b_pr_waitingCount, b_sc_sign, hr⟩ := hr
  obtain ⟨b_sc_place, b_sc_size, b_sc_length, b_sc_at, b_gl_length, b_fu_length, b_pa_length, b_co_localCount, hr⟩ := hr
  obtain ⟨b_co_pendingCount, b_bo_length, b_cs_length, b_se_length, b_kn_length, b_re_sound, b_re_codeCount, b_re_openCount, hr⟩ := hr
  obtain ⟨b_gvlty, b_gvlbh, b_rw_length, b_h0_argumentCount, b_wa_functionCount, b_wa_globalCount, b_ma_steps, b_wab_length, hr⟩ := hr
  obtain ⟨b_vl_sound, b_vl_height, b_vl_depth, b_wac_length, b_ma_reason, b_ma_height, b_ma_frameCount, b_ma_labelCount, hr⟩ := hr
  obtain ⟨b_wa_exportCount, b_wa_typeCount, b_wa_hasMemory, b_wac_labelCount, htl, hov, hel, hel2, hmo⟩ := hr
  subst htl
  clear hov
  subst ewl
  have hD := hD0.self (sz := U.heap.size)
  clear hD0
  have hFc := va_Af (wc := [(h0, .inr (0, [.ref (ad 0), .ref (ad 1), .ref (ad 2), .int (iv 0), .int (iv 1), .int (iv 2), .int (iv 3), .ref (ad 3), .ref (ad 4), .ref (ad 5), .ref (ad 6), .ref (ad 7), .ref (ad 8), .ref (ad 9)])), ((ad 0), .inr (1, [.ref (ad 10), .int (iv 4)])), ((ad 10), .inl ((cd 0), 2000, .inl (fi 0))), (ou, .inl ((cd 95), 1, .inr (.inl (fl 14))))]) hD [0, 1, 2, 117] rfl
  have hPc := (p2_iff rfl).mpr (hP.sub (ws' := [(h0, .inr (0, [.ref (ad 0), .ref (ad 1), .ref (ad 2), .int (iv 0), .int (iv 1), .int (iv 2), .int (iv 3), .ref (ad 3), .ref (ad 4), .ref (ad 5), .ref (ad 6), .ref (ad 7), .ref (ad 8), .ref (ad 9)])), ((ad 0), .inr (1, [.ref (ad 10), .int (iv 4)])), ((ad 10), .inl ((cd 0), 2000, .inl (fi 0))), (ou, .inl ((cd 95), 1, .inr (.inl (fl 14))))]) [0, 1, 2, 117] rfl)
  have hDc := hD.sub (ws' := [(h0, .inr (0, [.ref (ad 0), .ref (ad 1), .ref (ad 2), .int (iv 0), .int (iv 1), .int (iv 2), .int (iv 3), .ref (ad 3), .ref (ad 4), .ref (ad 5), .ref (ad 6), .ref (ad 7), .ref (ad 8), .ref (ad 9)])), ((ad 0), .inr (1, [.ref (ad 10), .int (iv 4)])), ((ad 10), .inl ((cd 0), 2000, .inl (fi 0))), (ou, .inl ((cd 95), 1, .inr (.inl (fl 14))))]) [0, 1, 2, 117] (by decide) rfl
  refine ⟨_, _, _, c_LW_feed l hlt dC dI U.heap.size sa h0 (ad 0) (ad 1) (ad 2) (ad 3) (ad 4) (ad 5) (ad 6) (ad 7) (ad 8) (ad 9) (ad 10) ou (cd 0) (cd 95) (iv 0) (iv 1) (iv 2) (iv 3) (iv 4) (fi 0) (fl 14) (b_ta_length) p0 p1 p2 p3 p4, ⟨rfl, rfl, hPc, hK.sub [0, 95] rfl, hDc.weaken (fun _ _ _ _ => trivial), hSW.narrow hFc⟩, fun o t hvm hq => ?_, hFc⟩
  obtain ⟨⟨r, u, rfl, hw, hB⟩, hF⟩ := hq
  obtain ⟨n1, n2, n3⟩ := u
  try dsimp only at hw
  obtain ⟨bn3, xr⟩ := hw
  try clear hw
  obtain ⟨hP1, hK1, hD1⟩ := hB
  obtain ⟨w9, ew9, hP3, hD3⟩ := va_zsE (w1 := [(h0, .inr (0, [.ref (ad 0), .ref (ad 1), .ref (ad 2), .int (iv 0), .int (iv 1), .int (iv 2), .int (iv 3), .ref (ad 3), .ref (ad 4), .ref (ad 5), .ref (ad 6), .ref (ad 7), .ref (ad 8), .ref (ad 9)])), ((ad 0), .inr (1, [.ref (ad 10), .int n3])), ((ad 10), .inl ((cd 0), 2000, .inl n2)), (ou, .inl ((cd 95), 1, .inr (.inl n1)))]) hP hD [0, 1, 2, 117] rfl rfl hF.2 hFc ((p2_iff rfl).mp hP1) hD1
  refine ⟨⟨r, (_, n3.toInt, n1 0), rfl, xr.imp id (fun h => ⟨h.1, congrArg Int32.toInt h.2.1, h.2.2⟩), hP3, ?_, hD3⟩, hF.1, fun q h1 h2 => hF.2 q h1 (fun h => h2 (hFc q h))⟩
  exact ⟨ad, cd, (fun k => if k = 4 then n3 else iv k), lv, (fun k => if k = 0 then n2 else fi k), (fun k => if k = 14 then n1 else fl k), vv, sc_sign, gss, gpg, gwg, ew9, va_K.moved hvm hK, b_h0_loaded, bn3, b_ws_typeCount, b_ws_functionCount, b_ws_hasMemory, b_ws_globalCount, b_ws_exportCount, b_wsb_length, b_wsc_length, b_wsc_labelCount, b_ma_pages, b_pr_stepCount, b_pr_open, b_pr_twoSides, b_pr_waitingCount, b_sc_sign, b_sc_place, b_sc_size, b_sc_length, b_sc_at, b_gl_length, b_fu_length, b_pa_length, b_co_localCount, b_co_pendingCount, b_bo_length, b_cs_length, b_se_length, b_kn_length, b_re_sound, b_re_codeCount, b_re_openCount, b_gvlty, b_gvlbh, b_rw_length, b_h0_argumentCount, b_wa_functionCount, b_wa_globalCount, b_ma_steps, b_wab_length, b_vl_sound, b_vl_height, b_vl_depth, b_wac_length, b_ma_reason, b_ma_height, b_ma_frameCount, b_ma_labelCount, b_wa_exportCount, b_wa_typeCount, b_wa_hasMemory, b_wac_labelCount, rfl, rfl, hel, hel2, hmo⟩
set_option maxRecDepth 100000 in
theorem o_LW_end (l : Launch) (hlt : l.stackTraces = false) (dC : Nat → ClassId) (dI : Nat → Nat → Nat) (sz : Nat) (sa : Nat → Nat) (h0 ou : Nat) (tl : Int) (ov : Int64) (wl : va_W) (p0 : Int32) : Met l y_LW_end w_LW_end ({ frames := 7, cells := 1, slots := 6, locals := 111 }) (va_Pc [.ref h0, .int p0, .ref ou] (XI dC dI sz sa h0 ou tl ov wl)) (va_Qi (fun (r : Int32) (u : va_W × Int × Int64) => (r.toInt = 0 ∧ u.2.1 = p0.toInt ∧ u.2.2.toInt = p0.toInt ∧ 0 ≤ p0.toInt ∧ p0.toInt ≤ tl) ∨ (r.toInt = 1 ∧ u.2.1 = tl ∧ (p0.toInt < 0 ∨ tl < p0.toInt))) (XO dC dI sa h0 ou (va_A wl sz)) (va_A wl sz)) 1 6 (va_A wl sz) := by
  refine met_cq (fun a U hU => ?_)
  obtain ⟨rfl, hz, hP, hX, hD0, hSW⟩ := hU
  subst hz
  obtain ⟨ad, cd, iv, lv, fi, fl, vv, sc_sign, gss, gpg, gwg, ewl, hK, hr⟩ := hX
  obtain ⟨b_h0_loaded, b_ta_length, b_ws_typeCount, b_ws_functionCount, b_ws_hasMemory, b_ws_globalCount, b_ws_exportCount, b_wsb_length, hr⟩ := hr
  obtain ⟨b_wsc_length, b_wsc_labelCount, b_ma_pages, b_pr_stepCount, b_pr_open, b_pr_twoSides, b_pr_waitingCount, b_sc_sign, hr⟩ := hr
  obtain ⟨b_sc_place, b_sc_size, b_sc_length, b_sc_at, b_gl_length, b_fu_length, b_pa_length, b_co_localCount, hr⟩ := hr
  obtain ⟨b_co_pendingCount, b_bo_length, b_cs_length, b_se_length, b_kn_length, b_re_sound, b_re_codeCount, b_re_openCount, hr⟩ := hr
  obtain ⟨b_gvlty, b_gvlbh, b_rw_length, b_h0_argumentCount, b_wa_functionCount, b_wa_globalCount, b_ma_steps, b_wab_length, hr⟩ := hr
  obtain ⟨b_vl_sound, b_vl_height, b_vl_depth, b_wac_length, b_ma_reason, b_ma_height, b_ma_frameCount, b_ma_labelCount, hr⟩ := hr
  obtain ⟨b_wa_exportCount, b_wa_typeCount, b_wa_hasMemory, b_wac_labelCount, htl, hov, hel, hel2, hmo⟩ := hr
  subst htl
  clear hov
  subst ewl
  have hD := hD0.self (sz := U.heap.size)
  clear hD0
  have hFc := va_Af (wc := [(h0, .inr (0, [.ref (ad 0), .ref (ad 1), .ref (ad 2), .int (iv 0), .int (iv 1), .int (iv 2), .int (iv 3), .ref (ad 3), .ref (ad 4), .ref (ad 5), .ref (ad 6), .ref (ad 7), .ref (ad 8), .ref (ad 9)])), ((ad 0), .inr (1, [.ref (ad 10), .int (iv 4)])), (ou, .inl ((cd 95), 1, .inr (.inl (fl 14))))]) hD [0, 1, 117] rfl
  have hPc := (p2_iff rfl).mpr (hP.sub (ws' := [(h0, .inr (0, [.ref (ad 0), .ref (ad 1), .ref (ad 2), .int (iv 0), .int (iv 1), .int (iv 2), .int (iv 3), .ref (ad 3), .ref (ad 4), .ref (ad 5), .ref (ad 6), .ref (ad 7), .ref (ad 8), .ref (ad 9)])), ((ad 0), .inr (1, [.ref (ad 10), .int (iv 4)])), (ou, .inl ((cd 95), 1, .inr (.inl (fl 14))))]) [0, 1, 117] rfl)
  have hDc := hD.sub (ws' := [(h0, .inr (0, [.ref (ad 0), .ref (ad 1), .ref (ad 2), .int (iv 0), .int (iv 1), .int (iv 2), .int (iv 3), .ref (ad 3), .ref (ad 4), .ref (ad 5), .ref (ad 6), .ref (ad 7), .ref (ad 8), .ref (ad 9)])), ((ad 0), .inr (1, [.ref (ad 10), .int (iv 4)])), (ou, .inl ((cd 95), 1, .inr (.inl (fl 14))))]) [0, 1, 117] (by decide) rfl
  refine ⟨_, _, _, c_LW_end l hlt dC dI U.heap.size sa h0 (ad 0) (ad 1) (ad 2) (ad 3) (ad 4) (ad 5) (ad 6) (ad 7) (ad 8) (ad 9) (ad 10) ou (cd 95) (iv 0) (iv 1) (iv 2) (iv 3) (iv 4) (fl 14) (b_ta_length) p0, ⟨rfl, rfl, hPc, hK.sub [95] rfl, hDc.weaken (fun _ _ _ _ => trivial), hSW.narrow hFc⟩, fun o t hvm hq => ?_, hFc⟩
  obtain ⟨⟨r, u, rfl, hw, hB⟩, hF⟩ := hq
  obtain ⟨n1, n2⟩ := u
  try dsimp only at hw
  obtain ⟨bn2, xr⟩ := hw
  try clear hw
  obtain ⟨hP1, hK1, hD1⟩ := hB
  obtain ⟨w9, ew9, hP3, hD3⟩ := va_zsE (w1 := [(h0, .inr (0, [.ref (ad 0), .ref (ad 1), .ref (ad 2), .int (iv 0), .int (iv 1), .int (iv 2), .int (iv 3), .ref (ad 3), .ref (ad 4), .ref (ad 5), .ref (ad 6), .ref (ad 7), .ref (ad 8), .ref (ad 9)])), ((ad 0), .inr (1, [.ref (ad 10), .int n2])), (ou, .inl ((cd 95), 1, .inr (.inl n1)))]) hP hD [0, 1, 117] rfl rfl hF.2 hFc ((p2_iff rfl).mp hP1) hD1
  refine ⟨⟨r, (_, n2.toInt, n1 0), rfl, xr.imp (fun h => ⟨h.1, congrArg Int32.toInt h.2.1, h.2.2⟩) (fun h => ⟨h.1, congrArg Int32.toInt h.2.1, h.2.2⟩), hP3, ?_, hD3⟩, hF.1, fun q h1 h2 => hF.2 q h1 (fun h => h2 (hFc q h))⟩
  exact ⟨ad, cd, (fun k => if k = 4 then n2 else iv k), lv, fi, (fun k => if k = 14 then n1 else fl k), vv, sc_sign, gss, gpg, gwg, ew9, va_K.moved hvm hK, b_h0_loaded, bn2, b_ws_typeCount, b_ws_functionCount, b_ws_hasMemory, b_ws_globalCount, b_ws_exportCount, b_wsb_length, b_wsc_length, b_wsc_labelCount, b_ma_pages, b_pr_stepCount, b_pr_open, b_pr_twoSides, b_pr_waitingCount, b_sc_sign, b_sc_place, b_sc_size, b_sc_length, b_sc_at, b_gl_length, b_fu_length, b_pa_length, b_co_localCount, b_co_pendingCount, b_bo_length, b_cs_length, b_se_length, b_kn_length, b_re_sound, b_re_codeCount, b_re_openCount, b_gvlty, b_gvlbh, b_rw_length, b_h0_argumentCount, b_wa_functionCount, b_wa_globalCount, b_ma_steps, b_wab_length, b_vl_sound, b_vl_height, b_vl_depth, b_wac_length, b_ma_reason, b_ma_height, b_ma_frameCount, b_ma_labelCount, b_wa_exportCount, b_wa_typeCount, b_wa_hasMemory, b_wac_labelCount, rfl, rfl, hel, hel2, hmo⟩
set_option maxRecDepth 100000 in
theorem o_LW_word (l : Launch) (hlt : l.stackTraces = false) (dC : Nat → ClassId) (dI : Nat → Nat → Nat) (sz : Nat) (sa : Nat → Nat) (h0 ou : Nat) (tl : Int) (ov : Int64) (wl : va_W) (p0 : Int32) : Met l y_LW_word w_LW_word ({ frames := 7, cells := 1, slots := 6, locals := 115 }) (va_Pc [.ref h0, .int p0, .ref ou] (XI dC dI sz sa h0 ou tl ov wl)) (va_Qi (fun (r : Int32) (u : va_W × Int × Int64) => u.2.1 = tl) (XO dC dI sa h0 ou (va_A wl sz)) (va_A wl sz)) 1 6 (va_A wl sz) := by
  refine met_cq (fun a U hU => ?_)
  obtain ⟨rfl, hz, hP, hX, hD0, hSW⟩ := hU
  subst hz
  obtain ⟨ad, cd, iv, lv, fi, fl, vv, sc_sign, gss, gpg, gwg, ewl, hK, hr⟩ := hX
  obtain ⟨b_h0_loaded, b_ta_length, b_ws_typeCount, b_ws_functionCount, b_ws_hasMemory, b_ws_globalCount, b_ws_exportCount, b_wsb_length, hr⟩ := hr
  obtain ⟨b_wsc_length, b_wsc_labelCount, b_ma_pages, b_pr_stepCount, b_pr_open, b_pr_twoSides, b_pr_waitingCount, b_sc_sign, hr⟩ := hr
  obtain ⟨b_sc_place, b_sc_size, b_sc_length, b_sc_at, b_gl_length, b_fu_length, b_pa_length, b_co_localCount, hr⟩ := hr
  obtain ⟨b_co_pendingCount, b_bo_length, b_cs_length, b_se_length, b_kn_length, b_re_sound, b_re_codeCount, b_re_openCount, hr⟩ := hr
  obtain ⟨b_gvlty, b_gvlbh, b_rw_length, b_h0_argumentCount, b_wa_functionCount, b_wa_globalCount, b_ma_steps, b_wab_length, hr⟩ := hr
  obtain ⟨b_vl_sound, b_vl_height, b_vl_depth, b_wac_length, b_ma_reason, b_ma_height, b_ma_frameCount, b_ma_labelCount, hr⟩ := hr
  obtain ⟨b_wa_exportCount, b_wa_typeCount, b_wa_hasMemory, b_wac_labelCount, htl, hov, hel, hel2, hmo⟩ := hr
  subst htl
  clear hov
  subst ewl
  have hD := hD0.self (sz := U.heap.size)
  clear hD0
  have hFc := va_Af (wc := [(h0, .inr (0, [.ref (ad 0), .ref (ad 1), .ref (ad 2), .int (iv 0), .int (iv 1), .int (iv 2), .int (iv 3), .ref (ad 3), .ref (ad 4), .ref (ad 5), .ref (ad 6), .ref (ad 7), .ref (ad 8), .ref (ad 9)])), ((ad 1), .inr (1, [.ref (ad 11), .int (iv 5)])), ((ad 11), .inl ((cd 1), 8192, .inl (fi 1))), (ou, .inl ((cd 95), 1, .inr (.inl (fl 14))))]) hD [0, 3, 4, 117] rfl
  have hPc := (p2_iff rfl).mpr (hP.sub (ws' := [(h0, .inr (0, [.ref (ad 0), .ref (ad 1), .ref (ad 2), .int (iv 0), .int (iv 1), .int (iv 2), .int (iv 3), .ref (ad 3), .ref (ad 4), .ref (ad 5), .ref (ad 6), .ref (ad 7), .ref (ad 8), .ref (ad 9)])), ((ad 1), .inr (1, [.ref (ad 11), .int (iv 5)])), ((ad 11), .inl ((cd 1), 8192, .inl (fi 1))), (ou, .inl ((cd 95), 1, .inr (.inl (fl 14))))]) [0, 3, 4, 117] rfl)
  have hDc := hD.sub (ws' := [(h0, .inr (0, [.ref (ad 0), .ref (ad 1), .ref (ad 2), .int (iv 0), .int (iv 1), .int (iv 2), .int (iv 3), .ref (ad 3), .ref (ad 4), .ref (ad 5), .ref (ad 6), .ref (ad 7), .ref (ad 8), .ref (ad 9)])), ((ad 1), .inr (1, [.ref (ad 11), .int (iv 5)])), ((ad 11), .inl ((cd 1), 8192, .inl (fi 1))), (ou, .inl ((cd 95), 1, .inr (.inl (fl 14))))]) [0, 3, 4, 117] (by decide) rfl
  refine ⟨_, _, _, c_LW_word l hlt dC dI U.heap.size sa h0 (ad 0) (ad 1) (ad 2) (ad 3) (ad 4) (ad 5) (ad 6) (ad 7) (ad 8) (ad 9) (ad 11) ou (cd 1) (cd 95) (iv 0) (iv 1) (iv 2) (iv 3) (iv 5) (fi 1) (fl 14) (b_rw_length) p0, ⟨rfl, rfl, hPc, hK.sub [1, 95] rfl, hDc.weaken (fun _ _ _ _ => trivial), hSW.narrow hFc⟩, fun o t hvm hq => ?_, hFc⟩
  obtain ⟨⟨r, u, rfl, hw, hB⟩, hF⟩ := hq
  obtain ⟨n1, rfl⟩ : ∃ z, z = u := ⟨_, rfl⟩
  try dsimp only at hw
  have xr := hw
  try clear hw
  obtain ⟨hP1, hK1, hD1⟩ := hB
  obtain ⟨w9, ew9, hP3, hD3⟩ := va_zsE (w1 := [(h0, .inr (0, [.ref (ad 0), .ref (ad 1), .ref (ad 2), .int (iv 0), .int (iv 1), .int (iv 2), .int (iv 3), .ref (ad 3), .ref (ad 4), .ref (ad 5), .ref (ad 6), .ref (ad 7), .ref (ad 8), .ref (ad 9)])), ((ad 1), .inr (1, [.ref (ad 11), .int (iv 5)])), ((ad 11), .inl ((cd 1), 8192, .inl (fi 1))), (ou, .inl ((cd 95), 1, .inr (.inl n1)))]) hP hD [0, 3, 4, 117] rfl rfl hF.2 hFc ((p2_iff rfl).mp hP1) hD1
  refine ⟨⟨r, (_, (iv 4).toInt, n1 0), rfl, rfl, hP3, ?_, hD3⟩, hF.1, fun q h1 h2 => hF.2 q h1 (fun h => h2 (hFc q h))⟩
  exact ⟨ad, cd, iv, lv, fi, (fun k => if k = 14 then n1 else fl k), vv, sc_sign, gss, gpg, gwg, ew9, va_K.moved hvm hK, b_h0_loaded, b_ta_length, b_ws_typeCount, b_ws_functionCount, b_ws_hasMemory, b_ws_globalCount, b_ws_exportCount, b_wsb_length, b_wsc_length, b_wsc_labelCount, b_ma_pages, b_pr_stepCount, b_pr_open, b_pr_twoSides, b_pr_waitingCount, b_sc_sign, b_sc_place, b_sc_size, b_sc_length, b_sc_at, b_gl_length, b_fu_length, b_pa_length, b_co_localCount, b_co_pendingCount, b_bo_length, b_cs_length, b_se_length, b_kn_length, b_re_sound, b_re_codeCount, b_re_openCount, b_gvlty, b_gvlbh, b_rw_length, b_h0_argumentCount, b_wa_functionCount, b_wa_globalCount, b_ma_steps, b_wab_length, b_vl_sound, b_vl_height, b_vl_depth, b_wac_length, b_ma_reason, b_ma_height, b_ma_frameCount, b_ma_labelCount, b_wa_exportCount, b_wa_typeCount, b_wa_hasMemory, b_wac_labelCount, rfl, rfl, hel, hel2, hmo⟩
set_option maxRecDepth 100000 in
theorem o_LW_argument (l : Launch) (hlt : l.stackTraces = false) (dC : Nat → ClassId) (dI : Nat → Nat → Nat) (sz : Nat) (sa : Nat → Nat) (h0 ou : Nat) (tl : Int) (ov : Int64) (wl : va_W) (p0 : Int64) : Met l y_LW_argument w_LW_argument ({ frames := 7, cells := 1, slots := 6, locals := 112 }) (va_Pc [.ref h0, .long p0, .ref ou] (XI dC dI sz sa h0 ou tl ov wl)) (va_Qi (fun (r : Int32) (u : va_W × Int × Int64) => u.2.1 = tl) (XO dC dI sa h0 ou (va_A wl sz)) (va_A wl sz)) 1 6 (va_A wl sz) := by
  refine met_cq (fun a U hU => ?_)
  obtain ⟨rfl, hz, hP, hX, hD0, hSW⟩ := hU
  subst hz
  obtain ⟨ad, cd, iv, lv, fi, fl, vv, sc_sign, gss, gpg, gwg, ewl, hK, hr⟩ := hX
  obtain ⟨b_h0_loaded, b_ta_length, b_ws_typeCount, b_ws_functionCount, b_ws_hasMemory, b_ws_globalCount, b_ws_exportCount, b_wsb_length, hr⟩ := hr
  obtain ⟨b_wsc_length, b_wsc_labelCount, b_ma_pages, b_pr_stepCount, b_pr_open, b_pr_twoSides, b_pr_waitingCount, b_sc_sign, hr⟩ := hr
  obtain ⟨b_sc_place, b_sc_size, b_sc_length, b_sc_at, b_gl_length, b_fu_length, b_pa_length, b_co_localCount, hr⟩ := hr
  obtain ⟨b_co_pendingCount, b_bo_length, b_cs_length, b_se_length, b_kn_length, b_re_sound, b_re_codeCount, b_re_openCount, hr⟩ := hr
  obtain ⟨b_gvlty, b_gvlbh, b_rw_length, b_h0_argumentCount, b_wa_functionCount, b_wa_globalCount, b_ma_steps, b_wab_length, hr⟩ := hr
  obtain ⟨b_vl_sound, b_vl_height, b_vl_depth, b_wac_length, b_ma_reason, b_ma_height, b_ma_frameCount, b_ma_labelCount, hr⟩ := hr
  obtain ⟨b_wa_exportCount, b_wa_typeCount, b_wa_hasMemory, b_wac_labelCount, htl, hov, hel, hel2, hmo⟩ := hr
  subst htl
  clear hov
  subst ewl
  have hD := hD0.self (sz := U.heap.size)
  clear hD0
  have hFc := va_Af (wc := [(h0, .inr (0, [.ref (ad 0), .ref (ad 1), .ref (ad 2), .int (iv 0), .int (iv 1), .int (iv 2), .int (iv 3), .ref (ad 3), .ref (ad 4), .ref (ad 5), .ref (ad 6), .ref (ad 7), .ref (ad 8), .ref (ad 9)])), ((ad 2), .inl ((cd 2), 8, .inr (.inl (fl 0)))), (ou, .inl ((cd 95), 1, .inr (.inl (fl 14))))]) hD [0, 5, 117] rfl
  have hPc := (p2_iff rfl).mpr (hP.sub (ws' := [(h0, .inr (0, [.ref (ad 0), .ref (ad 1), .ref (ad 2), .int (iv 0), .int (iv 1), .int (iv 2), .int (iv 3), .ref (ad 3), .ref (ad 4), .ref (ad 5), .ref (ad 6), .ref (ad 7), .ref (ad 8), .ref (ad 9)])), ((ad 2), .inl ((cd 2), 8, .inr (.inl (fl 0)))), (ou, .inl ((cd 95), 1, .inr (.inl (fl 14))))]) [0, 5, 117] rfl)
  have hDc := hD.sub (ws' := [(h0, .inr (0, [.ref (ad 0), .ref (ad 1), .ref (ad 2), .int (iv 0), .int (iv 1), .int (iv 2), .int (iv 3), .ref (ad 3), .ref (ad 4), .ref (ad 5), .ref (ad 6), .ref (ad 7), .ref (ad 8), .ref (ad 9)])), ((ad 2), .inl ((cd 2), 8, .inr (.inl (fl 0)))), (ou, .inl ((cd 95), 1, .inr (.inl (fl 14))))]) [0, 5, 117] (by decide) rfl
  refine ⟨_, _, _, c_LW_argument l hlt dC dI U.heap.size sa h0 (ad 0) (ad 1) (ad 2) (ad 3) (ad 4) (ad 5) (ad 6) (ad 7) (ad 8) (ad 9) ou (cd 2) (cd 95) (iv 0) (iv 1) (iv 2) (iv 3) (fl 0) (fl 14) (b_h0_argumentCount) p0, ⟨rfl, rfl, hPc, hK.sub [2, 95] rfl, hDc.weaken (fun _ _ _ _ => trivial), hSW.narrow hFc⟩, fun o t hvm hq => ?_, hFc⟩
  obtain ⟨⟨r, u, rfl, hw, hB⟩, hF⟩ := hq
  obtain ⟨n1, n2, n3⟩ := u
  try dsimp only at hw
  obtain ⟨bn3, xr⟩ := hw
  try clear hw
  obtain ⟨hP1, hK1, hD1⟩ := hB
  obtain ⟨w9, ew9, hP3, hD3⟩ := va_zsE (w1 := [(h0, .inr (0, [.ref (ad 0), .ref (ad 1), .ref (ad 2), .int n3, .int (iv 1), .int (iv 2), .int (iv 3), .ref (ad 3), .ref (ad 4), .ref (ad 5), .ref (ad 6), .ref (ad 7), .ref (ad 8), .ref (ad 9)])), ((ad 2), .inl ((cd 2), 8, .inr (.inl n1))), (ou, .inl ((cd 95), 1, .inr (.inl n2)))]) hP hD [0, 5, 117] rfl rfl hF.2 hFc ((p2_iff rfl).mp hP1) hD1
  refine ⟨⟨r, (_, (iv 4).toInt, n2 0), rfl, rfl, hP3, ?_, hD3⟩, hF.1, fun q h1 h2 => hF.2 q h1 (fun h => h2 (hFc q h))⟩
  exact ⟨ad, cd, (fun k => if k = 0 then n3 else iv k), lv, fi, (fun k => if k = 0 then n1 else if k = 14 then n2 else fl k), vv, sc_sign, gss, gpg, gwg, ew9, va_K.moved hvm hK, b_h0_loaded, b_ta_length, b_ws_typeCount, b_ws_functionCount, b_ws_hasMemory, b_ws_globalCount, b_ws_exportCount, b_wsb_length, b_wsc_length, b_wsc_labelCount, b_ma_pages, b_pr_stepCount, b_pr_open, b_pr_twoSides, b_pr_waitingCount, b_sc_sign, b_sc_place, b_sc_size, b_sc_length, b_sc_at, b_gl_length, b_fu_length, b_pa_length, b_co_localCount, b_co_pendingCount, b_bo_length, b_cs_length, b_se_length, b_kn_length, b_re_sound, b_re_codeCount, b_re_openCount, b_gvlty, b_gvlbh, b_rw_length, bn3, b_wa_functionCount, b_wa_globalCount, b_ma_steps, b_wab_length, b_vl_sound, b_vl_height, b_vl_depth, b_wac_length, b_ma_reason, b_ma_height, b_ma_frameCount, b_ma_labelCount, b_wa_exportCount, b_wa_typeCount, b_wa_hasMemory, b_wac_labelCount, rfl, rfl, hel, hel2, hmo⟩
set_option maxRecDepth 100000 in
theorem o_LW_count (l : Launch) (hlt : l.stackTraces = false) (dC : Nat → ClassId) (dI : Nat → Nat → Nat) (sz : Nat) (sa : Nat → Nat) (h0 ou : Nat) (tl : Int) (ov : Int64) (wl : va_W) (p0 : Int32) : Met l y_LW_count w_LW_count ({ frames := 7, cells := 1, slots := 6, locals := 111 }) (va_Pc [.ref h0, .int p0, .ref ou] (XI dC dI sz sa h0 ou tl ov wl)) (va_Qi (fun (r : Int32) (u : va_W × Int × Int64) => u.2.1 = tl) (XO dC dI sa h0 ou (va_A wl sz)) (va_A wl sz)) 1 6 (va_A wl sz) := by
  refine met_cq (fun a U hU => ?_)
  obtain ⟨rfl, hz, hP, hX, hD0, hSW⟩ := hU
  subst hz
  obtain ⟨ad, cd, iv, lv, fi, fl, vv, sc_sign, gss, gpg, gwg, ewl, hK, hr⟩ := hX
  obtain ⟨b_h0_loaded, b_ta_length, b_ws_typeCount, b_ws_functionCount, b_ws_hasMemory, b_ws_globalCount, b_ws_exportCount, b_wsb_length, hr⟩ := hr
  obtain ⟨b_wsc_length, b_wsc_labelCount, b_ma_pages, b_pr_stepCount, b_pr_open, b_pr_twoSides, b_pr_waitingCount, b_sc_sign, hr⟩ := hr
  obtain ⟨b_sc_place, b_sc_size, b_sc_length, b_sc_at, b_gl_length, b_fu_length, b_pa_length, b_co_localCount, hr⟩ := hr
  obtain ⟨b_co_pendingCount, b_bo_length, b_cs_length, b_se_length, b_kn_length, b_re_sound, b_re_codeCount, b_re_openCount, hr⟩ := hr
  obtain ⟨b_gvlty, b_gvlbh, b_rw_length, b_h0_argumentCount, b_wa_functionCount, b_wa_globalCount, b_ma_steps, b_wab_length, hr⟩ := hr
  obtain ⟨b_vl_sound, b_vl_height, b_vl_depth, b_wac_length, b_ma_reason, b_ma_height, b_ma_frameCount, b_ma_labelCount, hr⟩ := hr
  obtain ⟨b_wa_exportCount, b_wa_typeCount, b_wa_hasMemory, b_wac_labelCount, htl, hov, hel, hel2, hmo⟩ := hr
  subst htl
  clear hov
  subst ewl
  have hD := hD0.self (sz := U.heap.size)
  clear hD0
  have hFc := va_Af (wc := [(h0, .inr (0, [.ref (ad 0), .ref (ad 1), .ref (ad 2), .int (iv 0), .int (iv 1), .int (iv 2), .int (iv 3), .ref (ad 3), .ref (ad 4), .ref (ad 5), .ref (ad 6), .ref (ad 7), .ref (ad 8), .ref (ad 9)])), ((ad 0), .inr (1, [.ref (ad 10), .int (iv 4)])), ((ad 1), .inr (1, [.ref (ad 11), .int (iv 5)])), ((ad 3), .inr (10, [.ref (ad 12), .ref (ad 13), .int (iv 6), .ref (ad 14), .ref (ad 15), .ref (ad 16), .int (iv 7), .ref (ad 17), .int (iv 8), .long (lv 0), .long (lv 1), .int (iv 9), .ref (ad 18), .ref (ad 19), .ref (ad 20), .ref (ad 21), .int (iv 10), .ref (ad 22), .ref (ad 23), .ref (ad 24), .ref (ad 25)])), ((ad 9), .inr (4, [.int (iv 22), .int (iv 23), .int (iv 24), .ref (ad 58), (vv 0), (vv 1), .ref (ad 59), .ref (ad 60), .int (iv 25), .ref (ad 61), .ref (ad 62), .ref (ad 63), .ref (ad 64), .int (iv 26), .ref (ad 65), .ref (ad 66), .int (iv 27), .int (iv 28)])), (ou, .inl ((cd 95), 1, .inr (.inl (fl 14))))]) hD [0, 1, 3, 6, 54, 117] rfl
  have hPc := (p2_iff rfl).mpr (hP.sub (ws' := [(h0, .inr (0, [.ref (ad 0), .ref (ad 1), .ref (ad 2), .int (iv 0), .int (iv 1), .int (iv 2), .int (iv 3), .ref (ad 3), .ref (ad 4), .ref (ad 5), .ref (ad 6), .ref (ad 7), .ref (ad 8), .ref (ad 9)])), ((ad 0), .inr (1, [.ref (ad 10), .int (iv 4)])), ((ad 1), .inr (1, [.ref (ad 11), .int (iv 5)])), ((ad 3), .inr (10, [.ref (ad 12), .ref (ad 13), .int (iv 6), .ref (ad 14), .ref (ad 15), .ref (ad 16), .int (iv 7), .ref (ad 17), .int (iv 8), .long (lv 0), .long (lv 1), .int (iv 9), .ref (ad 18), .ref (ad 19), .ref (ad 20), .ref (ad 21), .int (iv 10), .ref (ad 22), .ref (ad 23), .ref (ad 24), .ref (ad 25)])), ((ad 9), .inr (4, [.int (iv 22), .int (iv 23), .int (iv 24), .ref (ad 58), (vv 0), (vv 1), .ref (ad 59), .ref (ad 60), .int (iv 25), .ref (ad 61), .ref (ad 62), .ref (ad 63), .ref (ad 64), .int (iv 26), .ref (ad 65), .ref (ad 66), .int (iv 27), .int (iv 28)])), (ou, .inl ((cd 95), 1, .inr (.inl (fl 14))))]) [0, 1, 3, 6, 54, 117] rfl)
  have hDc := hD.sub (ws' := [(h0, .inr (0, [.ref (ad 0), .ref (ad 1), .ref (ad 2), .int (iv 0), .int (iv 1), .int (iv 2), .int (iv 3), .ref (ad 3), .ref (ad 4), .ref (ad 5), .ref (ad 6), .ref (ad 7), .ref (ad 8), .ref (ad 9)])), ((ad 0), .inr (1, [.ref (ad 10), .int (iv 4)])), ((ad 1), .inr (1, [.ref (ad 11), .int (iv 5)])), ((ad 3), .inr (10, [.ref (ad 12), .ref (ad 13), .int (iv 6), .ref (ad 14), .ref (ad 15), .ref (ad 16), .int (iv 7), .ref (ad 17), .int (iv 8), .long (lv 0), .long (lv 1), .int (iv 9), .ref (ad 18), .ref (ad 19), .ref (ad 20), .ref (ad 21), .int (iv 10), .ref (ad 22), .ref (ad 23), .ref (ad 24), .ref (ad 25)])), ((ad 9), .inr (4, [.int (iv 22), .int (iv 23), .int (iv 24), .ref (ad 58), (vv 0), (vv 1), .ref (ad 59), .ref (ad 60), .int (iv 25), .ref (ad 61), .ref (ad 62), .ref (ad 63), .ref (ad 64), .int (iv 26), .ref (ad 65), .ref (ad 66), .int (iv 27), .int (iv 28)])), (ou, .inl ((cd 95), 1, .inr (.inl (fl 14))))]) [0, 1, 3, 6, 54, 117] (by decide) rfl
  refine ⟨_, _, _, c_LW_count l hlt dC dI U.heap.size sa h0 (ad 0) (ad 1) (ad 2) (ad 3) (ad 4) (ad 5) (ad 6) (ad 7) (ad 8) (ad 9) (ad 10) (ad 11) (ad 12) (ad 13) (ad 14) (ad 15) (ad 16) (ad 17) (ad 18) (ad 19) (ad 20) (ad 21) (ad 22) (ad 23) (ad 24) (ad 25) (ad 58) (ad 59) (ad 60) (ad 61) (ad 62) (ad 63) (ad 64) (ad 65) (ad 66) ou (cd 95) (iv 0) (iv 1) (iv 2) (iv 3) (iv 4) (iv 5) (iv 6) (iv 7) (iv 8) (lv 0) (lv 1) (iv 9) (iv 10) (iv 22) (iv 23) (iv 24) (vv 0) (vv 1) (iv 25) (iv 26) (iv 27) (iv 28) (fl 14) (b_h0_argumentCount) (b_h0_loaded) (b_ta_length) (b_rw_length) (b_wa_functionCount) (b_wa_globalCount) (b_ma_pages) (b_ma_steps) p0, ⟨rfl, rfl, hPc, hK.sub [95] rfl, hDc.weaken (fun _ _ _ _ => trivial), hSW.narrow hFc⟩, fun o t hvm hq => ?_, hFc⟩
  obtain ⟨⟨r, u, rfl, hw, hB⟩, hF⟩ := hq
  obtain ⟨n1, rfl⟩ : ∃ z, z = u := ⟨_, rfl⟩
  try dsimp only at hw
  have xr := hw
  try clear hw
  obtain ⟨hP1, hK1, hD1⟩ := hB
  obtain ⟨w9, ew9, hP3, hD3⟩ := va_zsE (w1 := [(h0, .inr (0, [.ref (ad 0), .ref (ad 1), .ref (ad 2), .int (iv 0), .int (iv 1), .int (iv 2), .int (iv 3), .ref (ad 3), .ref (ad 4), .ref (ad 5), .ref (ad 6), .ref (ad 7), .ref (ad 8), .ref (ad 9)])), ((ad 0), .inr (1, [.ref (ad 10), .int (iv 4)])), ((ad 1), .inr (1, [.ref (ad 11), .int (iv 5)])), ((ad 3), .inr (10, [.ref (ad 12), .ref (ad 13), .int (iv 6), .ref (ad 14), .ref (ad 15), .ref (ad 16), .int (iv 7), .ref (ad 17), .int (iv 8), .long (lv 0), .long (lv 1), .int (iv 9), .ref (ad 18), .ref (ad 19), .ref (ad 20), .ref (ad 21), .int (iv 10), .ref (ad 22), .ref (ad 23), .ref (ad 24), .ref (ad 25)])), ((ad 9), .inr (4, [.int (iv 22), .int (iv 23), .int (iv 24), .ref (ad 58), (vv 0), (vv 1), .ref (ad 59), .ref (ad 60), .int (iv 25), .ref (ad 61), .ref (ad 62), .ref (ad 63), .ref (ad 64), .int (iv 26), .ref (ad 65), .ref (ad 66), .int (iv 27), .int (iv 28)])), (ou, .inl ((cd 95), 1, .inr (.inl n1)))]) hP hD [0, 1, 3, 6, 54, 117] rfl rfl hF.2 hFc ((p2_iff rfl).mp hP1) hD1
  refine ⟨⟨r, (_, (iv 4).toInt, n1 0), rfl, rfl, hP3, ?_, hD3⟩, hF.1, fun q h1 h2 => hF.2 q h1 (fun h => h2 (hFc q h))⟩
  exact ⟨ad, cd, iv, lv, fi, (fun k => if k = 14 then n1 else fl k), vv, sc_sign, gss, gpg, gwg, ew9, va_K.moved hvm hK, b_h0_loaded, b_ta_length, b_ws_typeCount, b_ws_functionCount, b_ws_hasMemory, b_ws_globalCount, b_ws_exportCount, b_wsb_length, b_wsc_length, b_wsc_labelCount, b_ma_pages, b_pr_stepCount, b_pr_open, b_pr_twoSides, b_pr_waitingCount, b_sc_sign, b_sc_place, b_sc_size, b_sc_length, b_sc_at, b_gl_length, b_fu_length, b_pa_length, b_co_localCount, b_co_pendingCount, b_bo_length, b_cs_length, b_se_length, b_kn_length, b_re_sound, b_re_codeCount, b_re_openCount, b_gvlty, b_gvlbh, b_rw_length, b_h0_argumentCount, b_wa_functionCount, b_wa_globalCount, b_ma_steps, b_wab_length, b_vl_sound, b_vl_height, b_vl_depth, b_wac_length, b_ma_reason, b_ma_height, b_ma_frameCount, b_ma_labelCount, b_wa_exportCount, b_wa_typeCount, b_wa_hasMemory, b_wac_labelCount, rfl, rfl, hel, hel2, hmo⟩
set_option maxRecDepth 100000 in
theorem o_LW_emit (l : Launch) (hlt : l.stackTraces = false) (dC : Nat → ClassId) (dI : Nat → Nat → Nat) (sz : Nat) (sa : Nat → Nat) (h0 ou : Nat) (tl : Int) (ov : Int64) (wl : va_W)  : Met l y_LW_emit w_LW_emit ({ frames := 7, cells := 1, slots := 6, locals := 110 }) (va_Pc [.ref h0, .ref ou] (XI dC dI sz sa h0 ou tl ov wl)) (va_Qi (fun (r : Int32) (u : va_W × Int × Int64) => u.2.1 = tl) (XO dC dI sa h0 ou (va_A wl sz)) (va_A wl sz)) 1 6 (va_A wl sz) := by
  refine met_cq (fun a U hU => ?_)
  obtain ⟨rfl, hz, hP, hX, hD0, hSW⟩ := hU
  subst hz
  obtain ⟨ad, cd, iv, lv, fi, fl, vv, sc_sign, gss, gpg, gwg, ewl, hK, hr⟩ := hX
  obtain ⟨b_h0_loaded, b_ta_length, b_ws_typeCount, b_ws_functionCount, b_ws_hasMemory, b_ws_globalCount, b_ws_exportCount, b_wsb_length, hr⟩ := hr
  obtain ⟨b_wsc_length, b_wsc_labelCount, b_ma_pages, b_pr_stepCount, b_pr_open, b_pr_twoSides, b_pr_waitingCount, b_sc_sign, hr⟩ := hr
  obtain ⟨b_sc_place, b_sc_size, b_sc_length, b_sc_at, b_gl_length, b_fu_length, b_pa_length, b_co_localCount, hr⟩ := hr
  obtain ⟨b_co_pendingCount, b_bo_length, b_cs_length, b_se_length, b_kn_length, b_re_sound, b_re_codeCount, b_re_openCount, hr⟩ := hr
  obtain ⟨b_gvlty, b_gvlbh, b_rw_length, b_h0_argumentCount, b_wa_functionCount, b_wa_globalCount, b_ma_steps, b_wab_length, hr⟩ := hr
  obtain ⟨b_vl_sound, b_vl_height, b_vl_depth, b_wac_length, b_ma_reason, b_ma_height, b_ma_frameCount, b_ma_labelCount, hr⟩ := hr
  obtain ⟨b_wa_exportCount, b_wa_typeCount, b_wa_hasMemory, b_wac_labelCount, htl, hov, hel, hel2, hmo⟩ := hr
  subst htl
  clear hov
  subst ewl
  have hD := hD0.self (sz := U.heap.size)
  clear hD0
  have hFc := va_Af (wc := [(h0, .inr (0, [.ref (ad 0), .ref (ad 1), .ref (ad 2), .int (iv 0), .int (iv 1), .int (iv 2), .int (iv 3), .ref (ad 3), .ref (ad 4), .ref (ad 5), .ref (ad 6), .ref (ad 7), .ref (ad 8), .ref (ad 9)])), ((ad 1), .inr (1, [.ref (ad 11), .int (iv 5)])), ((ad 11), .inl ((cd 1), 8192, .inl (fi 1))), ((ad 3), .inr (10, [.ref (ad 12), .ref (ad 13), .int (iv 6), .ref (ad 14), .ref (ad 15), .ref (ad 16), .int (iv 7), .ref (ad 17), .int (iv 8), .long (lv 0), .long (lv 1), .int (iv 9), .ref (ad 18), .ref (ad 19), .ref (ad 20), .ref (ad 21), .int (iv 10), .ref (ad 22), .ref (ad 23), .ref (ad 24), .ref (ad 25)])), ((ad 12), .inr (1, [.ref (ad 26), .int (iv 11)])), ((ad 26), .inl ((cd 3), 8192, .inl (fi 2))), (ou, .inl ((cd 95), 1, .inr (.inl (fl 14))))]) hD [0, 3, 4, 6, 7, 8, 117] rfl
  have hPc := (p2_iff rfl).mpr (hP.sub (ws' := [(h0, .inr (0, [.ref (ad 0), .ref (ad 1), .ref (ad 2), .int (iv 0), .int (iv 1), .int (iv 2), .int (iv 3), .ref (ad 3), .ref (ad 4), .ref (ad 5), .ref (ad 6), .ref (ad 7), .ref (ad 8), .ref (ad 9)])), ((ad 1), .inr (1, [.ref (ad 11), .int (iv 5)])), ((ad 11), .inl ((cd 1), 8192, .inl (fi 1))), ((ad 3), .inr (10, [.ref (ad 12), .ref (ad 13), .int (iv 6), .ref (ad 14), .ref (ad 15), .ref (ad 16), .int (iv 7), .ref (ad 17), .int (iv 8), .long (lv 0), .long (lv 1), .int (iv 9), .ref (ad 18), .ref (ad 19), .ref (ad 20), .ref (ad 21), .int (iv 10), .ref (ad 22), .ref (ad 23), .ref (ad 24), .ref (ad 25)])), ((ad 12), .inr (1, [.ref (ad 26), .int (iv 11)])), ((ad 26), .inl ((cd 3), 8192, .inl (fi 2))), (ou, .inl ((cd 95), 1, .inr (.inl (fl 14))))]) [0, 3, 4, 6, 7, 8, 117] rfl)
  have hDc := hD.sub (ws' := [(h0, .inr (0, [.ref (ad 0), .ref (ad 1), .ref (ad 2), .int (iv 0), .int (iv 1), .int (iv 2), .int (iv 3), .ref (ad 3), .ref (ad 4), .ref (ad 5), .ref (ad 6), .ref (ad 7), .ref (ad 8), .ref (ad 9)])), ((ad 1), .inr (1, [.ref (ad 11), .int (iv 5)])), ((ad 11), .inl ((cd 1), 8192, .inl (fi 1))), ((ad 3), .inr (10, [.ref (ad 12), .ref (ad 13), .int (iv 6), .ref (ad 14), .ref (ad 15), .ref (ad 16), .int (iv 7), .ref (ad 17), .int (iv 8), .long (lv 0), .long (lv 1), .int (iv 9), .ref (ad 18), .ref (ad 19), .ref (ad 20), .ref (ad 21), .int (iv 10), .ref (ad 22), .ref (ad 23), .ref (ad 24), .ref (ad 25)])), ((ad 12), .inr (1, [.ref (ad 26), .int (iv 11)])), ((ad 26), .inl ((cd 3), 8192, .inl (fi 2))), (ou, .inl ((cd 95), 1, .inr (.inl (fl 14))))]) [0, 3, 4, 6, 7, 8, 117] (by decide) rfl
  refine ⟨_, _, _, c_LW_emit l hlt dC dI U.heap.size sa h0 (ad 0) (ad 1) (ad 2) (ad 3) (ad 4) (ad 5) (ad 6) (ad 7) (ad 8) (ad 9) (ad 11) (ad 12) (ad 13) (ad 14) (ad 15) (ad 16) (ad 17) (ad 18) (ad 19) (ad 20) (ad 21) (ad 22) (ad 23) (ad 24) (ad 25) (ad 26) ou (cd 1) (cd 3) (cd 95) (iv 0) (iv 1) (iv 2) (iv 3) (iv 5) (fi 1) (iv 6) (iv 7) (iv 8) (lv 0) (lv 1) (iv 9) (iv 10) (iv 11) (fi 2) (fl 14) (b_h0_loaded) (b_rw_length) (b_wab_length), ⟨rfl, rfl, hPc, hK.sub [1, 3, 95] rfl, hDc.weaken (fun _ _ _ _ => trivial), hSW.narrow hFc⟩, fun o t hvm hq => ?_, hFc⟩
  obtain ⟨⟨r, u, rfl, hw, hB⟩, hF⟩ := hq
  obtain ⟨n1, n2, n3⟩ := u
  try dsimp only at hw
  obtain ⟨bn3, xr⟩ := hw
  try clear hw
  obtain ⟨hP1, hK1, hD1⟩ := hB
  obtain ⟨w9, ew9, hP3, hD3⟩ := va_zsE (w1 := [(h0, .inr (0, [.ref (ad 0), .ref (ad 1), .ref (ad 2), .int (iv 0), .int (iv 1), .int (iv 2), .int (iv 3), .ref (ad 3), .ref (ad 4), .ref (ad 5), .ref (ad 6), .ref (ad 7), .ref (ad 8), .ref (ad 9)])), ((ad 1), .inr (1, [.ref (ad 11), .int n3])), ((ad 11), .inl ((cd 1), 8192, .inl n2)), ((ad 3), .inr (10, [.ref (ad 12), .ref (ad 13), .int (iv 6), .ref (ad 14), .ref (ad 15), .ref (ad 16), .int (iv 7), .ref (ad 17), .int (iv 8), .long (lv 0), .long (lv 1), .int (iv 9), .ref (ad 18), .ref (ad 19), .ref (ad 20), .ref (ad 21), .int (iv 10), .ref (ad 22), .ref (ad 23), .ref (ad 24), .ref (ad 25)])), ((ad 12), .inr (1, [.ref (ad 26), .int (iv 11)])), ((ad 26), .inl ((cd 3), 8192, .inl (fi 2))), (ou, .inl ((cd 95), 1, .inr (.inl n1)))]) hP hD [0, 3, 4, 6, 7, 8, 117] rfl rfl hF.2 hFc ((p2_iff rfl).mp hP1) hD1
  refine ⟨⟨r, (_, (iv 4).toInt, n1 0), rfl, rfl, hP3, ?_, hD3⟩, hF.1, fun q h1 h2 => hF.2 q h1 (fun h => h2 (hFc q h))⟩
  exact ⟨ad, cd, (fun k => if k = 5 then n3 else iv k), lv, (fun k => if k = 1 then n2 else fi k), (fun k => if k = 14 then n1 else fl k), vv, sc_sign, gss, gpg, gwg, ew9, va_K.moved hvm hK, b_h0_loaded, b_ta_length, b_ws_typeCount, b_ws_functionCount, b_ws_hasMemory, b_ws_globalCount, b_ws_exportCount, b_wsb_length, b_wsc_length, b_wsc_labelCount, b_ma_pages, b_pr_stepCount, b_pr_open, b_pr_twoSides, b_pr_waitingCount, b_sc_sign, b_sc_place, b_sc_size, b_sc_length, b_sc_at, b_gl_length, b_fu_length, b_pa_length, b_co_localCount, b_co_pendingCount, b_bo_length, b_cs_length, b_se_length, b_kn_length, b_re_sound, b_re_codeCount, b_re_openCount, b_gvlty, b_gvlbh, bn3, b_h0_argumentCount, b_wa_functionCount, b_wa_globalCount, b_ma_steps, b_wab_length, b_vl_sound, b_vl_height, b_vl_depth, b_wac_length, b_ma_reason, b_ma_height, b_ma_frameCount, b_ma_labelCount, b_wa_exportCount, b_wa_typeCount, b_wa_hasMemory, b_wac_labelCount, rfl, rfl, hel, hel2, hmo⟩
set_option maxRecDepth 100000 in
theorem o_LW_global (l : Launch) (hlt : l.stackTraces = false) (dC : Nat → ClassId) (dI : Nat → Nat → Nat) (sz : Nat) (sa : Nat → Nat) (h0 ou : Nat) (tl : Int) (ov : Int64) (wl : va_W) (p0 : Int32) : Met l y_LW_global w_LW_global ({ frames := 7, cells := 1, slots := 6, locals := 111 }) (va_Pc [.ref h0, .int p0, .ref ou] (XI dC dI sz sa h0 ou tl ov wl)) (va_Qi (fun (r : Int32) (u : va_W × Int × Int64) => u.2.1 = tl) (XO dC dI sa h0 ou (va_A wl sz)) (va_A wl sz)) 1 6 (va_A wl sz) := by
  refine met_cq (fun a U hU => ?_)
  obtain ⟨rfl, hz, hP, hX, hD0, hSW⟩ := hU
  subst hz
  obtain ⟨ad, cd, iv, lv, fi, fl, vv, sc_sign, gss, gpg, gwg, ewl, hK, hr⟩ := hX
  obtain ⟨b_h0_loaded, b_ta_length, b_ws_typeCount, b_ws_functionCount, b_ws_hasMemory, b_ws_globalCount, b_ws_exportCount, b_wsb_length, hr⟩ := hr
  obtain ⟨b_wsc_length, b_wsc_labelCount, b_ma_pages, b_pr_stepCount, b_pr_open, b_pr_twoSides, b_pr_waitingCount, b_sc_sign, hr⟩ := hr
  obtain ⟨b_sc_place, b_sc_size, b_sc_length, b_sc_at, b_gl_length, b_fu_length, b_pa_length, b_co_localCount, hr⟩ := hr
  obtain ⟨b_co_pendingCount, b_bo_length, b_cs_length, b_se_length, b_kn_length, b_re_sound, b_re_codeCount, b_re_openCount, hr⟩ := hr
  obtain ⟨b_gvlty, b_gvlbh, b_rw_length, b_h0_argumentCount, b_wa_functionCount, b_wa_globalCount, b_ma_steps, b_wab_length, hr⟩ := hr
  obtain ⟨b_vl_sound, b_vl_height, b_vl_depth, b_wac_length, b_ma_reason, b_ma_height, b_ma_frameCount, b_ma_labelCount, hr⟩ := hr
  obtain ⟨b_wa_exportCount, b_wa_typeCount, b_wa_hasMemory, b_wac_labelCount, htl, hov, hel, hel2, hmo⟩ := hr
  subst htl
  clear hov
  subst ewl
  have hD := hD0.self (sz := U.heap.size)
  clear hD0
  have hFc := va_Af (wc := [(h0, .inr (0, [.ref (ad 0), .ref (ad 1), .ref (ad 2), .int (iv 0), .int (iv 1), .int (iv 2), .int (iv 3), .ref (ad 3), .ref (ad 4), .ref (ad 5), .ref (ad 6), .ref (ad 7), .ref (ad 8), .ref (ad 9)])), ((ad 3), .inr (10, [.ref (ad 12), .ref (ad 13), .int (iv 6), .ref (ad 14), .ref (ad 15), .ref (ad 16), .int (iv 7), .ref (ad 17), .int (iv 8), .long (lv 0), .long (lv 1), .int (iv 9), .ref (ad 18), .ref (ad 19), .ref (ad 20), .ref (ad 21), .int (iv 10), .ref (ad 22), .ref (ad 23), .ref (ad 24), .ref (ad 25)])), ((ad 9), .inr (4, [.int (iv 22), .int (iv 23), .int (iv 24), .ref (ad 58), (vv 0), (vv 1), .ref (ad 59), .ref (ad 60), .int (iv 25), .ref (ad 61), .ref (ad 62), .ref (ad 63), .ref (ad 64), .int (iv 26), .ref (ad 65), .ref (ad 66), .int (iv 27), .int (iv 28)])), ((ad 58), .inl ((cd 45), 20, .inr (.inl (fl 5)))), (ou, .inl ((cd 95), 1, .inr (.inl (fl 14))))]) hD [0, 6, 54, 55, 117] rfl
  have hPc := (p2_iff rfl).mpr (hP.sub (ws' := [(h0, .inr (0, [.ref (ad 0), .ref (ad 1), .ref (ad 2), .int (iv 0), .int (iv 1), .int (iv 2), .int (iv 3), .ref (ad 3), .ref (ad 4), .ref (ad 5), .ref (ad 6), .ref (ad 7), .ref (ad 8), .ref (ad 9)])), ((ad 3), .inr (10, [.ref (ad 12), .ref (ad 13), .int (iv 6), .ref (ad 14), .ref (ad 15), .ref (ad 16), .int (iv 7), .ref (ad 17), .int (iv 8), .long (lv 0), .long (lv 1), .int (iv 9), .ref (ad 18), .ref (ad 19), .ref (ad 20), .ref (ad 21), .int (iv 10), .ref (ad 22), .ref (ad 23), .ref (ad 24), .ref (ad 25)])), ((ad 9), .inr (4, [.int (iv 22), .int (iv 23), .int (iv 24), .ref (ad 58), (vv 0), (vv 1), .ref (ad 59), .ref (ad 60), .int (iv 25), .ref (ad 61), .ref (ad 62), .ref (ad 63), .ref (ad 64), .int (iv 26), .ref (ad 65), .ref (ad 66), .int (iv 27), .int (iv 28)])), ((ad 58), .inl ((cd 45), 20, .inr (.inl (fl 5)))), (ou, .inl ((cd 95), 1, .inr (.inl (fl 14))))]) [0, 6, 54, 55, 117] rfl)
  have hDc := hD.sub (ws' := [(h0, .inr (0, [.ref (ad 0), .ref (ad 1), .ref (ad 2), .int (iv 0), .int (iv 1), .int (iv 2), .int (iv 3), .ref (ad 3), .ref (ad 4), .ref (ad 5), .ref (ad 6), .ref (ad 7), .ref (ad 8), .ref (ad 9)])), ((ad 3), .inr (10, [.ref (ad 12), .ref (ad 13), .int (iv 6), .ref (ad 14), .ref (ad 15), .ref (ad 16), .int (iv 7), .ref (ad 17), .int (iv 8), .long (lv 0), .long (lv 1), .int (iv 9), .ref (ad 18), .ref (ad 19), .ref (ad 20), .ref (ad 21), .int (iv 10), .ref (ad 22), .ref (ad 23), .ref (ad 24), .ref (ad 25)])), ((ad 9), .inr (4, [.int (iv 22), .int (iv 23), .int (iv 24), .ref (ad 58), (vv 0), (vv 1), .ref (ad 59), .ref (ad 60), .int (iv 25), .ref (ad 61), .ref (ad 62), .ref (ad 63), .ref (ad 64), .int (iv 26), .ref (ad 65), .ref (ad 66), .int (iv 27), .int (iv 28)])), ((ad 58), .inl ((cd 45), 20, .inr (.inl (fl 5)))), (ou, .inl ((cd 95), 1, .inr (.inl (fl 14))))]) [0, 6, 54, 55, 117] (by decide) rfl
  refine ⟨_, _, _, c_LW_global l hlt dC dI U.heap.size sa h0 (ad 0) (ad 1) (ad 2) (ad 3) (ad 4) (ad 5) (ad 6) (ad 7) (ad 8) (ad 9) (ad 12) (ad 13) (ad 14) (ad 15) (ad 16) (ad 17) (ad 18) (ad 19) (ad 20) (ad 21) (ad 22) (ad 23) (ad 24) (ad 25) (ad 58) (ad 59) (ad 60) (ad 61) (ad 62) (ad 63) (ad 64) (ad 65) (ad 66) ou (cd 45) (cd 95) (iv 0) (iv 1) (iv 2) (iv 3) (iv 6) (iv 7) (iv 8) (lv 0) (lv 1) (iv 9) (iv 10) (iv 22) (iv 23) (iv 24) (vv 0) (vv 1) (iv 25) (iv 26) (iv 27) (iv 28) (fl 5) (fl 14) (b_h0_loaded) (b_wa_globalCount) p0, ⟨rfl, rfl, hPc, hK.sub [45, 95] rfl, hDc.weaken (fun _ _ _ _ => trivial), hSW.narrow hFc⟩, fun o t hvm hq => ?_, hFc⟩
  obtain ⟨⟨r, u, rfl, hw, hB⟩, hF⟩ := hq
  obtain ⟨n1, rfl⟩ : ∃ z, z = u := ⟨_, rfl⟩
  try dsimp only at hw
  have xr := hw
  try clear hw
  obtain ⟨hP1, hK1, hD1⟩ := hB
  obtain ⟨w9, ew9, hP3, hD3⟩ := va_zsE (w1 := [(h0, .inr (0, [.ref (ad 0), .ref (ad 1), .ref (ad 2), .int (iv 0), .int (iv 1), .int (iv 2), .int (iv 3), .ref (ad 3), .ref (ad 4), .ref (ad 5), .ref (ad 6), .ref (ad 7), .ref (ad 8), .ref (ad 9)])), ((ad 3), .inr (10, [.ref (ad 12), .ref (ad 13), .int (iv 6), .ref (ad 14), .ref (ad 15), .ref (ad 16), .int (iv 7), .ref (ad 17), .int (iv 8), .long (lv 0), .long (lv 1), .int (iv 9), .ref (ad 18), .ref (ad 19), .ref (ad 20), .ref (ad 21), .int (iv 10), .ref (ad 22), .ref (ad 23), .ref (ad 24), .ref (ad 25)])), ((ad 9), .inr (4, [.int (iv 22), .int (iv 23), .int (iv 24), .ref (ad 58), (vv 0), (vv 1), .ref (ad 59), .ref (ad 60), .int (iv 25), .ref (ad 61), .ref (ad 62), .ref (ad 63), .ref (ad 64), .int (iv 26), .ref (ad 65), .ref (ad 66), .int (iv 27), .int (iv 28)])), ((ad 58), .inl ((cd 45), 20, .inr (.inl (fl 5)))), (ou, .inl ((cd 95), 1, .inr (.inl n1)))]) hP hD [0, 6, 54, 55, 117] rfl rfl hF.2 hFc ((p2_iff rfl).mp hP1) hD1
  refine ⟨⟨r, (_, (iv 4).toInt, n1 0), rfl, rfl, hP3, ?_, hD3⟩, hF.1, fun q h1 h2 => hF.2 q h1 (fun h => h2 (hFc q h))⟩
  exact ⟨ad, cd, iv, lv, fi, (fun k => if k = 14 then n1 else fl k), vv, sc_sign, gss, gpg, gwg, ew9, va_K.moved hvm hK, b_h0_loaded, b_ta_length, b_ws_typeCount, b_ws_functionCount, b_ws_hasMemory, b_ws_globalCount, b_ws_exportCount, b_wsb_length, b_wsc_length, b_wsc_labelCount, b_ma_pages, b_pr_stepCount, b_pr_open, b_pr_twoSides, b_pr_waitingCount, b_sc_sign, b_sc_place, b_sc_size, b_sc_length, b_sc_at, b_gl_length, b_fu_length, b_pa_length, b_co_localCount, b_co_pendingCount, b_bo_length, b_cs_length, b_se_length, b_kn_length, b_re_sound, b_re_codeCount, b_re_openCount, b_gvlty, b_gvlbh, b_rw_length, b_h0_argumentCount, b_wa_functionCount, b_wa_globalCount, b_ma_steps, b_wab_length, b_vl_sound, b_vl_height, b_vl_depth, b_wac_length, b_ma_reason, b_ma_height, b_ma_frameCount, b_ma_labelCount, b_wa_exportCount, b_wa_typeCount, b_wa_hasMemory, b_wac_labelCount, rfl, rfl, hel, hel2, hmo⟩

section q_n44q03
/-! p5: the class: blocks, labels, accesses -/
def obz (f : Nat → Int32) (a lim oc s2 a2 oc2 p : Int32) (go go2 : Nat → Int32) (va va2 : Nat → Int64) : Prop := (s2.toInt = 1 ∧ a.toInt < lim.toInt ∧ (bn (f a.toNatClampNeg) = 64 ∨ bn (f a.toNatClampNeg) = 127 ∨ bn (f a.toNatClampNeg) = 126) ∧ oc.toInt < 100 ∧ a2.toInt = a.toInt + 1 ∧ oc2.toInt = oc.toInt + 1 ∧ go2 = upd go oc.toNatClampNeg p ∧ ∃ v : Int64, v.toInt = (bn (f a.toNatClampNeg) : Int) ∧ va2 = vp_updL va p.toNatClampNeg v) ∨ (s2.toInt = 0 ∧ ¬ (a.toInt < lim.toInt ∧ (bn (f a.toNatClampNeg) = 64 ∨ bn (f a.toNatClampNeg) = 127 ∨ bn (f a.toNatClampNeg) = 126) ∧ oc.toInt < 100))
theorem ob_0 {f : Nat → Int32} {s a lim s2 a2 r oc : Int32} (h : rn f s a lim s2 a2 r) (hs : s.toInt = 1) (c : ¬ (s2.toInt = 1 ∧ oc.toInt < 100 ∧ (r.toInt = 64 ∨ r.toInt = 127 ∨ r.toInt = 126))) : ¬ (a.toInt < lim.toInt ∧ (bn (f a.toNatClampNeg) = 64 ∨ bn (f a.toNatClampNeg) = 127 ∨ bn (f a.toNatClampNeg) = 126) ∧ oc.toInt < 100) := by
  rcases h with ⟨h1, h2, h3, h4, h5⟩ | ⟨h1, h2, h3, h4⟩
  · (first | (apply Int.le_antisymm <;> omega) | omega)
  · have := h2 hs
    (first | (apply Int.le_antisymm <;> omega) | omega)
theorem ob_1 {f : Nat → Int32} {s a lim s2 a2 r oc : Int32} (h : rn f s a lim s2 a2 r) (c : s2.toInt = 1 ∧ oc.toInt < 100 ∧ (r.toInt = 64 ∨ r.toInt = 127 ∨ r.toInt = 126)) : a.toInt < lim.toInt ∧ (bn (f a.toNatClampNeg) = 64 ∨ bn (f a.toNatClampNeg) = 127 ∨ bn (f a.toNatClampNeg) = 126) ∧ a2.toInt = a.toInt + 1 ∧ r.toInt = (bn (f a.toNatClampNeg) : Int) := by
  rcases h with ⟨h1, h2, h3, h4, h5⟩ | ⟨h1, h2, h3, h4⟩
  · exact ⟨h3, by (first | (apply Int.le_antisymm <;> omega) | omega), h4, h5⟩
  · (first | (apply Int.le_antisymm <;> omega) | omega)
abbrev at_RE_openBlocky (dC : Nat → ClassId) (dI : Nat → Nat → Nat) (h0 aw ac ob ab wat wap wag waf wgt wft wfv wgc wek wei wes wez ax cfi clk clt cop cva cpt cel cla : Nat) (cax cob ccva : ClassId) (h0_limit : Int32) (h0_codeCount : Int32) (aw_typeCount : Int32) (aw_functionCount : Int32) (aw_hasMemory : Int32) (aw_pagesLeast : Int64) (aw_pagesMost : Int64) (aw_globalCount : Int32) (aw_exportCount : Int32) (ab_length : Int32) (ac_length : Int32) (ac_labelCount : Int32) (gax : Nat → Int32) (A : Nat → Prop) (u : (Nat → Int64) × (Nat → Int32) × Int32 × Int32 × Int32) (t : State) : Prop := match u with | (gcva, gob, h0_at, h0_openCount, h0_sound) => va_P (dC, dI) cls (wz_233 h0 aw ac h0_at h0_limit h0_sound h0_codeCount ob h0_openCount aw ab ac aw_typeCount wat wap wag aw_functionCount waf aw_hasMemory aw_pagesLeast aw_pagesMost aw_globalCount wgt wft wfv wgc aw_exportCount wek wei wes wez ab ax ab_length ac cfi clk clt ac_length cop cva cpt cel ac_labelCount cla ax cax gax ob cob gob cva ccva gcva) t.heap ∧ va_K (dC, dI) cls [(cax, .byte), (cob, .int), (ccva, .long)] t ∧ va_D A (wz_233 h0 aw ac h0_at h0_limit h0_sound h0_codeCount ob h0_openCount aw ab ac aw_typeCount wat wap wag aw_functionCount waf aw_hasMemory aw_pagesLeast aw_pagesMost aw_globalCount wgt wft wfv wgc aw_exportCount wek wei wes wez ab ax ab_length ac cfi clk clt ac_length cop cva cpt cel ac_labelCount cla ax cax gax ob cob gob cva ccva gcva)
set_option maxHeartbeats 4000000 in
set_option maxRecDepth 100000 in
theorem c_RE_openBlocky (l : Launch) (dC : Nat → ClassId) (dI : Nat → Nat → Nat) (sz : Nat) (h0 aw ac ob ab wat wap wag waf wgt wft wfv wgc wek wei wes wez ax cfi clk clt cop cva cpt cel cla : Nat) (cax cob ccva : ClassId) (h0_at : Int32) (h0_limit : Int32) (h0_sound : Int32) (h0_codeCount : Int32) (h0_openCount : Int32) (aw_typeCount : Int32) (aw_functionCount : Int32) (aw_hasMemory : Int32) (aw_pagesLeast : Int64) (aw_pagesMost : Int64) (aw_globalCount : Int32) (aw_exportCount : Int32) (ab_length : Int32) (ac_length : Int32) (ac_labelCount : Int32) (gax : Nat → Int32) (gob : Nat → Int32) (gcva : Nat → Int64)  (b_h0_sound : h0_sound = 0 ∨ h0_sound = 1) (b_h0_openCount : 0 ≤ h0_openCount.toInt ∧ h0_openCount.toInt ≤ 100) (p0 : Int32)  (ha : 0 ≤ h0_at.toInt ∧ h0_at.toInt ≤ h0_limit.toInt ∧ h0_limit.toInt ≤ ab_length.toInt ∧ ab_length.toInt ≤ 8192) (hs : h0_sound.toInt = 1) (hp : 0 ≤ p0.toInt ∧ p0.toInt < 5000) : Met l y_RE_openBlock w_RE_openBlock ({ frames := 1, cells := 0, slots := 0, locals := 20 }) (va_Pc [.ref h0, .int p0] (fun U => U.heap.size = sz ∧ va_P (dC, dI) cls (wz_233 h0 aw ac h0_at h0_limit h0_sound h0_codeCount ob h0_openCount aw ab ac aw_typeCount wat wap wag aw_functionCount waf aw_hasMemory aw_pagesLeast aw_pagesMost aw_globalCount wgt wft wfv wgc aw_exportCount wek wei wes wez ab ax ab_length ac cfi clk clt ac_length cop cva cpt cel ac_labelCount cla ax cax gax ob cob gob cva ccva gcva) U.heap ∧ va_K (dC, dI) cls [(cax, .byte), (cob, .int), (ccva, .long)] U ∧ va_D (fun _ => True) (wz_233 h0 aw ac h0_at h0_limit h0_sound h0_codeCount ob h0_openCount aw ab ac aw_typeCount wat wap wag aw_functionCount waf aw_hasMemory aw_pagesLeast aw_pagesMost aw_globalCount wgt wft wfv wgc aw_exportCount wek wei wes wez ab ax ab_length ac cfi clk clt ac_length cop cva cpt cel ac_labelCount cla ax cax gax ob cob gob cva ccva gcva))) (va_Qv (fun (u : (Nat → Int64) × (Nat → Int32) × Int32 × Int32 × Int32) => match u with | (gcva2, gob2, h0_at2, h0_openCount2, h0_sound2) => (0 ≤ h0_openCount2.toInt ∧ h0_openCount2.toInt ≤ 100) ∧ (h0_sound2 = 0 ∨ h0_sound2 = 1) ∧ ((h0_at.toInt ≤ h0_at2.toInt ∧ h0_at2.toInt ≤ h0_limit.toInt) ∧ obz gax h0_at h0_limit h0_openCount h0_sound2 h0_at2 h0_openCount2 p0 gob gob2 gcva gcva2)) (at_RE_openBlocky dC dI h0 aw ac ob ab wat wap wag waf wgt wft wfv wgc wek wei wes wez ax cfi clk clt cop cva cpt cel cla cax cob ccva h0_limit h0_codeCount aw_typeCount aw_functionCount aw_hasMemory aw_pagesLeast aw_pagesMost aw_globalCount aw_exportCount ab_length ac_length ac_labelCount gax (va_A (wz_233 h0 aw ac h0_at h0_limit h0_sound h0_codeCount ob h0_openCount aw ab ac aw_typeCount wat wap wag aw_functionCount waf aw_hasMemory aw_pagesLeast aw_pagesMost aw_globalCount wgt wft wfv wgc aw_exportCount wek wei wes wez ab ax ab_length ac cfi clk clt ac_length cop cva cpt cel ac_labelCount cla ax cax gax ob cob gob cva ccva gcva) sz)) (va_A (wz_233 h0 aw ac h0_at h0_limit h0_sound h0_codeCount ob h0_openCount aw ab ac aw_typeCount wat wap wag aw_functionCount waf aw_hasMemory aw_pagesLeast aw_pagesMost aw_globalCount wgt wft wfv wgc aw_exportCount wek wei wes wez ab ax ab_length ac cfi clk clt ac_length cop cva cpt cel ac_labelCount cla ax cax gax ob cob gob cva ccva gcva) sz)) 0 0 (va_A (wz_233 h0 aw ac h0_at h0_limit h0_sound h0_codeCount ob h0_openCount aw ab ac aw_typeCount wat wap wag aw_functionCount waf aw_hasMemory aw_pagesLeast aw_pagesMost aw_globalCount wgt wft wfv wgc aw_exportCount wek wei wes wez ab ax ab_length ac cfi clk clt ac_length cop cva cpt cel ac_labelCount cla ax cax gax ob cob gob cva ccva gcva) sz) := by
  refine Met.ofW (cc := b_RE_openBlock) (maxL := 3) (ret := none) (by decide) rfl ?_
  intro p e s m args below meth c s₁ B hml hv
  obtain ⟨rfl, hsz, hP, hK, hD0⟩ := hv
  have hx := B.exec
  have hb := B.bytes
  have hr := B.returns
  have hts0 := atoms_spec (ws := w_RE_openBlock) B.pre
  have hts : ∀ w ∈ lw_g, w.before _ s = true := fun w h => hts0 w (List.mem_cons_of_mem _ h)
  have hown : s.vm.findClass R_RE = some m.cls := findClass_of_methodNamed B.named
  have hlocks := B.notSynchronized
  clear hts0
  subst hsz
  have hD := hD0.self (sz := s.heap.size)
  generalize hAe : va_A (wz_233 h0 aw ac h0_at h0_limit h0_sound h0_codeCount ob h0_openCount aw ab ac aw_typeCount wat wap wag aw_functionCount waf aw_hasMemory aw_pagesLeast aw_pagesMost aw_globalCount wgt wft wfv wgc aw_exportCount wek wei wes wez ab ax ab_length ac cfi clk clt ac_length cop cva cpt cel ac_labelCount cla ax cax gax ob cob gob cva ccva gcva) s.heap.size = A at hD ⊢
  have hA : ∀ q : Nat, s.heap.size ≤ q → A q := fun q h => by rw [← hAe]; exact Or.inr h
  clear hAe
  have hP : va_P (dC, dI) cls (wz_233 h0 aw ac h0_at h0_limit h0_sound h0_codeCount ob h0_openCount aw ab ac aw_typeCount wat wap wag aw_functionCount waf aw_hasMemory aw_pagesLeast aw_pagesMost aw_globalCount wgt wft wfv wgc aw_exportCount wek wei wes wez ab ax ab_length ac cfi clk clt ac_length cop cva cpt cel ac_labelCount cla ax cax gax ob cob gob cva ccva gcva) s.heap := hP
  have hl := lv_entry ([.ref h0, .int p0]) (n := 3) (Nat.le_of_ble_eq_true rfl)
  rw [lg_entry_eq]
  generalize (lg_sl ([.ref h0, .int p0]) ++ List.replicate (3 - (lg_sl ([.ref h0, .int p0])).length) Slot.unset).toArray = ls at hl ⊢
  have hl : lv_has ls 3 [(0, .ref h0), (1, .int p0)] := hl
  have k0 : (0 : Int32).toInt = 0 := by decide
  refine w_gen (A := A) hP (fun H locs hP hS => ?_)
  have k1 : (1 : Int32).toInt = 1 := by decide
  have k64 : (64 : Int32).toInt = 64 := by decide
  have k100 : (100 : Int32).toInt = 100 := by decide
  have k126 : (126 : Int32).toInt = 126 := by decide
  have k127 : (127 : Int32).toInt = 127 := by decide
  have lo_p0 := i32_lo p0
  have hi_p0 := i32_hi p0
  have th0_sound := b01 b_h0_sound
  refine lv_aload_n hx hb d_RE_openBlock_0 rfl (lv_at hl 0 rfl) ?_
  have hPc := hP.sb (wq := (wz_46 h0 aw ac h0_at h0_limit h0_sound h0_codeCount ob h0_openCount aw ab ac aw_typeCount wat wap wag aw_functionCount waf aw_hasMemory aw_pagesLeast aw_pagesMost aw_globalCount wgt wft wfv wgc aw_exportCount wek wei wes wez ab ax ab_length ax cax gax)) [0, 1, 2, 4] rfl
  have hDc := hD.sb (wq := (wz_46 h0 aw ac h0_at h0_limit h0_sound h0_codeCount ob h0_openCount aw ab ac aw_typeCount wat wap wag aw_functionCount waf aw_hasMemory aw_pagesLeast aw_pagesMost aw_globalCount wgt wft wfv wgc aw_exportCount wek wei wes wez ab ax ab_length ax cax gax)) [0, 1, 2, 4] (by decide) rfl
  have hKc := hK.sb (tyq := [(cax, .byte)]) [0] rfl
  have hFc := va_free (wc := (wz_46 h0 aw ac h0_at h0_limit h0_sound h0_codeCount ob h0_openCount aw ab ac aw_typeCount wat wap wag aw_functionCount waf aw_hasMemory aw_pagesLeast aw_pagesMost aw_globalCount wgt wft wfv wgc aw_exportCount wek wei wes wez ab ax ab_length ax cax gax)) hD hS hA [0, 1, 2, 4] rfl
  refine va_calli (va_runV (As := []) (rest := []) ⟨hx, hb, hml, hown, hts⟩ (c_RE_nexty l dC dI H.size h0 aw ac ob ab wat wap wag waf wgt wft wfv wgc wek wei wes wez ax cax h0_at h0_limit h0_sound h0_codeCount h0_openCount aw_typeCount aw_functionCount aw_hasMemory aw_pagesLeast aw_pagesMost aw_globalCount aw_exportCount ab_length gax (b_h0_sound) (by (try dsimp only) <;> (first | (apply Int.le_antisymm <;> omega) | omega))) (cwV 0 hts (gV kM_RE_60 kV_RE_next kS_RE_next kI_RE kC_RE_next) rfl rfl rfl (by decide +kernel) ⟨Nat.le_of_ble_eq_true rfl, Nat.le_of_ble_eq_true rfl⟩) ⟨fun a U g mk z => by obtain ⟨z0, z1, zP, zK, zD⟩ := z; exact ⟨z0, z1, zP, va_K.moved (u := U) (U := U.calling g mk a) (Vm.Alike.refl U.vm) zK, zD⟩, va_recv hKc hPc (ci := 7) (q0 := 0) rfl rfl, fun U hU hW => ⟨rfl, by rw [hU], va_P.he hU.symm hPc, va_K.moved hW.alike hKc, hDc.weaken (fun _ _ _ _ => trivial)⟩⟩ rfl rfl hl.1 rfl (lv_room (Nat.le_of_ble_eq_true rfl)) d_RE_openBlock_1 ⟨(Nat.zero_le _), (Nat.zero_le _)⟩) hS (fun q _ h => hFc q h) hFc (fun r1 u t H1 locs ht hvm hw hB hz1 hk1 hS => ?_)
  obtain ⟨n2, n3⟩ := u
  try dsimp only at hw
  obtain ⟨br1, bn3, xr1⟩ := hw
  try clear hw
  have tn3 := b01 bn3
  obtain ⟨hP1, hK1, hD1⟩ := hB
  replace hP1 := va_P.he ht hP1
  obtain ⟨hP, hD⟩ := va_join (wr := [(ac, .inr (3, [.ref cfi, .ref clk, .ref clt, .int ac_length, .ref cop, .ref cva, .ref cpt, .ref cel, .int ac_labelCount, .ref cla])), (ob, .inl (cob, 100, .inl gob)), (cva, .inl (ccva, 5000, .inr (.inl gcva)))]) (w1 := (wz_46 h0 aw ac n2 h0_limit n3 h0_codeCount ob h0_openCount aw ab ac aw_typeCount wat wap wag aw_functionCount waf aw_hasMemory aw_pagesLeast aw_pagesMost aw_globalCount wgt wft wfv wgc aw_exportCount wek wei wes wez ab ax ab_length ax cax gax)) hP hD [0, 1, 2, 4] [3, 5, 6] rfl rfl (by decide) (by decide) hk1 hFc hP1 hD1
  clear hPc hDc hKc hFc hz1 hk1 hP1 hK1 hD1
  rename Heap => H
  have hP : va_P (dC, dI) cls (wz_234 ac cfi clk clt ac_length cop cva cpt cel ac_labelCount cla ob cob gob cva ccva gcva h0 aw ac n2 h0_limit n3 h0_codeCount ob h0_openCount aw ab ac aw_typeCount wat wap wag aw_functionCount waf aw_hasMemory aw_pagesLeast aw_pagesMost aw_globalCount wgt wft wfv wgc aw_exportCount wek wei wes wez ab ax ab_length ax cax gax) H := hP
  have hD : va_D A (wz_234 ac cfi clk clt ac_length cop cva cpt cel ac_labelCount cla ob cob gob cva ccva gcva h0 aw ac n2 h0_limit n3 h0_codeCount ob h0_openCount aw ab ac aw_typeCount wat wap wag aw_functionCount waf aw_hasMemory aw_pagesLeast aw_pagesMost aw_globalCount wgt wft wfv wgc aw_exportCount wek wei wes wez ab ax ab_length ax cax gax) := hD
  refine lv_istore_n (lv' := [(2, .int r1), (0, .ref h0), (1, .int p0)]) hx hb d_RE_openBlock_4 rfl hl (by decide) rfl (fun ls hl => ?_)
  refine lv_aload_n hx hb d_RE_openBlock_5 rfl (lv_at hl 1 rfl) ?_
  refine lv_aload_n hx hb d_RE_openBlock_6 rfl (lv_at hl 1 rfl) ?_
  refine va_get (D := (dC, dI)) (ci := 7) (v := .int n3) (C := R_RE) (T := F_RE) (N := 8) hx hb hts i_RE hown hK hP 3 rfl rfl 4 (by decide) (hts _ kF_RE_45) (fun _ h9 => h9) rfl d_RE_openBlock_7 ?_
  refine w_cut (pc2 := 45) (σ := Int32) (fun u H locs ls => match u with | j45_s0 => (j45_s0 = 0 ∨ j45_s0 = 1) ∧ ((j45_s0.toInt = 1 ∧ n3.toInt = 1 ∧ h0_openCount.toInt < 100 ∧ (r1.toInt = 64 ∨ r1.toInt = 127 ∨ r1.toInt = 126)) ∨ (j45_s0.toInt = 0 ∧ ¬ (n3.toInt = 1 ∧ h0_openCount.toInt < 100 ∧ (r1.toInt = 64 ∨ r1.toInt = 127 ∨ r1.toInt = 126)))) ∧ va_P (dC, dI) cls (wz_234 ac cfi clk clt ac_length cop cva cpt cel ac_labelCount cla ob cob gob cva ccva gcva h0 aw ac n2 h0_limit n3 h0_codeCount ob h0_openCount aw ab ac aw_typeCount wat wap wag aw_functionCount waf aw_hasMemory aw_pagesLeast aw_pagesMost aw_globalCount wgt wft wfv wgc aw_exportCount wek wei wes wez ab ax ab_length ax cax gax) H ∧ va_D A (wz_234 ac cfi clk clt ac_length cop cva cpt cel ac_labelCount cla ob cob gob cva ccva gcva h0 aw ac n2 h0_limit n3 h0_codeCount ob h0_openCount aw ab ac aw_typeCount wat wap wag aw_functionCount waf aw_hasMemory aw_pagesLeast aw_pagesMost aw_globalCount wgt wft wfv wgc aw_exportCount wek wei wes wez ab ax ab_length ax cax gax) ∧ va_S A s.heap H locs ∧ lv_has ls 3 [(0, .ref h0), (1, .int p0), (2, .int r1)]) (fun u => match u with | j45_s0 => [.int j45_s0, .ref h0]) ?_ (fun jn45 => ?_)
  · intro u H locs ls hI
    obtain ⟨j45_s0, rfl⟩ : ∃ z, z = u := ⟨_, rfl⟩
    obtain ⟨b_j45_s0, y45, hP, hD, hS, hl⟩ := hI
    have tj45_s0 := b01 b_j45_s0
    refine va_put (D := (dC, dI)) (ci := 7) (v := .int j45_s0) (ty := .boolean) (C := R_RE) (T := F_RE) (N := 8) hx hb hts i_RE t_RE t_RE_ok n_RE hown hK hP hD hS 3 rfl rfl 4 (by decide) (hts _ kF_RE_45) (fun _ h9 => h9) rfl (by decide +kernel) (zn01 (b_j45_s0)) (fz01 (b_j45_s0)) (Nat.le_of_ble_eq_true rfl) d_RE_openBlock_45 (fun H locs hP hD hS => ?_)
    refine lv_aload_n hx hb d_RE_openBlock_48 rfl (lv_at hl 0 rfl) ?_
    refine va_get (D := (dC, dI)) (ci := 7) (v := .int j45_s0) (C := R_RE) (T := F_RE) (N := 8) hx hb hts i_RE hown hK hP 3 rfl rfl 4 (by decide) (hts _ kF_RE_45) (fun _ h9 => h9) rfl d_RE_openBlock_49 ?_
    refine lv_if_eq (tgt := 83) hx hb d_RE_openBlock_52 (by decide) (fun c52 => ?_) (fun c52 => ?_)
    · have q52 := eqI c52
      have hP9 := hP.sb (wq := (wz_233 h0 aw ac n2 h0_limit j45_s0 h0_codeCount ob h0_openCount aw ab ac aw_typeCount wat wap wag aw_functionCount waf aw_hasMemory aw_pagesLeast aw_pagesMost aw_globalCount wgt wft wfv wgc aw_exportCount wek wei wes wez ab ax ab_length ac cfi clk clt ac_length cop cva cpt cel ac_labelCount cla ax cax gax ob cob gob cva ccva gcva)) [3, 4, 5, 0, 6, 1, 2] rfl
      have hD9 := hD.sb (wq := (wz_233 h0 aw ac n2 h0_limit j45_s0 h0_codeCount ob h0_openCount aw ab ac aw_typeCount wat wap wag aw_functionCount waf aw_hasMemory aw_pagesLeast aw_pagesMost aw_globalCount wgt wft wfv wgc aw_exportCount wek wei wes wez ab ax ab_length ac cfi clk clt ac_length cop cva cpt cel ac_labelCount cla ax cax gax ob cob gob cva ccva gcva)) [3, 4, 5, 0, 6, 1, 2] (by decide) rfl
      exact W.vret hx hb hr (fun t ht hW => ⟨⟨(gcva, gob, n2, h0_openCount, j45_s0), rfl, ⟨b_h0_openCount, b_j45_s0, ⟨⟨by (try dsimp only) <;> (first | (apply Int.le_antisymm <;> omega) | omega), by (try dsimp only) <;> (first | (apply Int.le_antisymm <;> omega) | omega)⟩, Or.inr ⟨by (try dsimp only) <;> (first | (apply Int.le_antisymm <;> omega) | omega), ob_0 xr1.2 hs (by (first | (apply Int.le_antisymm <;> omega) | omega))⟩⟩⟩, va_P.he ht.symm hP9, va_K.moved hW.alike hK, hD9⟩, hS.F ht⟩) hS.2.2 d_RE_openBlock_83
    · have q52 := neI c52
      have ob9 := ob_1 xr1.2 (oc := h0_openCount) (by (first | (apply Int.le_antisymm <;> omega) | omega))
      refine lv_aload_n hx hb d_RE_openBlock_55 rfl (lv_at hl 0 rfl) ?_
      refine va_get (D := (dC, dI)) (ci := 7) (v := .ref ac) (C := R_RE) (T := F_RE) (N := 8) hx hb hts i_RE hown hK hP 3 rfl rfl 1 (by decide) (hts _ kF_RE_25) (fun _ h9 => h9) rfl d_RE_openBlock_56 ?_
      refine va_get (D := (dC, dI)) (ci := 3) (v := .ref cva) (C := R_CD) (T := F_CD) (N := 10) hx hb hts i_CD hown hK hP 0 rfl rfl 5 (by decide) (hts _ kF_RE_197) (fun _ h9 => h9) rfl d_RE_openBlock_59 ?_
      refine lv_iload_n hx hb d_RE_openBlock_62 rfl (lv_at hl 1 rfl) ?_
      refine lv_iload_n hx hb d_RE_openBlock_63 rfl (lv_at hl 2 rfl) ?_
      refine lv_i2l hx hb d_RE_openBlock_64 rfl ?_
      refine lv_topl (fun x4 ex4 => ?_)
      have tx4 := i2l_t ex4
      have g65 : vp_in p0 5000 := vp_in_iff.mpr ⟨by (first | (apply Int.le_antisymm <;> omega) | omega), by (first | (apply Int.le_antisymm <;> omega) | omega)⟩
      refine va_last hx hb hK hP hD hS 2 2 rfl rfl g65 d_RE_openBlock_65 (fun H locs hP hD hS => ?_)
      generalize ef5 : vp_updL gcva p0.toNatClampNeg x4 = f5 at hP hD
      refine lv_aload_n hx hb d_RE_openBlock_66 rfl (lv_at hl 0 rfl) ?_
      refine va_get (D := (dC, dI)) (ci := 7) (v := .ref ob) (C := R_RE) (T := F_RE) (N := 8) hx hb hts i_RE hown hK hP 3 rfl rfl 6 (by decide) (hts _ kF_RE_9) (fun _ h9 => h9) rfl d_RE_openBlock_67 ?_
      refine lv_aload_n hx hb d_RE_openBlock_70 rfl (lv_at hl 0 rfl) ?_
      refine lv_dup hx hb d_RE_openBlock_71 rfl ?_
      refine va_get (D := (dC, dI)) (ci := 7) (v := .int h0_openCount) (C := R_RE) (T := F_RE) (N := 8) hx hb hts i_RE hown hK hP 3 rfl rfl 7 (by decide) (hts _ kF_RE_179) (fun _ h9 => h9) rfl d_RE_openBlock_72 ?_
      refine lv_dup_x1 hx hb d_RE_openBlock_75 rfl rfl ?_
      refine lv_iconst (v := 1) hx hb d_RE_openBlock_76 (by decide) ?_
      refine lv_iadd hx hb d_RE_openBlock_77 ?_
      refine lv_topi (fun x6 ex6 => ?_)
      have tx6 : x6.toInt = h0_openCount.toInt + 1 := by have z := i32_add ex6 (by (first | (apply Int.le_antisymm <;> omega) | omega)) (by (first | (apply Int.le_antisymm <;> omega) | omega)); first | exact z | (first | (apply Int.le_antisymm <;> omega) | omega)
      refine va_put (D := (dC, dI)) (ci := 7) (v := .int x6) (ty := .int) (C := R_RE) (T := F_RE) (N := 8) hx hb hts i_RE t_RE t_RE_ok n_RE hown hK hP hD hS 3 rfl rfl 7 (by decide) (hts _ kF_RE_179) (fun _ h9 => h9) rfl (by decide +kernel) rfl rfl (Nat.le_of_ble_eq_true rfl) d_RE_openBlock_78 (fun H locs hP hD hS => ?_)
      refine lv_iload_n hx hb d_RE_openBlock_81 rfl (lv_at hl 1 rfl) ?_
      have g82 : vp_in h0_openCount 100 := vp_in_iff.mpr ⟨by (first | (apply Int.le_antisymm <;> omega) | omega), by (first | (apply Int.le_antisymm <;> omega) | omega)⟩
      refine va_iast hx hb hK hP hD hS 1 1 rfl rfl g82 d_RE_openBlock_82 (fun H locs hP hD hS => ?_)
      generalize ef7 : upd gob h0_openCount.toNatClampNeg p0 = f7 at hP hD
      have hP9 := hP.sb (wq := (wz_233 h0 aw ac n2 h0_limit j45_s0 h0_codeCount ob x6 aw ab ac aw_typeCount wat wap wag aw_functionCount waf aw_hasMemory aw_pagesLeast aw_pagesMost aw_globalCount wgt wft wfv wgc aw_exportCount wek wei wes wez ab ax ab_length ac cfi clk clt ac_length cop cva cpt cel ac_labelCount cla ax cax gax ob cob f7 cva ccva f5)) [3, 4, 5, 0, 6, 1, 2] rfl
      have hD9 := hD.sb (wq := (wz_233 h0 aw ac n2 h0_limit j45_s0 h0_codeCount ob x6 aw ab ac aw_typeCount wat wap wag aw_functionCount waf aw_hasMemory aw_pagesLeast aw_pagesMost aw_globalCount wgt wft wfv wgc aw_exportCount wek wei wes wez ab ax ab_length ac cfi clk clt ac_length cop cva cpt cel ac_labelCount cla ax cax gax ob cob f7 cva ccva f5)) [3, 4, 5, 0, 6, 1, 2] (by decide) rfl
      exact W.vret hx hb hr (fun t ht hW => ⟨⟨(f5, f7, n2, x6, j45_s0), rfl, ⟨by (try dsimp only) <;> (first | (apply Int.le_antisymm <;> omega) | omega), b_j45_s0, ⟨⟨by (try dsimp only) <;> (first | (apply Int.le_antisymm <;> omega) | omega), by (try dsimp only) <;> (first | (apply Int.le_antisymm <;> omega) | omega)⟩, Or.inl ⟨by (try dsimp only) <;> (first | (apply Int.le_antisymm <;> omega) | omega), ob9.1, ob9.2.1, by (first | (apply Int.le_antisymm <;> omega) | omega), ob9.2.2.1, by (try dsimp only) <;> (first | (apply Int.le_antisymm <;> omega) | omega), by rw [← ef7], x4, by (first | (apply Int.le_antisymm <;> omega) | omega), by rw [← ef5]⟩⟩⟩, va_P.he ht.symm hP9, va_K.moved hW.alike hK, hD9⟩, hS.F ht⟩) hS.2.2 d_RE_openBlock_83
  · skip
    refine w_cut (pc2 := 44) (σ := Unit) (fun u H locs ls => match u with | _ => (¬ (n3.toInt = 1 ∧ h0_openCount.toInt < 100 ∧ (r1.toInt = 64 ∨ r1.toInt = 127 ∨ r1.toInt = 126))) ∧ va_P (dC, dI) cls (wz_234 ac cfi clk clt ac_length cop cva cpt cel ac_labelCount cla ob cob gob cva ccva gcva h0 aw ac n2 h0_limit n3 h0_codeCount ob h0_openCount aw ab ac aw_typeCount wat wap wag aw_functionCount waf aw_hasMemory aw_pagesLeast aw_pagesMost aw_globalCount wgt wft wfv wgc aw_exportCount wek wei wes wez ab ax ab_length ax cax gax) H ∧ va_D A (wz_234 ac cfi clk clt ac_length cop cva cpt cel ac_labelCount cla ob cob gob cva ccva gcva h0 aw ac n2 h0_limit n3 h0_codeCount ob h0_openCount aw ab ac aw_typeCount wat wap wag aw_functionCount waf aw_hasMemory aw_pagesLeast aw_pagesMost aw_globalCount wgt wft wfv wgc aw_exportCount wek wei wes wez ab ax ab_length ax cax gax) ∧ va_S A s.heap H locs ∧ lv_has ls 3 [(0, .ref h0), (1, .int p0), (2, .int r1)]) (fun u => match u with | _ => [.ref h0]) ?_ (fun jn44 => ?_)
    · intro u H locs ls hI
      obtain ⟨y44, hP, hD, hS, hl⟩ := hI
      refine lv_iconst (v := 0) hx hb d_RE_openBlock_44 (by decide) ?_
      exact jn45 0 _ _ _ ⟨Or.inl rfl, by (try dsimp only) <;> (first | (apply Int.le_antisymm <;> omega) | omega), hP, hD, hS, lv_sub hl [0, 1, 2] rfl⟩
    · skip
      refine lv_if_eq (tgt := 44) hx hb d_RE_openBlock_10 (by decide) (fun c10 => ?_) (fun c10 => ?_)
      · have q10 := eqI c10
        exact jn44 () _ _ _ ⟨by (try dsimp only) <;> (first | (apply Int.le_antisymm <;> omega) | omega), hP, hD, hS, lv_sub hl [1, 2, 0] rfl⟩
      · have q10 := neI c10
        refine lv_aload_n hx hb d_RE_openBlock_13 rfl (lv_at hl 1 rfl) ?_
        refine va_get (D := (dC, dI)) (ci := 7) (v := .int h0_openCount) (C := R_RE) (T := F_RE) (N := 8) hx hb hts i_RE hown hK hP 3 rfl rfl 7 (by decide) (hts _ kF_RE_179) (fun _ h9 => h9) rfl d_RE_openBlock_14 ?_
        refine lv_bipush (v := 100) hx hb d_RE_openBlock_17 (by decide) ?_
        refine lv_icmp_ge (tgt := 44) hx hb d_RE_openBlock_19 (by decide) (fun c19 => ?_) (fun c19 => ?_)
        · have q19 := leI c19
          exact jn44 () _ _ _ ⟨by (try dsimp only) <;> (first | (apply Int.le_antisymm <;> omega) | omega), hP, hD, hS, lv_sub hl [1, 2, 0] rfl⟩
        · have q19 := nleI c19
          refine lv_iload_n hx hb d_RE_openBlock_22 rfl (lv_at hl 0 rfl) ?_
          refine lv_bipush (v := 64) hx hb d_RE_openBlock_23 (by decide) ?_
          refine w_cut (pc2 := 40) (σ := Unit) (fun u H locs ls => match u with | _ => (n3.toInt = 1 ∧ h0_openCount.toInt < 100 ∧ (r1.toInt = 64 ∨ r1.toInt = 127 ∨ r1.toInt = 126)) ∧ va_P (dC, dI) cls (wz_234 ac cfi clk clt ac_length cop cva cpt cel ac_labelCount cla ob cob gob cva ccva gcva h0 aw ac n2 h0_limit n3 h0_codeCount ob h0_openCount aw ab ac aw_typeCount wat wap wag aw_functionCount waf aw_hasMemory aw_pagesLeast aw_pagesMost aw_globalCount wgt wft wfv wgc aw_exportCount wek wei wes wez ab ax ab_length ax cax gax) H ∧ va_D A (wz_234 ac cfi clk clt ac_length cop cva cpt cel ac_labelCount cla ob cob gob cva ccva gcva h0 aw ac n2 h0_limit n3 h0_codeCount ob h0_openCount aw ab ac aw_typeCount wat wap wag aw_functionCount waf aw_hasMemory aw_pagesLeast aw_pagesMost aw_globalCount wgt wft wfv wgc aw_exportCount wek wei wes wez ab ax ab_length ax cax gax) ∧ va_S A s.heap H locs ∧ lv_has ls 3 [(0, .ref h0), (1, .int p0), (2, .int r1)]) (fun u => match u with | _ => [.ref h0]) ?_ (fun jn40 => ?_)
          · intro u H locs ls hI
            obtain ⟨y40, hP, hD, hS, hl⟩ := hI
            refine lv_iconst (v := 1) hx hb d_RE_openBlock_40 (by decide) ?_
            refine lv_goto (tgt := 45) hx hb d_RE_openBlock_41 (by decide) ?_
            exact jn45 1 _ _ _ ⟨Or.inr rfl, by (try dsimp only) <;> (first | (apply Int.le_antisymm <;> omega) | omega), hP, hD, hS, lv_sub hl [0, 1, 2] rfl⟩
          · skip
            refine lv_icmp_eq (tgt := 40) hx hb d_RE_openBlock_25 (by decide) (fun c25 => ?_) (fun c25 => ?_)
            · have q25 := eqI c25
              exact jn40 () _ _ _ ⟨by (try dsimp only) <;> (first | (apply Int.le_antisymm <;> omega) | omega), hP, hD, hS, lv_sub hl [1, 2, 0] rfl⟩
            · have q25 := neI c25
              refine lv_iload_n hx hb d_RE_openBlock_28 rfl (lv_at hl 0 rfl) ?_
              refine lv_bipush (v := 127) hx hb d_RE_openBlock_29 (by decide) ?_
              refine lv_icmp_eq (tgt := 40) hx hb d_RE_openBlock_31 (by decide) (fun c31 => ?_) (fun c31 => ?_)
              · have q31 := eqI c31
                exact jn40 () _ _ _ ⟨by (try dsimp only) <;> (first | (apply Int.le_antisymm <;> omega) | omega), hP, hD, hS, lv_sub hl [1, 2, 0] rfl⟩
              · have q31 := neI c31
                refine lv_iload_n hx hb d_RE_openBlock_34 rfl (lv_at hl 0 rfl) ?_
                refine lv_bipush (v := 126) hx hb d_RE_openBlock_35 (by decide) ?_
                refine lv_icmp_ne (tgt := 44) hx hb d_RE_openBlock_37 (by decide) (fun c37 => ?_) (fun c37 => ?_)
                · have q37 := neI c37
                  exact jn44 () _ _ _ ⟨by (try dsimp only) <;> (first | (apply Int.le_antisymm <;> omega) | omega), hP, hD, hS, lv_sub hl [1, 2, 0] rfl⟩
                · have q37 := eqI c37
                  exact jn40 () _ _ _ ⟨by (try dsimp only) <;> (first | (apply Int.le_antisymm <;> omega) | omega), hP, hD, hS, lv_sub hl [1, 2, 0] rfl⟩
def tez (oc s2 p : Int32) (go op el el2 : Nat → Int32) : Prop := (s2.toInt = 1 ∧ 0 < oc.toInt ∧ (op (go (oc.toNatClampNeg - 1)).toNatClampNeg).toInt = 4 ∧ (el (go (oc.toNatClampNeg - 1)).toNatClampNeg).toInt < 0 ∧ el2 = upd el (go (oc.toNatClampNeg - 1)).toNatClampNeg p) ∨ (s2.toInt = 0 ∧ ¬ (0 < oc.toInt ∧ (op (go (oc.toNatClampNeg - 1)).toNatClampNeg).toInt = 4 ∧ (el (go (oc.toNatClampNeg - 1)).toNatClampNeg).toInt < 0))
abbrev at_RE_turnToElsey (dC : Nat → ClassId) (dI : Nat → Nat → Nat) (h0 aw ac ob cfi clk clt cop cva cpt cel cla : Nat) (cob ccop ccel : ClassId) (h0_at : Int32) (h0_limit : Int32) (h0_codeCount : Int32) (h0_openCount : Int32) (ac_length : Int32) (ac_labelCount : Int32) (gob : Nat → Int32) (gcop : Nat → Int32) (A : Nat → Prop) (u : (Nat → Int32) × Int32) (t : State) : Prop := match u with | (gcel, h0_sound) => va_P (dC, dI) cls (wz_235 h0 aw ac h0_at h0_limit h0_sound h0_codeCount ob h0_openCount ac cfi clk clt ac_length cop cva cpt cel ac_labelCount cla ob cob gob cop ccop gcop cel ccel gcel) t.heap ∧ va_K (dC, dI) cls [(cob, .int), (ccop, .int), (ccel, .int)] t ∧ va_D A (wz_235 h0 aw ac h0_at h0_limit h0_sound h0_codeCount ob h0_openCount ac cfi clk clt ac_length cop cva cpt cel ac_labelCount cla ob cob gob cop ccop gcop cel ccel gcel)
set_option maxHeartbeats 4000000 in
set_option maxRecDepth 100000 in
theorem c_RE_turnToElsey (l : Launch) (dC : Nat → ClassId) (dI : Nat → Nat → Nat) (sz : Nat) (h0 aw ac ob cfi clk clt cop cva cpt cel cla : Nat) (cob ccop ccel : ClassId) (h0_at : Int32) (h0_limit : Int32) (h0_sound : Int32) (h0_codeCount : Int32) (h0_openCount : Int32) (ac_length : Int32) (ac_labelCount : Int32) (gob : Nat → Int32) (gcop : Nat → Int32) (gcel : Nat → Int32)  (b_h0_sound : h0_sound = 0 ∨ h0_sound = 1) (b_h0_openCount : 0 ≤ h0_openCount.toInt ∧ h0_openCount.toInt ≤ 100) (p0 : Int32)  (hp : 0 ≤ p0.toInt ∧ p0.toInt < 5000) (hgo : bx (∀ j : Nat, (j : Int) < h0_openCount.toInt → 0 ≤ (gob j).toInt ∧ (gob j).toInt < 5000)) : Met l y_RE_turnToElse w_RE_turnToElse ({ frames := 0, cells := 0, slots := 0, locals := 0 }) (va_Pc [.ref h0, .int p0] (fun U => U.heap.size = sz ∧ va_P (dC, dI) cls (wz_235 h0 aw ac h0_at h0_limit h0_sound h0_codeCount ob h0_openCount ac cfi clk clt ac_length cop cva cpt cel ac_labelCount cla ob cob gob cop ccop gcop cel ccel gcel) U.heap ∧ va_K (dC, dI) cls [(cob, .int), (ccop, .int), (ccel, .int)] U ∧ va_D (fun _ => True) (wz_235 h0 aw ac h0_at h0_limit h0_sound h0_codeCount ob h0_openCount ac cfi clk clt ac_length cop cva cpt cel ac_labelCount cla ob cob gob cop ccop gcop cel ccel gcel))) (va_Qv (fun (u : (Nat → Int32) × Int32) => match u with | (gcel2, h0_sound2) => (h0_sound2 = 0 ∨ h0_sound2 = 1) ∧ (tez h0_openCount h0_sound2 p0 gob gcop gcel gcel2)) (at_RE_turnToElsey dC dI h0 aw ac ob cfi clk clt cop cva cpt cel cla cob ccop ccel h0_at h0_limit h0_codeCount h0_openCount ac_length ac_labelCount gob gcop (va_A (wz_235 h0 aw ac h0_at h0_limit h0_sound h0_codeCount ob h0_openCount ac cfi clk clt ac_length cop cva cpt cel ac_labelCount cla ob cob gob cop ccop gcop cel ccel gcel) sz)) (va_A (wz_235 h0 aw ac h0_at h0_limit h0_sound h0_codeCount ob h0_openCount ac cfi clk clt ac_length cop cva cpt cel ac_labelCount cla ob cob gob cop ccop gcop cel ccel gcel) sz)) 0 0 (va_A (wz_235 h0 aw ac h0_at h0_limit h0_sound h0_codeCount ob h0_openCount ac cfi clk clt ac_length cop cva cpt cel ac_labelCount cla ob cob gob cop ccop gcop cel ccel gcel) sz) := by
  refine Met.ofW (cc := b_RE_turnToElse) (maxL := 3) (ret := none) (by decide) rfl ?_
  intro p e s m args below meth c s₁ B hml hv
  obtain ⟨rfl, hsz, hP, hK, hD0⟩ := hv
  have hx := B.exec
  have hb := B.bytes
  have hr := B.returns
  have hts0 := atoms_spec (ws := w_RE_turnToElse) B.pre
  have hts : ∀ w ∈ lw_g, w.before _ s = true := fun w h => hts0 w (List.mem_cons_of_mem _ h)
  have hown : s.vm.findClass R_RE = some m.cls := findClass_of_methodNamed B.named
  have hlocks := B.notSynchronized
  clear hts0
  subst hsz
  have hD := hD0.self (sz := s.heap.size)
  generalize hAe : va_A (wz_235 h0 aw ac h0_at h0_limit h0_sound h0_codeCount ob h0_openCount ac cfi clk clt ac_length cop cva cpt cel ac_labelCount cla ob cob gob cop ccop gcop cel ccel gcel) s.heap.size = A at hD ⊢
  have hA : ∀ q : Nat, s.heap.size ≤ q → A q := fun q h => by rw [← hAe]; exact Or.inr h
  clear hAe
  have hP : va_P (dC, dI) cls (wz_235 h0 aw ac h0_at h0_limit h0_sound h0_codeCount ob h0_openCount ac cfi clk clt ac_length cop cva cpt cel ac_labelCount cla ob cob gob cop ccop gcop cel ccel gcel) s.heap := hP
  have hl := lv_entry ([.ref h0, .int p0]) (n := 3) (Nat.le_of_ble_eq_true rfl)
  rw [lg_entry_eq]
  generalize (lg_sl ([.ref h0, .int p0]) ++ List.replicate (3 - (lg_sl ([.ref h0, .int p0])).length) Slot.unset).toArray = ls at hl ⊢
  have hl : lv_has ls 3 [(0, .ref h0), (1, .int p0)] := hl
  have k0 : (0 : Int32).toInt = 0 := by decide
  refine w_gen (A := A) hP (fun H locs hP hS => ?_)
  have km1 : (-1 : Int32).toInt = -1 := by decide
  have k1 : (1 : Int32).toInt = 1 := by decide
  have k4 : (4 : Int32).toInt = 4 := by decide
  have lo_p0 := i32_lo p0
  have hi_p0 := i32_hi p0
  have th0_sound := b01 b_h0_sound
  refine lv_aload_n hx hb d_RE_turnToElse_0 rfl (lv_at hl 0 rfl) ?_
  refine va_get (D := (dC, dI)) (ci := 7) (v := .int h0_openCount) (C := R_RE) (T := F_RE) (N := 8) hx hb hts i_RE hown hK hP 0 rfl rfl 7 (by decide) (hts _ kF_RE_179) (fun _ h9 => h9) rfl d_RE_turnToElse_1 ?_
  refine lv_if_le (tgt := 21) hx hb d_RE_turnToElse_4 (by decide) (fun c4 => ?_) (fun c4 => ?_)
  · have q4 := leI c4
    refine lv_iconst (v := (-1)) hx hb d_RE_turnToElse_21 (by decide) ?_
    refine lv_istore_n (lv' := [(2, .int ((-1))), (0, .ref h0), (1, .int p0)]) hx hb d_RE_turnToElse_22 rfl hl (by decide) rfl (fun ls hl => ?_)
    refine lv_aload_n hx hb d_RE_turnToElse_23 rfl (lv_at hl 1 rfl) ?_
    refine lv_iload_n hx hb d_RE_turnToElse_24 rfl (lv_at hl 0 rfl) ?_
    refine w_cut (pc2 := 58) (σ := Int32) (fun u H locs ls => match u with | j58_s0 => (j58_s0 = 0 ∨ j58_s0 = 1) ∧ ((j58_s0.toInt = 1 ∧ 0 < h0_openCount.toInt ∧ (gcop (gob (h0_openCount.toNatClampNeg - 1)).toNatClampNeg).toInt = 4 ∧ (gcel (gob (h0_openCount.toNatClampNeg - 1)).toNatClampNeg).toInt < 0) ∨ (j58_s0.toInt = 0 ∧ ¬ (0 < h0_openCount.toInt ∧ (gcop (gob (h0_openCount.toNatClampNeg - 1)).toNatClampNeg).toInt = 4 ∧ (gcel (gob (h0_openCount.toNatClampNeg - 1)).toNatClampNeg).toInt < 0))) ∧ va_P (dC, dI) cls (wz_235 h0 aw ac h0_at h0_limit h0_sound h0_codeCount ob h0_openCount ac cfi clk clt ac_length cop cva cpt cel ac_labelCount cla ob cob gob cop ccop gcop cel ccel gcel) H ∧ va_D A (wz_235 h0 aw ac h0_at h0_limit h0_sound h0_codeCount ob h0_openCount ac cfi clk clt ac_length cop cva cpt cel ac_labelCount cla ob cob gob cop ccop gcop cel ccel gcel) ∧ va_S A s.heap H locs ∧ lv_has ls 3 [(0, .ref h0), (1, .int p0), (2, .int ((-1)))]) (fun u => match u with | j58_s0 => [.int j58_s0, .ref h0]) ?_ (fun jn58 => ?_)
    · intro u H locs ls hI
      obtain ⟨j58_s0, rfl⟩ : ∃ z, z = u := ⟨_, rfl⟩
      obtain ⟨b_j58_s0, y58, hP, hD, hS, hl⟩ := hI
      have tj58_s0 := b01 b_j58_s0
      refine va_put (D := (dC, dI)) (ci := 7) (v := .int j58_s0) (ty := .boolean) (C := R_RE) (T := F_RE) (N := 8) hx hb hts i_RE t_RE t_RE_ok n_RE hown hK hP hD hS 0 rfl rfl 4 (by decide) (hts _ kF_RE_45) (fun _ h9 => h9) rfl (by decide +kernel) (zn01 (b_j58_s0)) (fz01 (b_j58_s0)) (Nat.le_of_ble_eq_true rfl) d_RE_turnToElse_58 (fun H locs hP hD hS => ?_)
      refine lv_aload_n hx hb d_RE_turnToElse_61 rfl (lv_at hl 0 rfl) ?_
      refine va_get (D := (dC, dI)) (ci := 7) (v := .int j58_s0) (C := R_RE) (T := F_RE) (N := 8) hx hb hts i_RE hown hK hP 0 rfl rfl 4 (by decide) (hts _ kF_RE_45) (fun _ h9 => h9) rfl d_RE_turnToElse_62 ?_
      refine lv_if_eq (tgt := 78) hx hb d_RE_turnToElse_65 (by decide) (fun c65 => ?_) (fun c65 => absurd (neI c65) (by (first | (apply Int.le_antisymm <;> omega) | omega)))
      have q65 := eqI c65
      have hP9 := hP.sb (wq := (wz_235 h0 aw ac h0_at h0_limit j58_s0 h0_codeCount ob h0_openCount ac cfi clk clt ac_length cop cva cpt cel ac_labelCount cla ob cob gob cop ccop gcop cel ccel gcel)) [0, 1, 2, 3, 4] rfl
      have hD9 := hD.sb (wq := (wz_235 h0 aw ac h0_at h0_limit j58_s0 h0_codeCount ob h0_openCount ac cfi clk clt ac_length cop cva cpt cel ac_labelCount cla ob cob gob cop ccop gcop cel ccel gcel)) [0, 1, 2, 3, 4] (by decide) rfl
      exact W.vret hx hb hr (fun t ht hW => ⟨⟨(gcel, j58_s0), rfl, ⟨b_j58_s0, Or.inr ⟨by (try dsimp only) <;> (first | (apply Int.le_antisymm <;> omega) | omega), (y58.resolve_left (fun z => absurd z.1 (by (first | (apply Int.le_antisymm <;> omega) | omega)))).2⟩⟩, va_P.he ht.symm hP9, va_K.moved hW.alike hK, hD9⟩, hS.F ht⟩) hS.2.2 d_RE_turnToElse_78
    · skip
      refine w_cut (pc2 := 57) (σ := Unit) (fun u H locs ls => match u with | _ => (¬ (0 < h0_openCount.toInt ∧ (gcop (gob (h0_openCount.toNatClampNeg - 1)).toNatClampNeg).toInt = 4 ∧ (gcel (gob (h0_openCount.toNatClampNeg - 1)).toNatClampNeg).toInt < 0)) ∧ va_P (dC, dI) cls (wz_235 h0 aw ac h0_at h0_limit h0_sound h0_codeCount ob h0_openCount ac cfi clk clt ac_length cop cva cpt cel ac_labelCount cla ob cob gob cop ccop gcop cel ccel gcel) H ∧ va_D A (wz_235 h0 aw ac h0_at h0_limit h0_sound h0_codeCount ob h0_openCount ac cfi clk clt ac_length cop cva cpt cel ac_labelCount cla ob cob gob cop ccop gcop cel ccel gcel) ∧ va_S A s.heap H locs ∧ lv_has ls 3 [(0, .ref h0), (1, .int p0), (2, .int ((-1)))]) (fun u => match u with | _ => [.ref h0]) ?_ (fun jn57 => ?_)
      · intro u H locs ls hI
        obtain ⟨y57, hP, hD, hS, hl⟩ := hI
        refine lv_iconst (v := 0) hx hb d_RE_turnToElse_57 (by decide) ?_
        exact jn58 0 _ _ _ ⟨Or.inl rfl, by (try dsimp only) <;> (first | (apply Int.le_antisymm <;> omega) | omega), hP, hD, hS, lv_sub hl [0, 1, 2] rfl⟩
      · skip
        refine lv_if_lt (tgt := 57) hx hb d_RE_turnToElse_25 (by decide) (fun c25 => ?_) (fun c25 => absurd (nltI c25) (by (first | (apply Int.le_antisymm <;> omega) | omega)))
        have q25 := ltI c25
        exact jn57 () _ _ _ ⟨by (try dsimp only) <;> (first | (apply Int.le_antisymm <;> omega) | omega), hP, hD, hS, lv_sub hl [1, 2, 0] rfl⟩
  · have q4 := nleI c4
    refine lv_aload_n hx hb d_RE_turnToElse_7 rfl (lv_at hl 0 rfl) ?_
    refine va_get (D := (dC, dI)) (ci := 7) (v := .ref ob) (C := R_RE) (T := F_RE) (N := 8) hx hb hts i_RE hown hK hP 0 rfl rfl 6 (by decide) (hts _ kF_RE_9) (fun _ h9 => h9) rfl d_RE_turnToElse_8 ?_
    refine lv_aload_n hx hb d_RE_turnToElse_11 rfl (lv_at hl 0 rfl) ?_
    refine va_get (D := (dC, dI)) (ci := 7) (v := .int h0_openCount) (C := R_RE) (T := F_RE) (N := 8) hx hb hts i_RE hown hK hP 0 rfl rfl 7 (by decide) (hts _ kF_RE_179) (fun _ h9 => h9) rfl d_RE_turnToElse_12 ?_
    refine lv_iconst (v := 1) hx hb d_RE_turnToElse_15 (by decide) ?_
    refine lv_isub hx hb d_RE_turnToElse_16 ?_
    refine lv_topi (fun x1 ex1 => ?_)
    have tx1 : x1.toInt = h0_openCount.toInt - 1 := by have z := i32_sub ex1 (by (first | (apply Int.le_antisymm <;> omega) | omega)) (by (first | (apply Int.le_antisymm <;> omega) | omega)); first | exact z | (first | (apply Int.le_antisymm <;> omega) | omega)
    have g17 : vp_in x1 100 := vp_in_iff.mpr ⟨by (first | (apply Int.le_antisymm <;> omega) | omega), by (first | (apply Int.le_antisymm <;> omega) | omega)⟩
    refine va_iald hx hb hK hP 2 0 rfl rfl g17 d_RE_turnToElse_17 ?_
    refine lv_topi (fun x2 ex2 => ?_)
    have ix17 : x1.toNatClampNeg = h0_openCount.toNatClampNeg - 1 := by have := i32_clamp (x := x1) (by (first | (apply Int.le_antisymm <;> omega) | omega)); have := i32_clamp (x := h0_openCount) (by (first | (apply Int.le_antisymm <;> omega) | omega)); (first | (apply Int.le_antisymm <;> omega) | omega)
    have g17 : x2 = gob (h0_openCount.toNatClampNeg - 1) := by rw [ex2, ix17]
    have t17 := hgo.out (h0_openCount.toNatClampNeg - 1) (by have := i32_clamp (x := h0_openCount) (by (first | (apply Int.le_antisymm <;> omega) | omega)); (first | (apply Int.le_antisymm <;> omega) | omega))
    rw [← g17] at t17
    refine lv_goto (tgt := 22) hx hb d_RE_turnToElse_18 (by decide) ?_
    refine lv_istore_n (lv' := [(2, .int x2), (0, .ref h0), (1, .int p0)]) hx hb d_RE_turnToElse_22 rfl hl (by decide) rfl (fun ls hl => ?_)
    refine lv_aload_n hx hb d_RE_turnToElse_23 rfl (lv_at hl 1 rfl) ?_
    refine lv_iload_n hx hb d_RE_turnToElse_24 rfl (lv_at hl 0 rfl) ?_
    refine w_cut (pc2 := 58) (σ := Int32) (fun u H locs ls => match u with | j58_s0 => (j58_s0 = 0 ∨ j58_s0 = 1) ∧ ((j58_s0.toInt = 1 ∧ 0 < h0_openCount.toInt ∧ (gcop (gob (h0_openCount.toNatClampNeg - 1)).toNatClampNeg).toInt = 4 ∧ (gcel (gob (h0_openCount.toNatClampNeg - 1)).toNatClampNeg).toInt < 0) ∨ (j58_s0.toInt = 0 ∧ ¬ (0 < h0_openCount.toInt ∧ (gcop (gob (h0_openCount.toNatClampNeg - 1)).toNatClampNeg).toInt = 4 ∧ (gcel (gob (h0_openCount.toNatClampNeg - 1)).toNatClampNeg).toInt < 0))) ∧ va_P (dC, dI) cls (wz_235 h0 aw ac h0_at h0_limit h0_sound h0_codeCount ob h0_openCount ac cfi clk clt ac_length cop cva cpt cel ac_labelCount cla ob cob gob cop ccop gcop cel ccel gcel) H ∧ va_D A (wz_235 h0 aw ac h0_at h0_limit h0_sound h0_codeCount ob h0_openCount ac cfi clk clt ac_length cop cva cpt cel ac_labelCount cla ob cob gob cop ccop gcop cel ccel gcel) ∧ va_S A s.heap H locs ∧ lv_has ls 3 [(0, .ref h0), (1, .int p0), (2, .int x2)]) (fun u => match u with | j58_s0 => [.int j58_s0, .ref h0]) ?_ (fun jn58 => ?_)
    · intro u H locs ls hI
      obtain ⟨j58_s0, rfl⟩ : ∃ z, z = u := ⟨_, rfl⟩
      obtain ⟨b_j58_s0, y58, hP, hD, hS, hl⟩ := hI
      have tj58_s0 := b01 b_j58_s0
      refine va_put (D := (dC, dI)) (ci := 7) (v := .int j58_s0) (ty := .boolean) (C := R_RE) (T := F_RE) (N := 8) hx hb hts i_RE t_RE t_RE_ok n_RE hown hK hP hD hS 0 rfl rfl 4 (by decide) (hts _ kF_RE_45) (fun _ h9 => h9) rfl (by decide +kernel) (zn01 (b_j58_s0)) (fz01 (b_j58_s0)) (Nat.le_of_ble_eq_true rfl) d_RE_turnToElse_58 (fun H locs hP hD hS => ?_)
      refine lv_aload_n hx hb d_RE_turnToElse_61 rfl (lv_at hl 0 rfl) ?_
      refine va_get (D := (dC, dI)) (ci := 7) (v := .int j58_s0) (C := R_RE) (T := F_RE) (N := 8) hx hb hts i_RE hown hK hP 0 rfl rfl 4 (by decide) (hts _ kF_RE_45) (fun _ h9 => h9) rfl d_RE_turnToElse_62 ?_
      refine lv_if_eq (tgt := 78) hx hb d_RE_turnToElse_65 (by decide) (fun c65 => ?_) (fun c65 => ?_)
      · have q65 := eqI c65
        have hP9 := hP.sb (wq := (wz_235 h0 aw ac h0_at h0_limit j58_s0 h0_codeCount ob h0_openCount ac cfi clk clt ac_length cop cva cpt cel ac_labelCount cla ob cob gob cop ccop gcop cel ccel gcel)) [0, 1, 2, 3, 4] rfl
        have hD9 := hD.sb (wq := (wz_235 h0 aw ac h0_at h0_limit j58_s0 h0_codeCount ob h0_openCount ac cfi clk clt ac_length cop cva cpt cel ac_labelCount cla ob cob gob cop ccop gcop cel ccel gcel)) [0, 1, 2, 3, 4] (by decide) rfl
        exact W.vret hx hb hr (fun t ht hW => ⟨⟨(gcel, j58_s0), rfl, ⟨b_j58_s0, Or.inr ⟨by (try dsimp only) <;> (first | (apply Int.le_antisymm <;> omega) | omega), (y58.resolve_left (fun z => absurd z.1 (by (first | (apply Int.le_antisymm <;> omega) | omega)))).2⟩⟩, va_P.he ht.symm hP9, va_K.moved hW.alike hK, hD9⟩, hS.F ht⟩) hS.2.2 d_RE_turnToElse_78
      · have q65 := neI c65
        have y9 := y58.resolve_right (fun z => absurd z.1 (by (first | (apply Int.le_antisymm <;> omega) | omega)))
        refine lv_aload_n hx hb d_RE_turnToElse_68 rfl (lv_at hl 0 rfl) ?_
        refine va_get (D := (dC, dI)) (ci := 7) (v := .ref ac) (C := R_RE) (T := F_RE) (N := 8) hx hb hts i_RE hown hK hP 0 rfl rfl 1 (by decide) (hts _ kF_RE_25) (fun _ h9 => h9) rfl d_RE_turnToElse_69 ?_
        refine va_get (D := (dC, dI)) (ci := 3) (v := .ref cel) (C := R_CD) (T := F_CD) (N := 10) hx hb hts i_CD hown hK hP 1 rfl rfl 7 (by decide) (hts _ kF_RE_203) (fun _ h9 => h9) rfl d_RE_turnToElse_72 ?_
        refine lv_iload_n hx hb d_RE_turnToElse_75 rfl (lv_at hl 2 rfl) ?_
        refine lv_iload_n hx hb d_RE_turnToElse_76 rfl (lv_at hl 1 rfl) ?_
        have g77 : vp_in x2 5000 := vp_in_iff.mpr ⟨by (first | (apply Int.le_antisymm <;> omega) | omega), by (first | (apply Int.le_antisymm <;> omega) | omega)⟩
        refine va_iast hx hb hK hP hD hS 4 2 rfl rfl g77 d_RE_turnToElse_77 (fun H locs hP hD hS => ?_)
        generalize ef3 : upd gcel x2.toNatClampNeg p0 = f3 at hP hD
        have hP9 := hP.sb (wq := (wz_235 h0 aw ac h0_at h0_limit j58_s0 h0_codeCount ob h0_openCount ac cfi clk clt ac_length cop cva cpt cel ac_labelCount cla ob cob gob cop ccop gcop cel ccel f3)) [0, 1, 2, 3, 4] rfl
        have hD9 := hD.sb (wq := (wz_235 h0 aw ac h0_at h0_limit j58_s0 h0_codeCount ob h0_openCount ac cfi clk clt ac_length cop cva cpt cel ac_labelCount cla ob cob gob cop ccop gcop cel ccel f3)) [0, 1, 2, 3, 4] (by decide) rfl
        exact W.vret hx hb hr (fun t ht hW => ⟨⟨(f3, j58_s0), rfl, ⟨b_j58_s0, Or.inl ⟨by (try dsimp only) <;> (first | (apply Int.le_antisymm <;> omega) | omega), y9.2.1, y9.2.2.1, y9.2.2.2, by rw [← ef3, g17]⟩⟩, va_P.he ht.symm hP9, va_K.moved hW.alike hK, hD9⟩, hS.F ht⟩) hS.2.2 d_RE_turnToElse_78
    · skip
      refine w_cut (pc2 := 57) (σ := Unit) (fun u H locs ls => match u with | _ => (¬ (0 < h0_openCount.toInt ∧ (gcop (gob (h0_openCount.toNatClampNeg - 1)).toNatClampNeg).toInt = 4 ∧ (gcel (gob (h0_openCount.toNatClampNeg - 1)).toNatClampNeg).toInt < 0)) ∧ va_P (dC, dI) cls (wz_235 h0 aw ac h0_at h0_limit h0_sound h0_codeCount ob h0_openCount ac cfi clk clt ac_length cop cva cpt cel ac_labelCount cla ob cob gob cop ccop gcop cel ccel gcel) H ∧ va_D A (wz_235 h0 aw ac h0_at h0_limit h0_sound h0_codeCount ob h0_openCount ac cfi clk clt ac_length cop cva cpt cel ac_labelCount cla ob cob gob cop ccop gcop cel ccel gcel) ∧ va_S A s.heap H locs ∧ lv_has ls 3 [(0, .ref h0), (1, .int p0), (2, .int x2)]) (fun u => match u with | _ => [.ref h0]) ?_ (fun jn57 => ?_)
      · intro u H locs ls hI
        obtain ⟨y57, hP, hD, hS, hl⟩ := hI
        refine lv_iconst (v := 0) hx hb d_RE_turnToElse_57 (by decide) ?_
        exact jn58 0 _ _ _ ⟨Or.inl rfl, by (try dsimp only) <;> (first | (apply Int.le_antisymm <;> omega) | omega), hP, hD, hS, lv_sub hl [0, 1, 2] rfl⟩
      · skip
        refine lv_if_lt (tgt := 57) hx hb d_RE_turnToElse_25 (by decide) (fun c25 => absurd (ltI c25) (by (first | (apply Int.le_antisymm <;> omega) | omega))) (fun c25 => ?_)
        have q25 := nltI c25
        refine lv_aload_n hx hb d_RE_turnToElse_28 rfl (lv_at hl 1 rfl) ?_
        refine va_get (D := (dC, dI)) (ci := 7) (v := .ref ac) (C := R_RE) (T := F_RE) (N := 8) hx hb hts i_RE hown hK hP 0 rfl rfl 1 (by decide) (hts _ kF_RE_25) (fun _ h9 => h9) rfl d_RE_turnToElse_29 ?_
        refine va_get (D := (dC, dI)) (ci := 3) (v := .ref cop) (C := R_CD) (T := F_CD) (N := 10) hx hb hts i_CD hown hK hP 1 rfl rfl 4 (by decide) (hts _ kF_RE_194) (fun _ h9 => h9) rfl d_RE_turnToElse_32 ?_
        refine lv_iload_n hx hb d_RE_turnToElse_35 rfl (lv_at hl 0 rfl) ?_
        have g36 : vp_in x2 5000 := vp_in_iff.mpr ⟨by (first | (apply Int.le_antisymm <;> omega) | omega), by (first | (apply Int.le_antisymm <;> omega) | omega)⟩
        refine va_iald hx hb hK hP 3 1 rfl rfl g36 d_RE_turnToElse_36 ?_
        refine lv_topi (fun x4 ex4 => ?_)
        have tx4 : x4 = gcop (gob (h0_openCount.toNatClampNeg - 1)).toNatClampNeg := by rw [ex4, g17]
        have ux4 := congrArg Int32.toInt tx4
        refine lv_iconst (v := 4) hx hb d_RE_turnToElse_37 (by decide) ?_
        refine lv_icmp_ne (tgt := 57) hx hb d_RE_turnToElse_38 (by decide) (fun c38 => ?_) (fun c38 => ?_)
        · have q38 := neI c38
          exact jn57 () _ _ _ ⟨by (try dsimp only) <;> (first | (apply Int.le_antisymm <;> omega) | omega), hP, hD, hS, lv_sub hl [1, 2, 0] rfl⟩
        · have q38 := eqI c38
          refine lv_aload_n hx hb d_RE_turnToElse_41 rfl (lv_at hl 1 rfl) ?_
          refine va_get (D := (dC, dI)) (ci := 7) (v := .ref ac) (C := R_RE) (T := F_RE) (N := 8) hx hb hts i_RE hown hK hP 0 rfl rfl 1 (by decide) (hts _ kF_RE_25) (fun _ h9 => h9) rfl d_RE_turnToElse_42 ?_
          refine va_get (D := (dC, dI)) (ci := 3) (v := .ref cel) (C := R_CD) (T := F_CD) (N := 10) hx hb hts i_CD hown hK hP 1 rfl rfl 7 (by decide) (hts _ kF_RE_203) (fun _ h9 => h9) rfl d_RE_turnToElse_45 ?_
          refine lv_iload_n hx hb d_RE_turnToElse_48 rfl (lv_at hl 0 rfl) ?_
          have g49 : vp_in x2 5000 := vp_in_iff.mpr ⟨by (first | (apply Int.le_antisymm <;> omega) | omega), by (first | (apply Int.le_antisymm <;> omega) | omega)⟩
          refine va_iald hx hb hK hP 4 2 rfl rfl g49 d_RE_turnToElse_49 ?_
          refine lv_topi (fun x5 ex5 => ?_)
          have tx5 : x5 = gcel (gob (h0_openCount.toNatClampNeg - 1)).toNatClampNeg := by rw [ex5, g17]
          have ux5 := congrArg Int32.toInt tx5
          refine lv_if_ge (tgt := 57) hx hb d_RE_turnToElse_50 (by decide) (fun c50 => ?_) (fun c50 => ?_)
          · have q50 := leI c50
            exact jn57 () _ _ _ ⟨by (try dsimp only) <;> (first | (apply Int.le_antisymm <;> omega) | omega), hP, hD, hS, lv_sub hl [1, 2, 0] rfl⟩
          · have q50 := nleI c50
            refine lv_iconst (v := 1) hx hb d_RE_turnToElse_53 (by decide) ?_
            refine lv_goto (tgt := 58) hx hb d_RE_turnToElse_54 (by decide) ?_
            exact jn58 1 _ _ _ ⟨Or.inr rfl, by (try dsimp only) <;> (first | (apply Int.le_antisymm <;> omega) | omega), hP, hD, hS, lv_sub hl [1, 2, 0] rfl⟩
end q_n44q03
section q_n44q04
/-! p5: the class: labels, accesses -/
theorem zU_le {f : Nat → Int32} {L : Nat} : ∀ (n q v a : Nat) {x b : Nat}, zU f L n q v a = some (x, b) → a < b ∧ b ≤ L := by
  intro n
  induction n with
  | zero => intro q v a x b h; exact absurd h (by rw [zU]; exact fun z => by cases z)
  | succ n ih =>
    intro q v a x b h
    rw [zU] at h
    split at h
    · split at h
      · cases h
        (first | (apply Int.le_antisymm <;> omega) | omega)
      · have := ih _ _ _ h
        (first | (apply Int.le_antisymm <;> omega) | omega)
    · cases h
theorem zM_le {f : Nat → Int32} {L M a x b : Nat} (h : zM f L M a = some (x, b)) : x ≤ M ∧ a < b ∧ b ≤ L := by
  unfold zM at h
  split at h
  · rename_i v c e
    split at h
    · cases h
      exact ⟨by assumption, zU_le _ _ _ _ e⟩
    · cases h
  · cases h
theorem zA_le {f : Nat → Int32} {L M : Nat} : ∀ (k : Nat) (l : List Nat) (a : Nat) {l2 : List Nat} {b : Nat}, zA (zM f L M) k l a = some (l2, b) → a + k ≤ b ∧ (0 < k → b ≤ L) ∧ l2.length = l.length + k := by
  intro k
  induction k with
  | zero => intro l a l2 b h; rw [zA] at h; cases h; exact ⟨by (first | (apply Int.le_antisymm <;> omega) | omega), fun z => absurd z (by (first | (apply Int.le_antisymm <;> omega) | omega)), rfl⟩
  | succ k ih =>
    intro l a l2 b h
    rw [zA] at h
    split at h
    · rename_i x c e
      have h1 := zM_le e
      have h2 := ih _ _ h
      rw [List.length_append, List.length_singleton] at h2
      refine ⟨by (first | (apply Int.le_antisymm <;> omega) | omega), fun _ => ?_, by (first | (apply Int.le_antisymm <;> omega) | omega)⟩
      rcases Nat.eq_zero_or_pos k with rfl | z
      · rw [zA] at h; cases h; (first | (apply Int.le_antisymm <;> omega) | omega)
      · exact h2.2.1 z
    · cases h
def tbI (f : Nat → Int32) (L c n o : Nat) (la : Nat → Int32) (s a : Int32) (k : Int) : Prop := (s.toInt = 1 ∧ ∃ l : List Nat, (l.length : Int) = k ∧ zA (zM f L 2147483647) (n + 1 - l.length) l a.toNatClampNeg = zA (zM f L 2147483647) (n + 1) [] c ∧ ∀ (j x : Nat), l[j]? = some x → (la (o + j)).toInt = (x : Int)) ∨ (s.toInt = 0 ∧ zA (zM f L 2147483647) (n + 1) [] c = none)
theorem tb_0 {f : Nat → Int32} {L n o : Nat} {la : Nat → Int32} {s a : Int32} {k : Int} (hs : s.toInt = 1) (hk : k = 0) : tbI f L a.toNatClampNeg n o la s a k := Or.inl ⟨hs, [], by rw [hk]; rfl, rfl, fun j x h => by cases h⟩
theorem tb_s {f : Nat → Int32} {L c n o i : Nat} {la : Nat → Int32} {s a s2 a2 v : Int32} {k r : Int} (h : tbI f L c n o la s a k) (hr : rz (zM f L 2147483647 a.toNatClampNeg) s s2 a2 r) (hk : k ≤ n) (hi : (i : Int) = o + k) (hv : v.toInt = r) : tbI f L c n o (upd la i v) s2 a2 (k + 1) := by
  rcases h with ⟨h1, l, h2, h3, h4⟩ | ⟨h1, h2⟩
  · rcases hr with ⟨r1, r2, r3, r4⟩ | ⟨r1, r2⟩
    · refine Or.inl ⟨r1, l ++ [r.toNat], by rw [List.length_append, List.length_singleton]; (first | (apply Int.le_antisymm <;> omega) | omega), ?_, fun j x hj => ?_⟩
      · rw [← h3, show n + 1 - l.length = (n + 1 - (l ++ [r.toNat]).length) + 1 by rw [List.length_append, List.length_singleton]; (first | (apply Int.le_antisymm <;> omega) | omega), zA, r4]
      · by_cases e : j < l.length
        · rw [List.getElem?_append_left e] at hj
          rw [pk_un (show o + j ≠ i by (first | (apply Int.le_antisymm <;> omega) | omega))]
          exact h4 j x hj
        · have hj2 : j = l.length := by
            have := (List.getElem?_eq_some_iff.mp hj).1
            rw [List.length_append, List.length_singleton] at this
            (first | (apply Int.le_antisymm <;> omega) | omega)
          rw [hj2, List.getElem?_append_right (Nat.le_refl _), Nat.sub_self] at hj
          cases hj
          rw [hj2, show o + l.length = i by (first | (apply Int.le_antisymm <;> omega) | omega), pk_us, hv]
          (first | (apply Int.le_antisymm <;> omega) | omega)
    · refine Or.inr ⟨r1, ?_⟩
      rw [← h3, show n + 1 - l.length = (n - l.length) + 1 by (first | (apply Int.le_antisymm <;> omega) | omega), zA, r2 h1]
  · refine Or.inr ⟨?_, h2⟩
    rcases hr with ⟨r1, r2, r3, r4⟩ | ⟨r1, r2⟩
    · exact absurd r2 (by (first | (apply Int.le_antisymm <;> omega) | omega))
    · exact r1
/-- what a br_table leaves -/
def tbz (f : Nat → Int32) (L a : Nat) (i : Nat) (lc s2 a2 lc2 : Int32) (va va2 : Nat → Int64) (pt pt2 la la2 : Nat → Int32) : Prop := (s2.toInt = 1 ∧ ∃ (n : Nat) (l : List Nat), zTb f L a = some ((n, l), a2.toNatClampNeg) ∧ lc2.toInt = lc.toInt + n + 1 ∧ (∃ v : Int64, v.toInt = lc.toInt ∧ va2 = vp_updL va i v) ∧ (∃ w : Int32, w.toInt = (n : Int) ∧ pt2 = upd pt i w) ∧ ∀ (j x : Nat), l[j]? = some x → (la2 (lc.toNatClampNeg + j)).toInt = (x : Int)) ∨ (s2.toInt = 0 ∧ zTb f L a = none)
theorem tb_n1 {f : Nat → Int32} {L a : Nat} {s s2 a2 : Int32} {r : Int} (hr : rz (zM f L 50 a) s s2 a2 r) (hs : s.toInt = 1) (h2 : s2.toInt = 0) : zTb f L a = none := by
  unfold zTb
  rcases hr with ⟨r1, r2, r3, r4⟩ | ⟨r1, r2⟩
  · exact absurd r1 (by (first | (apply Int.le_antisymm <;> omega) | omega))
  · rw [r2 hs]
theorem tb_n2 {f : Nat → Int32} {L a : Nat} {s s2 a2 : Int32} {r lc : Int} (hr : rz (zM f L 50 a) s s2 a2 r) (h2 : s2.toInt = 1) (h3 : 2000 ≤ lc + r) (h4 : lc ≤ a) (h5 : L ≤ 2000) : zTb f L a = none := by
  unfold zTb
  rcases hr with ⟨r1, r2, r3, r4⟩ | ⟨r1, r2⟩
  · rw [r4]
    dsimp only
    split
    · rename_i l d e
      have q1 := zM_le r4
      have q2 := zA_le _ _ _ e
      have := q2.2.1 (by (first | (apply Int.le_antisymm <;> omega) | omega))
      (first | (apply Int.le_antisymm <;> omega) | omega)
    · rfl
  · exact absurd r1 (by (first | (apply Int.le_antisymm <;> omega) | omega))
theorem tb_e {f : Nat → Int32} {L a n o : Nat} {la : Nat → Int32} {s s2 a2 s3 a3 : Int32} {r k : Int} (hr : rz (zM f L 50 a) s s2 a2 r) (h2 : s2.toInt = 1) (en : (n : Int) = r) (h : tbI f L a2.toNatClampNeg n o la s3 a3 k) (hk : k = n + 1) : (s3.toInt = 1 ∧ ∃ l : List Nat, zTb f L a = some ((n, l), a3.toNatClampNeg) ∧ ∀ (j x : Nat), l[j]? = some x → (la (o + j)).toInt = (x : Int)) ∨ (s3.toInt = 0 ∧ zTb f L a = none) := by
  unfold zTb
  rcases hr with ⟨r1, r2, r3, r4⟩ | ⟨r1, r2⟩
  · have e9 : r.toNat = n := by (first | (apply Int.le_antisymm <;> omega) | omega)
    rw [r4, e9]
    dsimp only
    rcases h with ⟨h1, l, h2, h3, h4⟩ | ⟨h1, h2⟩
    · refine Or.inl ⟨h1, l, ?_, h4⟩
      rw [← h3, show n + 1 - l.length = 0 by (first | (apply Int.le_antisymm <;> omega) | omega), zA]
    · refine Or.inr ⟨h1, ?_⟩
      rw [h2]
  · exact absurd r1 (by (first | (apply Int.le_antisymm <;> omega) | omega))
abbrev at_RE_readTabley (dC : Nat → ClassId) (dI : Nat → Nat → Nat) (h0 aw ac ob ab wat wap wag waf wgt wft wfv wgc wek wei wes wez ax cfi clk clt cop cva cpt cel cla : Nat) (cax ccva ccpt ccla : ClassId) (h0_limit : Int32) (h0_codeCount : Int32) (h0_openCount : Int32) (aw_typeCount : Int32) (aw_functionCount : Int32) (aw_hasMemory : Int32) (aw_pagesLeast : Int64) (aw_pagesMost : Int64) (aw_globalCount : Int32) (aw_exportCount : Int32) (ab_length : Int32) (ac_length : Int32) (gax : Nat → Int32) (A : Nat → Prop) (u : (Nat → Int32) × (Nat → Int32) × (Nat → Int64) × Int32 × Int32 × Int32) (t : State) : Prop := match u with | (gcla, gcpt, gcva, ac_labelCount, h0_at, h0_sound) => va_P (dC, dI) cls [(h0, .inr (7, [.ref aw, .ref ac, .int h0_at, .int h0_limit, .int h0_sound, .int h0_codeCount, .ref ob, .int h0_openCount])), (aw, .inr (10, [.ref ab, .ref ac, .int aw_typeCount, .ref wat, .ref wap, .ref wag, .int aw_functionCount, .ref waf, .int aw_hasMemory, .long aw_pagesLeast, .long aw_pagesMost, .int aw_globalCount, .ref wgt, .ref wft, .ref wfv, .ref wgc, .int aw_exportCount, .ref wek, .ref wei, .ref wes, .ref wez])), (ab, .inr (1, [.ref ax, .int ab_length])), (ac, .inr (3, [.ref cfi, .ref clk, .ref clt, .int ac_length, .ref cop, .ref cva, .ref cpt, .ref cel, .int ac_labelCount, .ref cla])), (ax, .inl (cax, 8192, .inl gax)), (cva, .inl (ccva, 5000, .inr (.inl gcva))), (cpt, .inl (ccpt, 5000, .inl gcpt)), (cla, .inl (ccla, 2000, .inl gcla))] t.heap ∧ va_K (dC, dI) cls [(cax, .byte), (ccva, .long), (ccpt, .int), (ccla, .int)] t ∧ va_D A [(h0, .inr (7, [.ref aw, .ref ac, .int h0_at, .int h0_limit, .int h0_sound, .int h0_codeCount, .ref ob, .int h0_openCount])), (aw, .inr (10, [.ref ab, .ref ac, .int aw_typeCount, .ref wat, .ref wap, .ref wag, .int aw_functionCount, .ref waf, .int aw_hasMemory, .long aw_pagesLeast, .long aw_pagesMost, .int aw_globalCount, .ref wgt, .ref wft, .ref wfv, .ref wgc, .int aw_exportCount, .ref wek, .ref wei, .ref wes, .ref wez])), (ab, .inr (1, [.ref ax, .int ab_length])), (ac, .inr (3, [.ref cfi, .ref clk, .ref clt, .int ac_length, .ref cop, .ref cva, .ref cpt, .ref cel, .int ac_labelCount, .ref cla])), (ax, .inl (cax, 8192, .inl gax)), (cva, .inl (ccva, 5000, .inr (.inl gcva))), (cpt, .inl (ccpt, 5000, .inl gcpt)), (cla, .inl (ccla, 2000, .inl gcla))]
set_option maxHeartbeats 4000000 in
set_option maxRecDepth 100000 in
theorem c_RE_readTabley (l : Launch) (dC : Nat → ClassId) (dI : Nat → Nat → Nat) (sz : Nat) (h0 aw ac ob ab wat wap wag waf wgt wft wfv wgc wek wei wes wez ax cfi clk clt cop cva cpt cel cla : Nat) (cax ccva ccpt ccla : ClassId) (h0_at : Int32) (h0_limit : Int32) (h0_sound : Int32) (h0_codeCount : Int32) (h0_openCount : Int32) (aw_typeCount : Int32) (aw_functionCount : Int32) (aw_hasMemory : Int32) (aw_pagesLeast : Int64) (aw_pagesMost : Int64) (aw_globalCount : Int32) (aw_exportCount : Int32) (ab_length : Int32) (ac_length : Int32) (ac_labelCount : Int32) (gax : Nat → Int32) (gcva : Nat → Int64) (gcpt : Nat → Int32) (gcla : Nat → Int32)  (b_h0_sound : h0_sound = 0 ∨ h0_sound = 1) (b_h0_openCount : 0 ≤ h0_openCount.toInt ∧ h0_openCount.toInt ≤ 100) (b_ac_labelCount : 0 ≤ ac_labelCount.toInt ∧ ac_labelCount.toInt ≤ 2000) (p0 : Int32)  (ha : 0 ≤ h0_at.toInt ∧ h0_at.toInt ≤ h0_limit.toInt ∧ h0_limit.toInt ≤ ab_length.toInt ∧ ab_length.toInt ≤ 8192) (hs : h0_sound.toInt = 1) (hp : 0 ≤ p0.toInt ∧ p0.toInt < 5000) (hn : h0_limit.toInt ≤ 2000) (hlc : 0 ≤ ac_labelCount.toInt ∧ ac_labelCount.toInt ≤ h0_at.toInt) : Met l y_RE_readTable w_RE_readTable ({ frames := 2, cells := 0, slots := 0, locals := 46 }) (va_Pc [.ref h0, .int p0] (fun U => U.heap.size = sz ∧ va_P (dC, dI) cls [(h0, .inr (7, [.ref aw, .ref ac, .int h0_at, .int h0_limit, .int h0_sound, .int h0_codeCount, .ref ob, .int h0_openCount])), (aw, .inr (10, [.ref ab, .ref ac, .int aw_typeCount, .ref wat, .ref wap, .ref wag, .int aw_functionCount, .ref waf, .int aw_hasMemory, .long aw_pagesLeast, .long aw_pagesMost, .int aw_globalCount, .ref wgt, .ref wft, .ref wfv, .ref wgc, .int aw_exportCount, .ref wek, .ref wei, .ref wes, .ref wez])), (ab, .inr (1, [.ref ax, .int ab_length])), (ac, .inr (3, [.ref cfi, .ref clk, .ref clt, .int ac_length, .ref cop, .ref cva, .ref cpt, .ref cel, .int ac_labelCount, .ref cla])), (ax, .inl (cax, 8192, .inl gax)), (cva, .inl (ccva, 5000, .inr (.inl gcva))), (cpt, .inl (ccpt, 5000, .inl gcpt)), (cla, .inl (ccla, 2000, .inl gcla))] U.heap ∧ va_K (dC, dI) cls [(cax, .byte), (ccva, .long), (ccpt, .int), (ccla, .int)] U ∧ va_D (fun _ => True) [(h0, .inr (7, [.ref aw, .ref ac, .int h0_at, .int h0_limit, .int h0_sound, .int h0_codeCount, .ref ob, .int h0_openCount])), (aw, .inr (10, [.ref ab, .ref ac, .int aw_typeCount, .ref wat, .ref wap, .ref wag, .int aw_functionCount, .ref waf, .int aw_hasMemory, .long aw_pagesLeast, .long aw_pagesMost, .int aw_globalCount, .ref wgt, .ref wft, .ref wfv, .ref wgc, .int aw_exportCount, .ref wek, .ref wei, .ref wes, .ref wez])), (ab, .inr (1, [.ref ax, .int ab_length])), (ac, .inr (3, [.ref cfi, .ref clk, .ref clt, .int ac_length, .ref cop, .ref cva, .ref cpt, .ref cel, .int ac_labelCount, .ref cla])), (ax, .inl (cax, 8192, .inl gax)), (cva, .inl (ccva, 5000, .inr (.inl gcva))), (cpt, .inl (ccpt, 5000, .inl gcpt)), (cla, .inl (ccla, 2000, .inl gcla))])) (va_Qv (fun (u : (Nat → Int32) × (Nat → Int32) × (Nat → Int64) × Int32 × Int32 × Int32) => match u with | (gcla2, gcpt2, gcva2, ac_labelCount2, h0_at2, h0_sound2) => (0 ≤ ac_labelCount2.toInt ∧ ac_labelCount2.toInt ≤ 2000) ∧ (h0_sound2 = 0 ∨ h0_sound2 = 1) ∧ ((h0_at.toInt ≤ h0_at2.toInt ∧ h0_at2.toInt ≤ h0_limit.toInt) ∧ tbz gax h0_limit.toNatClampNeg h0_at.toNatClampNeg p0.toNatClampNeg ac_labelCount h0_sound2 h0_at2 ac_labelCount2 gcva gcva2 gcpt gcpt2 gcla gcla2 ∧ bx (∀ j : Nat, (j : Int) < ac_labelCount.toInt → gcla2 j = gcla j))) (at_RE_readTabley dC dI h0 aw ac ob ab wat wap wag waf wgt wft wfv wgc wek wei wes wez ax cfi clk clt cop cva cpt cel cla cax ccva ccpt ccla h0_limit h0_codeCount h0_openCount aw_typeCount aw_functionCount aw_hasMemory aw_pagesLeast aw_pagesMost aw_globalCount aw_exportCount ab_length ac_length gax (va_A [(h0, .inr (7, [.ref aw, .ref ac, .int h0_at, .int h0_limit, .int h0_sound, .int h0_codeCount, .ref ob, .int h0_openCount])), (aw, .inr (10, [.ref ab, .ref ac, .int aw_typeCount, .ref wat, .ref wap, .ref wag, .int aw_functionCount, .ref waf, .int aw_hasMemory, .long aw_pagesLeast, .long aw_pagesMost, .int aw_globalCount, .ref wgt, .ref wft, .ref wfv, .ref wgc, .int aw_exportCount, .ref wek, .ref wei, .ref wes, .ref wez])), (ab, .inr (1, [.ref ax, .int ab_length])), (ac, .inr (3, [.ref cfi, .ref clk, .ref clt, .int ac_length, .ref cop, .ref cva, .ref cpt, .ref cel, .int ac_labelCount, .ref cla])), (ax, .inl (cax, 8192, .inl gax)), (cva, .inl (ccva, 5000, .inr (.inl gcva))), (cpt, .inl (ccpt, 5000, .inl gcpt)), (cla, .inl (ccla, 2000, .inl gcla))] sz)) (va_A [(h0, .inr (7, [.ref aw, .ref ac, .int h0_at, .int h0_limit, .int h0_sound, .int h0_codeCount, .ref ob, .int h0_openCount])), (aw, .inr (10, [.ref ab, .ref ac, .int aw_typeCount, .ref wat, .ref wap, .ref wag, .int aw_functionCount, .ref waf, .int aw_hasMemory, .long aw_pagesLeast, .long aw_pagesMost, .int aw_globalCount, .ref wgt, .ref wft, .ref wfv, .ref wgc, .int aw_exportCount, .ref wek, .ref wei, .ref wes, .ref wez])), (ab, .inr (1, [.ref ax, .int ab_length])), (ac, .inr (3, [.ref cfi, .ref clk, .ref clt, .int ac_length, .ref cop, .ref cva, .ref cpt, .ref cel, .int ac_labelCount, .ref cla])), (ax, .inl (cax, 8192, .inl gax)), (cva, .inl (ccva, 5000, .inr (.inl gcva))), (cpt, .inl (ccpt, 5000, .inl gcpt)), (cla, .inl (ccla, 2000, .inl gcla))] sz)) 0 0 (va_A [(h0, .inr (7, [.ref aw, .ref ac, .int h0_at, .int h0_limit, .int h0_sound, .int h0_codeCount, .ref ob, .int h0_openCount])), (aw, .inr (10, [.ref ab, .ref ac, .int aw_typeCount, .ref wat, .ref wap, .ref wag, .int aw_functionCount, .ref waf, .int aw_hasMemory, .long aw_pagesLeast, .long aw_pagesMost, .int aw_globalCount, .ref wgt, .ref wft, .ref wfv, .ref wgc, .int aw_exportCount, .ref wek, .ref wei, .ref wes, .ref wez])), (ab, .inr (1, [.ref ax, .int ab_length])), (ac, .inr (3, [.ref cfi, .ref clk, .ref clt, .int ac_length, .ref cop, .ref cva, .ref cpt, .ref cel, .int ac_labelCount, .ref cla])), (ax, .inl (cax, 8192, .inl gax)), (cva, .inl (ccva, 5000, .inr (.inl gcva))), (cpt, .inl (ccpt, 5000, .inl gcpt)), (cla, .inl (ccla, 2000, .inl gcla))] sz) := by
  refine Met.ofW (cc := b_RE_readTable) (maxL := 4) (ret := none) (by decide) rfl ?_
  intro p e s m args below meth c s₁ B hml hv
  obtain ⟨rfl, hsz, hP, hK, hD0⟩ := hv
  have hx := B.exec
  have hb := B.bytes
  have hr := B.returns
  have hts0 := atoms_spec (ws := w_RE_readTable) B.pre
  have hts : ∀ w ∈ lw_g, w.before _ s = true := fun w h => hts0 w (List.mem_cons_of_mem _ h)
  have hown : s.vm.findClass R_RE = some m.cls := findClass_of_methodNamed B.named
  have hlocks := B.notSynchronized
  clear hts0
  subst hsz
  have hD := hD0.self (sz := s.heap.size)
  generalize hAe : va_A [(h0, .inr (7, [.ref aw, .ref ac, .int h0_at, .int h0_limit, .int h0_sound, .int h0_codeCount, .ref ob, .int h0_openCount])), (aw, .inr (10, [.ref ab, .ref ac, .int aw_typeCount, .ref wat, .ref wap, .ref wag, .int aw_functionCount, .ref waf, .int aw_hasMemory, .long aw_pagesLeast, .long aw_pagesMost, .int aw_globalCount, .ref wgt, .ref wft, .ref wfv, .ref wgc, .int aw_exportCount, .ref wek, .ref wei, .ref wes, .ref wez])), (ab, .inr (1, [.ref ax, .int ab_length])), (ac, .inr (3, [.ref cfi, .ref clk, .ref clt, .int ac_length, .ref cop, .ref cva, .ref cpt, .ref cel, .int ac_labelCount, .ref cla])), (ax, .inl (cax, 8192, .inl gax)), (cva, .inl (ccva, 5000, .inr (.inl gcva))), (cpt, .inl (ccpt, 5000, .inl gcpt)), (cla, .inl (ccla, 2000, .inl gcla))] s.heap.size = A at hD ⊢
  have hA : ∀ q : Nat, s.heap.size ≤ q → A q := fun q h => by rw [← hAe]; exact Or.inr h
  clear hAe
  have hP : va_P (dC, dI) cls [(h0, .inr (7, [.ref aw, .ref ac, .int h0_at, .int h0_limit, .int h0_sound, .int h0_codeCount, .ref ob, .int h0_openCount])), (aw, .inr (10, [.ref ab, .ref ac, .int aw_typeCount, .ref wat, .ref wap, .ref wag, .int aw_functionCount, .ref waf, .int aw_hasMemory, .long aw_pagesLeast, .long aw_pagesMost, .int aw_globalCount, .ref wgt, .ref wft, .ref wfv, .ref wgc, .int aw_exportCount, .ref wek, .ref wei, .ref wes, .ref wez])), (ab, .inr (1, [.ref ax, .int ab_length])), (ac, .inr (3, [.ref cfi, .ref clk, .ref clt, .int ac_length, .ref cop, .ref cva, .ref cpt, .ref cel, .int ac_labelCount, .ref cla])), (ax, .inl (cax, 8192, .inl gax)), (cva, .inl (ccva, 5000, .inr (.inl gcva))), (cpt, .inl (ccpt, 5000, .inl gcpt)), (cla, .inl (ccla, 2000, .inl gcla))] s.heap := hP
  have hl := lv_entry ([.ref h0, .int p0]) (n := 4) (Nat.le_of_ble_eq_true rfl)
  rw [lg_entry_eq]
  generalize (lg_sl ([.ref h0, .int p0]) ++ List.replicate (4 - (lg_sl ([.ref h0, .int p0])).length) Slot.unset).toArray = ls at hl ⊢
  have hl : lv_has ls 4 [(0, .ref h0), (1, .int p0)] := hl
  have k0 : (0 : Int32).toInt = 0 := by decide
  refine w_gen (A := A) hP (fun H locs hP hS => ?_)
  have k1 : (1 : Int32).toInt = 1 := by decide
  have lo_p0 := i32_lo p0
  have hi_p0 := i32_hi p0
  have th0_sound := b01 b_h0_sound
  have zat := i32_clamp (x := h0_at) (by (first | (apply Int.le_antisymm <;> omega) | omega))
  have zlm := i32_clamp (x := h0_limit) (by (first | (apply Int.le_antisymm <;> omega) | omega))
  refine lv_aload_n hx hb d_RE_readTable_0 rfl (lv_at hl 0 rfl) ?_
  refine lv_ldc2 hx hb hown (hts _ kL_RE_223) d_RE_readTable_1 ?_
  refine lv_topl (fun x1 ex1 => ?_)
  have tx1 : x1.toInt = 50 := by rw [ex1]; decide
  have hPc := hP.sb (wq := (wz_46 h0 aw ac h0_at h0_limit h0_sound h0_codeCount ob h0_openCount aw ab ac aw_typeCount wat wap wag aw_functionCount waf aw_hasMemory aw_pagesLeast aw_pagesMost aw_globalCount wgt wft wfv wgc aw_exportCount wek wei wes wez ab ax ab_length ax cax gax)) [0, 1, 2, 4] rfl
  have hDc := hD.sb (wq := (wz_46 h0 aw ac h0_at h0_limit h0_sound h0_codeCount ob h0_openCount aw ab ac aw_typeCount wat wap wag aw_functionCount waf aw_hasMemory aw_pagesLeast aw_pagesMost aw_globalCount wgt wft wfv wgc aw_exportCount wek wei wes wez ab ax ab_length ax cax gax)) [0, 1, 2, 4] (by decide) rfl
  have hKc := hK.sb (tyq := [(cax, .byte)]) [0] rfl
  have hFc := va_free (wc := (wz_46 h0 aw ac h0_at h0_limit h0_sound h0_codeCount ob h0_openCount aw ab ac aw_typeCount wat wap wag aw_functionCount waf aw_hasMemory aw_pagesLeast aw_pagesMost aw_globalCount wgt wft wfv wgc aw_exportCount wek wei wes wez ab ax ab_length ax cax gax)) hD hS hA [0, 1, 2, 4] rfl
  refine va_calll (va_runV (As := [.long x1]) (rest := []) ⟨hx, hb, hml, hown, hts⟩ (c_RE_readUnsignedy l dC dI H.size h0 aw ac ob ab wat wap wag waf wgt wft wfv wgc wek wei wes wez ax cax h0_at h0_limit h0_sound h0_codeCount h0_openCount aw_typeCount aw_functionCount aw_hasMemory aw_pagesLeast aw_pagesMost aw_globalCount aw_exportCount ab_length gax (b_h0_sound) x1 (by (try dsimp only) <;> (first | (apply Int.le_antisymm <;> omega) | omega)) (by (first | (apply Int.le_antisymm <;> omega) | omega))) (cwV 1 hts (gV kM_RE_64 kV_RE_readUnsigned kS_RE_readUnsigned kI_RE kC_RE_readUnsigned) rfl rfl rfl (by decide +kernel) ⟨Nat.le_of_ble_eq_true rfl, Nat.le_of_ble_eq_true rfl⟩) ⟨fun a U g mk z => by obtain ⟨z0, z1, zP, zK, zD⟩ := z; exact ⟨z0, z1, zP, va_K.moved (u := U) (U := U.calling g mk a) (Vm.Alike.refl U.vm) zK, zD⟩, va_recv hKc hPc (ci := 7) (q0 := 0) rfl rfl, fun U hU hW => ⟨rfl, by rw [hU], va_P.he hU.symm hPc, va_K.moved hW.alike hKc, hDc.weaken (fun _ _ _ _ => trivial)⟩⟩ rfl rfl hl.1 rfl (lv_room (Nat.le_of_ble_eq_true rfl)) d_RE_readTable_4 ⟨(Nat.zero_le _), (Nat.zero_le _)⟩) hS (fun q _ h => hFc q h) hFc (fun r2 u t H1 locs ht hvm hw hB hz1 hk1 hS => ?_)
  obtain ⟨n3, n4⟩ := u
  try dsimp only at hw
  obtain ⟨bn4, xr2⟩ := hw
  try clear hw
  have tn4 := b01 bn4
  have u4 : rz (zM gax h0_limit.toNatClampNeg 50 h0_at.toNatClampNeg) h0_sound n4 n3 r2.toInt := by have z9 := xr2.2; rw [show x1.toInt.toNat = 50 from by (first | (apply Int.le_antisymm <;> omega) | omega)] at z9; exact z9
  obtain ⟨hP1, hK1, hD1⟩ := hB
  replace hP1 := va_P.he ht hP1
  obtain ⟨hP, hD⟩ := va_join (wr := [(ac, .inr (3, [.ref cfi, .ref clk, .ref clt, .int ac_length, .ref cop, .ref cva, .ref cpt, .ref cel, .int ac_labelCount, .ref cla])), (cva, .inl (ccva, 5000, .inr (.inl gcva))), (cpt, .inl (ccpt, 5000, .inl gcpt)), (cla, .inl (ccla, 2000, .inl gcla))]) (w1 := (wz_46 h0 aw ac n3 h0_limit n4 h0_codeCount ob h0_openCount aw ab ac aw_typeCount wat wap wag aw_functionCount waf aw_hasMemory aw_pagesLeast aw_pagesMost aw_globalCount wgt wft wfv wgc aw_exportCount wek wei wes wez ab ax ab_length ax cax gax)) hP hD [0, 1, 2, 4] [3, 5, 6, 7] rfl rfl (by decide) (by decide) hk1 hFc hP1 hD1
  clear hPc hDc hKc hFc hz1 hk1 hP1 hK1 hD1
  rename Heap => H
  have hP : va_P (dC, dI) cls [(ac, .inr (3, [.ref cfi, .ref clk, .ref clt, .int ac_length, .ref cop, .ref cva, .ref cpt, .ref cel, .int ac_labelCount, .ref cla])), (cva, .inl (ccva, 5000, .inr (.inl gcva))), (cpt, .inl (ccpt, 5000, .inl gcpt)), (cla, .inl (ccla, 2000, .inl gcla)), (h0, .inr (7, [.ref aw, .ref ac, .int n3, .int h0_limit, .int n4, .int h0_codeCount, .ref ob, .int h0_openCount])), (aw, .inr (10, [.ref ab, .ref ac, .int aw_typeCount, .ref wat, .ref wap, .ref wag, .int aw_functionCount, .ref waf, .int aw_hasMemory, .long aw_pagesLeast, .long aw_pagesMost, .int aw_globalCount, .ref wgt, .ref wft, .ref wfv, .ref wgc, .int aw_exportCount, .ref wek, .ref wei, .ref wes, .ref wez])), (ab, .inr (1, [.ref ax, .int ab_length])), (ax, .inl (cax, 8192, .inl gax))] H := hP
  have hD : va_D A [(ac, .inr (3, [.ref cfi, .ref clk, .ref clt, .int ac_length, .ref cop, .ref cva, .ref cpt, .ref cel, .int ac_labelCount, .ref cla])), (cva, .inl (ccva, 5000, .inr (.inl gcva))), (cpt, .inl (ccpt, 5000, .inl gcpt)), (cla, .inl (ccla, 2000, .inl gcla)), (h0, .inr (7, [.ref aw, .ref ac, .int n3, .int h0_limit, .int n4, .int h0_codeCount, .ref ob, .int h0_openCount])), (aw, .inr (10, [.ref ab, .ref ac, .int aw_typeCount, .ref wat, .ref wap, .ref wag, .int aw_functionCount, .ref waf, .int aw_hasMemory, .long aw_pagesLeast, .long aw_pagesMost, .int aw_globalCount, .ref wgt, .ref wft, .ref wfv, .ref wgc, .int aw_exportCount, .ref wek, .ref wei, .ref wes, .ref wez])), (ab, .inr (1, [.ref ax, .int ab_length])), (ax, .inl (cax, 8192, .inl gax))] := hD
  refine lv_l2i hx hb d_RE_readTable_7 rfl ?_
  refine lv_topi (fun x5 ex5 => ?_)
  have tx5 := l2i_t ex5 (by (first | (apply Int.le_antisymm <;> omega) | omega)) (by (first | (apply Int.le_antisymm <;> omega) | omega))
  refine lv_istore_n (lv' := [(2, .int x5), (0, .ref h0), (1, .int p0)]) hx hb d_RE_readTable_8 rfl hl (by decide) rfl (fun ls hl => ?_)
  refine lv_aload_n hx hb d_RE_readTable_9 rfl (lv_at hl 1 rfl) ?_
  refine lv_aload_n hx hb d_RE_readTable_10 rfl (lv_at hl 1 rfl) ?_
  refine va_get (D := (dC, dI)) (ci := 7) (v := .int n4) (C := R_RE) (T := F_RE) (N := 8) hx hb hts i_RE hown hK hP 4 rfl rfl 4 (by decide) (hts _ kF_RE_45) (fun _ h9 => h9) rfl d_RE_readTable_11 ?_
  refine w_cut (pc2 := 42) (σ := Int32) (fun u H locs ls => match u with | j42_s0 => (j42_s0 = 0 ∨ j42_s0 = 1) ∧ ((j42_s0.toInt = 1 ∧ n4.toInt = 1 ∧ ac_labelCount.toInt + x5.toInt < 2000) ∨ (j42_s0.toInt = 0 ∧ ¬ (n4.toInt = 1 ∧ ac_labelCount.toInt + x5.toInt < 2000))) ∧ va_P (dC, dI) cls [(ac, .inr (3, [.ref cfi, .ref clk, .ref clt, .int ac_length, .ref cop, .ref cva, .ref cpt, .ref cel, .int ac_labelCount, .ref cla])), (cva, .inl (ccva, 5000, .inr (.inl gcva))), (cpt, .inl (ccpt, 5000, .inl gcpt)), (cla, .inl (ccla, 2000, .inl gcla)), (h0, .inr (7, [.ref aw, .ref ac, .int n3, .int h0_limit, .int n4, .int h0_codeCount, .ref ob, .int h0_openCount])), (aw, .inr (10, [.ref ab, .ref ac, .int aw_typeCount, .ref wat, .ref wap, .ref wag, .int aw_functionCount, .ref waf, .int aw_hasMemory, .long aw_pagesLeast, .long aw_pagesMost, .int aw_globalCount, .ref wgt, .ref wft, .ref wfv, .ref wgc, .int aw_exportCount, .ref wek, .ref wei, .ref wes, .ref wez])), (ab, .inr (1, [.ref ax, .int ab_length])), (ax, .inl (cax, 8192, .inl gax))] H ∧ va_D A [(ac, .inr (3, [.ref cfi, .ref clk, .ref clt, .int ac_length, .ref cop, .ref cva, .ref cpt, .ref cel, .int ac_labelCount, .ref cla])), (cva, .inl (ccva, 5000, .inr (.inl gcva))), (cpt, .inl (ccpt, 5000, .inl gcpt)), (cla, .inl (ccla, 2000, .inl gcla)), (h0, .inr (7, [.ref aw, .ref ac, .int n3, .int h0_limit, .int n4, .int h0_codeCount, .ref ob, .int h0_openCount])), (aw, .inr (10, [.ref ab, .ref ac, .int aw_typeCount, .ref wat, .ref wap, .ref wag, .int aw_functionCount, .ref waf, .int aw_hasMemory, .long aw_pagesLeast, .long aw_pagesMost, .int aw_globalCount, .ref wgt, .ref wft, .ref wfv, .ref wgc, .int aw_exportCount, .ref wek, .ref wei, .ref wes, .ref wez])), (ab, .inr (1, [.ref ax, .int ab_length])), (ax, .inl (cax, 8192, .inl gax))] ∧ va_S A s.heap H locs ∧ lv_has ls 4 [(0, .ref h0), (1, .int p0), (2, .int x5)]) (fun u => match u with | j42_s0 => [.int j42_s0, .ref h0]) ?_ (fun jn42 => ?_)
  · intro u H locs ls hI
    obtain ⟨j42_s0, rfl⟩ : ∃ z, z = u := ⟨_, rfl⟩
    obtain ⟨b_j42_s0, y42, hP, hD, hS, hl⟩ := hI
    have tj42_s0 := b01 b_j42_s0
    refine va_put (D := (dC, dI)) (ci := 7) (v := .int j42_s0) (ty := .boolean) (C := R_RE) (T := F_RE) (N := 8) hx hb hts i_RE t_RE t_RE_ok n_RE hown hK hP hD hS 4 rfl rfl 4 (by decide) (hts _ kF_RE_45) (fun _ h9 => h9) rfl (by decide +kernel) (zn01 (b_j42_s0)) (fz01 (b_j42_s0)) (Nat.le_of_ble_eq_true rfl) d_RE_readTable_42 (fun H locs hP hD hS => ?_)
    refine lv_aload_n hx hb d_RE_readTable_45 rfl (lv_at hl 0 rfl) ?_
    refine va_get (D := (dC, dI)) (ci := 7) (v := .int j42_s0) (C := R_RE) (T := F_RE) (N := 8) hx hb hts i_RE hown hK hP 4 rfl rfl 4 (by decide) (hts _ kF_RE_45) (fun _ h9 => h9) rfl d_RE_readTable_46 ?_
    refine lv_if_eq (tgt := 122) hx hb d_RE_readTable_49 (by decide) (fun c49 => ?_) (fun c49 => ?_)
    · have q49 := eqI c49
      have hP9 := hP.sb (wq := [(h0, .inr (7, [.ref aw, .ref ac, .int n3, .int h0_limit, .int j42_s0, .int h0_codeCount, .ref ob, .int h0_openCount])), (aw, .inr (10, [.ref ab, .ref ac, .int aw_typeCount, .ref wat, .ref wap, .ref wag, .int aw_functionCount, .ref waf, .int aw_hasMemory, .long aw_pagesLeast, .long aw_pagesMost, .int aw_globalCount, .ref wgt, .ref wft, .ref wfv, .ref wgc, .int aw_exportCount, .ref wek, .ref wei, .ref wes, .ref wez])), (ab, .inr (1, [.ref ax, .int ab_length])), (ac, .inr (3, [.ref cfi, .ref clk, .ref clt, .int ac_length, .ref cop, .ref cva, .ref cpt, .ref cel, .int ac_labelCount, .ref cla])), (ax, .inl (cax, 8192, .inl gax)), (cva, .inl (ccva, 5000, .inr (.inl gcva))), (cpt, .inl (ccpt, 5000, .inl gcpt)), (cla, .inl (ccla, 2000, .inl gcla))]) [4, 5, 6, 0, 7, 1, 2, 3] rfl
      have hD9 := hD.sb (wq := [(h0, .inr (7, [.ref aw, .ref ac, .int n3, .int h0_limit, .int j42_s0, .int h0_codeCount, .ref ob, .int h0_openCount])), (aw, .inr (10, [.ref ab, .ref ac, .int aw_typeCount, .ref wat, .ref wap, .ref wag, .int aw_functionCount, .ref waf, .int aw_hasMemory, .long aw_pagesLeast, .long aw_pagesMost, .int aw_globalCount, .ref wgt, .ref wft, .ref wfv, .ref wgc, .int aw_exportCount, .ref wek, .ref wei, .ref wes, .ref wez])), (ab, .inr (1, [.ref ax, .int ab_length])), (ac, .inr (3, [.ref cfi, .ref clk, .ref clt, .int ac_length, .ref cop, .ref cva, .ref cpt, .ref cel, .int ac_labelCount, .ref cla])), (ax, .inl (cax, 8192, .inl gax)), (cva, .inl (ccva, 5000, .inr (.inl gcva))), (cpt, .inl (ccpt, 5000, .inl gcpt)), (cla, .inl (ccla, 2000, .inl gcla))]) [4, 5, 6, 0, 7, 1, 2, 3] (by decide) rfl
      exact W.vret hx hb hr (fun t ht hW => ⟨⟨(gcla, gcpt, gcva, ac_labelCount, n3, j42_s0), rfl, ⟨b_ac_labelCount, b_j42_s0, ⟨⟨by (try dsimp only) <;> (first | (apply Int.le_antisymm <;> omega) | omega), by (try dsimp only) <;> (first | (apply Int.le_antisymm <;> omega) | omega)⟩, Or.inr ⟨by (try dsimp only) <;> (first | (apply Int.le_antisymm <;> omega) | omega), by rcases (show n4.toInt = 0 ∨ n4.toInt = 1 from by (first | (apply Int.le_antisymm <;> omega) | omega)) with z | z; (exact tb_n1 u4 hs z); (exact tb_n2 u4 z (lc := ac_labelCount.toInt) (by (first | (apply Int.le_antisymm <;> omega) | omega)) (by (first | (apply Int.le_antisymm <;> omega) | omega)) (by (first | (apply Int.le_antisymm <;> omega) | omega)))⟩, fun _ _ => rfl⟩⟩, va_P.he ht.symm hP9, va_K.moved hW.alike hK, hD9⟩, hS.F ht⟩) hS.2.2 d_RE_readTable_122
    · have q49 := neI c49
      refine lv_aload_n hx hb d_RE_readTable_52 rfl (lv_at hl 0 rfl) ?_
      refine va_get (D := (dC, dI)) (ci := 7) (v := .ref ac) (C := R_RE) (T := F_RE) (N := 8) hx hb hts i_RE hown hK hP 4 rfl rfl 1 (by decide) (hts _ kF_RE_25) (fun _ h9 => h9) rfl d_RE_readTable_53 ?_
      refine va_get (D := (dC, dI)) (ci := 3) (v := .ref cva) (C := R_CD) (T := F_CD) (N := 10) hx hb hts i_CD hown hK hP 0 rfl rfl 5 (by decide) (hts _ kF_RE_197) (fun _ h9 => h9) rfl d_RE_readTable_56 ?_
      refine lv_iload_n hx hb d_RE_readTable_59 rfl (lv_at hl 1 rfl) ?_
      refine lv_aload_n hx hb d_RE_readTable_60 rfl (lv_at hl 0 rfl) ?_
      refine va_get (D := (dC, dI)) (ci := 7) (v := .ref ac) (C := R_RE) (T := F_RE) (N := 8) hx hb hts i_RE hown hK hP 4 rfl rfl 1 (by decide) (hts _ kF_RE_25) (fun _ h9 => h9) rfl d_RE_readTable_61 ?_
      refine va_get (D := (dC, dI)) (ci := 3) (v := .int ac_labelCount) (C := R_CD) (T := F_CD) (N := 10) hx hb hts i_CD hown hK hP 0 rfl rfl 8 (by decide) (hts _ kF_RE_225) (fun _ h9 => h9) rfl d_RE_readTable_64 ?_
      refine lv_i2l hx hb d_RE_readTable_67 rfl ?_
      refine lv_topl (fun x6 ex6 => ?_)
      have tx6 := i2l_t ex6
      have g68 : vp_in p0 5000 := vp_in_iff.mpr ⟨by (first | (apply Int.le_antisymm <;> omega) | omega), by (first | (apply Int.le_antisymm <;> omega) | omega)⟩
      refine va_last hx hb hK hP hD hS 1 1 rfl rfl g68 d_RE_readTable_68 (fun H locs hP hD hS => ?_)
      generalize ef7 : vp_updL gcva p0.toNatClampNeg x6 = f7 at hP hD
      refine lv_aload_n hx hb d_RE_readTable_69 rfl (lv_at hl 0 rfl) ?_
      refine va_get (D := (dC, dI)) (ci := 7) (v := .ref ac) (C := R_RE) (T := F_RE) (N := 8) hx hb hts i_RE hown hK hP 4 rfl rfl 1 (by decide) (hts _ kF_RE_25) (fun _ h9 => h9) rfl d_RE_readTable_70 ?_
      refine va_get (D := (dC, dI)) (ci := 3) (v := .ref cpt) (C := R_CD) (T := F_CD) (N := 10) hx hb hts i_CD hown hK hP 0 rfl rfl 6 (by decide) (hts _ kF_RE_200) (fun _ h9 => h9) rfl d_RE_readTable_73 ?_
      refine lv_iload_n hx hb d_RE_readTable_76 rfl (lv_at hl 1 rfl) ?_
      refine lv_iload_n hx hb d_RE_readTable_77 rfl (lv_at hl 2 rfl) ?_
      have g78 : vp_in p0 5000 := vp_in_iff.mpr ⟨by (first | (apply Int.le_antisymm <;> omega) | omega), by (first | (apply Int.le_antisymm <;> omega) | omega)⟩
      refine va_iast hx hb hK hP hD hS 2 2 rfl rfl g78 d_RE_readTable_78 (fun H locs hP hD hS => ?_)
      generalize ef8 : upd gcpt p0.toNatClampNeg x5 = f8 at hP hD
      have zl2 := i32_clamp (x := x5) (by (first | (apply Int.le_antisymm <;> omega) | omega))
      refine lv_iconst (v := 0) hx hb d_RE_readTable_79 (by decide) ?_
      refine lv_istore_n (lv' := [(3, .int 0), (0, .ref h0), (1, .int p0), (2, .int x5)]) hx hb d_RE_readTable_80 rfl hl (by decide) rfl (fun ls hl => ?_)
      refine w_loop (σ := Int32 × (Nat → Int32) × Int32 × Int32 × Int32) (fun u H locs ls => match u with | (j81_l3, j81_cla, j81_ac_labelCount, j81_h0_at, j81_h0_sound) => (0 ≤ j81_l3.toInt ∧ j81_l3.toInt ≤ 51) ∧ (0 ≤ j81_ac_labelCount.toInt ∧ j81_ac_labelCount.toInt ≤ 2000) ∧ (j81_h0_sound = 0 ∨ j81_h0_sound = 1) ∧ (bx (∀ j : Nat, (j : Int) < ac_labelCount.toInt → j81_cla j = gcla j)) ∧ (tbI gax h0_limit.toNatClampNeg n3.toNatClampNeg x5.toNatClampNeg ac_labelCount.toNatClampNeg j81_cla j81_h0_sound j81_h0_at j81_l3.toInt) ∧ (j81_ac_labelCount.toInt = ac_labelCount.toInt + j81_l3.toInt ∧ j81_l3.toInt ≤ x5.toInt + 1) ∧ ((h0_at.toInt ≤ j81_h0_at.toInt ∧ j81_h0_at.toInt ≤ h0_limit.toInt)) ∧ va_P (dC, dI) cls [(ac, .inr (3, [.ref cfi, .ref clk, .ref clt, .int ac_length, .ref cop, .ref cva, .ref cpt, .ref cel, .int j81_ac_labelCount, .ref cla])), (cva, .inl (ccva, 5000, .inr (.inl f7))), (cpt, .inl (ccpt, 5000, .inl f8)), (cla, .inl (ccla, 2000, .inl j81_cla)), (h0, .inr (7, [.ref aw, .ref ac, .int j81_h0_at, .int h0_limit, .int j81_h0_sound, .int h0_codeCount, .ref ob, .int h0_openCount])), (aw, .inr (10, [.ref ab, .ref ac, .int aw_typeCount, .ref wat, .ref wap, .ref wag, .int aw_functionCount, .ref waf, .int aw_hasMemory, .long aw_pagesLeast, .long aw_pagesMost, .int aw_globalCount, .ref wgt, .ref wft, .ref wfv, .ref wgc, .int aw_exportCount, .ref wek, .ref wei, .ref wes, .ref wez])), (ab, .inr (1, [.ref ax, .int ab_length])), (ax, .inl (cax, 8192, .inl gax))] H ∧ va_D A [(ac, .inr (3, [.ref cfi, .ref clk, .ref clt, .int ac_length, .ref cop, .ref cva, .ref cpt, .ref cel, .int j81_ac_labelCount, .ref cla])), (cva, .inl (ccva, 5000, .inr (.inl f7))), (cpt, .inl (ccpt, 5000, .inl f8)), (cla, .inl (ccla, 2000, .inl j81_cla)), (h0, .inr (7, [.ref aw, .ref ac, .int j81_h0_at, .int h0_limit, .int j81_h0_sound, .int h0_codeCount, .ref ob, .int h0_openCount])), (aw, .inr (10, [.ref ab, .ref ac, .int aw_typeCount, .ref wat, .ref wap, .ref wag, .int aw_functionCount, .ref waf, .int aw_hasMemory, .long aw_pagesLeast, .long aw_pagesMost, .int aw_globalCount, .ref wgt, .ref wft, .ref wfv, .ref wgc, .int aw_exportCount, .ref wek, .ref wei, .ref wes, .ref wez])), (ab, .inr (1, [.ref ax, .int ab_length])), (ax, .inl (cax, 8192, .inl gax))] ∧ va_S A s.heap H locs ∧ lv_has ls 4 [(0, .ref h0), (2, .int x5), (3, .int j81_l3)]) (fun u => match u with | (j81_l3, j81_cla, j81_ac_labelCount, j81_h0_at, j81_h0_sound) => (x5.toInt + 1 - j81_l3.toInt).toNat) ?_ (0, gcla, ac_labelCount, n3, j42_s0) ⟨by (try dsimp only) <;> (first | (apply Int.le_antisymm <;> omega) | omega), b_ac_labelCount, b_j42_s0, (fun _ _ => rfl), tb_0 (by (first | (apply Int.le_antisymm <;> omega) | omega)) (by decide), by (try dsimp only) <;> (first | (apply Int.le_antisymm <;> omega) | omega), by (try dsimp only) <;> (first | (apply Int.le_antisymm <;> omega) | omega), hP, hD, hS, lv_sub hl [1, 3, 0] rfl⟩
      intro N81 ih81 u H locs ls hN81 hI
      obtain ⟨j81_l3, j81_cla, j81_ac_labelCount, j81_h0_at, j81_h0_sound⟩ := u
      obtain ⟨b_j81_l3, b_j81_ac_labelCount, b_j81_h0_sound, vb, v8, v9, va, hP, hD, hS, hl⟩ := hI
      have tj81_h0_sound := b01 b_j81_h0_sound
      have hN81 : (x5.toInt + 1 - j81_l3.toInt).toNat < N81 + 1 := hN81
      refine lv_iload_n hx hb d_RE_readTable_81 rfl (lv_at hl 2 rfl) ?_
      refine lv_iload_n hx hb d_RE_readTable_82 rfl (lv_at hl 1 rfl) ?_
      refine lv_icmp_gt (tgt := 122) hx hb d_RE_readTable_83 (by decide) (fun c83 => ?_) (fun c83 => ?_)
      · have q83 := ltI c83
        have hP9 := hP.sb (wq := [(h0, .inr (7, [.ref aw, .ref ac, .int j81_h0_at, .int h0_limit, .int j81_h0_sound, .int h0_codeCount, .ref ob, .int h0_openCount])), (aw, .inr (10, [.ref ab, .ref ac, .int aw_typeCount, .ref wat, .ref wap, .ref wag, .int aw_functionCount, .ref waf, .int aw_hasMemory, .long aw_pagesLeast, .long aw_pagesMost, .int aw_globalCount, .ref wgt, .ref wft, .ref wfv, .ref wgc, .int aw_exportCount, .ref wek, .ref wei, .ref wes, .ref wez])), (ab, .inr (1, [.ref ax, .int ab_length])), (ac, .inr (3, [.ref cfi, .ref clk, .ref clt, .int ac_length, .ref cop, .ref cva, .ref cpt, .ref cel, .int j81_ac_labelCount, .ref cla])), (ax, .inl (cax, 8192, .inl gax)), (cva, .inl (ccva, 5000, .inr (.inl f7))), (cpt, .inl (ccpt, 5000, .inl f8)), (cla, .inl (ccla, 2000, .inl j81_cla))]) [4, 5, 6, 0, 7, 1, 2, 3] rfl
        have hD9 := hD.sb (wq := [(h0, .inr (7, [.ref aw, .ref ac, .int j81_h0_at, .int h0_limit, .int j81_h0_sound, .int h0_codeCount, .ref ob, .int h0_openCount])), (aw, .inr (10, [.ref ab, .ref ac, .int aw_typeCount, .ref wat, .ref wap, .ref wag, .int aw_functionCount, .ref waf, .int aw_hasMemory, .long aw_pagesLeast, .long aw_pagesMost, .int aw_globalCount, .ref wgt, .ref wft, .ref wfv, .ref wgc, .int aw_exportCount, .ref wek, .ref wei, .ref wes, .ref wez])), (ab, .inr (1, [.ref ax, .int ab_length])), (ac, .inr (3, [.ref cfi, .ref clk, .ref clt, .int ac_length, .ref cop, .ref cva, .ref cpt, .ref cel, .int j81_ac_labelCount, .ref cla])), (ax, .inl (cax, 8192, .inl gax)), (cva, .inl (ccva, 5000, .inr (.inl f7))), (cpt, .inl (ccpt, 5000, .inl f8)), (cla, .inl (ccla, 2000, .inl j81_cla))]) [4, 5, 6, 0, 7, 1, 2, 3] (by decide) rfl
        exact W.vret hx hb hr (fun t ht hW => ⟨⟨(j81_cla, f8, f7, j81_ac_labelCount, j81_h0_at, j81_h0_sound), rfl, ⟨b_j81_ac_labelCount, b_j81_h0_sound, ⟨⟨by (try dsimp only) <;> (first | (apply Int.le_antisymm <;> omega) | omega), by (try dsimp only) <;> (first | (apply Int.le_antisymm <;> omega) | omega)⟩, (by rcases tb_e u4 (by (first | (apply Int.le_antisymm <;> omega) | omega)) (by (first | (apply Int.le_antisymm <;> omega) | omega)) v8 (by (first | (apply Int.le_antisymm <;> omega) | omega)) with ⟨z1, l9, z2, z3⟩ | ⟨z1, z2⟩; (exact Or.inl ⟨z1, _, l9, z2, by (first | (apply Int.le_antisymm <;> omega) | omega), ⟨x6, by (first | (apply Int.le_antisymm <;> omega) | omega), by rw [← ef7]⟩, ⟨x5, by (first | (apply Int.le_antisymm <;> omega) | omega), by rw [← ef8]⟩, z3⟩); (exact Or.inr ⟨z1, z2⟩)), vb⟩⟩, va_P.he ht.symm hP9, va_K.moved hW.alike hK, hD9⟩, hS.F ht⟩) hS.2.2 d_RE_readTable_122
      · have q83 := nltI c83
        refine lv_aload_n hx hb d_RE_readTable_86 rfl (lv_at hl 0 rfl) ?_
        refine va_get (D := (dC, dI)) (ci := 7) (v := .ref ac) (C := R_RE) (T := F_RE) (N := 8) hx hb hts i_RE hown hK hP 4 rfl rfl 1 (by decide) (hts _ kF_RE_25) (fun _ h9 => h9) rfl d_RE_readTable_87 ?_
        refine va_get (D := (dC, dI)) (ci := 3) (v := .ref cla) (C := R_CD) (T := F_CD) (N := 10) hx hb hts i_CD hown hK hP 0 rfl rfl 9 (by decide) (hts _ kF_RE_228) (fun _ h9 => h9) rfl d_RE_readTable_90 ?_
        refine lv_aload_n hx hb d_RE_readTable_93 rfl (lv_at hl 0 rfl) ?_
        refine va_get (D := (dC, dI)) (ci := 7) (v := .ref ac) (C := R_RE) (T := F_RE) (N := 8) hx hb hts i_RE hown hK hP 4 rfl rfl 1 (by decide) (hts _ kF_RE_25) (fun _ h9 => h9) rfl d_RE_readTable_94 ?_
        refine lv_dup hx hb d_RE_readTable_97 rfl ?_
        refine va_get (D := (dC, dI)) (ci := 3) (v := .int j81_ac_labelCount) (C := R_CD) (T := F_CD) (N := 10) hx hb hts i_CD hown hK hP 0 rfl rfl 8 (by decide) (hts _ kF_RE_225) (fun _ h9 => h9) rfl d_RE_readTable_98 ?_
        refine lv_dup_x1 hx hb d_RE_readTable_101 rfl rfl ?_
        refine lv_iconst (v := 1) hx hb d_RE_readTable_102 (by decide) ?_
        refine lv_iadd hx hb d_RE_readTable_103 ?_
        refine lv_topi (fun x9 ex9 => ?_)
        have tx9 : x9.toInt = j81_ac_labelCount.toInt + 1 := by have z := i32_add ex9 (by (first | (apply Int.le_antisymm <;> omega) | omega)) (by (first | (apply Int.le_antisymm <;> omega) | omega)); first | exact z | (first | (apply Int.le_antisymm <;> omega) | omega)
        refine va_put (D := (dC, dI)) (ci := 3) (v := .int x9) (ty := .int) (C := R_CD) (T := F_CD) (N := 10) hx hb hts i_CD t_CD t_CD_ok n_CD hown hK hP hD hS 0 rfl rfl 8 (by decide) (hts _ kF_RE_225) (fun _ h9 => h9) rfl (by decide +kernel) rfl rfl (Nat.le_of_ble_eq_true rfl) d_RE_readTable_104 (fun H locs hP hD hS => ?_)
        refine lv_aload_n hx hb d_RE_readTable_107 rfl (lv_at hl 0 rfl) ?_
        refine lv_ldc2 hx hb hown (hts _ kL_RE_82) d_RE_readTable_108 ?_
        refine lv_topl (fun x10 ex10 => ?_)
        have tx10 : x10.toInt = 2147483647 := by rw [ex10]; decide
        have hPc := hP.sb (wq := (wz_46 h0 aw ac j81_h0_at h0_limit j81_h0_sound h0_codeCount ob h0_openCount aw ab ac aw_typeCount wat wap wag aw_functionCount waf aw_hasMemory aw_pagesLeast aw_pagesMost aw_globalCount wgt wft wfv wgc aw_exportCount wek wei wes wez ab ax ab_length ax cax gax)) [4, 5, 6, 7] rfl
        have hDc := hD.sb (wq := (wz_46 h0 aw ac j81_h0_at h0_limit j81_h0_sound h0_codeCount ob h0_openCount aw ab ac aw_typeCount wat wap wag aw_functionCount waf aw_hasMemory aw_pagesLeast aw_pagesMost aw_globalCount wgt wft wfv wgc aw_exportCount wek wei wes wez ab ax ab_length ax cax gax)) [4, 5, 6, 7] (by decide) rfl
        have hKc := hK.sb (tyq := [(cax, .byte)]) [0] rfl
        have hFc := va_free (wc := (wz_46 h0 aw ac j81_h0_at h0_limit j81_h0_sound h0_codeCount ob h0_openCount aw ab ac aw_typeCount wat wap wag aw_functionCount waf aw_hasMemory aw_pagesLeast aw_pagesMost aw_globalCount wgt wft wfv wgc aw_exportCount wek wei wes wez ab ax ab_length ax cax gax)) hD hS hA [4, 5, 6, 7] rfl
        refine va_calll (va_runV (As := [.long x10]) (rest := [.int j81_ac_labelCount, .ref cla]) ⟨hx, hb, hml, hown, hts⟩ (c_RE_readUnsignedy l dC dI H.size h0 aw ac ob ab wat wap wag waf wgt wft wfv wgc wek wei wes wez ax cax j81_h0_at h0_limit j81_h0_sound h0_codeCount h0_openCount aw_typeCount aw_functionCount aw_hasMemory aw_pagesLeast aw_pagesMost aw_globalCount aw_exportCount ab_length gax (b_j81_h0_sound) x10 (by (try dsimp only) <;> (first | (apply Int.le_antisymm <;> omega) | omega)) (by (first | (apply Int.le_antisymm <;> omega) | omega))) (cwV 1 hts (gV kM_RE_64 kV_RE_readUnsigned kS_RE_readUnsigned kI_RE kC_RE_readUnsigned) rfl rfl rfl (by decide +kernel) ⟨Nat.le_of_ble_eq_true rfl, Nat.le_of_ble_eq_true rfl⟩) ⟨fun a U g mk z => by obtain ⟨z0, z1, zP, zK, zD⟩ := z; exact ⟨z0, z1, zP, va_K.moved (u := U) (U := U.calling g mk a) (Vm.Alike.refl U.vm) zK, zD⟩, va_recv hKc hPc (ci := 7) (q0 := 0) rfl rfl, fun U hU hW => ⟨rfl, by rw [hU], va_P.he hU.symm hPc, va_K.moved hW.alike hKc, hDc.weaken (fun _ _ _ _ => trivial)⟩⟩ rfl rfl hl.1 rfl (lv_room (Nat.le_of_ble_eq_true rfl)) d_RE_readTable_111 ⟨(Nat.zero_le _), (Nat.zero_le _)⟩) hS (fun q _ h => hFc q h) hFc (fun r11 u t H1 locs ht hvm hw hB hz1 hk1 hS => ?_)
        obtain ⟨n12, n13⟩ := u
        try dsimp only at hw
        obtain ⟨bn13, xr11⟩ := hw
        try clear hw
        have tn13 := b01 bn13
        obtain ⟨hP1, hK1, hD1⟩ := hB
        replace hP1 := va_P.he ht hP1
        obtain ⟨hP, hD⟩ := va_join (wr := [(ac, .inr (3, [.ref cfi, .ref clk, .ref clt, .int ac_length, .ref cop, .ref cva, .ref cpt, .ref cel, .int x9, .ref cla])), (cva, .inl (ccva, 5000, .inr (.inl f7))), (cpt, .inl (ccpt, 5000, .inl f8)), (cla, .inl (ccla, 2000, .inl j81_cla))]) (w1 := (wz_46 h0 aw ac n12 h0_limit n13 h0_codeCount ob h0_openCount aw ab ac aw_typeCount wat wap wag aw_functionCount waf aw_hasMemory aw_pagesLeast aw_pagesMost aw_globalCount wgt wft wfv wgc aw_exportCount wek wei wes wez ab ax ab_length ax cax gax)) hP hD [4, 5, 6, 7] [0, 1, 2, 3] rfl rfl (by decide) (by decide) hk1 hFc hP1 hD1
        clear hPc hDc hKc hFc hz1 hk1 hP1 hK1 hD1
        rename Heap => H
        have hP : va_P (dC, dI) cls [(ac, .inr (3, [.ref cfi, .ref clk, .ref clt, .int ac_length, .ref cop, .ref cva, .ref cpt, .ref cel, .int x9, .ref cla])), (cva, .inl (ccva, 5000, .inr (.inl f7))), (cpt, .inl (ccpt, 5000, .inl f8)), (cla, .inl (ccla, 2000, .inl j81_cla)), (h0, .inr (7, [.ref aw, .ref ac, .int n12, .int h0_limit, .int n13, .int h0_codeCount, .ref ob, .int h0_openCount])), (aw, .inr (10, [.ref ab, .ref ac, .int aw_typeCount, .ref wat, .ref wap, .ref wag, .int aw_functionCount, .ref waf, .int aw_hasMemory, .long aw_pagesLeast, .long aw_pagesMost, .int aw_globalCount, .ref wgt, .ref wft, .ref wfv, .ref wgc, .int aw_exportCount, .ref wek, .ref wei, .ref wes, .ref wez])), (ab, .inr (1, [.ref ax, .int ab_length])), (ax, .inl (cax, 8192, .inl gax))] H := hP
        have hD : va_D A [(ac, .inr (3, [.ref cfi, .ref clk, .ref clt, .int ac_length, .ref cop, .ref cva, .ref cpt, .ref cel, .int x9, .ref cla])), (cva, .inl (ccva, 5000, .inr (.inl f7))), (cpt, .inl (ccpt, 5000, .inl f8)), (cla, .inl (ccla, 2000, .inl j81_cla)), (h0, .inr (7, [.ref aw, .ref ac, .int n12, .int h0_limit, .int n13, .int h0_codeCount, .ref ob, .int h0_openCount])), (aw, .inr (10, [.ref ab, .ref ac, .int aw_typeCount, .ref wat, .ref wap, .ref wag, .int aw_functionCount, .ref waf, .int aw_hasMemory, .long aw_pagesLeast, .long aw_pagesMost, .int aw_globalCount, .ref wgt, .ref wft, .ref wfv, .ref wgc, .int aw_exportCount, .ref wek, .ref wei, .ref wes, .ref wez])), (ab, .inr (1, [.ref ax, .int ab_length])), (ax, .inl (cax, 8192, .inl gax))] := hD
        refine lv_l2i hx hb d_RE_readTable_114 rfl ?_
        refine lv_topi (fun x14 ex14 => ?_)
        have tx14 := l2i_t ex14 (by (first | (apply Int.le_antisymm <;> omega) | omega)) (by (first | (apply Int.le_antisymm <;> omega) | omega))
        have g115 : vp_in j81_ac_labelCount 2000 := vp_in_iff.mpr ⟨by (first | (apply Int.le_antisymm <;> omega) | omega), by (first | (apply Int.le_antisymm <;> omega) | omega)⟩
        refine va_iast hx hb hK hP hD hS 3 3 rfl rfl g115 d_RE_readTable_115 (fun H locs hP hD hS => ?_)
        generalize ef15 : upd j81_cla j81_ac_labelCount.toNatClampNeg x14 = f15 at hP hD
        obtain ⟨x16, ex16⟩ : ∃ z : Int32, z = j81_l3 + 1 := ⟨_, rfl⟩
        have tx16 : x16.toInt = j81_l3.toInt + 1 := by have z := i32_add ex16 (by (first | (apply Int.le_antisymm <;> omega) | omega)) (by (first | (apply Int.le_antisymm <;> omega) | omega)); first | exact z | (first | (apply Int.le_antisymm <;> omega) | omega)
        refine lv_iinc (v := x16) (lv' := [(3, .int x16), (0, .ref h0), (2, .int x5)]) hx hb d_RE_readTable_116 hl (k := 2) rfl (by rw [ex16]; rfl) (by decide) rfl (fun ls hl => ?_)
        refine lv_goto (tgt := 81) hx hb d_RE_readTable_119 (by decide) ?_
        exact ih81 (x16, f15, x9, n12, n13) _ _ _ (by show (x5.toInt + 1 - x16.toInt).toNat < N81; (first | (apply Int.le_antisymm <;> omega) | omega)) ⟨by (try dsimp only) <;> (first | (apply Int.le_antisymm <;> omega) | omega), by (try dsimp only) <;> (first | (apply Int.le_antisymm <;> omega) | omega), bn13, (fun j hj => by rw [← ef15, pk_un (by have := i32_clamp (x := j81_ac_labelCount) (by (first | (apply Int.le_antisymm <;> omega) | omega)); (first | (apply Int.le_antisymm <;> omega) | omega))]; exact vb.out j hj), (by rw [← ef15, show x16.toInt = j81_l3.toInt + 1 from by (first | (apply Int.le_antisymm <;> omega) | omega)]; exact tb_s v8 (by have z9 := xr11.2; rw [show x10.toInt.toNat = 2147483647 from by (first | (apply Int.le_antisymm <;> omega) | omega)] at z9; exact z9) (by (first | (apply Int.le_antisymm <;> omega) | omega)) (by have := i32_clamp (x := j81_ac_labelCount) (by (first | (apply Int.le_antisymm <;> omega) | omega)); have := i32_clamp (x := ac_labelCount) (by (first | (apply Int.le_antisymm <;> omega) | omega)); (first | (apply Int.le_antisymm <;> omega) | omega)) (by (first | (apply Int.le_antisymm <;> omega) | omega))), by (try dsimp only) <;> (first | (apply Int.le_antisymm <;> omega) | omega), by (try dsimp only) <;> (first | (apply Int.le_antisymm <;> omega) | omega), hP, hD, hS, lv_sub hl [1, 2, 0] rfl⟩
  · skip
    refine w_cut (pc2 := 41) (σ := Unit) (fun u H locs ls => match u with | _ => (¬ (n4.toInt = 1 ∧ ac_labelCount.toInt + x5.toInt < 2000)) ∧ va_P (dC, dI) cls [(ac, .inr (3, [.ref cfi, .ref clk, .ref clt, .int ac_length, .ref cop, .ref cva, .ref cpt, .ref cel, .int ac_labelCount, .ref cla])), (cva, .inl (ccva, 5000, .inr (.inl gcva))), (cpt, .inl (ccpt, 5000, .inl gcpt)), (cla, .inl (ccla, 2000, .inl gcla)), (h0, .inr (7, [.ref aw, .ref ac, .int n3, .int h0_limit, .int n4, .int h0_codeCount, .ref ob, .int h0_openCount])), (aw, .inr (10, [.ref ab, .ref ac, .int aw_typeCount, .ref wat, .ref wap, .ref wag, .int aw_functionCount, .ref waf, .int aw_hasMemory, .long aw_pagesLeast, .long aw_pagesMost, .int aw_globalCount, .ref wgt, .ref wft, .ref wfv, .ref wgc, .int aw_exportCount, .ref wek, .ref wei, .ref wes, .ref wez])), (ab, .inr (1, [.ref ax, .int ab_length])), (ax, .inl (cax, 8192, .inl gax))] H ∧ va_D A [(ac, .inr (3, [.ref cfi, .ref clk, .ref clt, .int ac_length, .ref cop, .ref cva, .ref cpt, .ref cel, .int ac_labelCount, .ref cla])), (cva, .inl (ccva, 5000, .inr (.inl gcva))), (cpt, .inl (ccpt, 5000, .inl gcpt)), (cla, .inl (ccla, 2000, .inl gcla)), (h0, .inr (7, [.ref aw, .ref ac, .int n3, .int h0_limit, .int n4, .int h0_codeCount, .ref ob, .int h0_openCount])), (aw, .inr (10, [.ref ab, .ref ac, .int aw_typeCount, .ref wat, .ref wap, .ref wag, .int aw_functionCount, .ref waf, .int aw_hasMemory, .long aw_pagesLeast, .long aw_pagesMost, .int aw_globalCount, .ref wgt, .ref wft, .ref wfv, .ref wgc, .int aw_exportCount, .ref wek, .ref wei, .ref wes, .ref wez])), (ab, .inr (1, [.ref ax, .int ab_length])), (ax, .inl (cax, 8192, .inl gax))] ∧ va_S A s.heap H locs ∧ lv_has ls 4 [(0, .ref h0), (1, .int p0), (2, .int x5)]) (fun u => match u with | _ => [.ref h0]) ?_ (fun jn41 => ?_)
    · intro u H locs ls hI
      obtain ⟨y41, hP, hD, hS, hl⟩ := hI
      refine lv_iconst (v := 0) hx hb d_RE_readTable_41 (by decide) ?_
      exact jn42 0 _ _ _ ⟨Or.inl rfl, by (try dsimp only) <;> (first | (apply Int.le_antisymm <;> omega) | omega), hP, hD, hS, lv_sub hl [0, 1, 2] rfl⟩
    · skip
      refine lv_if_eq (tgt := 41) hx hb d_RE_readTable_14 (by decide) (fun c14 => ?_) (fun c14 => ?_)
      · have q14 := eqI c14
        exact jn41 () _ _ _ ⟨by (try dsimp only) <;> (first | (apply Int.le_antisymm <;> omega) | omega), hP, hD, hS, lv_sub hl [1, 2, 0] rfl⟩
      · have q14 := neI c14
        refine lv_aload_n hx hb d_RE_readTable_17 rfl (lv_at hl 1 rfl) ?_
        refine va_get (D := (dC, dI)) (ci := 7) (v := .ref ac) (C := R_RE) (T := F_RE) (N := 8) hx hb hts i_RE hown hK hP 4 rfl rfl 1 (by decide) (hts _ kF_RE_25) (fun _ h9 => h9) rfl d_RE_readTable_18 ?_
        refine va_get (D := (dC, dI)) (ci := 3) (v := .int ac_labelCount) (C := R_CD) (T := F_CD) (N := 10) hx hb hts i_CD hown hK hP 0 rfl rfl 8 (by decide) (hts _ kF_RE_225) (fun _ h9 => h9) rfl d_RE_readTable_21 ?_
        refine lv_iload_n hx hb d_RE_readTable_24 rfl (lv_at hl 0 rfl) ?_
        refine lv_iadd hx hb d_RE_readTable_25 ?_
        refine lv_topi (fun x17 ex17 => ?_)
        have tx17 : x17.toInt = ac_labelCount.toInt + x5.toInt := by have z := i32_add ex17 (by (first | (apply Int.le_antisymm <;> omega) | omega)) (by (first | (apply Int.le_antisymm <;> omega) | omega)); first | exact z | (first | (apply Int.le_antisymm <;> omega) | omega)
        refine lv_aload_n hx hb d_RE_readTable_26 rfl (lv_at hl 1 rfl) ?_
        refine va_get (D := (dC, dI)) (ci := 7) (v := .ref ac) (C := R_RE) (T := F_RE) (N := 8) hx hb hts i_RE hown hK hP 4 rfl rfl 1 (by decide) (hts _ kF_RE_25) (fun _ h9 => h9) rfl d_RE_readTable_27 ?_
        refine va_get (D := (dC, dI)) (ci := 3) (v := .ref cla) (C := R_CD) (T := F_CD) (N := 10) hx hb hts i_CD hown hK hP 0 rfl rfl 9 (by decide) (hts _ kF_RE_228) (fun _ h9 => h9) rfl d_RE_readTable_30 ?_
        refine va_alen hx hb hK hP 3 3 rfl rfl rfl d_RE_readTable_33 ?_
        refine lv_topi (fun x18 ex18 => ?_)
        have tx18 : x18.toInt = 2000 := by rw [ex18]; exact i32_len (by (first | (apply Int.le_antisymm <;> omega) | omega))
        refine lv_icmp_ge (tgt := 41) hx hb d_RE_readTable_34 (by decide) (fun c34 => ?_) (fun c34 => ?_)
        · have q34 := leI c34
          exact jn41 () _ _ _ ⟨by (try dsimp only) <;> (first | (apply Int.le_antisymm <;> omega) | omega), hP, hD, hS, lv_sub hl [1, 2, 0] rfl⟩
        · have q34 := nleI c34
          refine lv_iconst (v := 1) hx hb d_RE_readTable_37 (by decide) ?_
          refine lv_goto (tgt := 42) hx hb d_RE_readTable_38 (by decide) ?_
          exact jn42 1 _ _ _ ⟨Or.inr rfl, by (try dsimp only) <;> (first | (apply Int.le_antisymm <;> omega) | omega), hP, hD, hS, lv_sub hl [1, 2, 0] rfl⟩
end q_n44q04
section q_n44q05
/-! p5: the class: accesses and plain instructions -/
theorem zacc_i {b : Int} (h0 : 0 ≤ b) : zacc b.toNat = true ↔ (b = 44 ∨ b = 45 ∨ b = 58 ∨ b = 40 ∨ b = 54 ∨ b = 41 ∨ b = 55) := by
  unfold zacc
  simp only [Bool.or_eq_true, decide_eq_true_eq]
  (first | (apply Int.le_antisymm <;> omega) | omega)
theorem zplain_i {b : Int} (h0 : 0 ≤ b) : zplain b.toNat = true ↔ (((69 ≤ b ∧ b ≤ 90) ∨ (103 ≤ b ∧ b ≤ 138) ∨ b = 167 ∨ b = 172 ∨ b = 173) ∨ b = 0 ∨ b = 1 ∨ b = 15 ∨ b = 26 ∨ b = 27) := by
  unfold zplain
  simp only [Bool.or_eq_true, Bool.and_eq_true, decide_eq_true_eq]
  (first | (apply Int.le_antisymm <;> omega) | omega)
theorem zidx_i {b : Int} (h0 : 0 ≤ b) : zidx b.toNat = true ↔ (b = 12 ∨ b = 13 ∨ b = 16 ∨ b = 32 ∨ b = 33 ∨ b = 34 ∨ b = 35 ∨ b = 36) := by
  unfold zidx
  simp only [Bool.or_eq_true, Bool.and_eq_true, decide_eq_true_eq]
  (first | (apply Int.le_antisymm <;> omega) | omega)
theorem bF {b : Bool} (h : ¬ b = true) : b = false := by cases b; rfl; exact absurd rfl h
theorem ac_z {f : Nat → Int32} {L a : Nat} {s s2 a2 s3 a3 : Int32} {r q : Int} (h1 : rz (zM f L 2147483647 a) s s2 a2 r) (h2 : rz (zM f L 4294967295 a2.toNatClampNeg) s2 s3 a3 q) (hs : s.toInt = 1) : (s3.toInt = 1 ∧ zAc f L a = some (r.toNat, a3.toNatClampNeg)) ∨ (s3.toInt = 0 ∧ zAc f L a = none) := by
  unfold zAc
  rcases h1 with ⟨u1, u2, u3, u4⟩ | ⟨u1, u2⟩
  · rw [u4]
    dsimp only
    rcases h2 with ⟨v1, v2, v3, v4⟩ | ⟨v1, v2⟩
    · exact Or.inl ⟨v1, by rw [v4]⟩
    · exact Or.inr ⟨v1, by rw [v2 u1]⟩
  · rcases h2 with ⟨v1, v2, v3, v4⟩ | ⟨v1, v2⟩
    · exact absurd v2 (by (first | (apply Int.le_antisymm <;> omega) | omega))
    · exact Or.inr ⟨v1, by rw [u2 hs]⟩
def roz (f : Nat → Int32) (L a i : Nat) (op : Int) (s2 a2 : Int32) (va va2 : Nat → Int64) (pt pt2 : Nat → Int32) : Prop :=
  (zacc op.toNat = true ∧ ((s2.toInt = 1 ∧ ∃ v : Nat, zAc f L a = some (v, a2.toNatClampNeg) ∧ (∃ w : Int32, w.toInt = (v : Int) ∧ pt2 = upd pt i w) ∧ ∃ x : Int64, va2 = vp_updL va i x) ∨ (s2.toInt = 0 ∧ zAc f L a = none))) ∨
  (zacc op.toNat = false ∧ va2 = va ∧ pt2 = pt ∧ a2.toNatClampNeg = a ∧ ((s2.toInt = 1 ∧ zplain op.toNat = true) ∨ (s2.toInt = 0 ∧ zplain op.toNat = false)))
abbrev at_RE_readOthery (dC : Nat → ClassId) (dI : Nat → Nat → Nat) (h0 aw ac ob ab wat wap wag waf wgt wft wfv wgc wek wei wes wez ax cfi clk clt cop cva cpt cel cla : Nat) (cax ccva ccpt : ClassId) (h0_limit : Int32) (h0_codeCount : Int32) (h0_openCount : Int32) (aw_typeCount : Int32) (aw_functionCount : Int32) (aw_hasMemory : Int32) (aw_pagesLeast : Int64) (aw_pagesMost : Int64) (aw_globalCount : Int32) (aw_exportCount : Int32) (ab_length : Int32) (ac_length : Int32) (ac_labelCount : Int32) (gax : Nat → Int32) (A : Nat → Prop) (u : (Nat → Int32) × (Nat → Int64) × Int32 × Int32) (t : State) : Prop := match u with | (gcpt, gcva, h0_at, h0_sound) => va_P (dC, dI) cls (wz_236 h0 aw ac h0_at h0_limit h0_sound h0_codeCount ob h0_openCount aw ab ac aw_typeCount wat wap wag aw_functionCount waf aw_hasMemory aw_pagesLeast aw_pagesMost aw_globalCount wgt wft wfv wgc aw_exportCount wek wei wes wez ab ax ab_length ac cfi clk clt ac_length cop cva cpt cel ac_labelCount cla ax cax gax cva ccva gcva cpt ccpt gcpt) t.heap ∧ va_K (dC, dI) cls [(cax, .byte), (ccva, .long), (ccpt, .int)] t ∧ va_D A (wz_236 h0 aw ac h0_at h0_limit h0_sound h0_codeCount ob h0_openCount aw ab ac aw_typeCount wat wap wag aw_functionCount waf aw_hasMemory aw_pagesLeast aw_pagesMost aw_globalCount wgt wft wfv wgc aw_exportCount wek wei wes wez ab ax ab_length ac cfi clk clt ac_length cop cva cpt cel ac_labelCount cla ax cax gax cva ccva gcva cpt ccpt gcpt)
set_option maxHeartbeats 4000000 in
set_option maxRecDepth 100000 in
theorem c_RE_readOthery (l : Launch) (dC : Nat → ClassId) (dI : Nat → Nat → Nat) (sz : Nat) (h0 aw ac ob ab wat wap wag waf wgt wft wfv wgc wek wei wes wez ax cfi clk clt cop cva cpt cel cla : Nat) (cax ccva ccpt : ClassId) (h0_at : Int32) (h0_limit : Int32) (h0_sound : Int32) (h0_codeCount : Int32) (h0_openCount : Int32) (aw_typeCount : Int32) (aw_functionCount : Int32) (aw_hasMemory : Int32) (aw_pagesLeast : Int64) (aw_pagesMost : Int64) (aw_globalCount : Int32) (aw_exportCount : Int32) (ab_length : Int32) (ac_length : Int32) (ac_labelCount : Int32) (gax : Nat → Int32) (gcva : Nat → Int64) (gcpt : Nat → Int32)  (b_h0_sound : h0_sound = 0 ∨ h0_sound = 1) (b_h0_openCount : 0 ≤ h0_openCount.toInt ∧ h0_openCount.toInt ≤ 100) (p0 : Int32) (p1 : Int32)  (ha : 0 ≤ h0_at.toInt ∧ h0_at.toInt ≤ h0_limit.toInt ∧ h0_limit.toInt ≤ ab_length.toInt ∧ ab_length.toInt ≤ 8192) (hs : h0_sound.toInt = 1) (hp : 0 ≤ p0.toInt ∧ p0.toInt < 5000) (h1 : 0 ≤ p1.toInt ∧ p1.toInt ≤ 255) : Met l y_RE_readOther w_RE_readOther ({ frames := 2, cells := 0, slots := 0, locals := 46 }) (va_Pc [.ref h0, .int p0, .int p1] (fun U => U.heap.size = sz ∧ va_P (dC, dI) cls (wz_236 h0 aw ac h0_at h0_limit h0_sound h0_codeCount ob h0_openCount aw ab ac aw_typeCount wat wap wag aw_functionCount waf aw_hasMemory aw_pagesLeast aw_pagesMost aw_globalCount wgt wft wfv wgc aw_exportCount wek wei wes wez ab ax ab_length ac cfi clk clt ac_length cop cva cpt cel ac_labelCount cla ax cax gax cva ccva gcva cpt ccpt gcpt) U.heap ∧ va_K (dC, dI) cls [(cax, .byte), (ccva, .long), (ccpt, .int)] U ∧ va_D (fun _ => True) (wz_236 h0 aw ac h0_at h0_limit h0_sound h0_codeCount ob h0_openCount aw ab ac aw_typeCount wat wap wag aw_functionCount waf aw_hasMemory aw_pagesLeast aw_pagesMost aw_globalCount wgt wft wfv wgc aw_exportCount wek wei wes wez ab ax ab_length ac cfi clk clt ac_length cop cva cpt cel ac_labelCount cla ax cax gax cva ccva gcva cpt ccpt gcpt))) (va_Qv (fun (u : (Nat → Int32) × (Nat → Int64) × Int32 × Int32) => match u with | (gcpt2, gcva2, h0_at2, h0_sound2) => (h0_sound2 = 0 ∨ h0_sound2 = 1) ∧ ((h0_at.toInt ≤ h0_at2.toInt ∧ h0_at2.toInt ≤ h0_limit.toInt) ∧ roz gax h0_limit.toNatClampNeg h0_at.toNatClampNeg p0.toNatClampNeg p1.toInt h0_sound2 h0_at2 gcva gcva2 gcpt gcpt2)) (at_RE_readOthery dC dI h0 aw ac ob ab wat wap wag waf wgt wft wfv wgc wek wei wes wez ax cfi clk clt cop cva cpt cel cla cax ccva ccpt h0_limit h0_codeCount h0_openCount aw_typeCount aw_functionCount aw_hasMemory aw_pagesLeast aw_pagesMost aw_globalCount aw_exportCount ab_length ac_length ac_labelCount gax (va_A (wz_236 h0 aw ac h0_at h0_limit h0_sound h0_codeCount ob h0_openCount aw ab ac aw_typeCount wat wap wag aw_functionCount waf aw_hasMemory aw_pagesLeast aw_pagesMost aw_globalCount wgt wft wfv wgc aw_exportCount wek wei wes wez ab ax ab_length ac cfi clk clt ac_length cop cva cpt cel ac_labelCount cla ax cax gax cva ccva gcva cpt ccpt gcpt) sz)) (va_A (wz_236 h0 aw ac h0_at h0_limit h0_sound h0_codeCount ob h0_openCount aw ab ac aw_typeCount wat wap wag aw_functionCount waf aw_hasMemory aw_pagesLeast aw_pagesMost aw_globalCount wgt wft wfv wgc aw_exportCount wek wei wes wez ab ax ab_length ac cfi clk clt ac_length cop cva cpt cel ac_labelCount cla ax cax gax cva ccva gcva cpt ccpt gcpt) sz)) 0 0 (va_A (wz_236 h0 aw ac h0_at h0_limit h0_sound h0_codeCount ob h0_openCount aw ab ac aw_typeCount wat wap wag aw_functionCount waf aw_hasMemory aw_pagesLeast aw_pagesMost aw_globalCount wgt wft wfv wgc aw_exportCount wek wei wes wez ab ax ab_length ac cfi clk clt ac_length cop cva cpt cel ac_labelCount cla ax cax gax cva ccva gcva cpt ccpt gcpt) sz) := by
  refine Met.ofW (cc := b_RE_readOther) (maxL := 3) (ret := none) (by decide) rfl ?_
  intro p e s m args below meth c s₁ B hml hv
  obtain ⟨rfl, hsz, hP, hK, hD0⟩ := hv
  have hx := B.exec
  have hb := B.bytes
  have hr := B.returns
  have hts0 := atoms_spec (ws := w_RE_readOther) B.pre
  have hts : ∀ w ∈ lw_g, w.before _ s = true := fun w h => hts0 w (List.mem_cons_of_mem _ h)
  have hown : s.vm.findClass R_RE = some m.cls := findClass_of_methodNamed B.named
  have hlocks := B.notSynchronized
  clear hts0
  subst hsz
  have hD := hD0.self (sz := s.heap.size)
  generalize hAe : va_A (wz_236 h0 aw ac h0_at h0_limit h0_sound h0_codeCount ob h0_openCount aw ab ac aw_typeCount wat wap wag aw_functionCount waf aw_hasMemory aw_pagesLeast aw_pagesMost aw_globalCount wgt wft wfv wgc aw_exportCount wek wei wes wez ab ax ab_length ac cfi clk clt ac_length cop cva cpt cel ac_labelCount cla ax cax gax cva ccva gcva cpt ccpt gcpt) s.heap.size = A at hD ⊢
  have hA : ∀ q : Nat, s.heap.size ≤ q → A q := fun q h => by rw [← hAe]; exact Or.inr h
  clear hAe
  have hP : va_P (dC, dI) cls (wz_236 h0 aw ac h0_at h0_limit h0_sound h0_codeCount ob h0_openCount aw ab ac aw_typeCount wat wap wag aw_functionCount waf aw_hasMemory aw_pagesLeast aw_pagesMost aw_globalCount wgt wft wfv wgc aw_exportCount wek wei wes wez ab ax ab_length ac cfi clk clt ac_length cop cva cpt cel ac_labelCount cla ax cax gax cva ccva gcva cpt ccpt gcpt) s.heap := hP
  have hl := lv_entry ([.ref h0, .int p0, .int p1]) (n := 3) (Nat.le_of_ble_eq_true rfl)
  rw [lg_entry_eq]
  generalize (lg_sl ([.ref h0, .int p0, .int p1]) ++ List.replicate (3 - (lg_sl ([.ref h0, .int p0, .int p1])).length) Slot.unset).toArray = ls at hl ⊢
  have hl : lv_has ls 3 [(0, .ref h0), (1, .int p0), (2, .int p1)] := hl
  have k0 : (0 : Int32).toInt = 0 := by decide
  refine w_gen (A := A) hP (fun H locs hP hS => ?_)
  have k1 : (1 : Int32).toInt = 1 := by decide
  have k15 : (15 : Int32).toInt = 15 := by decide
  have k26 : (26 : Int32).toInt = 26 := by decide
  have k27 : (27 : Int32).toInt = 27 := by decide
  have lo_p0 := i32_lo p0
  have hi_p0 := i32_hi p0
  have lo_p1 := i32_lo p1
  have hi_p1 := i32_hi p1
  have th0_sound := b01 b_h0_sound
  have zat := i32_clamp (x := h0_at) (by (first | (apply Int.le_antisymm <;> omega) | omega))
  have zlm := i32_clamp (x := h0_limit) (by (first | (apply Int.le_antisymm <;> omega) | omega))
  refine lv_iload_n hx hb d_RE_readOther_0 rfl (lv_at hl 2 rfl) ?_
  have hPc := hP.sb (wq := []) [] rfl
  have hDc := hD.sb (wq := []) [] (by decide) rfl
  have hKc := hK.sb (tyq := []) [] rfl
  have hFc := va_free (wc := []) hD hS hA [] rfl
  refine va_calli (va_runS (As := [.int p1]) (rest := []) ⟨hx, hb, hml, hown, hts⟩ (c_CD_isAccess l dC dI H.size p1) ⟨callB_of 1 hts (gW kC_CD_isAccess) rfl rfl rfl (hts _ kI_CD) (hts _ kM_RE_231) (by decide +kernel) ⟨Nat.le_of_ble_eq_true rfl, Nat.le_of_ble_eq_true rfl⟩, hts _ kT_CD_isAccess⟩ ⟨fun a U g mk z => by obtain ⟨z0, z1, zP, zK, zD⟩ := z; exact ⟨z0, z1, zP, va_K.moved (u := U) (U := U.calling g mk a) (Vm.Alike.refl U.vm) zK, zD⟩, fun U hU hW => ⟨rfl, by rw [hU], va_P.he hU.symm hPc, va_K.moved hW.alike hKc, hDc.weaken (fun _ _ _ _ => trivial)⟩⟩ rfl rfl hl.1 rfl (lv_room (Nat.le_of_ble_eq_true rfl)) d_RE_readOther_1 ⟨(Nat.zero_le _), (Nat.zero_le _)⟩) hS (fun q _ h => hFc q h) hFc (fun r1 u t H1 locs ht hvm hw hB hz1 hk1 hS => ?_)
  try dsimp only at hw
  have tr1 := hw
  obtain ⟨hP1, hK1, hD1⟩ := hB
  replace hP1 := va_P.he ht hP1
  obtain ⟨hP, hD⟩ := va_join (wr := (wz_236 h0 aw ac h0_at h0_limit h0_sound h0_codeCount ob h0_openCount aw ab ac aw_typeCount wat wap wag aw_functionCount waf aw_hasMemory aw_pagesLeast aw_pagesMost aw_globalCount wgt wft wfv wgc aw_exportCount wek wei wes wez ab ax ab_length ac cfi clk clt ac_length cop cva cpt cel ac_labelCount cla ax cax gax cva ccva gcva cpt ccpt gcpt)) (w1 := []) hP hD [] [0, 1, 2, 3, 4, 5, 6] rfl rfl (by decide) (by decide) hk1 hFc hP1 hD1
  clear hPc hDc hKc hFc hz1 hk1 hP1 hK1 hD1
  rename Heap => H
  have hP : va_P (dC, dI) cls (wz_236 h0 aw ac h0_at h0_limit h0_sound h0_codeCount ob h0_openCount aw ab ac aw_typeCount wat wap wag aw_functionCount waf aw_hasMemory aw_pagesLeast aw_pagesMost aw_globalCount wgt wft wfv wgc aw_exportCount wek wei wes wez ab ax ab_length ac cfi clk clt ac_length cop cva cpt cel ac_labelCount cla ax cax gax cva ccva gcva cpt ccpt gcpt) H := hP
  have hD : va_D A (wz_236 h0 aw ac h0_at h0_limit h0_sound h0_codeCount ob h0_openCount aw ab ac aw_typeCount wat wap wag aw_functionCount waf aw_hasMemory aw_pagesLeast aw_pagesMost aw_globalCount wgt wft wfv wgc aw_exportCount wek wei wes wez ab ax ab_length ac cfi clk clt ac_length cop cva cpt cel ac_labelCount cla ax cax gax cva ccva gcva cpt ccpt gcpt) := hD
  refine lv_if_eq (tgt := 43) hx hb d_RE_readOther_4 (by decide) (fun c4 => ?_) (fun c4 => ?_)
  · have q4 := eqI c4
    refine lv_aload_n hx hb d_RE_readOther_43 rfl (lv_at hl 0 rfl) ?_
    refine lv_iload_n hx hb d_RE_readOther_44 rfl (lv_at hl 2 rfl) ?_
    have hPc := hP.sb (wq := []) [] rfl
    have hDc := hD.sb (wq := []) [] (by decide) rfl
    have hKc := hK.sb (tyq := []) [] rfl
    have hFc := va_free (wc := []) hD hS hA [] rfl
    refine va_calli (va_runS (As := [.int p1]) (rest := [.ref h0]) ⟨hx, hb, hml, hown, hts⟩ (c_CD_isNumeric l dC dI H.size p1) ⟨callB_of 1 hts (gW kC_CD_isNumeric) rfl rfl rfl (hts _ kI_CD) (hts _ kM_RE_234) (by decide +kernel) ⟨Nat.le_of_ble_eq_true rfl, Nat.le_of_ble_eq_true rfl⟩, hts _ kT_CD_isNumeric⟩ ⟨fun a U g mk z => by obtain ⟨z0, z1, zP, zK, zD⟩ := z; exact ⟨z0, z1, zP, va_K.moved (u := U) (U := U.calling g mk a) (Vm.Alike.refl U.vm) zK, zD⟩, fun U hU hW => ⟨rfl, by rw [hU], va_P.he hU.symm hPc, va_K.moved hW.alike hKc, hDc.weaken (fun _ _ _ _ => trivial)⟩⟩ rfl rfl hl.1 rfl (lv_room (Nat.le_of_ble_eq_true rfl)) d_RE_readOther_45 ⟨(Nat.zero_le _), (Nat.zero_le _)⟩) hS (fun q _ h => hFc q h) hFc (fun r2 u t H1 locs ht hvm hw hB hz1 hk1 hS => ?_)
    try dsimp only at hw
    have tr2 := hw
    obtain ⟨hP1, hK1, hD1⟩ := hB
    replace hP1 := va_P.he ht hP1
    obtain ⟨hP, hD⟩ := va_join (wr := (wz_236 h0 aw ac h0_at h0_limit h0_sound h0_codeCount ob h0_openCount aw ab ac aw_typeCount wat wap wag aw_functionCount waf aw_hasMemory aw_pagesLeast aw_pagesMost aw_globalCount wgt wft wfv wgc aw_exportCount wek wei wes wez ab ax ab_length ac cfi clk clt ac_length cop cva cpt cel ac_labelCount cla ax cax gax cva ccva gcva cpt ccpt gcpt)) (w1 := []) hP hD [] [0, 1, 2, 3, 4, 5, 6] rfl rfl (by decide) (by decide) hk1 hFc hP1 hD1
    clear hPc hDc hKc hFc hz1 hk1 hP1 hK1 hD1
    rename Heap => H
    have hP : va_P (dC, dI) cls (wz_236 h0 aw ac h0_at h0_limit h0_sound h0_codeCount ob h0_openCount aw ab ac aw_typeCount wat wap wag aw_functionCount waf aw_hasMemory aw_pagesLeast aw_pagesMost aw_globalCount wgt wft wfv wgc aw_exportCount wek wei wes wez ab ax ab_length ac cfi clk clt ac_length cop cva cpt cel ac_labelCount cla ax cax gax cva ccva gcva cpt ccpt gcpt) H := hP
    have hD : va_D A (wz_236 h0 aw ac h0_at h0_limit h0_sound h0_codeCount ob h0_openCount aw ab ac aw_typeCount wat wap wag aw_functionCount waf aw_hasMemory aw_pagesLeast aw_pagesMost aw_globalCount wgt wft wfv wgc aw_exportCount wek wei wes wez ab ax ab_length ac cfi clk clt ac_length cop cva cpt cel ac_labelCount cla ax cax gax cva ccva gcva cpt ccpt gcpt) := hD
    refine w_cut (pc2 := 83) (σ := Int32) (fun u H locs ls => match u with | j83_s0 => (j83_s0 = 0 ∨ j83_s0 = 1) ∧ ((j83_s0.toInt = 1 ∧ (((69 ≤ p1.toInt ∧ p1.toInt ≤ 90) ∨ (103 ≤ p1.toInt ∧ p1.toInt ≤ 138) ∨ p1.toInt = 167 ∨ p1.toInt = 172 ∨ p1.toInt = 173) ∨ p1.toInt = 0 ∨ p1.toInt = 1 ∨ p1.toInt = 15 ∨ p1.toInt = 26 ∨ p1.toInt = 27)) ∨ (j83_s0.toInt = 0 ∧ ¬ (((69 ≤ p1.toInt ∧ p1.toInt ≤ 90) ∨ (103 ≤ p1.toInt ∧ p1.toInt ≤ 138) ∨ p1.toInt = 167 ∨ p1.toInt = 172 ∨ p1.toInt = 173) ∨ p1.toInt = 0 ∨ p1.toInt = 1 ∨ p1.toInt = 15 ∨ p1.toInt = 26 ∨ p1.toInt = 27))) ∧ va_P (dC, dI) cls (wz_236 h0 aw ac h0_at h0_limit h0_sound h0_codeCount ob h0_openCount aw ab ac aw_typeCount wat wap wag aw_functionCount waf aw_hasMemory aw_pagesLeast aw_pagesMost aw_globalCount wgt wft wfv wgc aw_exportCount wek wei wes wez ab ax ab_length ac cfi clk clt ac_length cop cva cpt cel ac_labelCount cla ax cax gax cva ccva gcva cpt ccpt gcpt) H ∧ va_D A (wz_236 h0 aw ac h0_at h0_limit h0_sound h0_codeCount ob h0_openCount aw ab ac aw_typeCount wat wap wag aw_functionCount waf aw_hasMemory aw_pagesLeast aw_pagesMost aw_globalCount wgt wft wfv wgc aw_exportCount wek wei wes wez ab ax ab_length ac cfi clk clt ac_length cop cva cpt cel ac_labelCount cla ax cax gax cva ccva gcva cpt ccpt gcpt) ∧ va_S A s.heap H locs ∧ lv_has ls 3 []) (fun u => match u with | j83_s0 => [.int j83_s0, .ref h0]) ?_ (fun jn83 => ?_)
    · intro u H locs ls hI
      obtain ⟨j83_s0, rfl⟩ : ∃ z, z = u := ⟨_, rfl⟩
      obtain ⟨b_j83_s0, y83, hP, hD, hS, hl⟩ := hI
      have tj83_s0 := b01 b_j83_s0
      refine va_put (D := (dC, dI)) (ci := 7) (v := .int j83_s0) (ty := .boolean) (C := R_RE) (T := F_RE) (N := 8) hx hb hts i_RE t_RE t_RE_ok n_RE hown hK hP hD hS 0 rfl rfl 4 (by decide) (hts _ kF_RE_45) (fun _ h9 => h9) rfl (by decide +kernel) (zn01 (b_j83_s0)) (fz01 (b_j83_s0)) (Nat.le_of_ble_eq_true rfl) d_RE_readOther_83 (fun H locs hP hD hS => ?_)
      have hP9 := hP.sb (wq := (wz_236 h0 aw ac h0_at h0_limit j83_s0 h0_codeCount ob h0_openCount aw ab ac aw_typeCount wat wap wag aw_functionCount waf aw_hasMemory aw_pagesLeast aw_pagesMost aw_globalCount wgt wft wfv wgc aw_exportCount wek wei wes wez ab ax ab_length ac cfi clk clt ac_length cop cva cpt cel ac_labelCount cla ax cax gax cva ccva gcva cpt ccpt gcpt)) [0, 1, 2, 3, 4, 5, 6] rfl
      have hD9 := hD.sb (wq := (wz_236 h0 aw ac h0_at h0_limit j83_s0 h0_codeCount ob h0_openCount aw ab ac aw_typeCount wat wap wag aw_functionCount waf aw_hasMemory aw_pagesLeast aw_pagesMost aw_globalCount wgt wft wfv wgc aw_exportCount wek wei wes wez ab ax ab_length ac cfi clk clt ac_length cop cva cpt cel ac_labelCount cla ax cax gax cva ccva gcva cpt ccpt gcpt)) [0, 1, 2, 3, 4, 5, 6] (by decide) rfl
      exact W.vret hx hb hr (fun t ht hW => ⟨⟨(gcpt, gcva, h0_at, j83_s0), rfl, ⟨b_j83_s0, ⟨⟨by (try dsimp only) <;> (first | (apply Int.le_antisymm <;> omega) | omega), by (try dsimp only) <;> (first | (apply Int.le_antisymm <;> omega) | omega)⟩, Or.inr ⟨bF (fun z => absurd ((zacc_i (by (first | (apply Int.le_antisymm <;> omega) | omega))).mp z) (by (first | (apply Int.le_antisymm <;> omega) | omega))), rfl, rfl, rfl, (by rcases y83 with ⟨z1, z2⟩ | ⟨z1, z2⟩; (exact Or.inl ⟨z1, (zplain_i (by (first | (apply Int.le_antisymm <;> omega) | omega))).mpr (by (first | (apply Int.le_antisymm <;> omega) | omega))⟩); (exact Or.inr ⟨z1, bF (fun z => absurd ((zplain_i (by (first | (apply Int.le_antisymm <;> omega) | omega))).mp z) (by (first | (apply Int.le_antisymm <;> omega) | omega)))⟩))⟩⟩⟩, va_P.he ht.symm hP9, va_K.moved hW.alike hK, hD9⟩, hS.F ht⟩) hS.2.2 d_RE_readOther_86
    · skip
      refine w_cut (pc2 := 78) (σ := Unit) (fun u H locs ls => match u with | _ => ((((69 ≤ p1.toInt ∧ p1.toInt ≤ 90) ∨ (103 ≤ p1.toInt ∧ p1.toInt ≤ 138) ∨ p1.toInt = 167 ∨ p1.toInt = 172 ∨ p1.toInt = 173) ∨ p1.toInt = 0 ∨ p1.toInt = 1 ∨ p1.toInt = 15 ∨ p1.toInt = 26 ∨ p1.toInt = 27)) ∧ va_P (dC, dI) cls (wz_236 h0 aw ac h0_at h0_limit h0_sound h0_codeCount ob h0_openCount aw ab ac aw_typeCount wat wap wag aw_functionCount waf aw_hasMemory aw_pagesLeast aw_pagesMost aw_globalCount wgt wft wfv wgc aw_exportCount wek wei wes wez ab ax ab_length ac cfi clk clt ac_length cop cva cpt cel ac_labelCount cla ax cax gax cva ccva gcva cpt ccpt gcpt) H ∧ va_D A (wz_236 h0 aw ac h0_at h0_limit h0_sound h0_codeCount ob h0_openCount aw ab ac aw_typeCount wat wap wag aw_functionCount waf aw_hasMemory aw_pagesLeast aw_pagesMost aw_globalCount wgt wft wfv wgc aw_exportCount wek wei wes wez ab ax ab_length ac cfi clk clt ac_length cop cva cpt cel ac_labelCount cla ax cax gax cva ccva gcva cpt ccpt gcpt) ∧ va_S A s.heap H locs ∧ lv_has ls 3 []) (fun u => match u with | _ => [.ref h0]) ?_ (fun jn78 => ?_)
      · intro u H locs ls hI
        obtain ⟨y78, hP, hD, hS, hl⟩ := hI
        refine lv_iconst (v := 1) hx hb d_RE_readOther_78 (by decide) ?_
        refine lv_goto (tgt := 83) hx hb d_RE_readOther_79 (by decide) ?_
        exact jn83 1 _ _ _ ⟨Or.inr rfl, by (try dsimp only) <;> (first | (apply Int.le_antisymm <;> omega) | omega), hP, hD, hS, lv_sub hl [] rfl⟩
      · skip
        refine lv_if_ne (tgt := 78) hx hb d_RE_readOther_48 (by decide) (fun c48 => ?_) (fun c48 => ?_)
        · have q48 := neI c48
          exact jn78 () _ _ _ ⟨by (try dsimp only) <;> (first | (apply Int.le_antisymm <;> omega) | omega), hP, hD, hS, lv_sub hl [] rfl⟩
        · have q48 := eqI c48
          refine lv_iload_n hx hb d_RE_readOther_51 rfl (lv_at hl 2 rfl) ?_
          refine lv_if_eq (tgt := 78) hx hb d_RE_readOther_52 (by decide) (fun c52 => ?_) (fun c52 => ?_)
          · have q52 := eqI c52
            exact jn78 () _ _ _ ⟨by (try dsimp only) <;> (first | (apply Int.le_antisymm <;> omega) | omega), hP, hD, hS, lv_sub hl [] rfl⟩
          · have q52 := neI c52
            refine lv_iload_n hx hb d_RE_readOther_55 rfl (lv_at hl 2 rfl) ?_
            refine lv_iconst (v := 1) hx hb d_RE_readOther_56 (by decide) ?_
            refine lv_icmp_eq (tgt := 78) hx hb d_RE_readOther_57 (by decide) (fun c57 => ?_) (fun c57 => ?_)
            · have q57 := eqI c57
              exact jn78 () _ _ _ ⟨by (try dsimp only) <;> (first | (apply Int.le_antisymm <;> omega) | omega), hP, hD, hS, lv_sub hl [] rfl⟩
            · have q57 := neI c57
              refine lv_iload_n hx hb d_RE_readOther_60 rfl (lv_at hl 2 rfl) ?_
              refine lv_bipush (v := 15) hx hb d_RE_readOther_61 (by decide) ?_
              refine lv_icmp_eq (tgt := 78) hx hb d_RE_readOther_63 (by decide) (fun c63 => ?_) (fun c63 => ?_)
              · have q63 := eqI c63
                exact jn78 () _ _ _ ⟨by (try dsimp only) <;> (first | (apply Int.le_antisymm <;> omega) | omega), hP, hD, hS, lv_sub hl [] rfl⟩
              · have q63 := neI c63
                refine lv_iload_n hx hb d_RE_readOther_66 rfl (lv_at hl 2 rfl) ?_
                refine lv_bipush (v := 26) hx hb d_RE_readOther_67 (by decide) ?_
                refine lv_icmp_eq (tgt := 78) hx hb d_RE_readOther_69 (by decide) (fun c69 => ?_) (fun c69 => ?_)
                · have q69 := eqI c69
                  exact jn78 () _ _ _ ⟨by (try dsimp only) <;> (first | (apply Int.le_antisymm <;> omega) | omega), hP, hD, hS, lv_sub hl [] rfl⟩
                · have q69 := neI c69
                  refine lv_iload_n hx hb d_RE_readOther_72 rfl (lv_at hl 2 rfl) ?_
                  refine lv_bipush (v := 27) hx hb d_RE_readOther_73 (by decide) ?_
                  refine lv_icmp_ne (tgt := 82) hx hb d_RE_readOther_75 (by decide) (fun c75 => ?_) (fun c75 => ?_)
                  · have q75 := neI c75
                    refine lv_iconst (v := 0) hx hb d_RE_readOther_82 (by decide) ?_
                    exact jn83 0 _ _ _ ⟨Or.inl rfl, by (try dsimp only) <;> (first | (apply Int.le_antisymm <;> omega) | omega), hP, hD, hS, lv_sub hl [] rfl⟩
                  · have q75 := eqI c75
                    exact jn78 () _ _ _ ⟨by (try dsimp only) <;> (first | (apply Int.le_antisymm <;> omega) | omega), hP, hD, hS, lv_sub hl [] rfl⟩
  · have q4 := neI c4
    refine lv_aload_n hx hb d_RE_readOther_7 rfl (lv_at hl 0 rfl) ?_
    refine va_get (D := (dC, dI)) (ci := 7) (v := .ref ac) (C := R_RE) (T := F_RE) (N := 8) hx hb hts i_RE hown hK hP 0 rfl rfl 1 (by decide) (hts _ kF_RE_25) (fun _ h9 => h9) rfl d_RE_readOther_8 ?_
    refine va_get (D := (dC, dI)) (ci := 3) (v := .ref cpt) (C := R_CD) (T := F_CD) (N := 10) hx hb hts i_CD hown hK hP 3 rfl rfl 6 (by decide) (hts _ kF_RE_200) (fun _ h9 => h9) rfl d_RE_readOther_11 ?_
    refine lv_iload_n hx hb d_RE_readOther_14 rfl (lv_at hl 1 rfl) ?_
    refine lv_aload_n hx hb d_RE_readOther_15 rfl (lv_at hl 0 rfl) ?_
    refine lv_ldc2 hx hb hown (hts _ kL_RE_82) d_RE_readOther_16 ?_
    refine lv_topl (fun x3 ex3 => ?_)
    have tx3 : x3.toInt = 2147483647 := by rw [ex3]; decide
    have hPc := hP.sb (wq := (wz_46 h0 aw ac h0_at h0_limit h0_sound h0_codeCount ob h0_openCount aw ab ac aw_typeCount wat wap wag aw_functionCount waf aw_hasMemory aw_pagesLeast aw_pagesMost aw_globalCount wgt wft wfv wgc aw_exportCount wek wei wes wez ab ax ab_length ax cax gax)) [0, 1, 2, 4] rfl
    have hDc := hD.sb (wq := (wz_46 h0 aw ac h0_at h0_limit h0_sound h0_codeCount ob h0_openCount aw ab ac aw_typeCount wat wap wag aw_functionCount waf aw_hasMemory aw_pagesLeast aw_pagesMost aw_globalCount wgt wft wfv wgc aw_exportCount wek wei wes wez ab ax ab_length ax cax gax)) [0, 1, 2, 4] (by decide) rfl
    have hKc := hK.sb (tyq := [(cax, .byte)]) [0] rfl
    have hFc := va_free (wc := (wz_46 h0 aw ac h0_at h0_limit h0_sound h0_codeCount ob h0_openCount aw ab ac aw_typeCount wat wap wag aw_functionCount waf aw_hasMemory aw_pagesLeast aw_pagesMost aw_globalCount wgt wft wfv wgc aw_exportCount wek wei wes wez ab ax ab_length ax cax gax)) hD hS hA [0, 1, 2, 4] rfl
    refine va_calll (va_runV (As := [.long x3]) (rest := [.int p0, .ref cpt]) ⟨hx, hb, hml, hown, hts⟩ (c_RE_readUnsignedy l dC dI H.size h0 aw ac ob ab wat wap wag waf wgt wft wfv wgc wek wei wes wez ax cax h0_at h0_limit h0_sound h0_codeCount h0_openCount aw_typeCount aw_functionCount aw_hasMemory aw_pagesLeast aw_pagesMost aw_globalCount aw_exportCount ab_length gax (b_h0_sound) x3 (by (try dsimp only) <;> (first | (apply Int.le_antisymm <;> omega) | omega)) (by (first | (apply Int.le_antisymm <;> omega) | omega))) (cwV 1 hts (gV kM_RE_64 kV_RE_readUnsigned kS_RE_readUnsigned kI_RE kC_RE_readUnsigned) rfl rfl rfl (by decide +kernel) ⟨Nat.le_of_ble_eq_true rfl, Nat.le_of_ble_eq_true rfl⟩) ⟨fun a U g mk z => by obtain ⟨z0, z1, zP, zK, zD⟩ := z; exact ⟨z0, z1, zP, va_K.moved (u := U) (U := U.calling g mk a) (Vm.Alike.refl U.vm) zK, zD⟩, va_recv hKc hPc (ci := 7) (q0 := 0) rfl rfl, fun U hU hW => ⟨rfl, by rw [hU], va_P.he hU.symm hPc, va_K.moved hW.alike hKc, hDc.weaken (fun _ _ _ _ => trivial)⟩⟩ rfl rfl hl.1 rfl (lv_room (Nat.le_of_ble_eq_true rfl)) d_RE_readOther_19 ⟨(Nat.zero_le _), (Nat.zero_le _)⟩) hS (fun q _ h => hFc q h) hFc (fun r4 u t H1 locs ht hvm hw hB hz1 hk1 hS => ?_)
    obtain ⟨n5, n6⟩ := u
    try dsimp only at hw
    obtain ⟨bn6, xr4⟩ := hw
    try clear hw
    have tn6 := b01 bn6
    have u19 : rz (zM gax h0_limit.toNatClampNeg 2147483647 h0_at.toNatClampNeg) h0_sound n6 n5 r4.toInt := by have z9 := xr4.2; rw [show x3.toInt.toNat = 2147483647 from by (first | (apply Int.le_antisymm <;> omega) | omega)] at z9; exact z9
    obtain ⟨hP1, hK1, hD1⟩ := hB
    replace hP1 := va_P.he ht hP1
    obtain ⟨hP, hD⟩ := va_join (wr := (wz_8 ac cfi clk clt ac_length cop cva cpt cel ac_labelCount cla cva ccva gcva cpt ccpt gcpt)) (w1 := (wz_46 h0 aw ac n5 h0_limit n6 h0_codeCount ob h0_openCount aw ab ac aw_typeCount wat wap wag aw_functionCount waf aw_hasMemory aw_pagesLeast aw_pagesMost aw_globalCount wgt wft wfv wgc aw_exportCount wek wei wes wez ab ax ab_length ax cax gax)) hP hD [0, 1, 2, 4] [3, 5, 6] rfl rfl (by decide) (by decide) hk1 hFc hP1 hD1
    clear hPc hDc hKc hFc hz1 hk1 hP1 hK1 hD1
    rename Heap => H
    have hP : va_P (dC, dI) cls (wz_237 ac cfi clk clt ac_length cop cva cpt cel ac_labelCount cla cva ccva gcva cpt ccpt gcpt h0 aw ac n5 h0_limit n6 h0_codeCount ob h0_openCount aw ab ac aw_typeCount wat wap wag aw_functionCount waf aw_hasMemory aw_pagesLeast aw_pagesMost aw_globalCount wgt wft wfv wgc aw_exportCount wek wei wes wez ab ax ab_length ax cax gax) H := hP
    have hD : va_D A (wz_237 ac cfi clk clt ac_length cop cva cpt cel ac_labelCount cla cva ccva gcva cpt ccpt gcpt h0 aw ac n5 h0_limit n6 h0_codeCount ob h0_openCount aw ab ac aw_typeCount wat wap wag aw_functionCount waf aw_hasMemory aw_pagesLeast aw_pagesMost aw_globalCount wgt wft wfv wgc aw_exportCount wek wei wes wez ab ax ab_length ax cax gax) := hD
    refine lv_l2i hx hb d_RE_readOther_22 rfl ?_
    refine lv_topi (fun x7 ex7 => ?_)
    have tx7 := l2i_t ex7 (by (first | (apply Int.le_antisymm <;> omega) | omega)) (by (first | (apply Int.le_antisymm <;> omega) | omega))
    have g23 : vp_in p0 5000 := vp_in_iff.mpr ⟨by (first | (apply Int.le_antisymm <;> omega) | omega), by (first | (apply Int.le_antisymm <;> omega) | omega)⟩
    refine va_iast hx hb hK hP hD hS 2 2 rfl rfl g23 d_RE_readOther_23 (fun H locs hP hD hS => ?_)
    generalize ef8 : upd gcpt p0.toNatClampNeg x7 = f8 at hP hD
    refine lv_aload_n hx hb d_RE_readOther_24 rfl (lv_at hl 0 rfl) ?_
    refine va_get (D := (dC, dI)) (ci := 7) (v := .ref ac) (C := R_RE) (T := F_RE) (N := 8) hx hb hts i_RE hown hK hP 3 rfl rfl 1 (by decide) (hts _ kF_RE_25) (fun _ h9 => h9) rfl d_RE_readOther_25 ?_
    refine va_get (D := (dC, dI)) (ci := 3) (v := .ref cva) (C := R_CD) (T := F_CD) (N := 10) hx hb hts i_CD hown hK hP 0 rfl rfl 5 (by decide) (hts _ kF_RE_197) (fun _ h9 => h9) rfl d_RE_readOther_28 ?_
    refine lv_iload_n hx hb d_RE_readOther_31 rfl (lv_at hl 1 rfl) ?_
    refine lv_aload_n hx hb d_RE_readOther_32 rfl (lv_at hl 0 rfl) ?_
    refine lv_ldc2 hx hb hown (hts _ kL_RE_121) d_RE_readOther_33 ?_
    refine lv_topl (fun x9 ex9 => ?_)
    have tx9 : x9.toInt = 4294967295 := by rw [ex9]; decide
    have hPc := hP.sb (wq := (wz_46 h0 aw ac n5 h0_limit n6 h0_codeCount ob h0_openCount aw ab ac aw_typeCount wat wap wag aw_functionCount waf aw_hasMemory aw_pagesLeast aw_pagesMost aw_globalCount wgt wft wfv wgc aw_exportCount wek wei wes wez ab ax ab_length ax cax gax)) [3, 4, 5, 6] rfl
    have hDc := hD.sb (wq := (wz_46 h0 aw ac n5 h0_limit n6 h0_codeCount ob h0_openCount aw ab ac aw_typeCount wat wap wag aw_functionCount waf aw_hasMemory aw_pagesLeast aw_pagesMost aw_globalCount wgt wft wfv wgc aw_exportCount wek wei wes wez ab ax ab_length ax cax gax)) [3, 4, 5, 6] (by decide) rfl
    have hKc := hK.sb (tyq := [(cax, .byte)]) [0] rfl
    have hFc := va_free (wc := (wz_46 h0 aw ac n5 h0_limit n6 h0_codeCount ob h0_openCount aw ab ac aw_typeCount wat wap wag aw_functionCount waf aw_hasMemory aw_pagesLeast aw_pagesMost aw_globalCount wgt wft wfv wgc aw_exportCount wek wei wes wez ab ax ab_length ax cax gax)) hD hS hA [3, 4, 5, 6] rfl
    refine va_calll (va_runV (As := [.long x9]) (rest := [.int p0, .ref cva]) ⟨hx, hb, hml, hown, hts⟩ (c_RE_readUnsignedy l dC dI H.size h0 aw ac ob ab wat wap wag waf wgt wft wfv wgc wek wei wes wez ax cax n5 h0_limit n6 h0_codeCount h0_openCount aw_typeCount aw_functionCount aw_hasMemory aw_pagesLeast aw_pagesMost aw_globalCount aw_exportCount ab_length gax (bn6) x9 (by (try dsimp only) <;> (first | (apply Int.le_antisymm <;> omega) | omega)) (by (first | (apply Int.le_antisymm <;> omega) | omega))) (cwV 1 hts (gV kM_RE_64 kV_RE_readUnsigned kS_RE_readUnsigned kI_RE kC_RE_readUnsigned) rfl rfl rfl (by decide +kernel) ⟨Nat.le_of_ble_eq_true rfl, Nat.le_of_ble_eq_true rfl⟩) ⟨fun a U g mk z => by obtain ⟨z0, z1, zP, zK, zD⟩ := z; exact ⟨z0, z1, zP, va_K.moved (u := U) (U := U.calling g mk a) (Vm.Alike.refl U.vm) zK, zD⟩, va_recv hKc hPc (ci := 7) (q0 := 0) rfl rfl, fun U hU hW => ⟨rfl, by rw [hU], va_P.he hU.symm hPc, va_K.moved hW.alike hKc, hDc.weaken (fun _ _ _ _ => trivial)⟩⟩ rfl rfl hl.1 rfl (lv_room (Nat.le_of_ble_eq_true rfl)) d_RE_readOther_36 ⟨(Nat.zero_le _), (Nat.zero_le _)⟩) hS (fun q _ h => hFc q h) hFc (fun r10 u t H1 locs ht hvm hw hB hz1 hk1 hS => ?_)
    obtain ⟨n11, n12⟩ := u
    try dsimp only at hw
    obtain ⟨bn12, xr10⟩ := hw
    try clear hw
    have tn12 := b01 bn12
    have u36 : rz (zM gax h0_limit.toNatClampNeg 4294967295 n5.toNatClampNeg) n6 n12 n11 r10.toInt := by have z9 := xr10.2; rw [show x9.toInt.toNat = 4294967295 from by (first | (apply Int.le_antisymm <;> omega) | omega)] at z9; exact z9
    obtain ⟨hP1, hK1, hD1⟩ := hB
    replace hP1 := va_P.he ht hP1
    obtain ⟨hP, hD⟩ := va_join (wr := (wz_8 ac cfi clk clt ac_length cop cva cpt cel ac_labelCount cla cva ccva gcva cpt ccpt f8)) (w1 := (wz_46 h0 aw ac n11 h0_limit n12 h0_codeCount ob h0_openCount aw ab ac aw_typeCount wat wap wag aw_functionCount waf aw_hasMemory aw_pagesLeast aw_pagesMost aw_globalCount wgt wft wfv wgc aw_exportCount wek wei wes wez ab ax ab_length ax cax gax)) hP hD [3, 4, 5, 6] [0, 1, 2] rfl rfl (by decide) (by decide) hk1 hFc hP1 hD1
    clear hPc hDc hKc hFc hz1 hk1 hP1 hK1 hD1
    rename Heap => H
    have hP : va_P (dC, dI) cls (wz_237 ac cfi clk clt ac_length cop cva cpt cel ac_labelCount cla cva ccva gcva cpt ccpt f8 h0 aw ac n11 h0_limit n12 h0_codeCount ob h0_openCount aw ab ac aw_typeCount wat wap wag aw_functionCount waf aw_hasMemory aw_pagesLeast aw_pagesMost aw_globalCount wgt wft wfv wgc aw_exportCount wek wei wes wez ab ax ab_length ax cax gax) H := hP
    have hD : va_D A (wz_237 ac cfi clk clt ac_length cop cva cpt cel ac_labelCount cla cva ccva gcva cpt ccpt f8 h0 aw ac n11 h0_limit n12 h0_codeCount ob h0_openCount aw ab ac aw_typeCount wat wap wag aw_functionCount waf aw_hasMemory aw_pagesLeast aw_pagesMost aw_globalCount wgt wft wfv wgc aw_exportCount wek wei wes wez ab ax ab_length ax cax gax) := hD
    have g39 : vp_in p0 5000 := vp_in_iff.mpr ⟨by (first | (apply Int.le_antisymm <;> omega) | omega), by (first | (apply Int.le_antisymm <;> omega) | omega)⟩
    refine va_last hx hb hK hP hD hS 1 1 rfl rfl g39 d_RE_readOther_39 (fun H locs hP hD hS => ?_)
    generalize ef13 : vp_updL gcva p0.toNatClampNeg r10 = f13 at hP hD
    refine lv_goto (tgt := 86) hx hb d_RE_readOther_40 (by decide) ?_
    have hP9 := hP.sb (wq := (wz_236 h0 aw ac n11 h0_limit n12 h0_codeCount ob h0_openCount aw ab ac aw_typeCount wat wap wag aw_functionCount waf aw_hasMemory aw_pagesLeast aw_pagesMost aw_globalCount wgt wft wfv wgc aw_exportCount wek wei wes wez ab ax ab_length ac cfi clk clt ac_length cop cva cpt cel ac_labelCount cla ax cax gax cva ccva f13 cpt ccpt f8)) [3, 4, 5, 0, 6, 1, 2] rfl
    have hD9 := hD.sb (wq := (wz_236 h0 aw ac n11 h0_limit n12 h0_codeCount ob h0_openCount aw ab ac aw_typeCount wat wap wag aw_functionCount waf aw_hasMemory aw_pagesLeast aw_pagesMost aw_globalCount wgt wft wfv wgc aw_exportCount wek wei wes wez ab ax ab_length ac cfi clk clt ac_length cop cva cpt cel ac_labelCount cla ax cax gax cva ccva f13 cpt ccpt f8)) [3, 4, 5, 0, 6, 1, 2] (by decide) rfl
    exact W.vret hx hb hr (fun t ht hW => ⟨⟨(f8, f13, n11, n12), rfl, ⟨bn12, ⟨⟨by (try dsimp only) <;> (first | (apply Int.le_antisymm <;> omega) | omega), by (try dsimp only) <;> (first | (apply Int.le_antisymm <;> omega) | omega)⟩, Or.inl ⟨(zacc_i (by (first | (apply Int.le_antisymm <;> omega) | omega))).mpr (by (first | (apply Int.le_antisymm <;> omega) | omega)), (by rcases ac_z u19 u36 hs with ⟨z1, z2⟩ | ⟨z1, z2⟩; (exact Or.inl ⟨z1, _, z2, ⟨x7, by (first | (apply Int.le_antisymm <;> omega) | omega), by rw [← ef8]⟩, r10, by rw [← ef13]⟩); (exact Or.inr ⟨z1, z2⟩))⟩⟩⟩, va_P.he ht.symm hP9, va_K.moved hW.alike hK, hD9⟩, hS.F ht⟩) hS.2.2 d_RE_readOther_86
end q_n44q05

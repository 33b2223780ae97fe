/-! Reader: blocks and other instructions as they were put -/
abbrev at_RE_openBlockx (dC : Nat → ClassId) (dI : Nat → Nat → Nat) (h0 aw ac ob ab wat wap wag waf wgt wft wfv wgc wek wei wes wez ax cfi clk clt cop cva cpt cel cla : Nat) (cax cob ccva : ClassId) (h0_limit : Int32) (h0_codeCount : Int32) (aw_typeCount : Int32) (aw_functionCount : Int32) (aw_hasMemory : Int32) (aw_pagesLeast : Int64) (aw_pagesMost : Int64) (aw_globalCount : Int32) (aw_exportCount : Int32) (ab_length : Int32) (ac_length : Int32) (ac_labelCount : Int32) (gax : Nat → Int32) (A : Nat → Prop) (u : (Nat → Int64) × (Nat → Int32) × Int32 × Int32 × Int32) (t : State) : Prop := match u with | (gcva, gob, h0_at, h0_openCount, h0_sound) => va_P (dC, dI) cls [(h0, .inr (7, [.ref aw, .ref ac, .int h0_at, .int h0_limit, .int h0_sound, .int h0_codeCount, .ref ob, .int h0_openCount])), (aw, .inr (10, [.ref ab, .ref ac, .int aw_typeCount, .ref wat, .ref wap, .ref wag, .int aw_functionCount, .ref waf, .int aw_hasMemory, .long aw_pagesLeast, .long aw_pagesMost, .int aw_globalCount, .ref wgt, .ref wft, .ref wfv, .ref wgc, .int aw_exportCount, .ref wek, .ref wei, .ref wes, .ref wez])), (ab, .inr (1, [.ref ax, .int ab_length])), (ac, .inr (3, [.ref cfi, .ref clk, .ref clt, .int ac_length, .ref cop, .ref cva, .ref cpt, .ref cel, .int ac_labelCount, .ref cla])), (ax, .inl (cax, 8192, .inl gax)), (ob, .inl (cob, 100, .inl gob)), (cva, .inl (ccva, 5000, .inr (.inl gcva)))] t.heap ∧ va_K (dC, dI) cls [(cax, .byte), (cob, .int), (ccva, .long)] t ∧ va_D A [(h0, .inr (7, [.ref aw, .ref ac, .int h0_at, .int h0_limit, .int h0_sound, .int h0_codeCount, .ref ob, .int h0_openCount])), (aw, .inr (10, [.ref ab, .ref ac, .int aw_typeCount, .ref wat, .ref wap, .ref wag, .int aw_functionCount, .ref waf, .int aw_hasMemory, .long aw_pagesLeast, .long aw_pagesMost, .int aw_globalCount, .ref wgt, .ref wft, .ref wfv, .ref wgc, .int aw_exportCount, .ref wek, .ref wei, .ref wes, .ref wez])), (ab, .inr (1, [.ref ax, .int ab_length])), (ac, .inr (3, [.ref cfi, .ref clk, .ref clt, .int ac_length, .ref cop, .ref cva, .ref cpt, .ref cel, .int ac_labelCount, .ref cla])), (ax, .inl (cax, 8192, .inl gax)), (ob, .inl (cob, 100, .inl gob)), (cva, .inl (ccva, 5000, .inr (.inl gcva)))]
set_option maxHeartbeats 4000000 in
set_option maxRecDepth 100000 in
theorem c_RE_openBlockx (l : Launch) (dC : Nat → ClassId) (dI : Nat → Nat → Nat) (sz : Nat) (h0 aw ac ob ab wat wap wag waf wgt wft wfv wgc wek wei wes wez ax cfi clk clt cop cva cpt cel cla : Nat) (cax cob ccva : ClassId) (h0_at : Int32) (h0_limit : Int32) (h0_sound : Int32) (h0_codeCount : Int32) (h0_openCount : Int32) (aw_typeCount : Int32) (aw_functionCount : Int32) (aw_hasMemory : Int32) (aw_pagesLeast : Int64) (aw_pagesMost : Int64) (aw_globalCount : Int32) (aw_exportCount : Int32) (ab_length : Int32) (ac_length : Int32) (ac_labelCount : Int32) (gax : Nat → Int32) (gob : Nat → Int32) (gcva : Nat → Int64)  (b_h0_sound : h0_sound = 0 ∨ h0_sound = 1) (b_h0_openCount : 0 ≤ h0_openCount.toInt ∧ h0_openCount.toInt ≤ 100) (p0 : Int32)  (hs : h0_sound.toInt = 1) (ha : 0 ≤ h0_at.toInt ∧ h0_limit.toInt ≤ ab_length.toInt ∧ ab_length.toInt ≤ 8192) (hp : 0 ≤ p0.toInt ∧ p0.toInt < 5000) (hl : h0_at.toInt < h0_limit.toInt) (hby : (bn (gax h0_at.toNatClampNeg) : Int) = 64 ∨ (bn (gax h0_at.toNatClampNeg) : Int) = 127) (hoc : h0_openCount.toInt < 100) : Met l y_RE_openBlock w_RE_openBlock ({ frames := 1, cells := 0, slots := 0, locals := 20 }) (va_Pc [.ref h0, .int p0] (fun U => U.heap.size = sz ∧ va_P (dC, dI) cls [(h0, .inr (7, [.ref aw, .ref ac, .int h0_at, .int h0_limit, .int h0_sound, .int h0_codeCount, .ref ob, .int h0_openCount])), (aw, .inr (10, [.ref ab, .ref ac, .int aw_typeCount, .ref wat, .ref wap, .ref wag, .int aw_functionCount, .ref waf, .int aw_hasMemory, .long aw_pagesLeast, .long aw_pagesMost, .int aw_globalCount, .ref wgt, .ref wft, .ref wfv, .ref wgc, .int aw_exportCount, .ref wek, .ref wei, .ref wes, .ref wez])), (ab, .inr (1, [.ref ax, .int ab_length])), (ac, .inr (3, [.ref cfi, .ref clk, .ref clt, .int ac_length, .ref cop, .ref cva, .ref cpt, .ref cel, .int ac_labelCount, .ref cla])), (ax, .inl (cax, 8192, .inl gax)), (ob, .inl (cob, 100, .inl gob)), (cva, .inl (ccva, 5000, .inr (.inl gcva)))] U.heap ∧ va_K (dC, dI) cls [(cax, .byte), (cob, .int), (ccva, .long)] U ∧ va_D (fun _ => True) [(h0, .inr (7, [.ref aw, .ref ac, .int h0_at, .int h0_limit, .int h0_sound, .int h0_codeCount, .ref ob, .int h0_openCount])), (aw, .inr (10, [.ref ab, .ref ac, .int aw_typeCount, .ref wat, .ref wap, .ref wag, .int aw_functionCount, .ref waf, .int aw_hasMemory, .long aw_pagesLeast, .long aw_pagesMost, .int aw_globalCount, .ref wgt, .ref wft, .ref wfv, .ref wgc, .int aw_exportCount, .ref wek, .ref wei, .ref wes, .ref wez])), (ab, .inr (1, [.ref ax, .int ab_length])), (ac, .inr (3, [.ref cfi, .ref clk, .ref clt, .int ac_length, .ref cop, .ref cva, .ref cpt, .ref cel, .int ac_labelCount, .ref cla])), (ax, .inl (cax, 8192, .inl gax)), (ob, .inl (cob, 100, .inl gob)), (cva, .inl (ccva, 5000, .inr (.inl gcva)))])) (va_Qv (fun (u : (Nat → Int64) × (Nat → Int32) × Int32 × Int32 × Int32) => match u with | (gcva2, gob2, h0_at2, h0_openCount2, h0_sound2) => (0 ≤ h0_openCount2.toInt ∧ h0_openCount2.toInt ≤ 100) ∧ (h0_sound2 = 0 ∨ h0_sound2 = 1) ∧ (h0_at2.toInt = h0_at.toInt + 1 ∧ h0_sound2.toInt = 1 ∧ h0_openCount2.toInt = h0_openCount.toInt + 1 ∧ gob2 = upd gob h0_openCount.toNatClampNeg p0 ∧ ∃ v : Int64, v.toInt = (bn (gax h0_at.toNatClampNeg) : Int) ∧ gcva2 = vp_updL gcva p0.toNatClampNeg v)) (at_RE_openBlockx dC dI h0 aw ac ob ab wat wap wag waf wgt wft wfv wgc wek wei wes wez ax cfi clk clt cop cva cpt cel cla cax cob ccva h0_limit h0_codeCount aw_typeCount aw_functionCount aw_hasMemory aw_pagesLeast aw_pagesMost aw_globalCount aw_exportCount ab_length ac_length ac_labelCount gax (va_A [(h0, .inr (7, [.ref aw, .ref ac, .int h0_at, .int h0_limit, .int h0_sound, .int h0_codeCount, .ref ob, .int h0_openCount])), (aw, .inr (10, [.ref ab, .ref ac, .int aw_typeCount, .ref wat, .ref wap, .ref wag, .int aw_functionCount, .ref waf, .int aw_hasMemory, .long aw_pagesLeast, .long aw_pagesMost, .int aw_globalCount, .ref wgt, .ref wft, .ref wfv, .ref wgc, .int aw_exportCount, .ref wek, .ref wei, .ref wes, .ref wez])), (ab, .inr (1, [.ref ax, .int ab_length])), (ac, .inr (3, [.ref cfi, .ref clk, .ref clt, .int ac_length, .ref cop, .ref cva, .ref cpt, .ref cel, .int ac_labelCount, .ref cla])), (ax, .inl (cax, 8192, .inl gax)), (ob, .inl (cob, 100, .inl gob)), (cva, .inl (ccva, 5000, .inr (.inl gcva)))] sz)) (va_A [(h0, .inr (7, [.ref aw, .ref ac, .int h0_at, .int h0_limit, .int h0_sound, .int h0_codeCount, .ref ob, .int h0_openCount])), (aw, .inr (10, [.ref ab, .ref ac, .int aw_typeCount, .ref wat, .ref wap, .ref wag, .int aw_functionCount, .ref waf, .int aw_hasMemory, .long aw_pagesLeast, .long aw_pagesMost, .int aw_globalCount, .ref wgt, .ref wft, .ref wfv, .ref wgc, .int aw_exportCount, .ref wek, .ref wei, .ref wes, .ref wez])), (ab, .inr (1, [.ref ax, .int ab_length])), (ac, .inr (3, [.ref cfi, .ref clk, .ref clt, .int ac_length, .ref cop, .ref cva, .ref cpt, .ref cel, .int ac_labelCount, .ref cla])), (ax, .inl (cax, 8192, .inl gax)), (ob, .inl (cob, 100, .inl gob)), (cva, .inl (ccva, 5000, .inr (.inl gcva)))] sz)) 0 0 (va_A [(h0, .inr (7, [.ref aw, .ref ac, .int h0_at, .int h0_limit, .int h0_sound, .int h0_codeCount, .ref ob, .int h0_openCount])), (aw, .inr (10, [.ref ab, .ref ac, .int aw_typeCount, .ref wat, .ref wap, .ref wag, .int aw_functionCount, .ref waf, .int aw_hasMemory, .long aw_pagesLeast, .long aw_pagesMost, .int aw_globalCount, .ref wgt, .ref wft, .ref wfv, .ref wgc, .int aw_exportCount, .ref wek, .ref wei, .ref wes, .ref wez])), (ab, .inr (1, [.ref ax, .int ab_length])), (ac, .inr (3, [.ref cfi, .ref clk, .ref clt, .int ac_length, .ref cop, .ref cva, .ref cpt, .ref cel, .int ac_labelCount, .ref cla])), (ax, .inl (cax, 8192, .inl gax)), (ob, .inl (cob, 100, .inl gob)), (cva, .inl (ccva, 5000, .inr (.inl gcva)))] sz) := by
  refine Met.ofW (cc := b_RE_openBlock) (maxL := 3) (ret := none) (by decide) rfl ?_
  intro p e s m args below meth c s₁ B hml hv
  obtain ⟨rfl, hsz, hP, hK, hD0⟩ := hv
  have hx := B.exec
  have hb := B.bytes
  have hr := B.returns
  have hts0 := atoms_spec (ws := w_RE_openBlock) B.pre
  have hts : ∀ w ∈ lw_g, w.before _ s = true := fun w h => hts0 w (List.mem_cons_of_mem _ h)
  have hown : s.vm.findClass R_RE = some m.cls := findClass_of_methodNamed B.named
  have hlocks := B.notSynchronized
  clear hts0
  subst hsz
  have hD := hD0.self (sz := s.heap.size)
  generalize hAe : va_A [(h0, .inr (7, [.ref aw, .ref ac, .int h0_at, .int h0_limit, .int h0_sound, .int h0_codeCount, .ref ob, .int h0_openCount])), (aw, .inr (10, [.ref ab, .ref ac, .int aw_typeCount, .ref wat, .ref wap, .ref wag, .int aw_functionCount, .ref waf, .int aw_hasMemory, .long aw_pagesLeast, .long aw_pagesMost, .int aw_globalCount, .ref wgt, .ref wft, .ref wfv, .ref wgc, .int aw_exportCount, .ref wek, .ref wei, .ref wes, .ref wez])), (ab, .inr (1, [.ref ax, .int ab_length])), (ac, .inr (3, [.ref cfi, .ref clk, .ref clt, .int ac_length, .ref cop, .ref cva, .ref cpt, .ref cel, .int ac_labelCount, .ref cla])), (ax, .inl (cax, 8192, .inl gax)), (ob, .inl (cob, 100, .inl gob)), (cva, .inl (ccva, 5000, .inr (.inl gcva)))] s.heap.size = A at hD ⊢
  have hA : ∀ q : Nat, s.heap.size ≤ q → A q := fun q h => by rw [← hAe]; exact Or.inr h
  clear hAe
  have hP : va_P (dC, dI) cls [(h0, .inr (7, [.ref aw, .ref ac, .int h0_at, .int h0_limit, .int h0_sound, .int h0_codeCount, .ref ob, .int h0_openCount])), (aw, .inr (10, [.ref ab, .ref ac, .int aw_typeCount, .ref wat, .ref wap, .ref wag, .int aw_functionCount, .ref waf, .int aw_hasMemory, .long aw_pagesLeast, .long aw_pagesMost, .int aw_globalCount, .ref wgt, .ref wft, .ref wfv, .ref wgc, .int aw_exportCount, .ref wek, .ref wei, .ref wes, .ref wez])), (ab, .inr (1, [.ref ax, .int ab_length])), (ac, .inr (3, [.ref cfi, .ref clk, .ref clt, .int ac_length, .ref cop, .ref cva, .ref cpt, .ref cel, .int ac_labelCount, .ref cla])), (ax, .inl (cax, 8192, .inl gax)), (ob, .inl (cob, 100, .inl gob)), (cva, .inl (ccva, 5000, .inr (.inl gcva)))] s.heap := hP
  have hl := lv_entry ([.ref h0, .int p0]) (n := 3) (Nat.le_of_ble_eq_true rfl)
  rw [lg_entry_eq]
  generalize (lg_sl ([.ref h0, .int p0]) ++ List.replicate (3 - (lg_sl ([.ref h0, .int p0])).length) Slot.unset).toArray = ls at hl ⊢
  have hl : lv_has ls 3 [(0, .ref h0), (1, .int p0)] := hl
  have k0 : (0 : Int32).toInt = 0 := by decide
  refine w_gen (A := A) hP (fun H locs hP hS => ?_)
  have k1 : (1 : Int32).toInt = 1 := by decide
  have k64 : (64 : Int32).toInt = 64 := by decide
  have k100 : (100 : Int32).toInt = 100 := by decide
  have k126 : (126 : Int32).toInt = 126 := by decide
  have k127 : (127 : Int32).toInt = 127 := by decide
  have lo_p0 := i32_lo p0
  have hi_p0 := i32_hi p0
  have th0_sound := b01 b_h0_sound
  refine lv_aload_n hx hb d_RE_openBlock_0 rfl (lv_at hl 0 rfl) ?_
  have hPc := hP.sub (ws' := [(h0, .inr (7, [.ref aw, .ref ac, .int h0_at, .int h0_limit, .int h0_sound, .int h0_codeCount, .ref ob, .int h0_openCount])), (aw, .inr (10, [.ref ab, .ref ac, .int aw_typeCount, .ref wat, .ref wap, .ref wag, .int aw_functionCount, .ref waf, .int aw_hasMemory, .long aw_pagesLeast, .long aw_pagesMost, .int aw_globalCount, .ref wgt, .ref wft, .ref wfv, .ref wgc, .int aw_exportCount, .ref wek, .ref wei, .ref wes, .ref wez])), (ab, .inr (1, [.ref ax, .int ab_length])), (ax, .inl (cax, 8192, .inl gax))]) [0, 1, 2, 4] rfl
  have hDc := hD.sub (ws' := [(h0, .inr (7, [.ref aw, .ref ac, .int h0_at, .int h0_limit, .int h0_sound, .int h0_codeCount, .ref ob, .int h0_openCount])), (aw, .inr (10, [.ref ab, .ref ac, .int aw_typeCount, .ref wat, .ref wap, .ref wag, .int aw_functionCount, .ref waf, .int aw_hasMemory, .long aw_pagesLeast, .long aw_pagesMost, .int aw_globalCount, .ref wgt, .ref wft, .ref wfv, .ref wgc, .int aw_exportCount, .ref wek, .ref wei, .ref wes, .ref wez])), (ab, .inr (1, [.ref ax, .int ab_length])), (ax, .inl (cax, 8192, .inl gax))]) [0, 1, 2, 4] (by decide) rfl
  have hKc := hK.sub (tys' := [(cax, .byte)]) [0] rfl
  have hFc := va_free (wc := [(h0, .inr (7, [.ref aw, .ref ac, .int h0_at, .int h0_limit, .int h0_sound, .int h0_codeCount, .ref ob, .int h0_openCount])), (aw, .inr (10, [.ref ab, .ref ac, .int aw_typeCount, .ref wat, .ref wap, .ref wag, .int aw_functionCount, .ref waf, .int aw_hasMemory, .long aw_pagesLeast, .long aw_pagesMost, .int aw_globalCount, .ref wgt, .ref wft, .ref wfv, .ref wgc, .int aw_exportCount, .ref wek, .ref wei, .ref wes, .ref wez])), (ab, .inr (1, [.ref ax, .int ab_length])), (ax, .inl (cax, 8192, .inl gax))]) hD hS hA [0, 1, 2, 4] rfl
  refine va_calli (va_runV (As := []) (rest := []) ⟨hx, hb, hml, hown, hts⟩ (c_RE_nextx l dC dI H.size h0 aw ac ob ab wat wap wag waf wgt wft wfv wgc wek wei wes wez ax cax h0_at h0_limit h0_sound h0_codeCount h0_openCount aw_typeCount aw_functionCount aw_hasMemory aw_pagesLeast aw_pagesMost aw_globalCount aw_exportCount ab_length gax (b_h0_sound) (hs) (by omega) (by (try dsimp only) <;> omega)) (cwV 0 hts (gV kM_RE_60 kV_RE_next kS_RE_next kI_RE kC_RE_next) rfl rfl rfl (by decide +kernel) ⟨Nat.le_of_ble_eq_true rfl, Nat.le_of_ble_eq_true rfl⟩) ⟨fun a U g mk z => by obtain ⟨z0, z1, zP, zK, zD⟩ := z; exact ⟨z0, z1, zP, va_K.moved (u := U) (U := U.calling g mk a) (Vm.Alike.refl U.vm) zK, zD⟩, va_recv hKc hPc (ci := 7) (q0 := 0) rfl rfl, fun U hU hW => ⟨rfl, by rw [hU], by rw [hU]; exact hPc, va_K.moved hW.alike hKc, hDc.weaken (fun _ _ _ _ => trivial)⟩⟩ rfl rfl hl.1 rfl (lv_room (Nat.le_of_ble_eq_true rfl)) d_RE_openBlock_1 ⟨(Nat.zero_le _), (Nat.zero_le _)⟩) hS (fun q _ h => hFc q h) hFc (fun r1 u t H1 locs ht hvm hw hB hz1 hk1 hS => ?_)
  obtain ⟨n2, rfl⟩ : ∃ z, z = u := ⟨_, rfl⟩
  try dsimp only at hw
  have xr1 := hw
  try clear hw
  have ur1 := bn_lt (gax h0_at.toNatClampNeg)
  obtain ⟨hP1, hK1, hD1⟩ := hB
  rw [ht] at hP1
  obtain ⟨hP, hD⟩ := va_join (wr := [(ac, .inr (3, [.ref cfi, .ref clk, .ref clt, .int ac_length, .ref cop, .ref cva, .ref cpt, .ref cel, .int ac_labelCount, .ref cla])), (ob, .inl (cob, 100, .inl gob)), (cva, .inl (ccva, 5000, .inr (.inl gcva)))]) (w1 := [(h0, .inr (7, [.ref aw, .ref ac, .int n2, .int h0_limit, .int h0_sound, .int h0_codeCount, .ref ob, .int h0_openCount])), (aw, .inr (10, [.ref ab, .ref ac, .int aw_typeCount, .ref wat, .ref wap, .ref wag, .int aw_functionCount, .ref waf, .int aw_hasMemory, .long aw_pagesLeast, .long aw_pagesMost, .int aw_globalCount, .ref wgt, .ref wft, .ref wfv, .ref wgc, .int aw_exportCount, .ref wek, .ref wei, .ref wes, .ref wez])), (ab, .inr (1, [.ref ax, .int ab_length])), (ax, .inl (cax, 8192, .inl gax))]) hP hD [0, 1, 2, 4] [3, 5, 6] rfl rfl (by decide) (by decide) hk1 hFc hP1 hD1
  clear hPc hDc hKc hFc hz1 hk1 hP1 hK1 hD1
  generalize H1 = H at hP hS ⊢
  have hP : va_P (dC, dI) cls [(ac, .inr (3, [.ref cfi, .ref clk, .ref clt, .int ac_length, .ref cop, .ref cva, .ref cpt, .ref cel, .int ac_labelCount, .ref cla])), (ob, .inl (cob, 100, .inl gob)), (cva, .inl (ccva, 5000, .inr (.inl gcva))), (h0, .inr (7, [.ref aw, .ref ac, .int n2, .int h0_limit, .int h0_sound, .int h0_codeCount, .ref ob, .int h0_openCount])), (aw, .inr (10, [.ref ab, .ref ac, .int aw_typeCount, .ref wat, .ref wap, .ref wag, .int aw_functionCount, .ref waf, .int aw_hasMemory, .long aw_pagesLeast, .long aw_pagesMost, .int aw_globalCount, .ref wgt, .ref wft, .ref wfv, .ref wgc, .int aw_exportCount, .ref wek, .ref wei, .ref wes, .ref wez])), (ab, .inr (1, [.ref ax, .int ab_length])), (ax, .inl (cax, 8192, .inl gax))] H := hP
  have hD : va_D A [(ac, .inr (3, [.ref cfi, .ref clk, .ref clt, .int ac_length, .ref cop, .ref cva, .ref cpt, .ref cel, .int ac_labelCount, .ref cla])), (ob, .inl (cob, 100, .inl gob)), (cva, .inl (ccva, 5000, .inr (.inl gcva))), (h0, .inr (7, [.ref aw, .ref ac, .int n2, .int h0_limit, .int h0_sound, .int h0_codeCount, .ref ob, .int h0_openCount])), (aw, .inr (10, [.ref ab, .ref ac, .int aw_typeCount, .ref wat, .ref wap, .ref wag, .int aw_functionCount, .ref waf, .int aw_hasMemory, .long aw_pagesLeast, .long aw_pagesMost, .int aw_globalCount, .ref wgt, .ref wft, .ref wfv, .ref wgc, .int aw_exportCount, .ref wek, .ref wei, .ref wes, .ref wez])), (ab, .inr (1, [.ref ax, .int ab_length])), (ax, .inl (cax, 8192, .inl gax))] := hD
  refine lv_istore_n (lv' := [(2, .int r1), (0, .ref h0), (1, .int p0)]) hx hb d_RE_openBlock_4 rfl hl (by decide) rfl (fun ls hl => ?_)
  refine lv_aload_n hx hb d_RE_openBlock_5 rfl (lv_at hl 1 rfl) ?_
  refine lv_aload_n hx hb d_RE_openBlock_6 rfl (lv_at hl 1 rfl) ?_
  refine va_get (D := (dC, dI)) (ci := 7) (v := .int h0_sound) (C := R_RE) (T := F_RE) (N := 8) hx hb hts i_RE hown hK hP 3 rfl rfl 4 (by decide) (hts _ kF_RE_45) (fun _ h9 => h9) rfl d_RE_openBlock_7 ?_
  refine lv_if_eq (tgt := 44) hx hb d_RE_openBlock_10 (by decide) (fun c10 => absurd (eqI c10) (by omega)) (fun c10 => ?_)
  have q10 := neI c10
  refine lv_aload_n hx hb d_RE_openBlock_13 rfl (lv_at hl 1 rfl) ?_
  refine va_get (D := (dC, dI)) (ci := 7) (v := .int h0_openCount) (C := R_RE) (T := F_RE) (N := 8) hx hb hts i_RE hown hK hP 3 rfl rfl 7 (by decide) (hts _ kF_RE_179) (fun _ h9 => h9) rfl d_RE_openBlock_14 ?_
  refine lv_bipush (v := 100) hx hb d_RE_openBlock_17 (by decide) ?_
  refine lv_icmp_ge (tgt := 44) hx hb d_RE_openBlock_19 (by decide) (fun c19 => absurd (leI c19) (by omega)) (fun c19 => ?_)
  have q19 := nleI c19
  refine lv_iload_n hx hb d_RE_openBlock_22 rfl (lv_at hl 0 rfl) ?_
  refine lv_bipush (v := 64) hx hb d_RE_openBlock_23 (by decide) ?_
  refine w_cut (pc2 := 40) (σ := Unit) (fun u H locs ls => match u with | _ => va_P (dC, dI) cls [(ac, .inr (3, [.ref cfi, .ref clk, .ref clt, .int ac_length, .ref cop, .ref cva, .ref cpt, .ref cel, .int ac_labelCount, .ref cla])), (ob, .inl (cob, 100, .inl gob)), (cva, .inl (ccva, 5000, .inr (.inl gcva))), (h0, .inr (7, [.ref aw, .ref ac, .int n2, .int h0_limit, .int h0_sound, .int h0_codeCount, .ref ob, .int h0_openCount])), (aw, .inr (10, [.ref ab, .ref ac, .int aw_typeCount, .ref wat, .ref wap, .ref wag, .int aw_functionCount, .ref waf, .int aw_hasMemory, .long aw_pagesLeast, .long aw_pagesMost, .int aw_globalCount, .ref wgt, .ref wft, .ref wfv, .ref wgc, .int aw_exportCount, .ref wek, .ref wei, .ref wes, .ref wez])), (ab, .inr (1, [.ref ax, .int ab_length])), (ax, .inl (cax, 8192, .inl gax))] H ∧ va_D A [(ac, .inr (3, [.ref cfi, .ref clk, .ref clt, .int ac_length, .ref cop, .ref cva, .ref cpt, .ref cel, .int ac_labelCount, .ref cla])), (ob, .inl (cob, 100, .inl gob)), (cva, .inl (ccva, 5000, .inr (.inl gcva))), (h0, .inr (7, [.ref aw, .ref ac, .int n2, .int h0_limit, .int h0_sound, .int h0_codeCount, .ref ob, .int h0_openCount])), (aw, .inr (10, [.ref ab, .ref ac, .int aw_typeCount, .ref wat, .ref wap, .ref wag, .int aw_functionCount, .ref waf, .int aw_hasMemory, .long aw_pagesLeast, .long aw_pagesMost, .int aw_globalCount, .ref wgt, .ref wft, .ref wfv, .ref wgc, .int aw_exportCount, .ref wek, .ref wei, .ref wes, .ref wez])), (ab, .inr (1, [.ref ax, .int ab_length])), (ax, .inl (cax, 8192, .inl gax))] ∧ va_S A s.heap H locs ∧ lv_has ls 3 [(0, .ref h0), (1, .int p0), (2, .int r1)]) (fun u => match u with | _ => [.ref h0]) ?_ (fun jn40 => ?_)
  · intro u H locs ls hI
    obtain ⟨hP, hD, hS, hl⟩ := hI
    refine lv_iconst (v := 1) hx hb d_RE_openBlock_40 (by decide) ?_
    refine lv_goto (tgt := 45) hx hb d_RE_openBlock_41 (by decide) ?_
    refine va_put (D := (dC, dI)) (ci := 7) (v := .int 1) (ty := .boolean) (C := R_RE) (T := F_RE) (N := 8) hx hb hts i_RE t_RE t_RE_ok n_RE hown hK hP hD hS 3 rfl rfl 4 (by decide) (hts _ kF_RE_45) (fun _ h9 => h9) rfl (by decide +kernel) rfl rfl (Nat.le_of_ble_eq_true rfl) d_RE_openBlock_45 (fun H locs hP hD hS => ?_)
    refine lv_aload_n hx hb d_RE_openBlock_48 rfl (lv_at hl 0 rfl) ?_
    refine va_get (D := (dC, dI)) (ci := 7) (v := .int 1) (C := R_RE) (T := F_RE) (N := 8) hx hb hts i_RE hown hK hP 3 rfl rfl 4 (by decide) (hts _ kF_RE_45) (fun _ h9 => h9) rfl d_RE_openBlock_49 ?_
    refine lv_if_eq (tgt := 83) hx hb d_RE_openBlock_52 (by decide) (fun c52 => absurd (eqI c52) (by omega)) (fun c52 => ?_)
    have q52 := neI c52
    refine lv_aload_n hx hb d_RE_openBlock_55 rfl (lv_at hl 0 rfl) ?_
    refine va_get (D := (dC, dI)) (ci := 7) (v := .ref ac) (C := R_RE) (T := F_RE) (N := 8) hx hb hts i_RE hown hK hP 3 rfl rfl 1 (by decide) (hts _ kF_RE_25) (fun _ h9 => h9) rfl d_RE_openBlock_56 ?_
    refine va_get (D := (dC, dI)) (ci := 3) (v := .ref cva) (C := R_CD) (T := F_CD) (N := 10) hx hb hts i_CD hown hK hP 0 rfl rfl 5 (by decide) (hts _ kF_RE_197) (fun _ h9 => h9) rfl d_RE_openBlock_59 ?_
    refine lv_iload_n hx hb d_RE_openBlock_62 rfl (lv_at hl 1 rfl) ?_
    refine lv_iload_n hx hb d_RE_openBlock_63 rfl (lv_at hl 2 rfl) ?_
    refine lv_i2l hx hb d_RE_openBlock_64 rfl ?_
    refine lv_topl (fun x3 ex3 => ?_)
    have tx3 := i2l_t ex3
    have g65 : vp_in p0 5000 := vp_in_iff.mpr ⟨by omega, by omega⟩
    refine va_last hx hb hK hP hD hS 2 2 rfl rfl g65 d_RE_openBlock_65 (fun H locs hP hD hS => ?_)
    generalize ef4 : vp_updL gcva p0.toNatClampNeg x3 = f4 at hP hD
    refine lv_aload_n hx hb d_RE_openBlock_66 rfl (lv_at hl 0 rfl) ?_
    refine va_get (D := (dC, dI)) (ci := 7) (v := .ref ob) (C := R_RE) (T := F_RE) (N := 8) hx hb hts i_RE hown hK hP 3 rfl rfl 6 (by decide) (hts _ kF_RE_9) (fun _ h9 => h9) rfl d_RE_openBlock_67 ?_
    refine lv_aload_n hx hb d_RE_openBlock_70 rfl (lv_at hl 0 rfl) ?_
    refine lv_dup hx hb d_RE_openBlock_71 rfl ?_
    refine va_get (D := (dC, dI)) (ci := 7) (v := .int h0_openCount) (C := R_RE) (T := F_RE) (N := 8) hx hb hts i_RE hown hK hP 3 rfl rfl 7 (by decide) (hts _ kF_RE_179) (fun _ h9 => h9) rfl d_RE_openBlock_72 ?_
    refine lv_dup_x1 hx hb d_RE_openBlock_75 rfl rfl ?_
    refine lv_iconst (v := 1) hx hb d_RE_openBlock_76 (by decide) ?_
    refine lv_iadd hx hb d_RE_openBlock_77 ?_
    refine lv_topi (fun x5 ex5 => ?_)
    have tx5 : x5.toInt = h0_openCount.toInt + 1 := by have z := i32_add ex5 (by omega) (by omega); omega
    refine va_put (D := (dC, dI)) (ci := 7) (v := .int x5) (ty := .int) (C := R_RE) (T := F_RE) (N := 8) hx hb hts i_RE t_RE t_RE_ok n_RE hown hK hP hD hS 3 rfl rfl 7 (by decide) (hts _ kF_RE_179) (fun _ h9 => h9) rfl (by decide +kernel) rfl rfl (Nat.le_of_ble_eq_true rfl) d_RE_openBlock_78 (fun H locs hP hD hS => ?_)
    refine lv_iload_n hx hb d_RE_openBlock_81 rfl (lv_at hl 1 rfl) ?_
    have g82 : vp_in h0_openCount 100 := vp_in_iff.mpr ⟨by omega, by omega⟩
    refine va_iast hx hb hK hP hD hS 1 1 rfl rfl g82 d_RE_openBlock_82 (fun H locs hP hD hS => ?_)
    generalize ef6 : upd gob h0_openCount.toNatClampNeg p0 = f6 at hP hD
    have hP9 := hP.sub (ws' := [(h0, .inr (7, [.ref aw, .ref ac, .int n2, .int h0_limit, .int 1, .int h0_codeCount, .ref ob, .int x5])), (aw, .inr (10, [.ref ab, .ref ac, .int aw_typeCount, .ref wat, .ref wap, .ref wag, .int aw_functionCount, .ref waf, .int aw_hasMemory, .long aw_pagesLeast, .long aw_pagesMost, .int aw_globalCount, .ref wgt, .ref wft, .ref wfv, .ref wgc, .int aw_exportCount, .ref wek, .ref wei, .ref wes, .ref wez])), (ab, .inr (1, [.ref ax, .int ab_length])), (ac, .inr (3, [.ref cfi, .ref clk, .ref clt, .int ac_length, .ref cop, .ref cva, .ref cpt, .ref cel, .int ac_labelCount, .ref cla])), (ax, .inl (cax, 8192, .inl gax)), (ob, .inl (cob, 100, .inl f6)), (cva, .inl (ccva, 5000, .inr (.inl f4)))]) [3, 4, 5, 0, 6, 1, 2] rfl
    have hD9 := hD.sub (ws' := [(h0, .inr (7, [.ref aw, .ref ac, .int n2, .int h0_limit, .int 1, .int h0_codeCount, .ref ob, .int x5])), (aw, .inr (10, [.ref ab, .ref ac, .int aw_typeCount, .ref wat, .ref wap, .ref wag, .int aw_functionCount, .ref waf, .int aw_hasMemory, .long aw_pagesLeast, .long aw_pagesMost, .int aw_globalCount, .ref wgt, .ref wft, .ref wfv, .ref wgc, .int aw_exportCount, .ref wek, .ref wei, .ref wes, .ref wez])), (ab, .inr (1, [.ref ax, .int ab_length])), (ac, .inr (3, [.ref cfi, .ref clk, .ref clt, .int ac_length, .ref cop, .ref cva, .ref cpt, .ref cel, .int ac_labelCount, .ref cla])), (ax, .inl (cax, 8192, .inl gax)), (ob, .inl (cob, 100, .inl f6)), (cva, .inl (ccva, 5000, .inr (.inl f4)))]) [3, 4, 5, 0, 6, 1, 2] (by decide) rfl
    exact W.vret hx hb hr (fun t ht hW => ⟨⟨(f4, f6, n2, x5, 1), rfl, ⟨by (try dsimp only) <;> omega, Or.inr rfl, ⟨by (try dsimp only) <;> omega, by (try dsimp only) <;> omega, by (try dsimp only) <;> omega, by rw [← ef6], x3, by omega, by rw [← ef4]⟩⟩, by rw [ht]; exact hP9, va_K.moved hW.alike hK, hD9⟩, hS.F ht⟩) hS.2.2 d_RE_openBlock_83
  · skip
    refine lv_icmp_eq (tgt := 40) hx hb d_RE_openBlock_25 (by decide) (fun c25 => ?_) (fun c25 => ?_)
    · have q25 := eqI c25
      exact jn40 () _ _ _ ⟨hP, hD, hS, lv_sub hl [1, 2, 0] rfl⟩
    · have q25 := neI c25
      refine lv_iload_n hx hb d_RE_openBlock_28 rfl (lv_at hl 0 rfl) ?_
      refine lv_bipush (v := 127) hx hb d_RE_openBlock_29 (by decide) ?_
      refine lv_icmp_eq (tgt := 40) hx hb d_RE_openBlock_31 (by decide) (fun c31 => ?_) (fun c31 => ?_)
      · have q31 := eqI c31
        exact jn40 () _ _ _ ⟨hP, hD, hS, lv_sub hl [1, 2, 0] rfl⟩
      · have q31 := neI c31
        refine lv_iload_n hx hb d_RE_openBlock_34 rfl (lv_at hl 0 rfl) ?_
        refine lv_bipush (v := 126) hx hb d_RE_openBlock_35 (by decide) ?_
        refine lv_icmp_ne (tgt := 44) hx hb d_RE_openBlock_37 (by decide) (fun c37 => absurd (neI c37) (by omega)) (fun c37 => ?_)
        have q37 := eqI c37
        exact jn40 () _ _ _ ⟨hP, hD, hS, lv_sub hl [1, 2, 0] rfl⟩
abbrev at_RE_turnToElsex (dC : Nat → ClassId) (dI : Nat → Nat → Nat) (h0 aw ac ob cfi clk clt cop cva cpt cel cla : Nat) (cob ccop ccel : ClassId) (h0_at : Int32) (h0_limit : Int32) (h0_codeCount : Int32) (h0_openCount : Int32) (ac_length : Int32) (ac_labelCount : Int32) (gob : Nat → Int32) (gcop : Nat → Int32) (A : Nat → Prop) (u : (Nat → Int32) × Int32) (t : State) : Prop := match u with | (gcel, h0_sound) => va_P (dC, dI) cls [(h0, .inr (7, [.ref aw, .ref ac, .int h0_at, .int h0_limit, .int h0_sound, .int h0_codeCount, .ref ob, .int h0_openCount])), (ac, .inr (3, [.ref cfi, .ref clk, .ref clt, .int ac_length, .ref cop, .ref cva, .ref cpt, .ref cel, .int ac_labelCount, .ref cla])), (ob, .inl (cob, 100, .inl gob)), (cop, .inl (ccop, 5000, .inl gcop)), (cel, .inl (ccel, 5000, .inl gcel))] t.heap ∧ va_K (dC, dI) cls [(cob, .int), (ccop, .int), (ccel, .int)] t ∧ va_D A [(h0, .inr (7, [.ref aw, .ref ac, .int h0_at, .int h0_limit, .int h0_sound, .int h0_codeCount, .ref ob, .int h0_openCount])), (ac, .inr (3, [.ref cfi, .ref clk, .ref clt, .int ac_length, .ref cop, .ref cva, .ref cpt, .ref cel, .int ac_labelCount, .ref cla])), (ob, .inl (cob, 100, .inl gob)), (cop, .inl (ccop, 5000, .inl gcop)), (cel, .inl (ccel, 5000, .inl gcel))]
set_option maxHeartbeats 4000000 in
set_option maxRecDepth 100000 in
theorem c_RE_turnToElsex (l : Launch) (dC : Nat → ClassId) (dI : Nat → Nat → Nat) (sz : Nat) (h0 aw ac ob cfi clk clt cop cva cpt cel cla : Nat) (cob ccop ccel : ClassId) (h0_at : Int32) (h0_limit : Int32) (h0_sound : Int32) (h0_codeCount : Int32) (h0_openCount : Int32) (ac_length : Int32) (ac_labelCount : Int32) (gob : Nat → Int32) (gcop : Nat → Int32) (gcel : Nat → Int32)  (b_h0_sound : h0_sound = 0 ∨ h0_sound = 1) (b_h0_openCount : 0 ≤ h0_openCount.toInt ∧ h0_openCount.toInt ≤ 100) (p0 : Int32)  (hs : h0_sound.toInt = 1) (hp : 0 ≤ p0.toInt ∧ p0.toInt < 5000) (hgo : bx (∀ j : Nat, (j : Int) < h0_openCount.toInt → 0 ≤ (gob j).toInt ∧ (gob j).toInt < 5000)) (hoc : 0 < h0_openCount.toInt) (hto : (gcop (gob (h0_openCount.toNatClampNeg - 1)).toNatClampNeg).toInt = 4 ∧ (gcel (gob (h0_openCount.toNatClampNeg - 1)).toNatClampNeg).toInt < 0) : Met l y_RE_turnToElse w_RE_turnToElse ({ frames := 0, cells := 0, slots := 0, locals := 0 }) (va_Pc [.ref h0, .int p0] (fun U => U.heap.size = sz ∧ va_P (dC, dI) cls [(h0, .inr (7, [.ref aw, .ref ac, .int h0_at, .int h0_limit, .int h0_sound, .int h0_codeCount, .ref ob, .int h0_openCount])), (ac, .inr (3, [.ref cfi, .ref clk, .ref clt, .int ac_length, .ref cop, .ref cva, .ref cpt, .ref cel, .int ac_labelCount, .ref cla])), (ob, .inl (cob, 100, .inl gob)), (cop, .inl (ccop, 5000, .inl gcop)), (cel, .inl (ccel, 5000, .inl gcel))] U.heap ∧ va_K (dC, dI) cls [(cob, .int), (ccop, .int), (ccel, .int)] U ∧ va_D (fun _ => True) [(h0, .inr (7, [.ref aw, .ref ac, .int h0_at, .int h0_limit, .int h0_sound, .int h0_codeCount, .ref ob, .int h0_openCount])), (ac, .inr (3, [.ref cfi, .ref clk, .ref clt, .int ac_length, .ref cop, .ref cva, .ref cpt, .ref cel, .int ac_labelCount, .ref cla])), (ob, .inl (cob, 100, .inl gob)), (cop, .inl (ccop, 5000, .inl gcop)), (cel, .inl (ccel, 5000, .inl gcel))])) (va_Qv (fun (u : (Nat → Int32) × Int32) => match u with | (gcel2, h0_sound2) => (h0_sound2 = 0 ∨ h0_sound2 = 1) ∧ (h0_sound2.toInt = 1 ∧ gcel2 = upd gcel (gob (h0_openCount.toNatClampNeg - 1)).toNatClampNeg p0)) (at_RE_turnToElsex dC dI h0 aw ac ob cfi clk clt cop cva cpt cel cla cob ccop ccel h0_at h0_limit h0_codeCount h0_openCount ac_length ac_labelCount gob gcop (va_A [(h0, .inr (7, [.ref aw, .ref ac, .int h0_at, .int h0_limit, .int h0_sound, .int h0_codeCount, .ref ob, .int h0_openCount])), (ac, .inr (3, [.ref cfi, .ref clk, .ref clt, .int ac_length, .ref cop, .ref cva, .ref cpt, .ref cel, .int ac_labelCount, .ref cla])), (ob, .inl (cob, 100, .inl gob)), (cop, .inl (ccop, 5000, .inl gcop)), (cel, .inl (ccel, 5000, .inl gcel))] sz)) (va_A [(h0, .inr (7, [.ref aw, .ref ac, .int h0_at, .int h0_limit, .int h0_sound, .int h0_codeCount, .ref ob, .int h0_openCount])), (ac, .inr (3, [.ref cfi, .ref clk, .ref clt, .int ac_length, .ref cop, .ref cva, .ref cpt, .ref cel, .int ac_labelCount, .ref cla])), (ob, .inl (cob, 100, .inl gob)), (cop, .inl (ccop, 5000, .inl gcop)), (cel, .inl (ccel, 5000, .inl gcel))] sz)) 0 0 (va_A [(h0, .inr (7, [.ref aw, .ref ac, .int h0_at, .int h0_limit, .int h0_sound, .int h0_codeCount, .ref ob, .int h0_openCount])), (ac, .inr (3, [.ref cfi, .ref clk, .ref clt, .int ac_length, .ref cop, .ref cva, .ref cpt, .ref cel, .int ac_labelCount, .ref cla])), (ob, .inl (cob, 100, .inl gob)), (cop, .inl (ccop, 5000, .inl gcop)), (cel, .inl (ccel, 5000, .inl gcel))] sz) := by
  refine Met.ofW (cc := b_RE_turnToElse) (maxL := 3) (ret := none) (by decide) rfl ?_
  intro p e s m args below meth c s₁ B hml hv
  obtain ⟨rfl, hsz, hP, hK, hD0⟩ := hv
  have hx := B.exec
  have hb := B.bytes
  have hr := B.returns
  have hts0 := atoms_spec (ws := w_RE_turnToElse) B.pre
  have hts : ∀ w ∈ lw_g, w.before _ s = true := fun w h => hts0 w (List.mem_cons_of_mem _ h)
  have hown : s.vm.findClass R_RE = some m.cls := findClass_of_methodNamed B.named
  have hlocks := B.notSynchronized
  clear hts0
  subst hsz
  have hD := hD0.self (sz := s.heap.size)
  generalize hAe : va_A [(h0, .inr (7, [.ref aw, .ref ac, .int h0_at, .int h0_limit, .int h0_sound, .int h0_codeCount, .ref ob, .int h0_openCount])), (ac, .inr (3, [.ref cfi, .ref clk, .ref clt, .int ac_length, .ref cop, .ref cva, .ref cpt, .ref cel, .int ac_labelCount, .ref cla])), (ob, .inl (cob, 100, .inl gob)), (cop, .inl (ccop, 5000, .inl gcop)), (cel, .inl (ccel, 5000, .inl gcel))] s.heap.size = A at hD ⊢
  have hA : ∀ q : Nat, s.heap.size ≤ q → A q := fun q h => by rw [← hAe]; exact Or.inr h
  clear hAe
  have hP : va_P (dC, dI) cls [(h0, .inr (7, [.ref aw, .ref ac, .int h0_at, .int h0_limit, .int h0_sound, .int h0_codeCount, .ref ob, .int h0_openCount])), (ac, .inr (3, [.ref cfi, .ref clk, .ref clt, .int ac_length, .ref cop, .ref cva, .ref cpt, .ref cel, .int ac_labelCount, .ref cla])), (ob, .inl (cob, 100, .inl gob)), (cop, .inl (ccop, 5000, .inl gcop)), (cel, .inl (ccel, 5000, .inl gcel))] s.heap := hP
  have hl := lv_entry ([.ref h0, .int p0]) (n := 3) (Nat.le_of_ble_eq_true rfl)
  rw [lg_entry_eq]
  generalize (lg_sl ([.ref h0, .int p0]) ++ List.replicate (3 - (lg_sl ([.ref h0, .int p0])).length) Slot.unset).toArray = ls at hl ⊢
  have hl : lv_has ls 3 [(0, .ref h0), (1, .int p0)] := hl
  have k0 : (0 : Int32).toInt = 0 := by decide
  refine w_gen (A := A) hP (fun H locs hP hS => ?_)
  have km1 : (-1 : Int32).toInt = -1 := by decide
  have k1 : (1 : Int32).toInt = 1 := by decide
  have k4 : (4 : Int32).toInt = 4 := by decide
  have lo_p0 := i32_lo p0
  have hi_p0 := i32_hi p0
  have th0_sound := b01 b_h0_sound
  refine lv_aload_n hx hb d_RE_turnToElse_0 rfl (lv_at hl 0 rfl) ?_
  refine va_get (D := (dC, dI)) (ci := 7) (v := .int h0_openCount) (C := R_RE) (T := F_RE) (N := 8) hx hb hts i_RE hown hK hP 0 rfl rfl 7 (by decide) (hts _ kF_RE_179) (fun _ h9 => h9) rfl d_RE_turnToElse_1 ?_
  refine lv_if_le (tgt := 21) hx hb d_RE_turnToElse_4 (by decide) (fun c4 => absurd (leI c4) (by omega)) (fun c4 => ?_)
  have q4 := nleI c4
  refine lv_aload_n hx hb d_RE_turnToElse_7 rfl (lv_at hl 0 rfl) ?_
  refine va_get (D := (dC, dI)) (ci := 7) (v := .ref ob) (C := R_RE) (T := F_RE) (N := 8) hx hb hts i_RE hown hK hP 0 rfl rfl 6 (by decide) (hts _ kF_RE_9) (fun _ h9 => h9) rfl d_RE_turnToElse_8 ?_
  refine lv_aload_n hx hb d_RE_turnToElse_11 rfl (lv_at hl 0 rfl) ?_
  refine va_get (D := (dC, dI)) (ci := 7) (v := .int h0_openCount) (C := R_RE) (T := F_RE) (N := 8) hx hb hts i_RE hown hK hP 0 rfl rfl 7 (by decide) (hts _ kF_RE_179) (fun _ h9 => h9) rfl d_RE_turnToElse_12 ?_
  refine lv_iconst (v := 1) hx hb d_RE_turnToElse_15 (by decide) ?_
  refine lv_isub hx hb d_RE_turnToElse_16 ?_
  refine lv_topi (fun x1 ex1 => ?_)
  have tx1 : x1.toInt = h0_openCount.toInt - 1 := by have z := i32_sub ex1 (by omega) (by omega); omega
  have g17 : vp_in x1 100 := vp_in_iff.mpr ⟨by omega, by omega⟩
  refine va_iald hx hb hK hP 2 0 rfl rfl g17 d_RE_turnToElse_17 ?_
  refine lv_topi (fun x2 ex2 => ?_)
  have ix17 : x1.toNatClampNeg = h0_openCount.toNatClampNeg - 1 := by have := i32_clamp (x := x1) (by omega); have := i32_clamp (x := h0_openCount) (by omega); omega
  have g17 : x2 = gob (h0_openCount.toNatClampNeg - 1) := by rw [ex2, ix17]
  have t17 := hgo.out (h0_openCount.toNatClampNeg - 1) (by have := i32_clamp (x := h0_openCount) (by omega); omega)
  rw [← g17] at t17
  refine lv_goto (tgt := 22) hx hb d_RE_turnToElse_18 (by decide) ?_
  refine lv_istore_n (lv' := [(2, .int x2), (0, .ref h0), (1, .int p0)]) hx hb d_RE_turnToElse_22 rfl hl (by decide) rfl (fun ls hl => ?_)
  refine lv_aload_n hx hb d_RE_turnToElse_23 rfl (lv_at hl 1 rfl) ?_
  refine lv_iload_n hx hb d_RE_turnToElse_24 rfl (lv_at hl 0 rfl) ?_
  refine lv_if_lt (tgt := 57) hx hb d_RE_turnToElse_25 (by decide) (fun c25 => absurd (ltI c25) (by omega)) (fun c25 => ?_)
  have q25 := nltI c25
  refine lv_aload_n hx hb d_RE_turnToElse_28 rfl (lv_at hl 1 rfl) ?_
  refine va_get (D := (dC, dI)) (ci := 7) (v := .ref ac) (C := R_RE) (T := F_RE) (N := 8) hx hb hts i_RE hown hK hP 0 rfl rfl 1 (by decide) (hts _ kF_RE_25) (fun _ h9 => h9) rfl d_RE_turnToElse_29 ?_
  refine va_get (D := (dC, dI)) (ci := 3) (v := .ref cop) (C := R_CD) (T := F_CD) (N := 10) hx hb hts i_CD hown hK hP 1 rfl rfl 4 (by decide) (hts _ kF_RE_194) (fun _ h9 => h9) rfl d_RE_turnToElse_32 ?_
  refine lv_iload_n hx hb d_RE_turnToElse_35 rfl (lv_at hl 0 rfl) ?_
  have g36 : vp_in x2 5000 := vp_in_iff.mpr ⟨by omega, by omega⟩
  refine va_iald hx hb hK hP 3 1 rfl rfl g36 d_RE_turnToElse_36 ?_
  refine lv_topi (fun x3 ex3 => ?_)
  have tx3 : x3.toInt = 4 := by rw [ex3, g17]; exact hto.1
  refine lv_iconst (v := 4) hx hb d_RE_turnToElse_37 (by decide) ?_
  refine lv_icmp_ne (tgt := 57) hx hb d_RE_turnToElse_38 (by decide) (fun c38 => absurd (neI c38) (by omega)) (fun c38 => ?_)
  have q38 := eqI c38
  refine lv_aload_n hx hb d_RE_turnToElse_41 rfl (lv_at hl 1 rfl) ?_
  refine va_get (D := (dC, dI)) (ci := 7) (v := .ref ac) (C := R_RE) (T := F_RE) (N := 8) hx hb hts i_RE hown hK hP 0 rfl rfl 1 (by decide) (hts _ kF_RE_25) (fun _ h9 => h9) rfl d_RE_turnToElse_42 ?_
  refine va_get (D := (dC, dI)) (ci := 3) (v := .ref cel) (C := R_CD) (T := F_CD) (N := 10) hx hb hts i_CD hown hK hP 1 rfl rfl 7 (by decide) (hts _ kF_RE_203) (fun _ h9 => h9) rfl d_RE_turnToElse_45 ?_
  refine lv_iload_n hx hb d_RE_turnToElse_48 rfl (lv_at hl 0 rfl) ?_
  have g49 : vp_in x2 5000 := vp_in_iff.mpr ⟨by omega, by omega⟩
  refine va_iald hx hb hK hP 4 2 rfl rfl g49 d_RE_turnToElse_49 ?_
  refine lv_topi (fun x4 ex4 => ?_)
  have tx4 : x4.toInt < 0 := by rw [ex4, g17]; exact hto.2
  refine lv_if_ge (tgt := 57) hx hb d_RE_turnToElse_50 (by decide) (fun c50 => absurd (leI c50) (by omega)) (fun c50 => ?_)
  have q50 := nleI c50
  refine lv_iconst (v := 1) hx hb d_RE_turnToElse_53 (by decide) ?_
  refine lv_goto (tgt := 58) hx hb d_RE_turnToElse_54 (by decide) ?_
  refine va_put (D := (dC, dI)) (ci := 7) (v := .int 1) (ty := .boolean) (C := R_RE) (T := F_RE) (N := 8) hx hb hts i_RE t_RE t_RE_ok n_RE hown hK hP hD hS 0 rfl rfl 4 (by decide) (hts _ kF_RE_45) (fun _ h9 => h9) rfl (by decide +kernel) rfl rfl (Nat.le_of_ble_eq_true rfl) d_RE_turnToElse_58 (fun H locs hP hD hS => ?_)
  refine lv_aload_n hx hb d_RE_turnToElse_61 rfl (lv_at hl 1 rfl) ?_
  refine va_get (D := (dC, dI)) (ci := 7) (v := .int 1) (C := R_RE) (T := F_RE) (N := 8) hx hb hts i_RE hown hK hP 0 rfl rfl 4 (by decide) (hts _ kF_RE_45) (fun _ h9 => h9) rfl d_RE_turnToElse_62 ?_
  refine lv_if_eq (tgt := 78) hx hb d_RE_turnToElse_65 (by decide) (fun c65 => absurd (eqI c65) (by omega)) (fun c65 => ?_)
  have q65 := neI c65
  refine lv_aload_n hx hb d_RE_turnToElse_68 rfl (lv_at hl 1 rfl) ?_
  refine va_get (D := (dC, dI)) (ci := 7) (v := .ref ac) (C := R_RE) (T := F_RE) (N := 8) hx hb hts i_RE hown hK hP 0 rfl rfl 1 (by decide) (hts _ kF_RE_25) (fun _ h9 => h9) rfl d_RE_turnToElse_69 ?_
  refine va_get (D := (dC, dI)) (ci := 3) (v := .ref cel) (C := R_CD) (T := F_CD) (N := 10) hx hb hts i_CD hown hK hP 1 rfl rfl 7 (by decide) (hts _ kF_RE_203) (fun _ h9 => h9) rfl d_RE_turnToElse_72 ?_
  refine lv_iload_n hx hb d_RE_turnToElse_75 rfl (lv_at hl 0 rfl) ?_
  refine lv_iload_n hx hb d_RE_turnToElse_76 rfl (lv_at hl 2 rfl) ?_
  have g77 : vp_in x2 5000 := vp_in_iff.mpr ⟨by omega, by omega⟩
  refine va_iast hx hb hK hP hD hS 4 2 rfl rfl g77 d_RE_turnToElse_77 (fun H locs hP hD hS => ?_)
  generalize ef5 : upd gcel x2.toNatClampNeg p0 = f5 at hP hD
  have hP9 := hP.sub (ws' := [(h0, .inr (7, [.ref aw, .ref ac, .int h0_at, .int h0_limit, .int 1, .int h0_codeCount, .ref ob, .int h0_openCount])), (ac, .inr (3, [.ref cfi, .ref clk, .ref clt, .int ac_length, .ref cop, .ref cva, .ref cpt, .ref cel, .int ac_labelCount, .ref cla])), (ob, .inl (cob, 100, .inl gob)), (cop, .inl (ccop, 5000, .inl gcop)), (cel, .inl (ccel, 5000, .inl f5))]) [0, 1, 2, 3, 4] rfl
  have hD9 := hD.sub (ws' := [(h0, .inr (7, [.ref aw, .ref ac, .int h0_at, .int h0_limit, .int 1, .int h0_codeCount, .ref ob, .int h0_openCount])), (ac, .inr (3, [.ref cfi, .ref clk, .ref clt, .int ac_length, .ref cop, .ref cva, .ref cpt, .ref cel, .int ac_labelCount, .ref cla])), (ob, .inl (cob, 100, .inl gob)), (cop, .inl (ccop, 5000, .inl gcop)), (cel, .inl (ccel, 5000, .inl f5))]) [0, 1, 2, 3, 4] (by decide) rfl
  exact W.vret hx hb hr (fun t ht hW => ⟨⟨(f5, 1), rfl, ⟨Or.inr rfl, ⟨by (try dsimp only) <;> omega, by rw [← ef5, g17]⟩⟩, by rw [ht]; exact hP9, va_K.moved hW.alike hK, hD9⟩, hS.F ht⟩) hS.2.2 d_RE_turnToElse_78
abbrev at_RE_closeBlockx (dC : Nat → ClassId) (dI : Nat → Nat → Nat) (h0 aw ac ob cfi clk clt cop cva cpt cel cla : Nat) (cob ccpt ccel : ClassId) (h0_at : Int32) (h0_limit : Int32) (h0_sound : Int32) (h0_codeCount : Int32) (ac_length : Int32) (ac_labelCount : Int32) (gob : Nat → Int32) (gcel : Nat → Int32) (A : Nat → Prop) (u : (Nat → Int32) × Int32) (t : State) : Prop := match u with | (gcpt, h0_openCount) => va_P (dC, dI) cls [(h0, .inr (7, [.ref aw, .ref ac, .int h0_at, .int h0_limit, .int h0_sound, .int h0_codeCount, .ref ob, .int h0_openCount])), (ac, .inr (3, [.ref cfi, .ref clk, .ref clt, .int ac_length, .ref cop, .ref cva, .ref cpt, .ref cel, .int ac_labelCount, .ref cla])), (ob, .inl (cob, 100, .inl gob)), (cpt, .inl (ccpt, 5000, .inl gcpt)), (cel, .inl (ccel, 5000, .inl gcel))] t.heap ∧ va_K (dC, dI) cls [(cob, .int), (ccpt, .int), (ccel, .int)] t ∧ va_D A [(h0, .inr (7, [.ref aw, .ref ac, .int h0_at, .int h0_limit, .int h0_sound, .int h0_codeCount, .ref ob, .int h0_openCount])), (ac, .inr (3, [.ref cfi, .ref clk, .ref clt, .int ac_length, .ref cop, .ref cva, .ref cpt, .ref cel, .int ac_labelCount, .ref cla])), (ob, .inl (cob, 100, .inl gob)), (cpt, .inl (ccpt, 5000, .inl gcpt)), (cel, .inl (ccel, 5000, .inl gcel))]
set_option maxHeartbeats 4000000 in
set_option maxRecDepth 100000 in
theorem c_RE_closeBlockx (l : Launch) (dC : Nat → ClassId) (dI : Nat → Nat → Nat) (sz : Nat) (h0 aw ac ob cfi clk clt cop cva cpt cel cla : Nat) (cob ccpt ccel : ClassId) (h0_at : Int32) (h0_limit : Int32) (h0_sound : Int32) (h0_codeCount : Int32) (h0_openCount : Int32) (ac_length : Int32) (ac_labelCount : Int32) (gob : Nat → Int32) (gcpt : Nat → Int32) (gcel : Nat → Int32)  (b_h0_openCount : 0 ≤ h0_openCount.toInt ∧ h0_openCount.toInt ≤ 100) (p0 : Int32)  (hp : 0 ≤ p0.toInt ∧ p0.toInt < 5000) (hgo : bx (∀ j : Nat, (j : Int) < h0_openCount.toInt → 0 ≤ (gob j).toInt ∧ (gob j).toInt < 5000)) (hel : bx (∀ j : Nat, (gcel j).toInt < 5000)) : Met l y_RE_closeBlock w_RE_closeBlock ({ frames := 0, cells := 0, slots := 0, locals := 0 }) (va_Pc [.ref h0, .int p0] (fun U => U.heap.size = sz ∧ va_P (dC, dI) cls [(h0, .inr (7, [.ref aw, .ref ac, .int h0_at, .int h0_limit, .int h0_sound, .int h0_codeCount, .ref ob, .int h0_openCount])), (ac, .inr (3, [.ref cfi, .ref clk, .ref clt, .int ac_length, .ref cop, .ref cva, .ref cpt, .ref cel, .int ac_labelCount, .ref cla])), (ob, .inl (cob, 100, .inl gob)), (cpt, .inl (ccpt, 5000, .inl gcpt)), (cel, .inl (ccel, 5000, .inl gcel))] U.heap ∧ va_K (dC, dI) cls [(cob, .int), (ccpt, .int), (ccel, .int)] U ∧ va_D (fun _ => True) [(h0, .inr (7, [.ref aw, .ref ac, .int h0_at, .int h0_limit, .int h0_sound, .int h0_codeCount, .ref ob, .int h0_openCount])), (ac, .inr (3, [.ref cfi, .ref clk, .ref clt, .int ac_length, .ref cop, .ref cva, .ref cpt, .ref cel, .int ac_labelCount, .ref cla])), (ob, .inl (cob, 100, .inl gob)), (cpt, .inl (ccpt, 5000, .inl gcpt)), (cel, .inl (ccel, 5000, .inl gcel))])) (va_Qi (fun (r : Int32) (u : (Nat → Int32) × Int32) => match u with | (gcpt2, h0_openCount2) => (r = 0 ∨ r = 1) ∧ (0 ≤ h0_openCount2.toInt ∧ h0_openCount2.toInt ≤ 100) ∧ ((r.toInt = 0 → h0_openCount.toInt = 0 ∧ h0_openCount2 = h0_openCount ∧ gcpt2 = gcpt) ∧ (r.toInt = 1 → 0 < h0_openCount.toInt ∧ h0_openCount2.toInt = h0_openCount.toInt - 1 ∧ gcpt2 = if 0 ≤ (gcel (gob (h0_openCount.toNatClampNeg - 1)).toNatClampNeg).toInt then upd (upd gcpt (gob (h0_openCount.toNatClampNeg - 1)).toNatClampNeg p0) (gcel (gob (h0_openCount.toNatClampNeg - 1)).toNatClampNeg).toNatClampNeg p0 else upd gcpt (gob (h0_openCount.toNatClampNeg - 1)).toNatClampNeg p0))) (at_RE_closeBlockx dC dI h0 aw ac ob cfi clk clt cop cva cpt cel cla cob ccpt ccel h0_at h0_limit h0_sound h0_codeCount ac_length ac_labelCount gob gcel (va_A [(h0, .inr (7, [.ref aw, .ref ac, .int h0_at, .int h0_limit, .int h0_sound, .int h0_codeCount, .ref ob, .int h0_openCount])), (ac, .inr (3, [.ref cfi, .ref clk, .ref clt, .int ac_length, .ref cop, .ref cva, .ref cpt, .ref cel, .int ac_labelCount, .ref cla])), (ob, .inl (cob, 100, .inl gob)), (cpt, .inl (ccpt, 5000, .inl gcpt)), (cel, .inl (ccel, 5000, .inl gcel))] sz)) (va_A [(h0, .inr (7, [.ref aw, .ref ac, .int h0_at, .int h0_limit, .int h0_sound, .int h0_codeCount, .ref ob, .int h0_openCount])), (ac, .inr (3, [.ref cfi, .ref clk, .ref clt, .int ac_length, .ref cop, .ref cva, .ref cpt, .ref cel, .int ac_labelCount, .ref cla])), (ob, .inl (cob, 100, .inl gob)), (cpt, .inl (ccpt, 5000, .inl gcpt)), (cel, .inl (ccel, 5000, .inl gcel))] sz)) 0 0 (va_A [(h0, .inr (7, [.ref aw, .ref ac, .int h0_at, .int h0_limit, .int h0_sound, .int h0_codeCount, .ref ob, .int h0_openCount])), (ac, .inr (3, [.ref cfi, .ref clk, .ref clt, .int ac_length, .ref cop, .ref cva, .ref cpt, .ref cel, .int ac_labelCount, .ref cla])), (ob, .inl (cob, 100, .inl gob)), (cpt, .inl (ccpt, 5000, .inl gcpt)), (cel, .inl (ccel, 5000, .inl gcel))] sz) := by
  refine Met.ofW (cc := b_RE_closeBlock) (maxL := 3) (ret := (Option.some .boolean)) (by decide) rfl ?_
  intro p e s m args below meth c s₁ B hml hv
  obtain ⟨rfl, hsz, hP, hK, hD0⟩ := hv
  have hx := B.exec
  have hb := B.bytes
  have hr := B.returns
  have hts0 := atoms_spec (ws := w_RE_closeBlock) B.pre
  have hts : ∀ w ∈ lw_g, w.before _ s = true := fun w h => hts0 w (List.mem_cons_of_mem _ h)
  have hown : s.vm.findClass R_RE = some m.cls := findClass_of_methodNamed B.named
  have hlocks := B.notSynchronized
  clear hts0
  subst hsz
  have hD := hD0.self (sz := s.heap.size)
  generalize hAe : va_A [(h0, .inr (7, [.ref aw, .ref ac, .int h0_at, .int h0_limit, .int h0_sound, .int h0_codeCount, .ref ob, .int h0_openCount])), (ac, .inr (3, [.ref cfi, .ref clk, .ref clt, .int ac_length, .ref cop, .ref cva, .ref cpt, .ref cel, .int ac_labelCount, .ref cla])), (ob, .inl (cob, 100, .inl gob)), (cpt, .inl (ccpt, 5000, .inl gcpt)), (cel, .inl (ccel, 5000, .inl gcel))] s.heap.size = A at hD ⊢
  have hA : ∀ q : Nat, s.heap.size ≤ q → A q := fun q h => by rw [← hAe]; exact Or.inr h
  clear hAe
  have hP : va_P (dC, dI) cls [(h0, .inr (7, [.ref aw, .ref ac, .int h0_at, .int h0_limit, .int h0_sound, .int h0_codeCount, .ref ob, .int h0_openCount])), (ac, .inr (3, [.ref cfi, .ref clk, .ref clt, .int ac_length, .ref cop, .ref cva, .ref cpt, .ref cel, .int ac_labelCount, .ref cla])), (ob, .inl (cob, 100, .inl gob)), (cpt, .inl (ccpt, 5000, .inl gcpt)), (cel, .inl (ccel, 5000, .inl gcel))] s.heap := hP
  have hl := lv_entry ([.ref h0, .int p0]) (n := 3) (Nat.le_of_ble_eq_true rfl)
  rw [lg_entry_eq]
  generalize (lg_sl ([.ref h0, .int p0]) ++ List.replicate (3 - (lg_sl ([.ref h0, .int p0])).length) Slot.unset).toArray = ls at hl ⊢
  have hl : lv_has ls 3 [(0, .ref h0), (1, .int p0)] := hl
  have k0 : (0 : Int32).toInt = 0 := by decide
  refine w_gen (A := A) hP (fun H locs hP hS => ?_)
  have k1 : (1 : Int32).toInt = 1 := by decide
  have lo_p0 := i32_lo p0
  have hi_p0 := i32_hi p0
  refine lv_aload_n hx hb d_RE_closeBlock_0 rfl (lv_at hl 0 rfl) ?_
  refine va_get (D := (dC, dI)) (ci := 7) (v := .int h0_openCount) (C := R_RE) (T := F_RE) (N := 8) hx hb hts i_RE hown hK hP 0 rfl rfl 7 (by decide) (hts _ kF_RE_179) (fun _ h9 => h9) rfl d_RE_closeBlock_1 ?_
  refine lv_if_ne (tgt := 9) hx hb d_RE_closeBlock_4 (by decide) (fun c4 => ?_) (fun c4 => ?_)
  · have q4 := neI c4
    refine lv_aload_n hx hb d_RE_closeBlock_9 rfl (lv_at hl 0 rfl) ?_
    refine lv_dup hx hb d_RE_closeBlock_10 rfl ?_
    refine va_get (D := (dC, dI)) (ci := 7) (v := .int h0_openCount) (C := R_RE) (T := F_RE) (N := 8) hx hb hts i_RE hown hK hP 0 rfl rfl 7 (by decide) (hts _ kF_RE_179) (fun _ h9 => h9) rfl d_RE_closeBlock_11 ?_
    refine lv_iconst (v := 1) hx hb d_RE_closeBlock_14 (by decide) ?_
    refine lv_isub hx hb d_RE_closeBlock_15 ?_
    refine lv_topi (fun x1 ex1 => ?_)
    have tx1 : x1.toInt = h0_openCount.toInt - 1 := by have z := i32_sub ex1 (by omega) (by omega); omega
    refine va_put (D := (dC, dI)) (ci := 7) (v := .int x1) (ty := .int) (C := R_RE) (T := F_RE) (N := 8) hx hb hts i_RE t_RE t_RE_ok n_RE hown hK hP hD hS 0 rfl rfl 7 (by decide) (hts _ kF_RE_179) (fun _ h9 => h9) rfl (by decide +kernel) rfl rfl (Nat.le_of_ble_eq_true rfl) d_RE_closeBlock_16 (fun H locs hP hD hS => ?_)
    refine lv_aload_n hx hb d_RE_closeBlock_19 rfl (lv_at hl 0 rfl) ?_
    refine va_get (D := (dC, dI)) (ci := 7) (v := .ref ob) (C := R_RE) (T := F_RE) (N := 8) hx hb hts i_RE hown hK hP 0 rfl rfl 6 (by decide) (hts _ kF_RE_9) (fun _ h9 => h9) rfl d_RE_closeBlock_20 ?_
    refine lv_aload_n hx hb d_RE_closeBlock_23 rfl (lv_at hl 0 rfl) ?_
    refine va_get (D := (dC, dI)) (ci := 7) (v := .int x1) (C := R_RE) (T := F_RE) (N := 8) hx hb hts i_RE hown hK hP 0 rfl rfl 7 (by decide) (hts _ kF_RE_179) (fun _ h9 => h9) rfl d_RE_closeBlock_24 ?_
    have g27 : vp_in x1 100 := vp_in_iff.mpr ⟨by omega, by omega⟩
    refine va_iald hx hb hK hP 2 0 rfl rfl g27 d_RE_closeBlock_27 ?_
    refine lv_topi (fun x2 ex2 => ?_)
    have ix17 : x1.toNatClampNeg = h0_openCount.toNatClampNeg - 1 := by have := i32_clamp (x := x1) (by omega); have := i32_clamp (x := h0_openCount) (by omega); omega
    have g17 : x2 = gob (h0_openCount.toNatClampNeg - 1) := by rw [ex2, ix17]
    have t17 := hgo.out (h0_openCount.toNatClampNeg - 1) (by have := i32_clamp (x := h0_openCount) (by omega); omega)
    rw [← g17] at t17
    refine lv_istore_n (lv' := [(2, .int x2), (0, .ref h0), (1, .int p0)]) hx hb d_RE_closeBlock_28 rfl hl (by decide) rfl (fun ls hl => ?_)
    refine lv_aload_n hx hb d_RE_closeBlock_29 rfl (lv_at hl 1 rfl) ?_
    refine va_get (D := (dC, dI)) (ci := 7) (v := .ref ac) (C := R_RE) (T := F_RE) (N := 8) hx hb hts i_RE hown hK hP 0 rfl rfl 1 (by decide) (hts _ kF_RE_25) (fun _ h9 => h9) rfl d_RE_closeBlock_30 ?_
    refine va_get (D := (dC, dI)) (ci := 3) (v := .ref cpt) (C := R_CD) (T := F_CD) (N := 10) hx hb hts i_CD hown hK hP 1 rfl rfl 6 (by decide) (hts _ kF_RE_200) (fun _ h9 => h9) rfl d_RE_closeBlock_33 ?_
    refine lv_iload_n hx hb d_RE_closeBlock_36 rfl (lv_at hl 0 rfl) ?_
    refine lv_iload_n hx hb d_RE_closeBlock_37 rfl (lv_at hl 2 rfl) ?_
    have g38 : vp_in x2 5000 := vp_in_iff.mpr ⟨by omega, by omega⟩
    refine va_iast hx hb hK hP hD hS 3 1 rfl rfl g38 d_RE_closeBlock_38 (fun H locs hP hD hS => ?_)
    generalize ef3 : upd gcpt x2.toNatClampNeg p0 = f3 at hP hD
    refine lv_aload_n hx hb d_RE_closeBlock_39 rfl (lv_at hl 1 rfl) ?_
    refine va_get (D := (dC, dI)) (ci := 7) (v := .ref ac) (C := R_RE) (T := F_RE) (N := 8) hx hb hts i_RE hown hK hP 0 rfl rfl 1 (by decide) (hts _ kF_RE_25) (fun _ h9 => h9) rfl d_RE_closeBlock_40 ?_
    refine va_get (D := (dC, dI)) (ci := 3) (v := .ref cel) (C := R_CD) (T := F_CD) (N := 10) hx hb hts i_CD hown hK hP 1 rfl rfl 7 (by decide) (hts _ kF_RE_203) (fun _ h9 => h9) rfl d_RE_closeBlock_43 ?_
    refine lv_iload_n hx hb d_RE_closeBlock_46 rfl (lv_at hl 0 rfl) ?_
    have g47 : vp_in x2 5000 := vp_in_iff.mpr ⟨by omega, by omega⟩
    refine va_iald hx hb hK hP 4 2 rfl rfl g47 d_RE_closeBlock_47 ?_
    refine lv_topi (fun x4 ex4 => ?_)
    have g47 : x4 = (gcel (gob (h0_openCount.toNatClampNeg - 1)).toNatClampNeg) := by rw [ex4, g17]
    have t47 := hel.out (gob (h0_openCount.toNatClampNeg - 1)).toNatClampNeg
    rw [← g47] at t47
    refine lv_if_lt (tgt := 69) hx hb d_RE_closeBlock_48 (by decide) (fun c48 => ?_) (fun c48 => ?_)
    · have q48 := ltI c48
      refine lv_iconst (v := 1) hx hb d_RE_closeBlock_69 (by decide) ?_
      have hP9 := hP.sub (ws' := [(h0, .inr (7, [.ref aw, .ref ac, .int h0_at, .int h0_limit, .int h0_sound, .int h0_codeCount, .ref ob, .int x1])), (ac, .inr (3, [.ref cfi, .ref clk, .ref clt, .int ac_length, .ref cop, .ref cva, .ref cpt, .ref cel, .int ac_labelCount, .ref cla])), (ob, .inl (cob, 100, .inl gob)), (cpt, .inl (ccpt, 5000, .inl f3)), (cel, .inl (ccel, 5000, .inl gcel))]) [0, 1, 2, 3, 4] rfl
      have hD9 := hD.sub (ws' := [(h0, .inr (7, [.ref aw, .ref ac, .int h0_at, .int h0_limit, .int h0_sound, .int h0_codeCount, .ref ob, .int x1])), (ac, .inr (3, [.ref cfi, .ref clk, .ref clt, .int ac_length, .ref cop, .ref cva, .ref cpt, .ref cel, .int ac_labelCount, .ref cla])), (ob, .inl (cob, 100, .inl gob)), (cpt, .inl (ccpt, 5000, .inl f3)), (cel, .inl (ccel, 5000, .inl gcel))]) [0, 1, 2, 3, 4] (by decide) rfl
      exact W.zret (v := 1) hx hb hr (zn01 (Or.inr rfl)) (fun t ht hW => ⟨⟨1, (f3, x1), rfl, ⟨Or.inr rfl, by (try dsimp only) <;> omega, ⟨fun z => absurd z (by decide), fun _ => ⟨by omega, by (try dsimp only) <;> omega, by rw [if_neg (by rw [← g47]; omega), ← ef3, g17]⟩⟩⟩, by rw [ht]; exact hP9, va_K.moved hW.alike hK, hD9⟩, hS.F ht⟩) hS.2.2 d_RE_closeBlock_70
    · have q48 := nltI c48
      refine lv_aload_n hx hb d_RE_closeBlock_51 rfl (lv_at hl 1 rfl) ?_
      refine va_get (D := (dC, dI)) (ci := 7) (v := .ref ac) (C := R_RE) (T := F_RE) (N := 8) hx hb hts i_RE hown hK hP 0 rfl rfl 1 (by decide) (hts _ kF_RE_25) (fun _ h9 => h9) rfl d_RE_closeBlock_52 ?_
      refine va_get (D := (dC, dI)) (ci := 3) (v := .ref cpt) (C := R_CD) (T := F_CD) (N := 10) hx hb hts i_CD hown hK hP 1 rfl rfl 6 (by decide) (hts _ kF_RE_200) (fun _ h9 => h9) rfl d_RE_closeBlock_55 ?_
      refine lv_aload_n hx hb d_RE_closeBlock_58 rfl (lv_at hl 1 rfl) ?_
      refine va_get (D := (dC, dI)) (ci := 7) (v := .ref ac) (C := R_RE) (T := F_RE) (N := 8) hx hb hts i_RE hown hK hP 0 rfl rfl 1 (by decide) (hts _ kF_RE_25) (fun _ h9 => h9) rfl d_RE_closeBlock_59 ?_
      refine va_get (D := (dC, dI)) (ci := 3) (v := .ref cel) (C := R_CD) (T := F_CD) (N := 10) hx hb hts i_CD hown hK hP 1 rfl rfl 7 (by decide) (hts _ kF_RE_203) (fun _ h9 => h9) rfl d_RE_closeBlock_62 ?_
      refine lv_iload_n hx hb d_RE_closeBlock_65 rfl (lv_at hl 0 rfl) ?_
      have g66 : vp_in x2 5000 := vp_in_iff.mpr ⟨by omega, by omega⟩
      refine va_iald hx hb hK hP 4 2 rfl rfl g66 d_RE_closeBlock_66 ?_
      refine lv_topi (fun x5 ex5 => ?_)
      have g66 : x5 = (gcel (gob (h0_openCount.toNatClampNeg - 1)).toNatClampNeg) := by rw [ex5, g17]
      have h66 : x5.toInt = x4.toInt := by rw [g66, g47]
      have z66 := congrArg Int32.toNatClampNeg g66
      refine lv_iload_n hx hb d_RE_closeBlock_67 rfl (lv_at hl 2 rfl) ?_
      have g68 : vp_in x5 5000 := vp_in_iff.mpr ⟨by omega, by omega⟩
      refine va_iast hx hb hK hP hD hS 3 1 rfl rfl g68 d_RE_closeBlock_68 (fun H locs hP hD hS => ?_)
      generalize ef6 : upd f3 x5.toNatClampNeg p0 = f6 at hP hD
      refine lv_iconst (v := 1) hx hb d_RE_closeBlock_69 (by decide) ?_
      have hP9 := hP.sub (ws' := [(h0, .inr (7, [.ref aw, .ref ac, .int h0_at, .int h0_limit, .int h0_sound, .int h0_codeCount, .ref ob, .int x1])), (ac, .inr (3, [.ref cfi, .ref clk, .ref clt, .int ac_length, .ref cop, .ref cva, .ref cpt, .ref cel, .int ac_labelCount, .ref cla])), (ob, .inl (cob, 100, .inl gob)), (cpt, .inl (ccpt, 5000, .inl f6)), (cel, .inl (ccel, 5000, .inl gcel))]) [0, 1, 2, 3, 4] rfl
      have hD9 := hD.sub (ws' := [(h0, .inr (7, [.ref aw, .ref ac, .int h0_at, .int h0_limit, .int h0_sound, .int h0_codeCount, .ref ob, .int x1])), (ac, .inr (3, [.ref cfi, .ref clk, .ref clt, .int ac_length, .ref cop, .ref cva, .ref cpt, .ref cel, .int ac_labelCount, .ref cla])), (ob, .inl (cob, 100, .inl gob)), (cpt, .inl (ccpt, 5000, .inl f6)), (cel, .inl (ccel, 5000, .inl gcel))]) [0, 1, 2, 3, 4] (by decide) rfl
      exact W.zret (v := 1) hx hb hr (zn01 (Or.inr rfl)) (fun t ht hW => ⟨⟨1, (f6, x1), rfl, ⟨Or.inr rfl, by (try dsimp only) <;> omega, ⟨fun z => absurd z (by decide), fun _ => ⟨by omega, by (try dsimp only) <;> omega, by rw [if_pos (by rw [← g47]; omega), ← ef6, ← ef3, g17, g66]⟩⟩⟩, by rw [ht]; exact hP9, va_K.moved hW.alike hK, hD9⟩, hS.F ht⟩) hS.2.2 d_RE_closeBlock_70
  · have q4 := eqI c4
    refine lv_iconst (v := 0) hx hb d_RE_closeBlock_7 (by decide) ?_
    have hP9 := hP.sub (ws' := [(h0, .inr (7, [.ref aw, .ref ac, .int h0_at, .int h0_limit, .int h0_sound, .int h0_codeCount, .ref ob, .int h0_openCount])), (ac, .inr (3, [.ref cfi, .ref clk, .ref clt, .int ac_length, .ref cop, .ref cva, .ref cpt, .ref cel, .int ac_labelCount, .ref cla])), (ob, .inl (cob, 100, .inl gob)), (cpt, .inl (ccpt, 5000, .inl gcpt)), (cel, .inl (ccel, 5000, .inl gcel))]) [0, 1, 2, 3, 4] rfl
    have hD9 := hD.sub (ws' := [(h0, .inr (7, [.ref aw, .ref ac, .int h0_at, .int h0_limit, .int h0_sound, .int h0_codeCount, .ref ob, .int h0_openCount])), (ac, .inr (3, [.ref cfi, .ref clk, .ref clt, .int ac_length, .ref cop, .ref cva, .ref cpt, .ref cel, .int ac_labelCount, .ref cla])), (ob, .inl (cob, 100, .inl gob)), (cpt, .inl (ccpt, 5000, .inl gcpt)), (cel, .inl (ccel, 5000, .inl gcel))]) [0, 1, 2, 3, 4] (by decide) rfl
    exact W.zret (v := 0) hx hb hr (zn01 (Or.inl rfl)) (fun t ht hW => ⟨⟨0, (gcpt, h0_openCount), rfl, ⟨Or.inl rfl, b_h0_openCount, ⟨fun _ => ⟨by omega, rfl, rfl⟩, fun z => absurd z (by decide)⟩⟩, by rw [ht]; exact hP9, va_K.moved hW.alike hK, hD9⟩, hS.F ht⟩) hS.2.2 d_RE_closeBlock_8
abbrev at_RE_readOtherx (dC : Nat → ClassId) (dI : Nat → Nat → Nat) (h0 aw ac ob ab wat wap wag waf wgt wft wfv wgc wek wei wes wez ax cfi clk clt cop cva cpt cel cla : Nat) (cax ccva ccpt : ClassId) (h0_limit : Int32) (h0_codeCount : Int32) (h0_openCount : Int32) (aw_typeCount : Int32) (aw_functionCount : Int32) (aw_hasMemory : Int32) (aw_pagesLeast : Int64) (aw_pagesMost : Int64) (aw_globalCount : Int32) (aw_exportCount : Int32) (ab_length : Int32) (ac_length : Int32) (ac_labelCount : Int32) (gax : Nat → Int32) (A : Nat → Prop) (u : (Nat → Int32) × (Nat → Int64) × Int32 × Int32) (t : State) : Prop := match u with | (gcpt, gcva, h0_at, h0_sound) => va_P (dC, dI) cls [(h0, .inr (7, [.ref aw, .ref ac, .int h0_at, .int h0_limit, .int h0_sound, .int h0_codeCount, .ref ob, .int h0_openCount])), (aw, .inr (10, [.ref ab, .ref ac, .int aw_typeCount, .ref wat, .ref wap, .ref wag, .int aw_functionCount, .ref waf, .int aw_hasMemory, .long aw_pagesLeast, .long aw_pagesMost, .int aw_globalCount, .ref wgt, .ref wft, .ref wfv, .ref wgc, .int aw_exportCount, .ref wek, .ref wei, .ref wes, .ref wez])), (ab, .inr (1, [.ref ax, .int ab_length])), (ac, .inr (3, [.ref cfi, .ref clk, .ref clt, .int ac_length, .ref cop, .ref cva, .ref cpt, .ref cel, .int ac_labelCount, .ref cla])), (ax, .inl (cax, 8192, .inl gax)), (cva, .inl (ccva, 5000, .inr (.inl gcva))), (cpt, .inl (ccpt, 5000, .inl gcpt))] t.heap ∧ va_K (dC, dI) cls [(cax, .byte), (ccva, .long), (ccpt, .int)] t ∧ va_D A [(h0, .inr (7, [.ref aw, .ref ac, .int h0_at, .int h0_limit, .int h0_sound, .int h0_codeCount, .ref ob, .int h0_openCount])), (aw, .inr (10, [.ref ab, .ref ac, .int aw_typeCount, .ref wat, .ref wap, .ref wag, .int aw_functionCount, .ref waf, .int aw_hasMemory, .long aw_pagesLeast, .long aw_pagesMost, .int aw_globalCount, .ref wgt, .ref wft, .ref wfv, .ref wgc, .int aw_exportCount, .ref wek, .ref wei, .ref wes, .ref wez])), (ab, .inr (1, [.ref ax, .int ab_length])), (ac, .inr (3, [.ref cfi, .ref clk, .ref clt, .int ac_length, .ref cop, .ref cva, .ref cpt, .ref cel, .int ac_labelCount, .ref cla])), (ax, .inl (cax, 8192, .inl gax)), (cva, .inl (ccva, 5000, .inr (.inl gcva))), (cpt, .inl (ccpt, 5000, .inl gcpt))]
set_option maxHeartbeats 4000000 in
set_option maxRecDepth 100000 in
theorem c_RE_readOtherx (l : Launch) (dC : Nat → ClassId) (dI : Nat → Nat → Nat) (sz : Nat) (h0 aw ac ob ab wat wap wag waf wgt wft wfv wgc wek wei wes wez ax cfi clk clt cop cva cpt cel cla : Nat) (cax ccva ccpt : ClassId) (h0_at : Int32) (h0_limit : Int32) (h0_sound : Int32) (h0_codeCount : Int32) (h0_openCount : Int32) (aw_typeCount : Int32) (aw_functionCount : Int32) (aw_hasMemory : Int32) (aw_pagesLeast : Int64) (aw_pagesMost : Int64) (aw_globalCount : Int32) (aw_exportCount : Int32) (ab_length : Int32) (ac_length : Int32) (ac_labelCount : Int32) (gax : Nat → Int32) (gcva : Nat → Int64) (gcpt : Nat → Int32) (gv : Nat)  (b_h0_sound : h0_sound = 0 ∨ h0_sound = 1) (p0 : Int32) (p1 : Int32)  (hs : h0_sound.toInt = 1) (ha : 0 ≤ h0_at.toInt ∧ h0_limit.toInt ≤ ab_length.toInt ∧ ab_length.toInt ≤ 8192) (hp : 0 ≤ p0.toInt ∧ p0.toInt < 5000) (hk : (p1.toInt = 44 ∨ p1.toInt = 45 ∨ p1.toInt = 58 ∨ p1.toInt = 40 ∨ p1.toInt = 54 ∨ p1.toInt = 41 ∨ p1.toInt = 55) ∨ (p1.toInt = 0 ∨ p1.toInt = 15 ∨ p1.toInt = 26 ∨ (69 ≤ p1.toInt ∧ p1.toInt ≤ 90) ∨ (103 ≤ p1.toInt ∧ p1.toInt ≤ 138) ∨ p1.toInt = 167 ∨ p1.toInt = 172)) (hv : gv < 128) (hbq : (p1.toInt = 44 ∨ p1.toInt = 45 ∨ p1.toInt = 58 ∨ p1.toInt = 40 ∨ p1.toInt = 54 ∨ p1.toInt = 41 ∨ p1.toInt = 55) → bn (gax h0_at.toNatClampNeg) = gv ∧ bn (gax (h0_at.toNatClampNeg + 1)) = 0) (hl : (p1.toInt = 44 ∨ p1.toInt = 45 ∨ p1.toInt = 58 ∨ p1.toInt = 40 ∨ p1.toInt = 54 ∨ p1.toInt = 41 ∨ p1.toInt = 55) → h0_at.toInt + 2 ≤ h0_limit.toInt) : Met l y_RE_readOther w_RE_readOther ({ frames := 2, cells := 0, slots := 0, locals := 46 }) (va_Pc [.ref h0, .int p0, .int p1] (fun U => U.heap.size = sz ∧ va_P (dC, dI) cls [(h0, .inr (7, [.ref aw, .ref ac, .int h0_at, .int h0_limit, .int h0_sound, .int h0_codeCount, .ref ob, .int h0_openCount])), (aw, .inr (10, [.ref ab, .ref ac, .int aw_typeCount, .ref wat, .ref wap, .ref wag, .int aw_functionCount, .ref waf, .int aw_hasMemory, .long aw_pagesLeast, .long aw_pagesMost, .int aw_globalCount, .ref wgt, .ref wft, .ref wfv, .ref wgc, .int aw_exportCount, .ref wek, .ref wei, .ref wes, .ref wez])), (ab, .inr (1, [.ref ax, .int ab_length])), (ac, .inr (3, [.ref cfi, .ref clk, .ref clt, .int ac_length, .ref cop, .ref cva, .ref cpt, .ref cel, .int ac_labelCount, .ref cla])), (ax, .inl (cax, 8192, .inl gax)), (cva, .inl (ccva, 5000, .inr (.inl gcva))), (cpt, .inl (ccpt, 5000, .inl gcpt))] U.heap ∧ va_K (dC, dI) cls [(cax, .byte), (ccva, .long), (ccpt, .int)] U ∧ va_D (fun _ => True) [(h0, .inr (7, [.ref aw, .ref ac, .int h0_at, .int h0_limit, .int h0_sound, .int h0_codeCount, .ref ob, .int h0_openCount])), (aw, .inr (10, [.ref ab, .ref ac, .int aw_typeCount, .ref wat, .ref wap, .ref wag, .int aw_functionCount, .ref waf, .int aw_hasMemory, .long aw_pagesLeast, .long aw_pagesMost, .int aw_globalCount, .ref wgt, .ref wft, .ref wfv, .ref wgc, .int aw_exportCount, .ref wek, .ref wei, .ref wes, .ref wez])), (ab, .inr (1, [.ref ax, .int ab_length])), (ac, .inr (3, [.ref cfi, .ref clk, .ref clt, .int ac_length, .ref cop, .ref cva, .ref cpt, .ref cel, .int ac_labelCount, .ref cla])), (ax, .inl (cax, 8192, .inl gax)), (cva, .inl (ccva, 5000, .inr (.inl gcva))), (cpt, .inl (ccpt, 5000, .inl gcpt))])) (va_Qv (fun (u : (Nat → Int32) × (Nat → Int64) × Int32 × Int32) => match u with | (gcpt2, gcva2, h0_at2, h0_sound2) => (h0_sound2 = 0 ∨ h0_sound2 = 1) ∧ (h0_sound2.toInt = 1 ∧ ((p1.toInt = 44 ∨ p1.toInt = 45 ∨ p1.toInt = 58 ∨ p1.toInt = 40 ∨ p1.toInt = 54 ∨ p1.toInt = 41 ∨ p1.toInt = 55) → h0_at2.toInt = h0_at.toInt + 2 ∧ ∃ (b : Int32) (x : Int64), 0 ≤ b.toInt ∧ x.toInt = 0 ∧ gcpt2 = upd gcpt p0.toNatClampNeg b ∧ gcva2 = vp_updL gcva p0.toNatClampNeg x) ∧ ((p1.toInt = 0 ∨ p1.toInt = 15 ∨ p1.toInt = 26 ∨ (69 ≤ p1.toInt ∧ p1.toInt ≤ 90) ∨ (103 ≤ p1.toInt ∧ p1.toInt ≤ 138) ∨ p1.toInt = 167 ∨ p1.toInt = 172) → h0_at2 = h0_at ∧ gcpt2 = gcpt ∧ gcva2 = gcva))) (at_RE_readOtherx dC dI h0 aw ac ob ab wat wap wag waf wgt wft wfv wgc wek wei wes wez ax cfi clk clt cop cva cpt cel cla cax ccva ccpt h0_limit h0_codeCount h0_openCount aw_typeCount aw_functionCount aw_hasMemory aw_pagesLeast aw_pagesMost aw_globalCount aw_exportCount ab_length ac_length ac_labelCount gax (va_A [(h0, .inr (7, [.ref aw, .ref ac, .int h0_at, .int h0_limit, .int h0_sound, .int h0_codeCount, .ref ob, .int h0_openCount])), (aw, .inr (10, [.ref ab, .ref ac, .int aw_typeCount, .ref wat, .ref wap, .ref wag, .int aw_functionCount, .ref waf, .int aw_hasMemory, .long aw_pagesLeast, .long aw_pagesMost, .int aw_globalCount, .ref wgt, .ref wft, .ref wfv, .ref wgc, .int aw_exportCount, .ref wek, .ref wei, .ref wes, .ref wez])), (ab, .inr (1, [.ref ax, .int ab_length])), (ac, .inr (3, [.ref cfi, .ref clk, .ref clt, .int ac_length, .ref cop, .ref cva, .ref cpt, .ref cel, .int ac_labelCount, .ref cla])), (ax, .inl (cax, 8192, .inl gax)), (cva, .inl (ccva, 5000, .inr (.inl gcva))), (cpt, .inl (ccpt, 5000, .inl gcpt))] sz)) (va_A [(h0, .inr (7, [.ref aw, .ref ac, .int h0_at, .int h0_limit, .int h0_sound, .int h0_codeCount, .ref ob, .int h0_openCount])), (aw, .inr (10, [.ref ab, .ref ac, .int aw_typeCount, .ref wat, .ref wap, .ref wag, .int aw_functionCount, .ref waf, .int aw_hasMemory, .long aw_pagesLeast, .long aw_pagesMost, .int aw_globalCount, .ref wgt, .ref wft, .ref wfv, .ref wgc, .int aw_exportCount, .ref wek, .ref wei, .ref wes, .ref wez])), (ab, .inr (1, [.ref ax, .int ab_length])), (ac, .inr (3, [.ref cfi, .ref clk, .ref clt, .int ac_length, .ref cop, .ref cva, .ref cpt, .ref cel, .int ac_labelCount, .ref cla])), (ax, .inl (cax, 8192, .inl gax)), (cva, .inl (ccva, 5000, .inr (.inl gcva))), (cpt, .inl (ccpt, 5000, .inl gcpt))] sz)) 0 0 (va_A [(h0, .inr (7, [.ref aw, .ref ac, .int h0_at, .int h0_limit, .int h0_sound, .int h0_codeCount, .ref ob, .int h0_openCount])), (aw, .inr (10, [.ref ab, .ref ac, .int aw_typeCount, .ref wat, .ref wap, .ref wag, .int aw_functionCount, .ref waf, .int aw_hasMemory, .long aw_pagesLeast, .long aw_pagesMost, .int aw_globalCount, .ref wgt, .ref wft, .ref wfv, .ref wgc, .int aw_exportCount, .ref wek, .ref wei, .ref wes, .ref wez])), (ab, .inr (1, [.ref ax, .int ab_length])), (ac, .inr (3, [.ref cfi, .ref clk, .ref clt, .int ac_length, .ref cop, .ref cva, .ref cpt, .ref cel, .int ac_labelCount, .ref cla])), (ax, .inl (cax, 8192, .inl gax)), (cva, .inl (ccva, 5000, .inr (.inl gcva))), (cpt, .inl (ccpt, 5000, .inl gcpt))] sz) := by
  refine Met.ofW (cc := b_RE_readOther) (maxL := 3) (ret := none) (by decide) rfl ?_
  intro p e s m args below meth c s₁ B hml hv
  obtain ⟨rfl, hsz, hP, hK, hD0⟩ := hv
  have hx := B.exec
  have hb := B.bytes
  have hr := B.returns
  have hts0 := atoms_spec (ws := w_RE_readOther) B.pre
  have hts : ∀ w ∈ lw_g, w.before _ s = true := fun w h => hts0 w (List.mem_cons_of_mem _ h)
  have hown : s.vm.findClass R_RE = some m.cls := findClass_of_methodNamed B.named
  have hlocks := B.notSynchronized
  clear hts0
  subst hsz
  have hD := hD0.self (sz := s.heap.size)
  generalize hAe : va_A [(h0, .inr (7, [.ref aw, .ref ac, .int h0_at, .int h0_limit, .int h0_sound, .int h0_codeCount, .ref ob, .int h0_openCount])), (aw, .inr (10, [.ref ab, .ref ac, .int aw_typeCount, .ref wat, .ref wap, .ref wag, .int aw_functionCount, .ref waf, .int aw_hasMemory, .long aw_pagesLeast, .long aw_pagesMost, .int aw_globalCount, .ref wgt, .ref wft, .ref wfv, .ref wgc, .int aw_exportCount, .ref wek, .ref wei, .ref wes, .ref wez])), (ab, .inr (1, [.ref ax, .int ab_length])), (ac, .inr (3, [.ref cfi, .ref clk, .ref clt, .int ac_length, .ref cop, .ref cva, .ref cpt, .ref cel, .int ac_labelCount, .ref cla])), (ax, .inl (cax, 8192, .inl gax)), (cva, .inl (ccva, 5000, .inr (.inl gcva))), (cpt, .inl (ccpt, 5000, .inl gcpt))] s.heap.size = A at hD ⊢
  have hA : ∀ q : Nat, s.heap.size ≤ q → A q := fun q h => by rw [← hAe]; exact Or.inr h
  clear hAe
  have hP : va_P (dC, dI) cls [(h0, .inr (7, [.ref aw, .ref ac, .int h0_at, .int h0_limit, .int h0_sound, .int h0_codeCount, .ref ob, .int h0_openCount])), (aw, .inr (10, [.ref ab, .ref ac, .int aw_typeCount, .ref wat, .ref wap, .ref wag, .int aw_functionCount, .ref waf, .int aw_hasMemory, .long aw_pagesLeast, .long aw_pagesMost, .int aw_globalCount, .ref wgt, .ref wft, .ref wfv, .ref wgc, .int aw_exportCount, .ref wek, .ref wei, .ref wes, .ref wez])), (ab, .inr (1, [.ref ax, .int ab_length])), (ac, .inr (3, [.ref cfi, .ref clk, .ref clt, .int ac_length, .ref cop, .ref cva, .ref cpt, .ref cel, .int ac_labelCount, .ref cla])), (ax, .inl (cax, 8192, .inl gax)), (cva, .inl (ccva, 5000, .inr (.inl gcva))), (cpt, .inl (ccpt, 5000, .inl gcpt))] s.heap := hP
  have hl := lv_entry ([.ref h0, .int p0, .int p1]) (n := 3) (Nat.le_of_ble_eq_true rfl)
  rw [lg_entry_eq]
  generalize (lg_sl ([.ref h0, .int p0, .int p1]) ++ List.replicate (3 - (lg_sl ([.ref h0, .int p0, .int p1])).length) Slot.unset).toArray = ls at hl ⊢
  have hl : lv_has ls 3 [(0, .ref h0), (1, .int p0), (2, .int p1)] := hl
  have k0 : (0 : Int32).toInt = 0 := by decide
  refine w_gen (A := A) hP (fun H locs hP hS => ?_)
  have k1 : (1 : Int32).toInt = 1 := by decide
  have k15 : (15 : Int32).toInt = 15 := by decide
  have k26 : (26 : Int32).toInt = 26 := by decide
  have k27 : (27 : Int32).toInt = 27 := by decide
  have lo_p0 := i32_lo p0
  have hi_p0 := i32_hi p0
  have lo_p1 := i32_lo p1
  have hi_p1 := i32_hi p1
  have th0_sound := b01 b_h0_sound
  have za := i32_clamp (x := h0_at) (by omega)
  have ba : (p1.toInt = 44 ∨ p1.toInt = 45 ∨ p1.toInt = 58 ∨ p1.toInt = 40 ∨ p1.toInt = 54 ∨ p1.toInt = 41 ∨ p1.toInt = 55) → bq gax h0_at.toNatClampNeg (leb 5 gv) ∧ bq gax (h0_at.toNatClampNeg + 1) (leb 5 0) ∧ (leb 5 gv).length = 1 := fun z => by have q := hbq z; rw [leb_1 (by omega)]; exact ⟨⟨q.1, trivial⟩, ⟨q.2, trivial⟩, rfl⟩
  replace ba : bx _ := ba
  clear hbq
  have l0 : (leb 5 0).length = 1 := by decide
  refine lv_iload_n hx hb d_RE_readOther_0 rfl (lv_at hl 2 rfl) ?_
  have hPc := hP.sub (ws' := []) [] rfl
  have hDc := hD.sub (ws' := []) [] (by decide) rfl
  have hKc := hK.sub (tys' := []) [] rfl
  have hFc := va_free (wc := []) hD hS hA [] rfl
  refine va_calli (va_runS (As := [.int p1]) (rest := []) ⟨hx, hb, hml, hown, hts⟩ (c_CD_isAccess l dC dI H.size p1) ⟨callB_of 1 hts (gW kC_CD_isAccess) rfl rfl rfl (hts _ kI_CD) (hts _ kM_RE_231) (by decide +kernel) ⟨Nat.le_of_ble_eq_true rfl, Nat.le_of_ble_eq_true rfl⟩, hts _ kT_CD_isAccess⟩ ⟨fun a U g mk z => by obtain ⟨z0, z1, zP, zK, zD⟩ := z; exact ⟨z0, z1, zP, va_K.moved (u := U) (U := U.calling g mk a) (Vm.Alike.refl U.vm) zK, zD⟩, fun U hU hW => ⟨rfl, by rw [hU], by rw [hU]; exact hPc, va_K.moved hW.alike hKc, hDc.weaken (fun _ _ _ _ => trivial)⟩⟩ rfl rfl hl.1 rfl (lv_room (Nat.le_of_ble_eq_true rfl)) d_RE_readOther_1 ⟨(Nat.zero_le _), (Nat.zero_le _)⟩) hS (fun q _ h => hFc q h) hFc (fun r1 u t H1 locs ht hvm hw hB hz1 hk1 hS => ?_)
  try dsimp only at hw
  have tr1 := hw
  obtain ⟨hP1, hK1, hD1⟩ := hB
  rw [ht] at hP1
  obtain ⟨hP, hD⟩ := va_join (wr := [(h0, .inr (7, [.ref aw, .ref ac, .int h0_at, .int h0_limit, .int h0_sound, .int h0_codeCount, .ref ob, .int h0_openCount])), (aw, .inr (10, [.ref ab, .ref ac, .int aw_typeCount, .ref wat, .ref wap, .ref wag, .int aw_functionCount, .ref waf, .int aw_hasMemory, .long aw_pagesLeast, .long aw_pagesMost, .int aw_globalCount, .ref wgt, .ref wft, .ref wfv, .ref wgc, .int aw_exportCount, .ref wek, .ref wei, .ref wes, .ref wez])), (ab, .inr (1, [.ref ax, .int ab_length])), (ac, .inr (3, [.ref cfi, .ref clk, .ref clt, .int ac_length, .ref cop, .ref cva, .ref cpt, .ref cel, .int ac_labelCount, .ref cla])), (ax, .inl (cax, 8192, .inl gax)), (cva, .inl (ccva, 5000, .inr (.inl gcva))), (cpt, .inl (ccpt, 5000, .inl gcpt))]) (w1 := []) hP hD [] [0, 1, 2, 3, 4, 5, 6] rfl rfl (by decide) (by decide) hk1 hFc hP1 hD1
  clear hPc hDc hKc hFc hz1 hk1 hP1 hK1 hD1
  generalize H1 = H at hP hS ⊢
  have hP : va_P (dC, dI) cls [(h0, .inr (7, [.ref aw, .ref ac, .int h0_at, .int h0_limit, .int h0_sound, .int h0_codeCount, .ref ob, .int h0_openCount])), (aw, .inr (10, [.ref ab, .ref ac, .int aw_typeCount, .ref wat, .ref wap, .ref wag, .int aw_functionCount, .ref waf, .int aw_hasMemory, .long aw_pagesLeast, .long aw_pagesMost, .int aw_globalCount, .ref wgt, .ref wft, .ref wfv, .ref wgc, .int aw_exportCount, .ref wek, .ref wei, .ref wes, .ref wez])), (ab, .inr (1, [.ref ax, .int ab_length])), (ac, .inr (3, [.ref cfi, .ref clk, .ref clt, .int ac_length, .ref cop, .ref cva, .ref cpt, .ref cel, .int ac_labelCount, .ref cla])), (ax, .inl (cax, 8192, .inl gax)), (cva, .inl (ccva, 5000, .inr (.inl gcva))), (cpt, .inl (ccpt, 5000, .inl gcpt))] H := hP
  have hD : va_D A [(h0, .inr (7, [.ref aw, .ref ac, .int h0_at, .int h0_limit, .int h0_sound, .int h0_codeCount, .ref ob, .int h0_openCount])), (aw, .inr (10, [.ref ab, .ref ac, .int aw_typeCount, .ref wat, .ref wap, .ref wag, .int aw_functionCount, .ref waf, .int aw_hasMemory, .long aw_pagesLeast, .long aw_pagesMost, .int aw_globalCount, .ref wgt, .ref wft, .ref wfv, .ref wgc, .int aw_exportCount, .ref wek, .ref wei, .ref wes, .ref wez])), (ab, .inr (1, [.ref ax, .int ab_length])), (ac, .inr (3, [.ref cfi, .ref clk, .ref clt, .int ac_length, .ref cop, .ref cva, .ref cpt, .ref cel, .int ac_labelCount, .ref cla])), (ax, .inl (cax, 8192, .inl gax)), (cva, .inl (ccva, 5000, .inr (.inl gcva))), (cpt, .inl (ccpt, 5000, .inl gcpt))] := hD
  refine lv_if_eq (tgt := 43) hx hb d_RE_readOther_4 (by decide) (fun c4 => ?_) (fun c4 => ?_)
  · have q4 := eqI c4
    refine lv_aload_n hx hb d_RE_readOther_43 rfl (lv_at hl 0 rfl) ?_
    refine lv_iload_n hx hb d_RE_readOther_44 rfl (lv_at hl 2 rfl) ?_
    have hPc := hP.sub (ws' := []) [] rfl
    have hDc := hD.sub (ws' := []) [] (by decide) rfl
    have hKc := hK.sub (tys' := []) [] rfl
    have hFc := va_free (wc := []) hD hS hA [] rfl
    refine va_calli (va_runS (As := [.int p1]) (rest := [.ref h0]) ⟨hx, hb, hml, hown, hts⟩ (c_CD_isNumeric l dC dI H.size p1) ⟨callB_of 1 hts (gW kC_CD_isNumeric) rfl rfl rfl (hts _ kI_CD) (hts _ kM_RE_234) (by decide +kernel) ⟨Nat.le_of_ble_eq_true rfl, Nat.le_of_ble_eq_true rfl⟩, hts _ kT_CD_isNumeric⟩ ⟨fun a U g mk z => by obtain ⟨z0, z1, zP, zK, zD⟩ := z; exact ⟨z0, z1, zP, va_K.moved (u := U) (U := U.calling g mk a) (Vm.Alike.refl U.vm) zK, zD⟩, fun U hU hW => ⟨rfl, by rw [hU], by rw [hU]; exact hPc, va_K.moved hW.alike hKc, hDc.weaken (fun _ _ _ _ => trivial)⟩⟩ rfl rfl hl.1 rfl (lv_room (Nat.le_of_ble_eq_true rfl)) d_RE_readOther_45 ⟨(Nat.zero_le _), (Nat.zero_le _)⟩) hS (fun q _ h => hFc q h) hFc (fun r2 u t H1 locs ht hvm hw hB hz1 hk1 hS => ?_)
    try dsimp only at hw
    have tr2 := hw
    obtain ⟨hP1, hK1, hD1⟩ := hB
    rw [ht] at hP1
    obtain ⟨hP, hD⟩ := va_join (wr := [(h0, .inr (7, [.ref aw, .ref ac, .int h0_at, .int h0_limit, .int h0_sound, .int h0_codeCount, .ref ob, .int h0_openCount])), (aw, .inr (10, [.ref ab, .ref ac, .int aw_typeCount, .ref wat, .ref wap, .ref wag, .int aw_functionCount, .ref waf, .int aw_hasMemory, .long aw_pagesLeast, .long aw_pagesMost, .int aw_globalCount, .ref wgt, .ref wft, .ref wfv, .ref wgc, .int aw_exportCount, .ref wek, .ref wei, .ref wes, .ref wez])), (ab, .inr (1, [.ref ax, .int ab_length])), (ac, .inr (3, [.ref cfi, .ref clk, .ref clt, .int ac_length, .ref cop, .ref cva, .ref cpt, .ref cel, .int ac_labelCount, .ref cla])), (ax, .inl (cax, 8192, .inl gax)), (cva, .inl (ccva, 5000, .inr (.inl gcva))), (cpt, .inl (ccpt, 5000, .inl gcpt))]) (w1 := []) hP hD [] [0, 1, 2, 3, 4, 5, 6] rfl rfl (by decide) (by decide) hk1 hFc hP1 hD1
    clear hPc hDc hKc hFc hz1 hk1 hP1 hK1 hD1
    generalize H1 = H at hP hS ⊢
    have hP : va_P (dC, dI) cls [(h0, .inr (7, [.ref aw, .ref ac, .int h0_at, .int h0_limit, .int h0_sound, .int h0_codeCount, .ref ob, .int h0_openCount])), (aw, .inr (10, [.ref ab, .ref ac, .int aw_typeCount, .ref wat, .ref wap, .ref wag, .int aw_functionCount, .ref waf, .int aw_hasMemory, .long aw_pagesLeast, .long aw_pagesMost, .int aw_globalCount, .ref wgt, .ref wft, .ref wfv, .ref wgc, .int aw_exportCount, .ref wek, .ref wei, .ref wes, .ref wez])), (ab, .inr (1, [.ref ax, .int ab_length])), (ac, .inr (3, [.ref cfi, .ref clk, .ref clt, .int ac_length, .ref cop, .ref cva, .ref cpt, .ref cel, .int ac_labelCount, .ref cla])), (ax, .inl (cax, 8192, .inl gax)), (cva, .inl (ccva, 5000, .inr (.inl gcva))), (cpt, .inl (ccpt, 5000, .inl gcpt))] H := hP
    have hD : va_D A [(h0, .inr (7, [.ref aw, .ref ac, .int h0_at, .int h0_limit, .int h0_sound, .int h0_codeCount, .ref ob, .int h0_openCount])), (aw, .inr (10, [.ref ab, .ref ac, .int aw_typeCount, .ref wat, .ref wap, .ref wag, .int aw_functionCount, .ref waf, .int aw_hasMemory, .long aw_pagesLeast, .long aw_pagesMost, .int aw_globalCount, .ref wgt, .ref wft, .ref wfv, .ref wgc, .int aw_exportCount, .ref wek, .ref wei, .ref wes, .ref wez])), (ab, .inr (1, [.ref ax, .int ab_length])), (ac, .inr (3, [.ref cfi, .ref clk, .ref clt, .int ac_length, .ref cop, .ref cva, .ref cpt, .ref cel, .int ac_labelCount, .ref cla])), (ax, .inl (cax, 8192, .inl gax)), (cva, .inl (ccva, 5000, .inr (.inl gcva))), (cpt, .inl (ccpt, 5000, .inl gcpt))] := hD
    refine w_cut (pc2 := 83) (σ := Int32) (fun u H locs ls => match u with | j83_s0 => (j83_s0 = 0 ∨ j83_s0 = 1) ∧ (j83_s0.toInt = 1) ∧ va_P (dC, dI) cls [(h0, .inr (7, [.ref aw, .ref ac, .int h0_at, .int h0_limit, .int h0_sound, .int h0_codeCount, .ref ob, .int h0_openCount])), (aw, .inr (10, [.ref ab, .ref ac, .int aw_typeCount, .ref wat, .ref wap, .ref wag, .int aw_functionCount, .ref waf, .int aw_hasMemory, .long aw_pagesLeast, .long aw_pagesMost, .int aw_globalCount, .ref wgt, .ref wft, .ref wfv, .ref wgc, .int aw_exportCount, .ref wek, .ref wei, .ref wes, .ref wez])), (ab, .inr (1, [.ref ax, .int ab_length])), (ac, .inr (3, [.ref cfi, .ref clk, .ref clt, .int ac_length, .ref cop, .ref cva, .ref cpt, .ref cel, .int ac_labelCount, .ref cla])), (ax, .inl (cax, 8192, .inl gax)), (cva, .inl (ccva, 5000, .inr (.inl gcva))), (cpt, .inl (ccpt, 5000, .inl gcpt))] H ∧ va_D A [(h0, .inr (7, [.ref aw, .ref ac, .int h0_at, .int h0_limit, .int h0_sound, .int h0_codeCount, .ref ob, .int h0_openCount])), (aw, .inr (10, [.ref ab, .ref ac, .int aw_typeCount, .ref wat, .ref wap, .ref wag, .int aw_functionCount, .ref waf, .int aw_hasMemory, .long aw_pagesLeast, .long aw_pagesMost, .int aw_globalCount, .ref wgt, .ref wft, .ref wfv, .ref wgc, .int aw_exportCount, .ref wek, .ref wei, .ref wes, .ref wez])), (ab, .inr (1, [.ref ax, .int ab_length])), (ac, .inr (3, [.ref cfi, .ref clk, .ref clt, .int ac_length, .ref cop, .ref cva, .ref cpt, .ref cel, .int ac_labelCount, .ref cla])), (ax, .inl (cax, 8192, .inl gax)), (cva, .inl (ccva, 5000, .inr (.inl gcva))), (cpt, .inl (ccpt, 5000, .inl gcpt))] ∧ va_S A s.heap H locs ∧ lv_has ls 3 []) (fun u => match u with | j83_s0 => [.int j83_s0, .ref h0]) ?_ (fun jn83 => ?_)
    · intro u H locs ls hI
      obtain ⟨j83_s0, rfl⟩ : ∃ z, z = u := ⟨_, rfl⟩
      obtain ⟨b_j83_s0, y83, hP, hD, hS, hl⟩ := hI
      have tj83_s0 := b01 b_j83_s0
      refine va_put (D := (dC, dI)) (ci := 7) (v := .int j83_s0) (ty := .boolean) (C := R_RE) (T := F_RE) (N := 8) hx hb hts i_RE t_RE t_RE_ok n_RE hown hK hP hD hS 0 rfl rfl 4 (by decide) (hts _ kF_RE_45) (fun _ h9 => h9) rfl (by decide +kernel) (zn01 (b_j83_s0)) (fz01 (b_j83_s0)) (Nat.le_of_ble_eq_true rfl) d_RE_readOther_83 (fun H locs hP hD hS => ?_)
      have hP9 := hP.sub (ws' := [(h0, .inr (7, [.ref aw, .ref ac, .int h0_at, .int h0_limit, .int j83_s0, .int h0_codeCount, .ref ob, .int h0_openCount])), (aw, .inr (10, [.ref ab, .ref ac, .int aw_typeCount, .ref wat, .ref wap, .ref wag, .int aw_functionCount, .ref waf, .int aw_hasMemory, .long aw_pagesLeast, .long aw_pagesMost, .int aw_globalCount, .ref wgt, .ref wft, .ref wfv, .ref wgc, .int aw_exportCount, .ref wek, .ref wei, .ref wes, .ref wez])), (ab, .inr (1, [.ref ax, .int ab_length])), (ac, .inr (3, [.ref cfi, .ref clk, .ref clt, .int ac_length, .ref cop, .ref cva, .ref cpt, .ref cel, .int ac_labelCount, .ref cla])), (ax, .inl (cax, 8192, .inl gax)), (cva, .inl (ccva, 5000, .inr (.inl gcva))), (cpt, .inl (ccpt, 5000, .inl gcpt))]) [0, 1, 2, 3, 4, 5, 6] rfl
      have hD9 := hD.sub (ws' := [(h0, .inr (7, [.ref aw, .ref ac, .int h0_at, .int h0_limit, .int j83_s0, .int h0_codeCount, .ref ob, .int h0_openCount])), (aw, .inr (10, [.ref ab, .ref ac, .int aw_typeCount, .ref wat, .ref wap, .ref wag, .int aw_functionCount, .ref waf, .int aw_hasMemory, .long aw_pagesLeast, .long aw_pagesMost, .int aw_globalCount, .ref wgt, .ref wft, .ref wfv, .ref wgc, .int aw_exportCount, .ref wek, .ref wei, .ref wes, .ref wez])), (ab, .inr (1, [.ref ax, .int ab_length])), (ac, .inr (3, [.ref cfi, .ref clk, .ref clt, .int ac_length, .ref cop, .ref cva, .ref cpt, .ref cel, .int ac_labelCount, .ref cla])), (ax, .inl (cax, 8192, .inl gax)), (cva, .inl (ccva, 5000, .inr (.inl gcva))), (cpt, .inl (ccpt, 5000, .inl gcpt))]) [0, 1, 2, 3, 4, 5, 6] (by decide) rfl
      exact W.vret hx hb hr (fun t ht hW => ⟨⟨(gcpt, gcva, h0_at, j83_s0), rfl, ⟨b_j83_s0, ⟨by (try dsimp only) <;> omega, fun z => absurd z (by omega), fun _ => ⟨rfl, rfl, rfl⟩⟩⟩, by rw [ht]; exact hP9, va_K.moved hW.alike hK, hD9⟩, hS.F ht⟩) hS.2.2 d_RE_readOther_86
    · skip
      refine w_cut (pc2 := 78) (σ := Unit) (fun u H locs ls => match u with | _ => va_P (dC, dI) cls [(h0, .inr (7, [.ref aw, .ref ac, .int h0_at, .int h0_limit, .int h0_sound, .int h0_codeCount, .ref ob, .int h0_openCount])), (aw, .inr (10, [.ref ab, .ref ac, .int aw_typeCount, .ref wat, .ref wap, .ref wag, .int aw_functionCount, .ref waf, .int aw_hasMemory, .long aw_pagesLeast, .long aw_pagesMost, .int aw_globalCount, .ref wgt, .ref wft, .ref wfv, .ref wgc, .int aw_exportCount, .ref wek, .ref wei, .ref wes, .ref wez])), (ab, .inr (1, [.ref ax, .int ab_length])), (ac, .inr (3, [.ref cfi, .ref clk, .ref clt, .int ac_length, .ref cop, .ref cva, .ref cpt, .ref cel, .int ac_labelCount, .ref cla])), (ax, .inl (cax, 8192, .inl gax)), (cva, .inl (ccva, 5000, .inr (.inl gcva))), (cpt, .inl (ccpt, 5000, .inl gcpt))] H ∧ va_D A [(h0, .inr (7, [.ref aw, .ref ac, .int h0_at, .int h0_limit, .int h0_sound, .int h0_codeCount, .ref ob, .int h0_openCount])), (aw, .inr (10, [.ref ab, .ref ac, .int aw_typeCount, .ref wat, .ref wap, .ref wag, .int aw_functionCount, .ref waf, .int aw_hasMemory, .long aw_pagesLeast, .long aw_pagesMost, .int aw_globalCount, .ref wgt, .ref wft, .ref wfv, .ref wgc, .int aw_exportCount, .ref wek, .ref wei, .ref wes, .ref wez])), (ab, .inr (1, [.ref ax, .int ab_length])), (ac, .inr (3, [.ref cfi, .ref clk, .ref clt, .int ac_length, .ref cop, .ref cva, .ref cpt, .ref cel, .int ac_labelCount, .ref cla])), (ax, .inl (cax, 8192, .inl gax)), (cva, .inl (ccva, 5000, .inr (.inl gcva))), (cpt, .inl (ccpt, 5000, .inl gcpt))] ∧ va_S A s.heap H locs ∧ lv_has ls 3 []) (fun u => match u with | _ => [.ref h0]) ?_ (fun jn78 => ?_)
      · intro u H locs ls hI
        obtain ⟨hP, hD, hS, hl⟩ := hI
        refine lv_iconst (v := 1) hx hb d_RE_readOther_78 (by decide) ?_
        refine lv_goto (tgt := 83) hx hb d_RE_readOther_79 (by decide) ?_
        exact jn83 1 _ _ _ ⟨Or.inr rfl, by decide, hP, hD, hS, lv_sub hl [] rfl⟩
      · skip
        refine lv_if_ne (tgt := 78) hx hb d_RE_readOther_48 (by decide) (fun c48 => ?_) (fun c48 => ?_)
        · have q48 := neI c48
          exact jn78 () _ _ _ ⟨hP, hD, hS, lv_sub hl [] rfl⟩
        · have q48 := eqI c48
          refine lv_iload_n hx hb d_RE_readOther_51 rfl (lv_at hl 2 rfl) ?_
          refine lv_if_eq (tgt := 78) hx hb d_RE_readOther_52 (by decide) (fun c52 => ?_) (fun c52 => ?_)
          · have q52 := eqI c52
            exact jn78 () _ _ _ ⟨hP, hD, hS, lv_sub hl [] rfl⟩
          · have q52 := neI c52
            refine lv_iload_n hx hb d_RE_readOther_55 rfl (lv_at hl 2 rfl) ?_
            refine lv_iconst (v := 1) hx hb d_RE_readOther_56 (by decide) ?_
            refine lv_icmp_eq (tgt := 78) hx hb d_RE_readOther_57 (by decide) (fun c57 => ?_) (fun c57 => ?_)
            · have q57 := eqI c57
              exact jn78 () _ _ _ ⟨hP, hD, hS, lv_sub hl [] rfl⟩
            · have q57 := neI c57
              refine lv_iload_n hx hb d_RE_readOther_60 rfl (lv_at hl 2 rfl) ?_
              refine lv_bipush (v := 15) hx hb d_RE_readOther_61 (by decide) ?_
              refine lv_icmp_eq (tgt := 78) hx hb d_RE_readOther_63 (by decide) (fun c63 => ?_) (fun c63 => ?_)
              · have q63 := eqI c63
                exact jn78 () _ _ _ ⟨hP, hD, hS, lv_sub hl [] rfl⟩
              · have q63 := neI c63
                refine lv_iload_n hx hb d_RE_readOther_66 rfl (lv_at hl 2 rfl) ?_
                refine lv_bipush (v := 26) hx hb d_RE_readOther_67 (by decide) ?_
                refine lv_icmp_eq (tgt := 78) hx hb d_RE_readOther_69 (by decide) (fun c69 => ?_) (fun c69 => ?_)
                · have q69 := eqI c69
                  exact jn78 () _ _ _ ⟨hP, hD, hS, lv_sub hl [] rfl⟩
                · have q69 := neI c69
                  refine lv_iload_n hx hb d_RE_readOther_72 rfl (lv_at hl 2 rfl) ?_
                  refine lv_bipush (v := 27) hx hb d_RE_readOther_73 (by decide) ?_
                  refine lv_icmp_ne (tgt := 82) hx hb d_RE_readOther_75 (by decide) (fun c75 => ?_) (fun c75 => ?_)
                  · have q75 := neI c75
                    refine lv_iconst (v := 0) hx hb d_RE_readOther_82 (by decide) ?_
                    exact jn83 0 _ _ _ ⟨Or.inl rfl, by exfalso; omega, hP, hD, hS, lv_sub hl [] rfl⟩
                  · have q75 := eqI c75
                    exact jn78 () _ _ _ ⟨hP, hD, hS, lv_sub hl [] rfl⟩
  · have q4 := neI c4
    have k7 := ba.out (by omega)
    refine lv_aload_n hx hb d_RE_readOther_7 rfl (lv_at hl 0 rfl) ?_
    refine va_get (D := (dC, dI)) (ci := 7) (v := .ref ac) (C := R_RE) (T := F_RE) (N := 8) hx hb hts i_RE hown hK hP 0 rfl rfl 1 (by decide) (hts _ kF_RE_25) (fun _ h9 => h9) rfl d_RE_readOther_8 ?_
    refine va_get (D := (dC, dI)) (ci := 3) (v := .ref cpt) (C := R_CD) (T := F_CD) (N := 10) hx hb hts i_CD hown hK hP 3 rfl rfl 6 (by decide) (hts _ kF_RE_200) (fun _ h9 => h9) rfl d_RE_readOther_11 ?_
    refine lv_iload_n hx hb d_RE_readOther_14 rfl (lv_at hl 1 rfl) ?_
    refine lv_aload_n hx hb d_RE_readOther_15 rfl (lv_at hl 0 rfl) ?_
    refine lv_ldc2 hx hb hown (hts _ kL_RE_82) d_RE_readOther_16 ?_
    refine lv_topl (fun x3 ex3 => ?_)
    have tx3 : x3.toInt = 2147483647 := by rw [ex3]; decide
    have hPc := hP.sub (ws' := [(h0, .inr (7, [.ref aw, .ref ac, .int h0_at, .int h0_limit, .int h0_sound, .int h0_codeCount, .ref ob, .int h0_openCount])), (aw, .inr (10, [.ref ab, .ref ac, .int aw_typeCount, .ref wat, .ref wap, .ref wag, .int aw_functionCount, .ref waf, .int aw_hasMemory, .long aw_pagesLeast, .long aw_pagesMost, .int aw_globalCount, .ref wgt, .ref wft, .ref wfv, .ref wgc, .int aw_exportCount, .ref wek, .ref wei, .ref wes, .ref wez])), (ab, .inr (1, [.ref ax, .int ab_length])), (ax, .inl (cax, 8192, .inl gax))]) [0, 1, 2, 4] rfl
    have hDc := hD.sub (ws' := [(h0, .inr (7, [.ref aw, .ref ac, .int h0_at, .int h0_limit, .int h0_sound, .int h0_codeCount, .ref ob, .int h0_openCount])), (aw, .inr (10, [.ref ab, .ref ac, .int aw_typeCount, .ref wat, .ref wap, .ref wag, .int aw_functionCount, .ref waf, .int aw_hasMemory, .long aw_pagesLeast, .long aw_pagesMost, .int aw_globalCount, .ref wgt, .ref wft, .ref wfv, .ref wgc, .int aw_exportCount, .ref wek, .ref wei, .ref wes, .ref wez])), (ab, .inr (1, [.ref ax, .int ab_length])), (ax, .inl (cax, 8192, .inl gax))]) [0, 1, 2, 4] (by decide) rfl
    have hKc := hK.sub (tys' := [(cax, .byte)]) [0] rfl
    have hFc := va_free (wc := [(h0, .inr (7, [.ref aw, .ref ac, .int h0_at, .int h0_limit, .int h0_sound, .int h0_codeCount, .ref ob, .int h0_openCount])), (aw, .inr (10, [.ref ab, .ref ac, .int aw_typeCount, .ref wat, .ref wap, .ref wag, .int aw_functionCount, .ref waf, .int aw_hasMemory, .long aw_pagesLeast, .long aw_pagesMost, .int aw_globalCount, .ref wgt, .ref wft, .ref wfv, .ref wgc, .int aw_exportCount, .ref wek, .ref wei, .ref wes, .ref wez])), (ab, .inr (1, [.ref ax, .int ab_length])), (ax, .inl (cax, 8192, .inl gax))]) hD hS hA [0, 1, 2, 4] rfl
    refine va_calll (va_runV (As := [.long x3]) (rest := [.int p0, .ref cpt]) ⟨hx, hb, hml, hown, hts⟩ (c_RE_readUnsignedx l dC dI H.size h0 aw ac ob ab wat wap wag waf wgt wft wfv wgc wek wei wes wez ax cax h0_at h0_limit h0_sound h0_codeCount h0_openCount aw_typeCount aw_functionCount aw_hasMemory aw_pagesLeast aw_pagesMost aw_globalCount aw_exportCount ab_length gax gv (b_h0_sound) x3 (by omega) (by omega) (by omega) (k7.1) (by omega)) (cwV 1 hts (gV kM_RE_64 kV_RE_readUnsigned kS_RE_readUnsigned kI_RE kC_RE_readUnsigned) rfl rfl rfl (by decide +kernel) ⟨Nat.le_of_ble_eq_true rfl, Nat.le_of_ble_eq_true rfl⟩) ⟨fun a U g mk z => by obtain ⟨z0, z1, zP, zK, zD⟩ := z; exact ⟨z0, z1, zP, va_K.moved (u := U) (U := U.calling g mk a) (Vm.Alike.refl U.vm) zK, zD⟩, va_recv hKc hPc (ci := 7) (q0 := 0) rfl rfl, fun U hU hW => ⟨rfl, by rw [hU], by rw [hU]; exact hPc, va_K.moved hW.alike hKc, hDc.weaken (fun _ _ _ _ => trivial)⟩⟩ rfl rfl hl.1 rfl (lv_room (Nat.le_of_ble_eq_true rfl)) d_RE_readOther_19 ⟨(Nat.zero_le _), (Nat.zero_le _)⟩) hS (fun q _ h => hFc q h) hFc (fun r4 u t H1 locs ht hvm hw hB hz1 hk1 hS => ?_)
    obtain ⟨n5, n6⟩ := u
    try dsimp only at hw
    obtain ⟨bn6, xr4⟩ := hw
    try clear hw
    have tn6 := b01 bn6
    have z19 := i32_clamp (x := n5) (by omega)
    obtain ⟨hP1, hK1, hD1⟩ := hB
    rw [ht] at hP1
    obtain ⟨hP, hD⟩ := va_join (wr := [(ac, .inr (3, [.ref cfi, .ref clk, .ref clt, .int ac_length, .ref cop, .ref cva, .ref cpt, .ref cel, .int ac_labelCount, .ref cla])), (cva, .inl (ccva, 5000, .inr (.inl gcva))), (cpt, .inl (ccpt, 5000, .inl gcpt))]) (w1 := [(h0, .inr (7, [.ref aw, .ref ac, .int n5, .int h0_limit, .int n6, .int h0_codeCount, .ref ob, .int h0_openCount])), (aw, .inr (10, [.ref ab, .ref ac, .int aw_typeCount, .ref wat, .ref wap, .ref wag, .int aw_functionCount, .ref waf, .int aw_hasMemory, .long aw_pagesLeast, .long aw_pagesMost, .int aw_globalCount, .ref wgt, .ref wft, .ref wfv, .ref wgc, .int aw_exportCount, .ref wek, .ref wei, .ref wes, .ref wez])), (ab, .inr (1, [.ref ax, .int ab_length])), (ax, .inl (cax, 8192, .inl gax))]) hP hD [0, 1, 2, 4] [3, 5, 6] rfl rfl (by decide) (by decide) hk1 hFc hP1 hD1
    clear hPc hDc hKc hFc hz1 hk1 hP1 hK1 hD1
    generalize H1 = H at hP hS ⊢
    have hP : va_P (dC, dI) cls [(ac, .inr (3, [.ref cfi, .ref clk, .ref clt, .int ac_length, .ref cop, .ref cva, .ref cpt, .ref cel, .int ac_labelCount, .ref cla])), (cva, .inl (ccva, 5000, .inr (.inl gcva))), (cpt, .inl (ccpt, 5000, .inl gcpt)), (h0, .inr (7, [.ref aw, .ref ac, .int n5, .int h0_limit, .int n6, .int h0_codeCount, .ref ob, .int h0_openCount])), (aw, .inr (10, [.ref ab, .ref ac, .int aw_typeCount, .ref wat, .ref wap, .ref wag, .int aw_functionCount, .ref waf, .int aw_hasMemory, .long aw_pagesLeast, .long aw_pagesMost, .int aw_globalCount, .ref wgt, .ref wft, .ref wfv, .ref wgc, .int aw_exportCount, .ref wek, .ref wei, .ref wes, .ref wez])), (ab, .inr (1, [.ref ax, .int ab_length])), (ax, .inl (cax, 8192, .inl gax))] H := hP
    have hD : va_D A [(ac, .inr (3, [.ref cfi, .ref clk, .ref clt, .int ac_length, .ref cop, .ref cva, .ref cpt, .ref cel, .int ac_labelCount, .ref cla])), (cva, .inl (ccva, 5000, .inr (.inl gcva))), (cpt, .inl (ccpt, 5000, .inl gcpt)), (h0, .inr (7, [.ref aw, .ref ac, .int n5, .int h0_limit, .int n6, .int h0_codeCount, .ref ob, .int h0_openCount])), (aw, .inr (10, [.ref ab, .ref ac, .int aw_typeCount, .ref wat, .ref wap, .ref wag, .int aw_functionCount, .ref waf, .int aw_hasMemory, .long aw_pagesLeast, .long aw_pagesMost, .int aw_globalCount, .ref wgt, .ref wft, .ref wfv, .ref wgc, .int aw_exportCount, .ref wek, .ref wei, .ref wes, .ref wez])), (ab, .inr (1, [.ref ax, .int ab_length])), (ax, .inl (cax, 8192, .inl gax))] := hD
    refine lv_l2i hx hb d_RE_readOther_22 rfl ?_
    refine lv_topi (fun x7 ex7 => ?_)
    have tx7 := l2i_t ex7 (by omega) (by omega)
    have g23 : vp_in p0 5000 := vp_in_iff.mpr ⟨by omega, by omega⟩
    refine va_iast hx hb hK hP hD hS 2 2 rfl rfl g23 d_RE_readOther_23 (fun H locs hP hD hS => ?_)
    generalize ef8 : upd gcpt p0.toNatClampNeg x7 = f8 at hP hD
    refine lv_aload_n hx hb d_RE_readOther_24 rfl (lv_at hl 0 rfl) ?_
    refine va_get (D := (dC, dI)) (ci := 7) (v := .ref ac) (C := R_RE) (T := F_RE) (N := 8) hx hb hts i_RE hown hK hP 3 rfl rfl 1 (by decide) (hts _ kF_RE_25) (fun _ h9 => h9) rfl d_RE_readOther_25 ?_
    refine va_get (D := (dC, dI)) (ci := 3) (v := .ref cva) (C := R_CD) (T := F_CD) (N := 10) hx hb hts i_CD hown hK hP 0 rfl rfl 5 (by decide) (hts _ kF_RE_197) (fun _ h9 => h9) rfl d_RE_readOther_28 ?_
    refine lv_iload_n hx hb d_RE_readOther_31 rfl (lv_at hl 1 rfl) ?_
    refine lv_aload_n hx hb d_RE_readOther_32 rfl (lv_at hl 0 rfl) ?_
    refine lv_ldc2 hx hb hown (hts _ kL_RE_121) d_RE_readOther_33 ?_
    refine lv_topl (fun x9 ex9 => ?_)
    have tx9 : x9.toInt = 4294967295 := by rw [ex9]; decide
    have hPc := hP.sub (ws' := [(h0, .inr (7, [.ref aw, .ref ac, .int n5, .int h0_limit, .int n6, .int h0_codeCount, .ref ob, .int h0_openCount])), (aw, .inr (10, [.ref ab, .ref ac, .int aw_typeCount, .ref wat, .ref wap, .ref wag, .int aw_functionCount, .ref waf, .int aw_hasMemory, .long aw_pagesLeast, .long aw_pagesMost, .int aw_globalCount, .ref wgt, .ref wft, .ref wfv, .ref wgc, .int aw_exportCount, .ref wek, .ref wei, .ref wes, .ref wez])), (ab, .inr (1, [.ref ax, .int ab_length])), (ax, .inl (cax, 8192, .inl gax))]) [3, 4, 5, 6] rfl
    have hDc := hD.sub (ws' := [(h0, .inr (7, [.ref aw, .ref ac, .int n5, .int h0_limit, .int n6, .int h0_codeCount, .ref ob, .int h0_openCount])), (aw, .inr (10, [.ref ab, .ref ac, .int aw_typeCount, .ref wat, .ref wap, .ref wag, .int aw_functionCount, .ref waf, .int aw_hasMemory, .long aw_pagesLeast, .long aw_pagesMost, .int aw_globalCount, .ref wgt, .ref wft, .ref wfv, .ref wgc, .int aw_exportCount, .ref wek, .ref wei, .ref wes, .ref wez])), (ab, .inr (1, [.ref ax, .int ab_length])), (ax, .inl (cax, 8192, .inl gax))]) [3, 4, 5, 6] (by decide) rfl
    have hKc := hK.sub (tys' := [(cax, .byte)]) [0] rfl
    have hFc := va_free (wc := [(h0, .inr (7, [.ref aw, .ref ac, .int n5, .int h0_limit, .int n6, .int h0_codeCount, .ref ob, .int h0_openCount])), (aw, .inr (10, [.ref ab, .ref ac, .int aw_typeCount, .ref wat, .ref wap, .ref wag, .int aw_functionCount, .ref waf, .int aw_hasMemory, .long aw_pagesLeast, .long aw_pagesMost, .int aw_globalCount, .ref wgt, .ref wft, .ref wfv, .ref wgc, .int aw_exportCount, .ref wek, .ref wei, .ref wes, .ref wez])), (ab, .inr (1, [.ref ax, .int ab_length])), (ax, .inl (cax, 8192, .inl gax))]) hD hS hA [3, 4, 5, 6] rfl
    refine va_calll (va_runV (As := [.long x9]) (rest := [.int p0, .ref cva]) ⟨hx, hb, hml, hown, hts⟩ (c_RE_readUnsignedx l dC dI H.size h0 aw ac ob ab wat wap wag waf wgt wft wfv wgc wek wei wes wez ax cax n5 h0_limit n6 h0_codeCount h0_openCount aw_typeCount aw_functionCount aw_hasMemory aw_pagesLeast aw_pagesMost aw_globalCount aw_exportCount ab_length gax 0 (bn6) x9 (by omega) (by omega) (by omega) ((bq_at k7.2.1 (by omega))) (by omega)) (cwV 1 hts (gV kM_RE_64 kV_RE_readUnsigned kS_RE_readUnsigned kI_RE kC_RE_readUnsigned) rfl rfl rfl (by decide +kernel) ⟨Nat.le_of_ble_eq_true rfl, Nat.le_of_ble_eq_true rfl⟩) ⟨fun a U g mk z => by obtain ⟨z0, z1, zP, zK, zD⟩ := z; exact ⟨z0, z1, zP, va_K.moved (u := U) (U := U.calling g mk a) (Vm.Alike.refl U.vm) zK, zD⟩, va_recv hKc hPc (ci := 7) (q0 := 0) rfl rfl, fun U hU hW => ⟨rfl, by rw [hU], by rw [hU]; exact hPc, va_K.moved hW.alike hKc, hDc.weaken (fun _ _ _ _ => trivial)⟩⟩ rfl rfl hl.1 rfl (lv_room (Nat.le_of_ble_eq_true rfl)) d_RE_readOther_36 ⟨(Nat.zero_le _), (Nat.zero_le _)⟩) hS (fun q _ h => hFc q h) hFc (fun r10 u t H1 locs ht hvm hw hB hz1 hk1 hS => ?_)
    obtain ⟨n11, n12⟩ := u
    try dsimp only at hw
    obtain ⟨bn12, xr10⟩ := hw
    try clear hw
    have tn12 := b01 bn12
    obtain ⟨hP1, hK1, hD1⟩ := hB
    rw [ht] at hP1
    obtain ⟨hP, hD⟩ := va_join (wr := [(ac, .inr (3, [.ref cfi, .ref clk, .ref clt, .int ac_length, .ref cop, .ref cva, .ref cpt, .ref cel, .int ac_labelCount, .ref cla])), (cva, .inl (ccva, 5000, .inr (.inl gcva))), (cpt, .inl (ccpt, 5000, .inl f8))]) (w1 := [(h0, .inr (7, [.ref aw, .ref ac, .int n11, .int h0_limit, .int n12, .int h0_codeCount, .ref ob, .int h0_openCount])), (aw, .inr (10, [.ref ab, .ref ac, .int aw_typeCount, .ref wat, .ref wap, .ref wag, .int aw_functionCount, .ref waf, .int aw_hasMemory, .long aw_pagesLeast, .long aw_pagesMost, .int aw_globalCount, .ref wgt, .ref wft, .ref wfv, .ref wgc, .int aw_exportCount, .ref wek, .ref wei, .ref wes, .ref wez])), (ab, .inr (1, [.ref ax, .int ab_length])), (ax, .inl (cax, 8192, .inl gax))]) hP hD [3, 4, 5, 6] [0, 1, 2] rfl rfl (by decide) (by decide) hk1 hFc hP1 hD1
    clear hPc hDc hKc hFc hz1 hk1 hP1 hK1 hD1
    generalize H1 = H at hP hS ⊢
    have hP : va_P (dC, dI) cls [(ac, .inr (3, [.ref cfi, .ref clk, .ref clt, .int ac_length, .ref cop, .ref cva, .ref cpt, .ref cel, .int ac_labelCount, .ref cla])), (cva, .inl (ccva, 5000, .inr (.inl gcva))), (cpt, .inl (ccpt, 5000, .inl f8)), (h0, .inr (7, [.ref aw, .ref ac, .int n11, .int h0_limit, .int n12, .int h0_codeCount, .ref ob, .int h0_openCount])), (aw, .inr (10, [.ref ab, .ref ac, .int aw_typeCount, .ref wat, .ref wap, .ref wag, .int aw_functionCount, .ref waf, .int aw_hasMemory, .long aw_pagesLeast, .long aw_pagesMost, .int aw_globalCount, .ref wgt, .ref wft, .ref wfv, .ref wgc, .int aw_exportCount, .ref wek, .ref wei, .ref wes, .ref wez])), (ab, .inr (1, [.ref ax, .int ab_length])), (ax, .inl (cax, 8192, .inl gax))] H := hP
    have hD : va_D A [(ac, .inr (3, [.ref cfi, .ref clk, .ref clt, .int ac_length, .ref cop, .ref cva, .ref cpt, .ref cel, .int ac_labelCount, .ref cla])), (cva, .inl (ccva, 5000, .inr (.inl gcva))), (cpt, .inl (ccpt, 5000, .inl f8)), (h0, .inr (7, [.ref aw, .ref ac, .int n11, .int h0_limit, .int n12, .int h0_codeCount, .ref ob, .int h0_openCount])), (aw, .inr (10, [.ref ab, .ref ac, .int aw_typeCount, .ref wat, .ref wap, .ref wag, .int aw_functionCount, .ref waf, .int aw_hasMemory, .long aw_pagesLeast, .long aw_pagesMost, .int aw_globalCount, .ref wgt, .ref wft, .ref wfv, .ref wgc, .int aw_exportCount, .ref wek, .ref wei, .ref wes, .ref wez])), (ab, .inr (1, [.ref ax, .int ab_length])), (ax, .inl (cax, 8192, .inl gax))] := hD
    have g39 : vp_in p0 5000 := vp_in_iff.mpr ⟨by omega, by omega⟩
    refine va_last hx hb hK hP hD hS 1 1 rfl rfl g39 d_RE_readOther_39 (fun H locs hP hD hS => ?_)
    generalize ef13 : vp_updL gcva p0.toNatClampNeg r10 = f13 at hP hD
    refine lv_goto (tgt := 86) hx hb d_RE_readOther_40 (by decide) ?_
    have hP9 := hP.sub (ws' := [(h0, .inr (7, [.ref aw, .ref ac, .int n11, .int h0_limit, .int n12, .int h0_codeCount, .ref ob, .int h0_openCount])), (aw, .inr (10, [.ref ab, .ref ac, .int aw_typeCount, .ref wat, .ref wap, .ref wag, .int aw_functionCount, .ref waf, .int aw_hasMemory, .long aw_pagesLeast, .long aw_pagesMost, .int aw_globalCount, .ref wgt, .ref wft, .ref wfv, .ref wgc, .int aw_exportCount, .ref wek, .ref wei, .ref wes, .ref wez])), (ab, .inr (1, [.ref ax, .int ab_length])), (ac, .inr (3, [.ref cfi, .ref clk, .ref clt, .int ac_length, .ref cop, .ref cva, .ref cpt, .ref cel, .int ac_labelCount, .ref cla])), (ax, .inl (cax, 8192, .inl gax)), (cva, .inl (ccva, 5000, .inr (.inl f13))), (cpt, .inl (ccpt, 5000, .inl f8))]) [3, 4, 5, 0, 6, 1, 2] rfl
    have hD9 := hD.sub (ws' := [(h0, .inr (7, [.ref aw, .ref ac, .int n11, .int h0_limit, .int n12, .int h0_codeCount, .ref ob, .int h0_openCount])), (aw, .inr (10, [.ref ab, .ref ac, .int aw_typeCount, .ref wat, .ref wap, .ref wag, .int aw_functionCount, .ref waf, .int aw_hasMemory, .long aw_pagesLeast, .long aw_pagesMost, .int aw_globalCount, .ref wgt, .ref wft, .ref wfv, .ref wgc, .int aw_exportCount, .ref wek, .ref wei, .ref wes, .ref wez])), (ab, .inr (1, [.ref ax, .int ab_length])), (ac, .inr (3, [.ref cfi, .ref clk, .ref clt, .int ac_length, .ref cop, .ref cva, .ref cpt, .ref cel, .int ac_labelCount, .ref cla])), (ax, .inl (cax, 8192, .inl gax)), (cva, .inl (ccva, 5000, .inr (.inl f13))), (cpt, .inl (ccpt, 5000, .inl f8))]) [3, 4, 5, 0, 6, 1, 2] (by decide) rfl
    exact W.vret hx hb hr (fun t ht hW => ⟨⟨(f8, f13, n11, n12), rfl, ⟨bn12, ⟨by (try dsimp only) <;> omega, fun _ => ⟨by omega, x7, r10, by omega, by omega, by rw [← ef8], by rw [← ef13]⟩, fun z => absurd z (by omega)⟩⟩, by rw [ht]; exact hP9, va_K.moved hW.alike hK, hD9⟩, hS.F ht⟩) hS.2.2 d_RE_readOther_86

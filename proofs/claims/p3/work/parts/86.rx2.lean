/-! Reader: numbers as they were put -/
theorem ru0F : ∀ b : Fin 256, ((0 : Int64) ||| ((nI b.val &&& 127).toInt64 <<< ((0 : Int32).toInt64 &&& 63))).toInt = (b.val % 128 : Nat) := by decide +kernel
theorem ru7F : ∀ (a b : Fin 128), (Int64.ofNat a.val ||| ((nI b.val &&& 127).toInt64 <<< ((7 : Int32).toInt64 &&& 63))).toInt = (a.val + 128 * b.val : Nat) := by decide +kernel
theorem nI_b {p : Int32} {b : Nat} (h : p.toInt = (b : Int)) (hb : b < 256) : p = nI b := by
  have e : un (nI b) = b := pk_tn (by omega)
  exact Int32.toInt_inj.mp (by rw [h, un_pos (by omega), e])
theorem nL_of {p : Int64} {b : Nat} (h : p.toInt = (b : Int)) (hb : b < 256) : p = Int64.ofNat b := by
  apply Int64.toInt_inj.mp
  rw [h]
  have q : ∀ c : Fin 256, (Int64.ofNat c.val).toInt = (c.val : Int) := by decide +kernel
  exact (q ⟨b, hb⟩).symm
theorem ru0 {x l : Int64} {p s : Int32} {b : Nat} (e : x = l ||| ((p &&& 127).toInt64 <<< (s.toInt64 &&& 63))) (hl : l.toInt = 0) (hs : s.toInt = 0) (hp : p.toInt = (b : Int)) (hb : b < 256) : x.toInt = (b % 128 : Nat) := by
  rw [e, show l = 0 from Int64.toInt_inj.mp hl, show s = 0 from Int32.toInt_inj.mp hs, nI_b hp hb]
  exact ru0F ⟨b, hb⟩
theorem ru7 {x l : Int64} {p s : Int32} {a b : Nat} (e : x = l ||| ((p &&& 127).toInt64 <<< (s.toInt64 &&& 63))) (hl : l.toInt = (a : Int)) (ha : a < 128) (hs : s.toInt = 7) (hp : p.toInt = (b : Int)) (hb : b < 128) : x.toInt = (a + 128 * b : Nat) := by
  rw [e, nL_of hl (by omega), show s = 7 from Int32.toInt_inj.mp hs, nI_b hp (by omega)]
  exact ru7F ⟨a, ha⟩ ⟨b, hb⟩
theorem leb_1 {v : Nat} (h : v < 128) : leb 5 v = [v] := by rw [leb_end (by omega), show v % 256 = v by omega]
theorem leb_b {v : Nat} (h : 128 ≤ v) (h2 : v < 16384) : leb 5 v = [v % 128 + 128, v / 128] := by rw [leb_go (by omega), leb_end (by omega), show v / 128 % 256 = v / 128 by omega]
abbrev at_RE_readUnsignedx (dC : Nat → ClassId) (dI : Nat → Nat → Nat) (h0 aw ac ob ab wat wap wag waf wgt wft wfv wgc wek wei wes wez ax : Nat) (cax : ClassId) (h0_limit : Int32) (h0_codeCount : Int32) (h0_openCount : Int32) (aw_typeCount : Int32) (aw_functionCount : Int32) (aw_hasMemory : Int32) (aw_pagesLeast : Int64) (aw_pagesMost : Int64) (aw_globalCount : Int32) (aw_exportCount : Int32) (ab_length : Int32) (gax : Nat → Int32) (A : Nat → Prop) (u : Int32 × Int32) (t : State) : Prop := match u with | (h0_at, h0_sound) => va_P (dC, dI) cls [(h0, .inr (7, [.ref aw, .ref ac, .int h0_at, .int h0_limit, .int h0_sound, .int h0_codeCount, .ref ob, .int h0_openCount])), (aw, .inr (10, [.ref ab, .ref ac, .int aw_typeCount, .ref wat, .ref wap, .ref wag, .int aw_functionCount, .ref waf, .int aw_hasMemory, .long aw_pagesLeast, .long aw_pagesMost, .int aw_globalCount, .ref wgt, .ref wft, .ref wfv, .ref wgc, .int aw_exportCount, .ref wek, .ref wei, .ref wes, .ref wez])), (ab, .inr (1, [.ref ax, .int ab_length])), (ax, .inl (cax, 8192, .inl gax))] t.heap ∧ va_K (dC, dI) cls [(cax, .byte)] t ∧ va_D A [(h0, .inr (7, [.ref aw, .ref ac, .int h0_at, .int h0_limit, .int h0_sound, .int h0_codeCount, .ref ob, .int h0_openCount])), (aw, .inr (10, [.ref ab, .ref ac, .int aw_typeCount, .ref wat, .ref wap, .ref wag, .int aw_functionCount, .ref waf, .int aw_hasMemory, .long aw_pagesLeast, .long aw_pagesMost, .int aw_globalCount, .ref wgt, .ref wft, .ref wfv, .ref wgc, .int aw_exportCount, .ref wek, .ref wei, .ref wes, .ref wez])), (ab, .inr (1, [.ref ax, .int ab_length])), (ax, .inl (cax, 8192, .inl gax))]
set_option maxHeartbeats 4000000 in
set_option maxRecDepth 100000 in
theorem c_RE_readUnsignedx (l : Launch) (dC : Nat → ClassId) (dI : Nat → Nat → Nat) (sz : Nat) (h0 aw ac ob ab wat wap wag waf wgt wft wfv wgc wek wei wes wez ax : Nat) (cax : ClassId) (h0_at : Int32) (h0_limit : Int32) (h0_sound : Int32) (h0_codeCount : Int32) (h0_openCount : Int32) (aw_typeCount : Int32) (aw_functionCount : Int32) (aw_hasMemory : Int32) (aw_pagesLeast : Int64) (aw_pagesMost : Int64) (aw_globalCount : Int32) (aw_exportCount : Int32) (ab_length : Int32) (gax : Nat → Int32) (gv : Nat)  (b_h0_sound : h0_sound = 0 ∨ h0_sound = 1) (p0 : Int64)  (hs : h0_sound.toInt = 1) (ha : 0 ≤ h0_at.toInt ∧ h0_limit.toInt ≤ ab_length.toInt ∧ ab_length.toInt ≤ 8192) (hv : gv < 16384 ∧ (gv : Int) ≤ p0.toInt) (hbq : bq gax h0_at.toNatClampNeg (leb 5 gv)) (hl : h0_at.toInt + ((leb 5 gv).length : Int) ≤ h0_limit.toInt) : Met l y_RE_readUnsigned w_RE_readUnsigned ({ frames := 1, cells := 0, slots := 0, locals := 20 }) (va_Pc [.ref h0, .long p0] (fun U => U.heap.size = sz ∧ va_P (dC, dI) cls [(h0, .inr (7, [.ref aw, .ref ac, .int h0_at, .int h0_limit, .int h0_sound, .int h0_codeCount, .ref ob, .int h0_openCount])), (aw, .inr (10, [.ref ab, .ref ac, .int aw_typeCount, .ref wat, .ref wap, .ref wag, .int aw_functionCount, .ref waf, .int aw_hasMemory, .long aw_pagesLeast, .long aw_pagesMost, .int aw_globalCount, .ref wgt, .ref wft, .ref wfv, .ref wgc, .int aw_exportCount, .ref wek, .ref wei, .ref wes, .ref wez])), (ab, .inr (1, [.ref ax, .int ab_length])), (ax, .inl (cax, 8192, .inl gax))] U.heap ∧ va_K (dC, dI) cls [(cax, .byte)] U ∧ va_D (fun _ => True) [(h0, .inr (7, [.ref aw, .ref ac, .int h0_at, .int h0_limit, .int h0_sound, .int h0_codeCount, .ref ob, .int h0_openCount])), (aw, .inr (10, [.ref ab, .ref ac, .int aw_typeCount, .ref wat, .ref wap, .ref wag, .int aw_functionCount, .ref waf, .int aw_hasMemory, .long aw_pagesLeast, .long aw_pagesMost, .int aw_globalCount, .ref wgt, .ref wft, .ref wfv, .ref wgc, .int aw_exportCount, .ref wek, .ref wei, .ref wes, .ref wez])), (ab, .inr (1, [.ref ax, .int ab_length])), (ax, .inl (cax, 8192, .inl gax))])) (va_Ql (fun (r : Int64) (u : Int32 × Int32) => match u with | (h0_at2, h0_sound2) => (h0_sound2 = 0 ∨ h0_sound2 = 1) ∧ (h0_at2.toInt = h0_at.toInt + ((leb 5 gv).length : Int) ∧ h0_sound2.toInt = 1 ∧ r.toInt = (gv : Int))) (at_RE_readUnsignedx dC dI h0 aw ac ob ab wat wap wag waf wgt wft wfv wgc wek wei wes wez ax cax h0_limit h0_codeCount h0_openCount aw_typeCount aw_functionCount aw_hasMemory aw_pagesLeast aw_pagesMost aw_globalCount aw_exportCount ab_length gax (va_A [(h0, .inr (7, [.ref aw, .ref ac, .int h0_at, .int h0_limit, .int h0_sound, .int h0_codeCount, .ref ob, .int h0_openCount])), (aw, .inr (10, [.ref ab, .ref ac, .int aw_typeCount, .ref wat, .ref wap, .ref wag, .int aw_functionCount, .ref waf, .int aw_hasMemory, .long aw_pagesLeast, .long aw_pagesMost, .int aw_globalCount, .ref wgt, .ref wft, .ref wfv, .ref wgc, .int aw_exportCount, .ref wek, .ref wei, .ref wes, .ref wez])), (ab, .inr (1, [.ref ax, .int ab_length])), (ax, .inl (cax, 8192, .inl gax))] sz)) (va_A [(h0, .inr (7, [.ref aw, .ref ac, .int h0_at, .int h0_limit, .int h0_sound, .int h0_codeCount, .ref ob, .int h0_openCount])), (aw, .inr (10, [.ref ab, .ref ac, .int aw_typeCount, .ref wat, .ref wap, .ref wag, .int aw_functionCount, .ref waf, .int aw_hasMemory, .long aw_pagesLeast, .long aw_pagesMost, .int aw_globalCount, .ref wgt, .ref wft, .ref wfv, .ref wgc, .int aw_exportCount, .ref wek, .ref wei, .ref wes, .ref wez])), (ab, .inr (1, [.ref ax, .int ab_length])), (ax, .inl (cax, 8192, .inl gax))] sz)) 0 0 (va_A [(h0, .inr (7, [.ref aw, .ref ac, .int h0_at, .int h0_limit, .int h0_sound, .int h0_codeCount, .ref ob, .int h0_openCount])), (aw, .inr (10, [.ref ab, .ref ac, .int aw_typeCount, .ref wat, .ref wap, .ref wag, .int aw_functionCount, .ref waf, .int aw_hasMemory, .long aw_pagesLeast, .long aw_pagesMost, .int aw_globalCount, .ref wgt, .ref wft, .ref wfv, .ref wgc, .int aw_exportCount, .ref wek, .ref wei, .ref wes, .ref wez])), (ab, .inr (1, [.ref ax, .int ab_length])), (ax, .inl (cax, 8192, .inl gax))] sz) := by
  refine Met.ofW (cc := b_RE_readUnsigned) (maxL := 7) (ret := (Option.some .long)) (by decide) rfl ?_
  intro p e s m args below meth c s₁ B hml hv
  obtain ⟨rfl, hsz, hP, hK, hD0⟩ := hv
  have hx := B.exec
  have hb := B.bytes
  have hr := B.returns
  have hts0 := atoms_spec (ws := w_RE_readUnsigned) B.pre
  have hts : ∀ w ∈ lw_g, w.before _ s = true := fun w h => hts0 w (List.mem_cons_of_mem _ h)
  have hown : s.vm.findClass R_RE = some m.cls := findClass_of_methodNamed B.named
  have hlocks := B.notSynchronized
  clear hts0
  subst hsz
  have hD := hD0.self (sz := s.heap.size)
  generalize hAe : va_A [(h0, .inr (7, [.ref aw, .ref ac, .int h0_at, .int h0_limit, .int h0_sound, .int h0_codeCount, .ref ob, .int h0_openCount])), (aw, .inr (10, [.ref ab, .ref ac, .int aw_typeCount, .ref wat, .ref wap, .ref wag, .int aw_functionCount, .ref waf, .int aw_hasMemory, .long aw_pagesLeast, .long aw_pagesMost, .int aw_globalCount, .ref wgt, .ref wft, .ref wfv, .ref wgc, .int aw_exportCount, .ref wek, .ref wei, .ref wes, .ref wez])), (ab, .inr (1, [.ref ax, .int ab_length])), (ax, .inl (cax, 8192, .inl gax))] s.heap.size = A at hD ⊢
  have hA : ∀ q : Nat, s.heap.size ≤ q → A q := fun q h => by rw [← hAe]; exact Or.inr h
  clear hAe
  have hP : va_P (dC, dI) cls [(h0, .inr (7, [.ref aw, .ref ac, .int h0_at, .int h0_limit, .int h0_sound, .int h0_codeCount, .ref ob, .int h0_openCount])), (aw, .inr (10, [.ref ab, .ref ac, .int aw_typeCount, .ref wat, .ref wap, .ref wag, .int aw_functionCount, .ref waf, .int aw_hasMemory, .long aw_pagesLeast, .long aw_pagesMost, .int aw_globalCount, .ref wgt, .ref wft, .ref wfv, .ref wgc, .int aw_exportCount, .ref wek, .ref wei, .ref wes, .ref wez])), (ab, .inr (1, [.ref ax, .int ab_length])), (ax, .inl (cax, 8192, .inl gax))] s.heap := hP
  have hl := lv_entry ([.ref h0, .long p0]) (n := 7) (Nat.le_of_ble_eq_true rfl)
  rw [lg_entry_eq]
  generalize (lg_sl ([.ref h0, .long p0]) ++ List.replicate (7 - (lg_sl ([.ref h0, .long p0])).length) Slot.unset).toArray = ls at hl ⊢
  have hl : lv_has ls 7 [(0, .ref h0), (1, .long p0)] := hl
  have k0 : (0 : Int32).toInt = 0 := by decide
  refine w_gen (A := A) hP (fun H locs hP hS => ?_)
  have k1 : (1 : Int32).toInt = 1 := by decide
  have k7 : (7 : Int32).toInt = 7 := by decide
  have k35 : (35 : Int32).toInt = 35 := by decide
  have k127 : (127 : Int32).toInt = 127 := by decide
  have k128 : (128 : Int32).toInt = 128 := by decide
  have th0_sound := b01 b_h0_sound
  have za := i32_clamp (x := h0_at) (by omega)
  have bf : gv < 128 → (bn (gax h0_at.toNatClampNeg) = gv ∧ (leb 5 gv).length = 1) := fun z => by rw [leb_1 z] at hbq ⊢; exact ⟨hbq.1, rfl⟩
  have bg : 128 ≤ gv → (bn (gax h0_at.toNatClampNeg) = gv % 128 + 128 ∧ bn (gax (h0_at.toNatClampNeg + 1)) = gv / 128 ∧ (leb 5 gv).length = 2) := fun z => by rw [leb_b z hv.1] at hbq ⊢; exact ⟨hbq.1, hbq.2.1, rfl⟩
  clear hbq
  have lb : (leb 5 gv).length = 1 ∨ (leb 5 gv).length = 2 := by by_cases q : gv < 128; exact Or.inl (bf q).2; exact Or.inr (bg (by omega)).2.2
  have bf := (show bx _ from bf)
  have bg := (show bx _ from bg)
  refine lv_lconst (v := 0) hx hb d_RE_readUnsigned_0 (by decide) ?_
  have kl0 : (0 : Int64).toInt = 0 := by decide
  refine lv_lstore_n (lv' := [(3, .long 0), (0, .ref h0), (1, .long p0)]) hx hb d_RE_readUnsigned_1 rfl hl (by decide) rfl (fun ls hl => ?_)
  refine lv_iconst (v := 0) hx hb d_RE_readUnsigned_2 (by decide) ?_
  refine lv_istore (lv' := [(5, .int 0), (3, .long 0), (0, .ref h0), (1, .long p0)]) hx hb d_RE_readUnsigned_3 hl (by decide) rfl (fun ls hl => ?_)
  refine w_loop (σ := Int64 × Int32 × Int32) (fun u H locs ls => match u with | (j5_l3, j5_l5, j5_h0_at) => (0 ≤ j5_l5.toInt ∧ j5_l5.toInt ≤ 35) ∧ ((j5_l5.toInt = 0 ∧ j5_l3.toInt = 0 ∧ j5_h0_at.toInt = h0_at.toInt) ∨ (j5_l5.toInt = 7 ∧ j5_l3.toInt = ((gv % 128 : Nat) : Int) ∧ j5_h0_at.toInt = h0_at.toInt + 1 ∧ 128 ≤ gv)) ∧ va_P (dC, dI) cls [(h0, .inr (7, [.ref aw, .ref ac, .int j5_h0_at, .int h0_limit, .int h0_sound, .int h0_codeCount, .ref ob, .int h0_openCount])), (aw, .inr (10, [.ref ab, .ref ac, .int aw_typeCount, .ref wat, .ref wap, .ref wag, .int aw_functionCount, .ref waf, .int aw_hasMemory, .long aw_pagesLeast, .long aw_pagesMost, .int aw_globalCount, .ref wgt, .ref wft, .ref wfv, .ref wgc, .int aw_exportCount, .ref wek, .ref wei, .ref wes, .ref wez])), (ab, .inr (1, [.ref ax, .int ab_length])), (ax, .inl (cax, 8192, .inl gax))] H ∧ va_D A [(h0, .inr (7, [.ref aw, .ref ac, .int j5_h0_at, .int h0_limit, .int h0_sound, .int h0_codeCount, .ref ob, .int h0_openCount])), (aw, .inr (10, [.ref ab, .ref ac, .int aw_typeCount, .ref wat, .ref wap, .ref wag, .int aw_functionCount, .ref waf, .int aw_hasMemory, .long aw_pagesLeast, .long aw_pagesMost, .int aw_globalCount, .ref wgt, .ref wft, .ref wfv, .ref wgc, .int aw_exportCount, .ref wek, .ref wei, .ref wes, .ref wez])), (ab, .inr (1, [.ref ax, .int ab_length])), (ax, .inl (cax, 8192, .inl gax))] ∧ va_S A s.heap H locs ∧ lv_has ls 7 [(0, .ref h0), (1, .long p0), (3, .long j5_l3), (5, .int j5_l5)]) (fun u => match u with | (j5_l3, j5_l5, j5_h0_at) => (35 - j5_l5.toInt).toNat) ?_ (0, 0, h0_at) ⟨by (try dsimp only) <;> omega, by (try dsimp only) <;> omega, hP, hD, hS, lv_sub hl [2, 3, 1, 0] rfl⟩
  intro N5 ih5 u H locs ls hN5 hI
  obtain ⟨j5_l3, j5_l5, j5_h0_at⟩ := u
  obtain ⟨b_j5_l5, v1, hP, hD, hS, hl⟩ := hI
  have hN5 : (35 - j5_l5.toInt).toNat < N5 + 1 := hN5
  refine lv_iload hx hb d_RE_readUnsigned_5 (lv_at hl 3 rfl) ?_
  refine lv_bipush (v := 35) hx hb d_RE_readUnsigned_7 (by decide) ?_
  refine lv_icmp_ge (tgt := 79) hx hb d_RE_readUnsigned_9 (by decide) (fun c9 => absurd (leI c9) (by omega)) (fun c9 => ?_)
  have q9 := nleI c9
  refine lv_aload_n hx hb d_RE_readUnsigned_12 rfl (lv_at hl 0 rfl) ?_
  have hPc := hP.sub (ws' := [(h0, .inr (7, [.ref aw, .ref ac, .int j5_h0_at, .int h0_limit, .int h0_sound, .int h0_codeCount, .ref ob, .int h0_openCount])), (aw, .inr (10, [.ref ab, .ref ac, .int aw_typeCount, .ref wat, .ref wap, .ref wag, .int aw_functionCount, .ref waf, .int aw_hasMemory, .long aw_pagesLeast, .long aw_pagesMost, .int aw_globalCount, .ref wgt, .ref wft, .ref wfv, .ref wgc, .int aw_exportCount, .ref wek, .ref wei, .ref wes, .ref wez])), (ab, .inr (1, [.ref ax, .int ab_length])), (ax, .inl (cax, 8192, .inl gax))]) [0, 1, 2, 3] rfl
  have hDc := hD.sub (ws' := [(h0, .inr (7, [.ref aw, .ref ac, .int j5_h0_at, .int h0_limit, .int h0_sound, .int h0_codeCount, .ref ob, .int h0_openCount])), (aw, .inr (10, [.ref ab, .ref ac, .int aw_typeCount, .ref wat, .ref wap, .ref wag, .int aw_functionCount, .ref waf, .int aw_hasMemory, .long aw_pagesLeast, .long aw_pagesMost, .int aw_globalCount, .ref wgt, .ref wft, .ref wfv, .ref wgc, .int aw_exportCount, .ref wek, .ref wei, .ref wes, .ref wez])), (ab, .inr (1, [.ref ax, .int ab_length])), (ax, .inl (cax, 8192, .inl gax))]) [0, 1, 2, 3] (by decide) rfl
  have hKc := hK.sub (tys' := [(cax, .byte)]) [0] rfl
  have hFc := va_free (wc := [(h0, .inr (7, [.ref aw, .ref ac, .int j5_h0_at, .int h0_limit, .int h0_sound, .int h0_codeCount, .ref ob, .int h0_openCount])), (aw, .inr (10, [.ref ab, .ref ac, .int aw_typeCount, .ref wat, .ref wap, .ref wag, .int aw_functionCount, .ref waf, .int aw_hasMemory, .long aw_pagesLeast, .long aw_pagesMost, .int aw_globalCount, .ref wgt, .ref wft, .ref wfv, .ref wgc, .int aw_exportCount, .ref wek, .ref wei, .ref wes, .ref wez])), (ab, .inr (1, [.ref ax, .int ab_length])), (ax, .inl (cax, 8192, .inl gax))]) hD hS hA [0, 1, 2, 3] rfl
  refine va_calli (va_runV (As := []) (rest := []) ⟨hx, hb, hml, hown, hts⟩ (c_RE_nextx l dC dI H.size h0 aw ac ob ab wat wap wag waf wgt wft wfv wgc wek wei wes wez ax cax j5_h0_at h0_limit h0_sound h0_codeCount h0_openCount aw_typeCount aw_functionCount aw_hasMemory aw_pagesLeast aw_pagesMost aw_globalCount aw_exportCount ab_length gax (b_h0_sound) (hs) (by omega) (by omega)) (cwV 0 hts (gV kM_RE_60 kV_RE_next kS_RE_next kI_RE kC_RE_next) rfl rfl rfl (by decide +kernel) ⟨Nat.le_of_ble_eq_true rfl, Nat.le_of_ble_eq_true rfl⟩) ⟨fun a U g mk z => by obtain ⟨z0, z1, zP, zK, zD⟩ := z; exact ⟨z0, z1, zP, va_K.moved (u := U) (U := U.calling g mk a) (Vm.Alike.refl U.vm) zK, zD⟩, va_recv hKc hPc (ci := 7) (q0 := 0) rfl rfl, fun U hU hW => ⟨rfl, by rw [hU], by rw [hU]; exact hPc, va_K.moved hW.alike hKc, hDc.weaken (fun _ _ _ _ => trivial)⟩⟩ rfl rfl hl.1 rfl (lv_room (Nat.le_of_ble_eq_true rfl)) d_RE_readUnsigned_13 ⟨(Nat.zero_le _), (Nat.zero_le _)⟩) hS (fun q _ h => hFc q h) hFc (fun r1 u t H1 locs ht hvm hw hB hz1 hk1 hS => ?_)
  obtain ⟨n2, rfl⟩ : ∃ z, z = u := ⟨_, rfl⟩
  try dsimp only at hw
  have xr1 := hw
  try clear hw
  have z13 := i32_clamp (x := j5_h0_at) (by omega)
  have cs : (gv < 128 ∧ r1.toInt = (gv : Int) ∧ j5_l5.toInt = 0 ∧ j5_l3.toInt = 0 ∧ j5_h0_at.toInt = h0_at.toInt ∧ (leb 5 gv).length = 1) ∨ (128 ≤ gv ∧ r1.toInt = ((gv % 128 + 128 : Nat) : Int) ∧ j5_l5.toInt = 0 ∧ j5_l3.toInt = 0 ∧ j5_h0_at.toInt = h0_at.toInt) ∨ (128 ≤ gv ∧ r1.toInt = ((gv / 128 : Nat) : Int) ∧ j5_l5.toInt = 7 ∧ j5_l3.toInt = ((gv % 128 : Nat) : Int) ∧ j5_h0_at.toInt = h0_at.toInt + 1 ∧ (leb 5 gv).length = 2) := by
    rcases v1 with ⟨w1, w2, w3⟩ | ⟨w1, w2, w3, w4⟩
    · have e9 : j5_h0_at.toNatClampNeg = h0_at.toNatClampNeg := by omega
      have x9 := xr1.2; rw [e9] at x9
      by_cases q : gv < 128
      · have k := bf.out q; rw [k.1] at x9; exact Or.inl ⟨q, x9, w1, w2, w3, k.2⟩
      · have k := bg.out (by omega); rw [k.1] at x9; exact Or.inr (Or.inl ⟨by omega, x9, w1, w2, w3⟩)
    · have e9 : j5_h0_at.toNatClampNeg = h0_at.toNatClampNeg + 1 := by omega
      have x9 := xr1.2; rw [e9] at x9
      have k := bg.out w4; rw [k.2.1] at x9; exact Or.inr (Or.inr ⟨w4, x9, w1, w2, w3, k.2.2⟩)
  obtain ⟨hP1, hK1, hD1⟩ := hB
  rw [ht] at hP1
  obtain ⟨hP, hD⟩ := va_join (wr := []) (w1 := [(h0, .inr (7, [.ref aw, .ref ac, .int n2, .int h0_limit, .int h0_sound, .int h0_codeCount, .ref ob, .int h0_openCount])), (aw, .inr (10, [.ref ab, .ref ac, .int aw_typeCount, .ref wat, .ref wap, .ref wag, .int aw_functionCount, .ref waf, .int aw_hasMemory, .long aw_pagesLeast, .long aw_pagesMost, .int aw_globalCount, .ref wgt, .ref wft, .ref wfv, .ref wgc, .int aw_exportCount, .ref wek, .ref wei, .ref wes, .ref wez])), (ab, .inr (1, [.ref ax, .int ab_length])), (ax, .inl (cax, 8192, .inl gax))]) hP hD [0, 1, 2, 3] [] rfl rfl (by decide) (by decide) hk1 hFc hP1 hD1
  clear hPc hDc hKc hFc hz1 hk1 hP1 hK1 hD1
  generalize H1 = H at hP hS ⊢
  have hP : va_P (dC, dI) cls [(h0, .inr (7, [.ref aw, .ref ac, .int n2, .int h0_limit, .int h0_sound, .int h0_codeCount, .ref ob, .int h0_openCount])), (aw, .inr (10, [.ref ab, .ref ac, .int aw_typeCount, .ref wat, .ref wap, .ref wag, .int aw_functionCount, .ref waf, .int aw_hasMemory, .long aw_pagesLeast, .long aw_pagesMost, .int aw_globalCount, .ref wgt, .ref wft, .ref wfv, .ref wgc, .int aw_exportCount, .ref wek, .ref wei, .ref wes, .ref wez])), (ab, .inr (1, [.ref ax, .int ab_length])), (ax, .inl (cax, 8192, .inl gax))] H := hP
  have hD : va_D A [(h0, .inr (7, [.ref aw, .ref ac, .int n2, .int h0_limit, .int h0_sound, .int h0_codeCount, .ref ob, .int h0_openCount])), (aw, .inr (10, [.ref ab, .ref ac, .int aw_typeCount, .ref wat, .ref wap, .ref wag, .int aw_functionCount, .ref waf, .int aw_hasMemory, .long aw_pagesLeast, .long aw_pagesMost, .int aw_globalCount, .ref wgt, .ref wft, .ref wfv, .ref wgc, .int aw_exportCount, .ref wek, .ref wei, .ref wes, .ref wez])), (ab, .inr (1, [.ref ax, .int ab_length])), (ax, .inl (cax, 8192, .inl gax))] := hD
  refine lv_istore (lv' := [(6, .int r1), (0, .ref h0), (1, .long p0), (3, .long j5_l3), (5, .int j5_l5)]) hx hb d_RE_readUnsigned_16 hl (by decide) rfl (fun ls hl => ?_)
  refine lv_lload_n hx hb d_RE_readUnsigned_18 rfl (lv_at hl 3 rfl) ?_
  refine lv_iload hx hb d_RE_readUnsigned_19 (lv_at hl 0 rfl) ?_
  refine lv_bipush (v := 127) hx hb d_RE_readUnsigned_21 (by decide) ?_
  refine lv_iand hx hb d_RE_readUnsigned_23 ?_
  refine lv_topi (fun x3 ex3 => ?_)
  refine lv_i2l hx hb d_RE_readUnsigned_24 rfl ?_
  refine lv_topl (fun x4 ex4 => ?_)
  have tx4 := i2l_t ex4
  refine lv_iload hx hb d_RE_readUnsigned_25 (lv_at hl 4 rfl) ?_
  refine lv_lshl hx hb d_RE_readUnsigned_27 rfl ?_
  refine lv_topl (fun x5 ex5 => ?_)
  refine lv_lor hx hb d_RE_readUnsigned_28 ?_
  refine lv_topl (fun x6 ex6 => ?_)
  refine lv_lstore_n (lv' := [(3, .long x6), (6, .int r1), (0, .ref h0), (1, .long p0), (5, .int j5_l5)]) hx hb d_RE_readUnsigned_29 rfl hl (by decide) rfl (fun ls hl => ?_)
  have vv : (gv < 128 → x6.toInt = (gv : Int)) ∧ (128 ≤ gv → j5_l5.toInt = 0 → x6.toInt = ((gv % 128 : Nat) : Int)) ∧ (128 ≤ gv → j5_l5.toInt = 7 → x6.toInt = (gv : Int)) := by
    have E := (show x6 = j5_l3 ||| ((r1 &&& 127).toInt64 <<< (j5_l5.toInt64 &&& 63)) from by rw [ex6, ex5, ex4, ex3])
    rcases cs with ⟨c1, c2, c3, c4, -⟩ | ⟨c1, c2, c3, c4, -⟩ | ⟨c1, c2, c3, c4, -⟩
    · exact ⟨fun _ => by rw [ru0 E c4 c3 c2 (by omega)]; omega, fun z => absurd z (by omega), fun z => absurd z (by omega)⟩
    · exact ⟨fun z => absurd z (by omega), fun _ _ => by rw [ru0 E c4 c3 c2 (by omega)]; omega, fun _ z => absurd z (by omega)⟩
    · exact ⟨fun z => absurd z (by omega), fun _ z => absurd z (by omega), fun _ _ => by rw [ru7 E c4 (by omega) c3 c2 (by omega)]; omega⟩
  have vx : (r1.toInt < 128 → x6.toInt = (gv : Int)) ∧ (128 ≤ r1.toInt → x6.toInt = ((gv % 128 : Nat) : Int)) := by rcases cs with c | c | c; (exact ⟨fun _ => vv.1 c.1, fun z => by omega⟩); (exact ⟨fun z => by omega, fun _ => vv.2.1 c.1 c.2.2.1⟩); (exact ⟨fun _ => vv.2.2 c.1 c.2.2.1, fun z => by omega⟩)
  clear vv
  refine lv_iload hx hb d_RE_readUnsigned_30 (lv_at hl 1 rfl) ?_
  refine lv_sipush (v := 128) hx hb d_RE_readUnsigned_32 (by decide) ?_
  refine lv_icmp_ge (tgt := 73) hx hb d_RE_readUnsigned_35 (by decide) (fun c35 => ?_) (fun c35 => ?_)
  · have q35 := leI c35
    obtain ⟨x7, ex7⟩ : ∃ z : Int32, z = j5_l5 + 7 := ⟨_, rfl⟩
    have tx7 : x7.toInt = j5_l5.toInt + 7 := by have z := i32_add ex7 (by omega) (by omega); omega
    refine lv_iinc (v := x7) (lv' := [(5, .int x7), (3, .long x6), (6, .int r1), (0, .ref h0), (1, .long p0)]) hx hb d_RE_readUnsigned_73 hl (k := 4) rfl (by rw [ex7]; rfl) (by decide) rfl (fun ls hl => ?_)
    refine lv_goto (tgt := 5) hx hb d_RE_readUnsigned_76 (by decide) ?_
    exact ih5 (x6, x7, n2) _ _ _ (by show (35 - x7.toInt).toNat < N5; omega) ⟨by (try dsimp only) <;> omega, by have := vx.2 (by omega); rcases cs with c | c | c <;> (try dsimp only) <;> omega, hP, hD, hS, lv_sub hl [3, 4, 1, 0] rfl⟩
  · have q35 := nleI c35
    refine lv_aload_n hx hb d_RE_readUnsigned_38 rfl (lv_at hl 2 rfl) ?_
    refine lv_aload_n hx hb d_RE_readUnsigned_39 rfl (lv_at hl 2 rfl) ?_
    refine va_get (D := (dC, dI)) (ci := 7) (v := .int h0_sound) (C := R_RE) (T := F_RE) (N := 8) hx hb hts i_RE hown hK hP 0 rfl rfl 4 (by decide) (hts _ kF_RE_45) (fun _ h9 => h9) rfl d_RE_readUnsigned_40 ?_
    refine lv_if_eq (tgt := 56) hx hb d_RE_readUnsigned_43 (by decide) (fun c43 => absurd (eqI c43) (by omega)) (fun c43 => ?_)
    have q43 := neI c43
    refine lv_lload_n hx hb d_RE_readUnsigned_46 rfl (lv_at hl 0 rfl) ?_
    refine lv_lload_n hx hb d_RE_readUnsigned_47 rfl (lv_at hl 3 rfl) ?_
    refine W.lcmp hx hb d_RE_readUnsigned_48 ?_
    refine lv_topi (fun x8 ex8 => ?_)
    have tx8 := lgc ex8
    refine lv_if_gt (tgt := 56) hx hb d_RE_readUnsigned_49 (by decide) (fun c49 => absurd (ltI c49) (by omega)) (fun c49 => ?_)
    have q49 := nltI c49
    refine lv_iconst (v := 1) hx hb d_RE_readUnsigned_52 (by decide) ?_
    refine lv_goto (tgt := 57) hx hb d_RE_readUnsigned_53 (by decide) ?_
    refine va_put (D := (dC, dI)) (ci := 7) (v := .int 1) (ty := .boolean) (C := R_RE) (T := F_RE) (N := 8) hx hb hts i_RE t_RE t_RE_ok n_RE hown hK hP hD hS 0 rfl rfl 4 (by decide) (hts _ kF_RE_45) (fun _ h9 => h9) rfl (by decide +kernel) rfl rfl (Nat.le_of_ble_eq_true rfl) d_RE_readUnsigned_57 (fun H locs hP hD hS => ?_)
    refine lv_aload_n hx hb d_RE_readUnsigned_60 rfl (lv_at hl 2 rfl) ?_
    refine va_get (D := (dC, dI)) (ci := 7) (v := .int 1) (C := R_RE) (T := F_RE) (N := 8) hx hb hts i_RE hown hK hP 0 rfl rfl 4 (by decide) (hts _ kF_RE_45) (fun _ h9 => h9) rfl d_RE_readUnsigned_61 ?_
    refine lv_if_eq (tgt := 71) hx hb d_RE_readUnsigned_64 (by decide) (fun c64 => absurd (eqI c64) (by omega)) (fun c64 => ?_)
    have q64 := neI c64
    refine lv_lload_n hx hb d_RE_readUnsigned_67 rfl (lv_at hl 0 rfl) ?_
    refine lv_goto (tgt := 72) hx hb d_RE_readUnsigned_68 (by decide) ?_
    have hP9 := hP.sub (ws' := [(h0, .inr (7, [.ref aw, .ref ac, .int n2, .int h0_limit, .int 1, .int h0_codeCount, .ref ob, .int h0_openCount])), (aw, .inr (10, [.ref ab, .ref ac, .int aw_typeCount, .ref wat, .ref wap, .ref wag, .int aw_functionCount, .ref waf, .int aw_hasMemory, .long aw_pagesLeast, .long aw_pagesMost, .int aw_globalCount, .ref wgt, .ref wft, .ref wfv, .ref wgc, .int aw_exportCount, .ref wek, .ref wei, .ref wes, .ref wez])), (ab, .inr (1, [.ref ax, .int ab_length])), (ax, .inl (cax, 8192, .inl gax))]) [0, 1, 2, 3] rfl
    have hD9 := hD.sub (ws' := [(h0, .inr (7, [.ref aw, .ref ac, .int n2, .int h0_limit, .int 1, .int h0_codeCount, .ref ob, .int h0_openCount])), (aw, .inr (10, [.ref ab, .ref ac, .int aw_typeCount, .ref wat, .ref wap, .ref wag, .int aw_functionCount, .ref waf, .int aw_hasMemory, .long aw_pagesLeast, .long aw_pagesMost, .int aw_globalCount, .ref wgt, .ref wft, .ref wfv, .ref wgc, .int aw_exportCount, .ref wek, .ref wei, .ref wes, .ref wez])), (ab, .inr (1, [.ref ax, .int ab_length])), (ax, .inl (cax, 8192, .inl gax))]) [0, 1, 2, 3] (by decide) rfl
    exact W.lret (v := x6) hx hb hr (fun t ht hW => ⟨⟨x6, (n2, 1), rfl, ⟨Or.inr rfl, ⟨by rcases cs with c | c | c <;> (try dsimp only) <;> omega, by (try dsimp only) <;> omega, by have := vx.1 (by omega); (try dsimp only) <;> omega⟩⟩, by rw [ht]; exact hP9, va_K.moved hW.alike hK, hD9⟩, hS.F ht⟩) hS.2.2 d_RE_readUnsigned_72

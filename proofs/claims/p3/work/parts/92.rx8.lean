/-! Reader: types as they were put -/
theorem bq_cons {f : Nat → Int32} {a x : Nat} {L : List Nat} (h : bq f a (x :: L)) : bn (f a) = x ∧ bq f (a + 1) L := h
theorem tB_hd {tk : Nat → Int} {ft : Nat → Int32} {R : List Nat} {k : Nat} {bs : List Nat} (h : tB tk ft (R.drop k) bs) (hk : k < R.length) : ∃ (r : Nat) (ps b : List Nat), R[k]? = some r ∧ r ∈ R ∧ (ps.length : Int) = tk r ∧ (∀ p ∈ ps, p = 127 ∨ p = 126) ∧ bs = 96 :: ps.length :: (ps ++ ((if (ft r).toInt.toNat = 64 then [0] else [1, (ft r).toInt.toNat]) ++ b)) ∧ tB tk ft (R.drop (k + 1)) b := by
  rw [List.drop_eq_getElem_cons hk] at h
  obtain ⟨e, b, h1, ⟨ps, h2, h3, h4⟩, h5⟩ := h
  refine ⟨R[k], ps, b, List.getElem?_eq_getElem hk, List.getElem_mem hk, h2, h3, ?_, h5⟩
  rw [h1, h4]
  unfold tyb
  simp only [List.cons_append, List.append_assoc]
theorem tB_end {tk : Nat → Int} {ft : Nat → Int32} {R : List Nat} {k : Nat} {bs : List Nat} (h : tB tk ft (R.drop k) bs) (hk : R.length ≤ k) : bs = [] := by
  rw [List.drop_of_length_le hk] at h
  exact h
abbrev at_RE_readTypesx (dC : Nat → ClassId) (dI : Nat → Nat → Nat) (h0 aw ac ob ab wat wap wag waf wgt wft wfv wgc wek wei wes wez ax : Nat) (cax cwat cwap cwag : ClassId) (h0_limit : Int32) (h0_codeCount : Int32) (h0_openCount : Int32) (aw_functionCount : Int32) (aw_hasMemory : Int32) (aw_pagesLeast : Int64) (aw_pagesMost : Int64) (aw_globalCount : Int32) (aw_exportCount : Int32) (ab_length : Int32) (gax : Nat → Int32) (A : Nat → Prop) (u : (Nat → Int32) × (Nat → Int32) × (Nat → Int32) × Int32 × Int32 × Int32) (t : State) : Prop := match u with | (gwag, gwap, gwat, aw_typeCount, h0_at, h0_sound) => va_P (dC, dI) cls [(h0, .inr (7, [.ref aw, .ref ac, .int h0_at, .int h0_limit, .int h0_sound, .int h0_codeCount, .ref ob, .int h0_openCount])), (aw, .inr (10, [.ref ab, .ref ac, .int aw_typeCount, .ref wat, .ref wap, .ref wag, .int aw_functionCount, .ref waf, .int aw_hasMemory, .long aw_pagesLeast, .long aw_pagesMost, .int aw_globalCount, .ref wgt, .ref wft, .ref wfv, .ref wgc, .int aw_exportCount, .ref wek, .ref wei, .ref wes, .ref wez])), (ab, .inr (1, [.ref ax, .int ab_length])), (ax, .inl (cax, 8192, .inl gax)), (wat, .inl (cwat, 20, .inl gwat)), (wap, .inl (cwap, 160, .inl gwap)), (wag, .inl (cwag, 20, .inl gwag))] t.heap ∧ va_K (dC, dI) cls [(cax, .byte), (cwat, .int), (cwap, .int), (cwag, .int)] t ∧ va_D A [(h0, .inr (7, [.ref aw, .ref ac, .int h0_at, .int h0_limit, .int h0_sound, .int h0_codeCount, .ref ob, .int h0_openCount])), (aw, .inr (10, [.ref ab, .ref ac, .int aw_typeCount, .ref wat, .ref wap, .ref wag, .int aw_functionCount, .ref waf, .int aw_hasMemory, .long aw_pagesLeast, .long aw_pagesMost, .int aw_globalCount, .ref wgt, .ref wft, .ref wfv, .ref wgc, .int aw_exportCount, .ref wek, .ref wei, .ref wes, .ref wez])), (ab, .inr (1, [.ref ax, .int ab_length])), (ax, .inl (cax, 8192, .inl gax)), (wat, .inl (cwat, 20, .inl gwat)), (wap, .inl (cwap, 160, .inl gwap)), (wag, .inl (cwag, 20, .inl gwag))]
set_option maxHeartbeats 4000000 in
set_option maxRecDepth 100000 in
theorem c_RE_readTypesx (l : Launch) (dC : Nat → ClassId) (dI : Nat → Nat → Nat) (sz : Nat) (h0 aw ac ob ab wat wap wag waf wgt wft wfv wgc wek wei wes wez ax : Nat) (cax cwat cwap cwag : ClassId) (h0_at : Int32) (h0_limit : Int32) (h0_sound : Int32) (h0_codeCount : Int32) (h0_openCount : Int32) (aw_typeCount : Int32) (aw_functionCount : Int32) (aw_hasMemory : Int32) (aw_pagesLeast : Int64) (aw_pagesMost : Int64) (aw_globalCount : Int32) (aw_exportCount : Int32) (ab_length : Int32) (gax : Nat → Int32) (gwat : Nat → Int32) (gwap : Nat → Int32) (gwag : Nat → Int32) (gTs : List Nat) (gtb : List Nat) (gtk : Nat → Int) (gft : Nat → Int32)  (b_h0_sound : h0_sound = 0 ∨ h0_sound = 1) (b_aw_typeCount : 0 ≤ aw_typeCount.toInt ∧ aw_typeCount.toInt ≤ 20)   (hs : h0_sound.toInt = 1) (ha : 0 ≤ h0_at.toInt ∧ h0_limit.toInt ≤ ab_length.toInt ∧ ab_length.toInt ≤ 8192) (hTl : gTs.length ≤ 20) (htB : bx (tB gtk gft gTs gtb)) (h8s : bx (∀ r ∈ gTs, gtk r ≤ 8)) (hts9 : bx (∀ r ∈ gTs, ty (gft r).toInt)) (hbq : bx (bq gax h0_at.toNatClampNeg (gTs.length :: gtb))) (hlm : h0_at.toInt + 1 + (gtb.length : Int) ≤ h0_limit.toInt) : Met l y_RE_readTypes w_RE_readTypes ({ frames := 2, cells := 0, slots := 0, locals := 46 }) (va_Pc [.ref h0] (fun U => U.heap.size = sz ∧ va_P (dC, dI) cls [(h0, .inr (7, [.ref aw, .ref ac, .int h0_at, .int h0_limit, .int h0_sound, .int h0_codeCount, .ref ob, .int h0_openCount])), (aw, .inr (10, [.ref ab, .ref ac, .int aw_typeCount, .ref wat, .ref wap, .ref wag, .int aw_functionCount, .ref waf, .int aw_hasMemory, .long aw_pagesLeast, .long aw_pagesMost, .int aw_globalCount, .ref wgt, .ref wft, .ref wfv, .ref wgc, .int aw_exportCount, .ref wek, .ref wei, .ref wes, .ref wez])), (ab, .inr (1, [.ref ax, .int ab_length])), (ax, .inl (cax, 8192, .inl gax)), (wat, .inl (cwat, 20, .inl gwat)), (wap, .inl (cwap, 160, .inl gwap)), (wag, .inl (cwag, 20, .inl gwag))] U.heap ∧ va_K (dC, dI) cls [(cax, .byte), (cwat, .int), (cwap, .int), (cwag, .int)] U ∧ va_D (fun _ => True) [(h0, .inr (7, [.ref aw, .ref ac, .int h0_at, .int h0_limit, .int h0_sound, .int h0_codeCount, .ref ob, .int h0_openCount])), (aw, .inr (10, [.ref ab, .ref ac, .int aw_typeCount, .ref wat, .ref wap, .ref wag, .int aw_functionCount, .ref waf, .int aw_hasMemory, .long aw_pagesLeast, .long aw_pagesMost, .int aw_globalCount, .ref wgt, .ref wft, .ref wfv, .ref wgc, .int aw_exportCount, .ref wek, .ref wei, .ref wes, .ref wez])), (ab, .inr (1, [.ref ax, .int ab_length])), (ax, .inl (cax, 8192, .inl gax)), (wat, .inl (cwat, 20, .inl gwat)), (wap, .inl (cwap, 160, .inl gwap)), (wag, .inl (cwag, 20, .inl gwag))])) (va_Qv (fun (u : (Nat → Int32) × (Nat → Int32) × (Nat → Int32) × Int32 × Int32 × Int32) => match u with | (gwag2, gwap2, gwat2, aw_typeCount2, h0_at2, h0_sound2) => (0 ≤ aw_typeCount2.toInt ∧ aw_typeCount2.toInt ≤ 20) ∧ (h0_sound2 = 0 ∨ h0_sound2 = 1) ∧ (h0_at2.toInt = h0_at.toInt + 1 + (gtb.length : Int) ∧ h0_sound2.toInt = 1 ∧ aw_typeCount2.toInt = (gTs.length : Int) ∧ (∀ t : Nat, (t : Int) < (gTs.length : Int) → ∃ r, gTs[t]? = some r ∧ (gwat2 t).toInt = gtk r ∧ (gwag2 t).toInt = (gft r).toInt) ∧ (∀ j : Nat, (j : Int) < 8 * (gTs.length : Int) → ((j % 8 : Nat) : Int) < (gwat2 (j / 8)).toInt → ((gwap2 j).toInt = 127 ∨ (gwap2 j).toInt = 126)))) (at_RE_readTypesx dC dI h0 aw ac ob ab wat wap wag waf wgt wft wfv wgc wek wei wes wez ax cax cwat cwap cwag h0_limit h0_codeCount h0_openCount aw_functionCount aw_hasMemory aw_pagesLeast aw_pagesMost aw_globalCount aw_exportCount ab_length gax (va_A [(h0, .inr (7, [.ref aw, .ref ac, .int h0_at, .int h0_limit, .int h0_sound, .int h0_codeCount, .ref ob, .int h0_openCount])), (aw, .inr (10, [.ref ab, .ref ac, .int aw_typeCount, .ref wat, .ref wap, .ref wag, .int aw_functionCount, .ref waf, .int aw_hasMemory, .long aw_pagesLeast, .long aw_pagesMost, .int aw_globalCount, .ref wgt, .ref wft, .ref wfv, .ref wgc, .int aw_exportCount, .ref wek, .ref wei, .ref wes, .ref wez])), (ab, .inr (1, [.ref ax, .int ab_length])), (ax, .inl (cax, 8192, .inl gax)), (wat, .inl (cwat, 20, .inl gwat)), (wap, .inl (cwap, 160, .inl gwap)), (wag, .inl (cwag, 20, .inl gwag))] sz)) (va_A [(h0, .inr (7, [.ref aw, .ref ac, .int h0_at, .int h0_limit, .int h0_sound, .int h0_codeCount, .ref ob, .int h0_openCount])), (aw, .inr (10, [.ref ab, .ref ac, .int aw_typeCount, .ref wat, .ref wap, .ref wag, .int aw_functionCount, .ref waf, .int aw_hasMemory, .long aw_pagesLeast, .long aw_pagesMost, .int aw_globalCount, .ref wgt, .ref wft, .ref wfv, .ref wgc, .int aw_exportCount, .ref wek, .ref wei, .ref wes, .ref wez])), (ab, .inr (1, [.ref ax, .int ab_length])), (ax, .inl (cax, 8192, .inl gax)), (wat, .inl (cwat, 20, .inl gwat)), (wap, .inl (cwap, 160, .inl gwap)), (wag, .inl (cwag, 20, .inl gwag))] sz)) 0 0 (va_A [(h0, .inr (7, [.ref aw, .ref ac, .int h0_at, .int h0_limit, .int h0_sound, .int h0_codeCount, .ref ob, .int h0_openCount])), (aw, .inr (10, [.ref ab, .ref ac, .int aw_typeCount, .ref wat, .ref wap, .ref wag, .int aw_functionCount, .ref waf, .int aw_hasMemory, .long aw_pagesLeast, .long aw_pagesMost, .int aw_globalCount, .ref wgt, .ref wft, .ref wfv, .ref wgc, .int aw_exportCount, .ref wek, .ref wei, .ref wes, .ref wez])), (ab, .inr (1, [.ref ax, .int ab_length])), (ax, .inl (cax, 8192, .inl gax)), (wat, .inl (cwat, 20, .inl gwat)), (wap, .inl (cwap, 160, .inl gwap)), (wag, .inl (cwag, 20, .inl gwag))] sz) := by
  refine Met.ofW (cc := b_RE_readTypes) (maxL := 4) (ret := none) (by decide) rfl ?_
  intro p e s m args below meth c s₁ B hml hv
  obtain ⟨rfl, hsz, hP, hK, hD0⟩ := hv
  have hx := B.exec
  have hb := B.bytes
  have hr := B.returns
  have hts0 := atoms_spec (ws := w_RE_readTypes) B.pre
  have hts : ∀ w ∈ lw_g, w.before _ s = true := fun w h => hts0 w (List.mem_cons_of_mem _ h)
  have hown : s.vm.findClass R_RE = some m.cls := findClass_of_methodNamed B.named
  have hlocks := B.notSynchronized
  clear hts0
  subst hsz
  have hD := hD0.self (sz := s.heap.size)
  generalize hAe : va_A [(h0, .inr (7, [.ref aw, .ref ac, .int h0_at, .int h0_limit, .int h0_sound, .int h0_codeCount, .ref ob, .int h0_openCount])), (aw, .inr (10, [.ref ab, .ref ac, .int aw_typeCount, .ref wat, .ref wap, .ref wag, .int aw_functionCount, .ref waf, .int aw_hasMemory, .long aw_pagesLeast, .long aw_pagesMost, .int aw_globalCount, .ref wgt, .ref wft, .ref wfv, .ref wgc, .int aw_exportCount, .ref wek, .ref wei, .ref wes, .ref wez])), (ab, .inr (1, [.ref ax, .int ab_length])), (ax, .inl (cax, 8192, .inl gax)), (wat, .inl (cwat, 20, .inl gwat)), (wap, .inl (cwap, 160, .inl gwap)), (wag, .inl (cwag, 20, .inl gwag))] s.heap.size = A at hD ⊢
  have hA : ∀ q : Nat, s.heap.size ≤ q → A q := fun q h => by rw [← hAe]; exact Or.inr h
  clear hAe
  have hP : va_P (dC, dI) cls [(h0, .inr (7, [.ref aw, .ref ac, .int h0_at, .int h0_limit, .int h0_sound, .int h0_codeCount, .ref ob, .int h0_openCount])), (aw, .inr (10, [.ref ab, .ref ac, .int aw_typeCount, .ref wat, .ref wap, .ref wag, .int aw_functionCount, .ref waf, .int aw_hasMemory, .long aw_pagesLeast, .long aw_pagesMost, .int aw_globalCount, .ref wgt, .ref wft, .ref wfv, .ref wgc, .int aw_exportCount, .ref wek, .ref wei, .ref wes, .ref wez])), (ab, .inr (1, [.ref ax, .int ab_length])), (ax, .inl (cax, 8192, .inl gax)), (wat, .inl (cwat, 20, .inl gwat)), (wap, .inl (cwap, 160, .inl gwap)), (wag, .inl (cwag, 20, .inl gwag))] s.heap := hP
  have hl := lv_entry ([.ref h0]) (n := 4) (Nat.le_of_ble_eq_true rfl)
  rw [lg_entry_eq]
  generalize (lg_sl ([.ref h0]) ++ List.replicate (4 - (lg_sl ([.ref h0])).length) Slot.unset).toArray = ls at hl ⊢
  have hl : lv_has ls 4 [(0, .ref h0)] := hl
  have k0 : (0 : Int32).toInt = 0 := by decide
  refine w_gen (A := A) hP (fun H locs hP hS => ?_)
  have k1 : (1 : Int32).toInt = 1 := by decide
  have k8 : (8 : Int32).toInt = 8 := by decide
  have k64 : (64 : Int32).toInt = 64 := by decide
  have k96 : (96 : Int32).toInt = 96 := by decide
  have th0_sound := b01 b_h0_sound
  have za0 := i32_clamp (x := h0_at) (by omega)
  have lb0 : (leb 5 gTs.length).length = 1 := by rw [leb_1 (by omega)]; rfl
  refine lv_aload_n hx hb d_RE_readTypes_0 rfl (lv_at hl 0 rfl) ?_
  refine va_get (D := (dC, dI)) (ci := 7) (v := .ref aw) (C := R_RE) (T := F_RE) (N := 8) hx hb hts i_RE hown hK hP 0 rfl rfl 0 (by decide) (hts _ kF_RE_15) (fun _ h9 => h9) rfl d_RE_readTypes_1 ?_
  refine lv_aload_n hx hb d_RE_readTypes_4 rfl (lv_at hl 0 rfl) ?_
  refine lv_ldc2 hx hb hown (hts _ kL_RE_96) d_RE_readTypes_5 ?_
  refine lv_topl (fun x1 ex1 => ?_)
  have tx1 : x1.toInt = 20 := by rw [ex1]; decide
  have hPc := hP.sub (ws' := [(h0, .inr (7, [.ref aw, .ref ac, .int h0_at, .int h0_limit, .int h0_sound, .int h0_codeCount, .ref ob, .int h0_openCount])), (aw, .inr (10, [.ref ab, .ref ac, .int aw_typeCount, .ref wat, .ref wap, .ref wag, .int aw_functionCount, .ref waf, .int aw_hasMemory, .long aw_pagesLeast, .long aw_pagesMost, .int aw_globalCount, .ref wgt, .ref wft, .ref wfv, .ref wgc, .int aw_exportCount, .ref wek, .ref wei, .ref wes, .ref wez])), (ab, .inr (1, [.ref ax, .int ab_length])), (ax, .inl (cax, 8192, .inl gax))]) [0, 1, 2, 3] rfl
  have hDc := hD.sub (ws' := [(h0, .inr (7, [.ref aw, .ref ac, .int h0_at, .int h0_limit, .int h0_sound, .int h0_codeCount, .ref ob, .int h0_openCount])), (aw, .inr (10, [.ref ab, .ref ac, .int aw_typeCount, .ref wat, .ref wap, .ref wag, .int aw_functionCount, .ref waf, .int aw_hasMemory, .long aw_pagesLeast, .long aw_pagesMost, .int aw_globalCount, .ref wgt, .ref wft, .ref wfv, .ref wgc, .int aw_exportCount, .ref wek, .ref wei, .ref wes, .ref wez])), (ab, .inr (1, [.ref ax, .int ab_length])), (ax, .inl (cax, 8192, .inl gax))]) [0, 1, 2, 3] (by decide) rfl
  have hKc := hK.sub (tys' := [(cax, .byte)]) [0] rfl
  have hFc := va_free (wc := [(h0, .inr (7, [.ref aw, .ref ac, .int h0_at, .int h0_limit, .int h0_sound, .int h0_codeCount, .ref ob, .int h0_openCount])), (aw, .inr (10, [.ref ab, .ref ac, .int aw_typeCount, .ref wat, .ref wap, .ref wag, .int aw_functionCount, .ref waf, .int aw_hasMemory, .long aw_pagesLeast, .long aw_pagesMost, .int aw_globalCount, .ref wgt, .ref wft, .ref wfv, .ref wgc, .int aw_exportCount, .ref wek, .ref wei, .ref wes, .ref wez])), (ab, .inr (1, [.ref ax, .int ab_length])), (ax, .inl (cax, 8192, .inl gax))]) hD hS hA [0, 1, 2, 3] rfl
  refine va_calll (va_runV (As := [.long x1]) (rest := [.ref aw]) ⟨hx, hb, hml, hown, hts⟩ (c_RE_readUnsignedx l dC dI H.size h0 aw ac ob ab wat wap wag waf wgt wft wfv wgc wek wei wes wez ax cax h0_at h0_limit h0_sound h0_codeCount h0_openCount aw_typeCount aw_functionCount aw_hasMemory aw_pagesLeast aw_pagesMost aw_globalCount aw_exportCount ab_length gax gTs.length (b_h0_sound) x1 (by omega) (by omega) (by omega) ((by rw [leb_1 (by omega)]; exact ⟨hbq.out.1, trivial⟩)) (by omega)) (cwV 1 hts (gV kM_RE_64 kV_RE_readUnsigned kS_RE_readUnsigned kI_RE kC_RE_readUnsigned) rfl rfl rfl (by decide +kernel) ⟨Nat.le_of_ble_eq_true rfl, Nat.le_of_ble_eq_true rfl⟩) ⟨fun a U g mk z => by obtain ⟨z0, z1, zP, zK, zD⟩ := z; exact ⟨z0, z1, zP, va_K.moved (u := U) (U := U.calling g mk a) (Vm.Alike.refl U.vm) zK, zD⟩, va_recv hKc hPc (ci := 7) (q0 := 0) rfl rfl, fun U hU hW => ⟨rfl, by rw [hU], by rw [hU]; exact hPc, va_K.moved hW.alike hKc, hDc.weaken (fun _ _ _ _ => trivial)⟩⟩ rfl rfl hl.1 rfl (lv_room (Nat.le_of_ble_eq_true rfl)) d_RE_readTypes_8 ⟨(Nat.zero_le _), (Nat.zero_le _)⟩) hS (fun q _ h => hFc q h) hFc (fun r2 u t H1 locs ht hvm hw hB hz1 hk1 hS => ?_)
  obtain ⟨n3, n4⟩ := u
  try dsimp only at hw
  obtain ⟨bn4, xr2⟩ := hw
  try clear hw
  have tn4 := b01 bn4
  have za8 := i32_clamp (x := n3) (by omega)
  obtain ⟨hP1, hK1, hD1⟩ := hB
  rw [ht] at hP1
  obtain ⟨hP, hD⟩ := va_join (wr := [(wat, .inl (cwat, 20, .inl gwat)), (wap, .inl (cwap, 160, .inl gwap)), (wag, .inl (cwag, 20, .inl gwag))]) (w1 := [(h0, .inr (7, [.ref aw, .ref ac, .int n3, .int h0_limit, .int n4, .int h0_codeCount, .ref ob, .int h0_openCount])), (aw, .inr (10, [.ref ab, .ref ac, .int aw_typeCount, .ref wat, .ref wap, .ref wag, .int aw_functionCount, .ref waf, .int aw_hasMemory, .long aw_pagesLeast, .long aw_pagesMost, .int aw_globalCount, .ref wgt, .ref wft, .ref wfv, .ref wgc, .int aw_exportCount, .ref wek, .ref wei, .ref wes, .ref wez])), (ab, .inr (1, [.ref ax, .int ab_length])), (ax, .inl (cax, 8192, .inl gax))]) hP hD [0, 1, 2, 3] [4, 5, 6] rfl rfl (by decide) (by decide) hk1 hFc hP1 hD1
  clear hPc hDc hKc hFc hz1 hk1 hP1 hK1 hD1
  generalize H1 = H at hP hS ⊢
  have hP : va_P (dC, dI) cls [(wat, .inl (cwat, 20, .inl gwat)), (wap, .inl (cwap, 160, .inl gwap)), (wag, .inl (cwag, 20, .inl gwag)), (h0, .inr (7, [.ref aw, .ref ac, .int n3, .int h0_limit, .int n4, .int h0_codeCount, .ref ob, .int h0_openCount])), (aw, .inr (10, [.ref ab, .ref ac, .int aw_typeCount, .ref wat, .ref wap, .ref wag, .int aw_functionCount, .ref waf, .int aw_hasMemory, .long aw_pagesLeast, .long aw_pagesMost, .int aw_globalCount, .ref wgt, .ref wft, .ref wfv, .ref wgc, .int aw_exportCount, .ref wek, .ref wei, .ref wes, .ref wez])), (ab, .inr (1, [.ref ax, .int ab_length])), (ax, .inl (cax, 8192, .inl gax))] H := hP
  have hD : va_D A [(wat, .inl (cwat, 20, .inl gwat)), (wap, .inl (cwap, 160, .inl gwap)), (wag, .inl (cwag, 20, .inl gwag)), (h0, .inr (7, [.ref aw, .ref ac, .int n3, .int h0_limit, .int n4, .int h0_codeCount, .ref ob, .int h0_openCount])), (aw, .inr (10, [.ref ab, .ref ac, .int aw_typeCount, .ref wat, .ref wap, .ref wag, .int aw_functionCount, .ref waf, .int aw_hasMemory, .long aw_pagesLeast, .long aw_pagesMost, .int aw_globalCount, .ref wgt, .ref wft, .ref wfv, .ref wgc, .int aw_exportCount, .ref wek, .ref wei, .ref wes, .ref wez])), (ab, .inr (1, [.ref ax, .int ab_length])), (ax, .inl (cax, 8192, .inl gax))] := hD
  refine lv_l2i hx hb d_RE_readTypes_11 rfl ?_
  refine lv_topi (fun x5 ex5 => ?_)
  have tx5 := l2i_t ex5 (by omega) (by omega)
  refine va_put (D := (dC, dI)) (ci := 10) (v := .int x5) (ty := .int) (C := R_WA) (T := F_WA) (N := 21) hx hb hts i_WA t_WA t_WA_ok n_WA hown hK hP hD hS 4 rfl rfl 2 (by decide) (hts _ kF_RE_98) (fun _ h9 => h9) rfl (by decide +kernel) rfl rfl (Nat.le_of_ble_eq_true rfl) d_RE_readTypes_12 (fun H locs hP hD hS => ?_)
  refine lv_iconst (v := 0) hx hb d_RE_readTypes_15 (by decide) ?_
  refine lv_istore_n (lv' := [(1, .int 0), (0, .ref h0)]) hx hb d_RE_readTypes_16 rfl hl (by decide) rfl (fun ls hl => ?_)
  refine w_loop (σ := Int32 × (Nat → Int32) × (Nat → Int32) × (Nat → Int32) × Int32 × Int32) (fun u H locs ls => match u with | (j17_l1, j17_wag, j17_wap, j17_wat, j17_h0_at, j17_h0_sound) => (0 ≤ j17_l1.toInt ∧ j17_l1.toInt ≤ 20) ∧ (j17_h0_sound = 0 ∨ j17_h0_sound = 1) ∧ (j17_l1.toInt ≤ x5.toInt ∧ x5.toInt = (gTs.length : Int) ∧ j17_h0_sound.toInt = 1 ∧ 0 ≤ j17_h0_at.toInt) ∧ (bx (∃ b : List Nat, tB gtk gft (gTs.drop j17_l1.toNatClampNeg) b ∧ bq gax j17_h0_at.toNatClampNeg b ∧ j17_h0_at.toInt + (b.length : Int) = h0_at.toInt + 1 + (gtb.length : Int))) ∧ (∀ t : Nat, (t : Int) < j17_l1.toInt → ∃ r, gTs[t]? = some r ∧ (j17_wat t).toInt = gtk r ∧ (j17_wag t).toInt = (gft r).toInt) ∧ (∀ j : Nat, (j : Int) < 8 * j17_l1.toInt → ((j % 8 : Nat) : Int) < (j17_wat (j / 8)).toInt → ((j17_wap j).toInt = 127 ∨ (j17_wap j).toInt = 126)) ∧ va_P (dC, dI) cls [(wat, .inl (cwat, 20, .inl j17_wat)), (wap, .inl (cwap, 160, .inl j17_wap)), (wag, .inl (cwag, 20, .inl j17_wag)), (h0, .inr (7, [.ref aw, .ref ac, .int j17_h0_at, .int h0_limit, .int j17_h0_sound, .int h0_codeCount, .ref ob, .int h0_openCount])), (aw, .inr (10, [.ref ab, .ref ac, .int x5, .ref wat, .ref wap, .ref wag, .int aw_functionCount, .ref waf, .int aw_hasMemory, .long aw_pagesLeast, .long aw_pagesMost, .int aw_globalCount, .ref wgt, .ref wft, .ref wfv, .ref wgc, .int aw_exportCount, .ref wek, .ref wei, .ref wes, .ref wez])), (ab, .inr (1, [.ref ax, .int ab_length])), (ax, .inl (cax, 8192, .inl gax))] H ∧ va_D A [(wat, .inl (cwat, 20, .inl j17_wat)), (wap, .inl (cwap, 160, .inl j17_wap)), (wag, .inl (cwag, 20, .inl j17_wag)), (h0, .inr (7, [.ref aw, .ref ac, .int j17_h0_at, .int h0_limit, .int j17_h0_sound, .int h0_codeCount, .ref ob, .int h0_openCount])), (aw, .inr (10, [.ref ab, .ref ac, .int x5, .ref wat, .ref wap, .ref wag, .int aw_functionCount, .ref waf, .int aw_hasMemory, .long aw_pagesLeast, .long aw_pagesMost, .int aw_globalCount, .ref wgt, .ref wft, .ref wfv, .ref wgc, .int aw_exportCount, .ref wek, .ref wei, .ref wes, .ref wez])), (ab, .inr (1, [.ref ax, .int ab_length])), (ax, .inl (cax, 8192, .inl gax))] ∧ va_S A s.heap H locs ∧ lv_has ls 4 [(0, .ref h0), (1, .int j17_l1)]) (fun u => match u with | (j17_l1, j17_wag, j17_wap, j17_wat, j17_h0_at, j17_h0_sound) => (x5.toInt - j17_l1.toInt).toNat) ?_ (0, gwag, gwap, gwat, n3, n4) ⟨by (try dsimp only) <;> omega, bn4, by (try dsimp only) <;> omega, ⟨gtb, htB.out, (bq_at hbq.out.2 (by omega)), by omega⟩, fun t z => absurd z (by show ¬ (t : Int) < 0; omega), fun j z1 z2 => absurd z1 (by show ¬ (j : Int) < 8 * 0; omega), hP, hD, hS, lv_sub hl [1, 0] rfl⟩
  intro N17 ih17 u H locs ls hN17 hI
  obtain ⟨j17_l1, j17_wag, j17_wap, j17_wat, j17_h0_at, j17_h0_sound⟩ := u
  obtain ⟨b_j17_l1, b_j17_h0_sound, v1, hB, v3, v4, hP, hD, hS, hl⟩ := hI
  have tj17_h0_sound := b01 b_j17_h0_sound
  have hN17 : (x5.toInt - j17_l1.toInt).toNat < N17 + 1 := hN17
  refine lv_iload_n hx hb d_RE_readTypes_17 rfl (lv_at hl 1 rfl) ?_
  refine lv_aload_n hx hb d_RE_readTypes_18 rfl (lv_at hl 0 rfl) ?_
  refine va_get (D := (dC, dI)) (ci := 7) (v := .ref aw) (C := R_RE) (T := F_RE) (N := 8) hx hb hts i_RE hown hK hP 3 rfl rfl 0 (by decide) (hts _ kF_RE_15) (fun _ h9 => h9) rfl d_RE_readTypes_19 ?_
  refine va_get (D := (dC, dI)) (ci := 10) (v := .int x5) (C := R_WA) (T := F_WA) (N := 21) hx hb hts i_WA hown hK hP 4 rfl rfl 2 (by decide) (hts _ kF_RE_98) (fun _ h9 => h9) rfl d_RE_readTypes_22 ?_
  refine lv_icmp_ge (tgt := 125) hx hb d_RE_readTypes_25 (by decide) (fun c25 => ?_) (fun c25 => ?_)
  · have q25 := leI c25
    have hP9 := hP.sub (ws' := [(h0, .inr (7, [.ref aw, .ref ac, .int j17_h0_at, .int h0_limit, .int j17_h0_sound, .int h0_codeCount, .ref ob, .int h0_openCount])), (aw, .inr (10, [.ref ab, .ref ac, .int x5, .ref wat, .ref wap, .ref wag, .int aw_functionCount, .ref waf, .int aw_hasMemory, .long aw_pagesLeast, .long aw_pagesMost, .int aw_globalCount, .ref wgt, .ref wft, .ref wfv, .ref wgc, .int aw_exportCount, .ref wek, .ref wei, .ref wes, .ref wez])), (ab, .inr (1, [.ref ax, .int ab_length])), (ax, .inl (cax, 8192, .inl gax)), (wat, .inl (cwat, 20, .inl j17_wat)), (wap, .inl (cwap, 160, .inl j17_wap)), (wag, .inl (cwag, 20, .inl j17_wag))]) [3, 4, 5, 6, 0, 1, 2] rfl
    have hD9 := hD.sub (ws' := [(h0, .inr (7, [.ref aw, .ref ac, .int j17_h0_at, .int h0_limit, .int j17_h0_sound, .int h0_codeCount, .ref ob, .int h0_openCount])), (aw, .inr (10, [.ref ab, .ref ac, .int x5, .ref wat, .ref wap, .ref wag, .int aw_functionCount, .ref waf, .int aw_hasMemory, .long aw_pagesLeast, .long aw_pagesMost, .int aw_globalCount, .ref wgt, .ref wft, .ref wfv, .ref wgc, .int aw_exportCount, .ref wek, .ref wei, .ref wes, .ref wez])), (ab, .inr (1, [.ref ax, .int ab_length])), (ax, .inl (cax, 8192, .inl gax)), (wat, .inl (cwat, 20, .inl j17_wat)), (wap, .inl (cwap, 160, .inl j17_wap)), (wag, .inl (cwag, 20, .inl j17_wag))]) [3, 4, 5, 6, 0, 1, 2] (by decide) rfl
    exact W.vret hx hb hr (fun t ht hW => ⟨⟨(j17_wag, j17_wap, j17_wat, x5, j17_h0_at, j17_h0_sound), rfl, ⟨by (try dsimp only) <;> omega, b_j17_h0_sound, (by obtain ⟨b, k1, k2, k3⟩ := hB.out; have e := tB_end k1 (by have := i32_clamp (x := j17_l1) (by omega); omega); rw [e, List.length_nil] at k3; exact ⟨by (try dsimp only) <;> omega, by (try dsimp only) <;> omega, by (try dsimp only) <;> omega, fun t z => v3 t (by omega), fun j z1 z2 => v4 j (by omega) z2⟩)⟩, by rw [ht]; exact hP9, va_K.moved hW.alike hK, hD9⟩, hS.F ht⟩) hS.2.2 d_RE_readTypes_125
  · have q25 := nleI c25
    refine lv_aload_n hx hb d_RE_readTypes_28 rfl (lv_at hl 0 rfl) ?_
    refine va_get (D := (dC, dI)) (ci := 7) (v := .int j17_h0_sound) (C := R_RE) (T := F_RE) (N := 8) hx hb hts i_RE hown hK hP 3 rfl rfl 4 (by decide) (hts _ kF_RE_45) (fun _ h9 => h9) rfl d_RE_readTypes_29 ?_
    refine lv_if_eq (tgt := 125) hx hb d_RE_readTypes_32 (by decide) (fun c32 => absurd (eqI c32) (by omega)) (fun c32 => ?_)
    have q32 := neI c32
    have c9 := i32_clamp (x := j17_l1) (by omega)
    obtain ⟨bb9, m1, m2, m3⟩ := hB.out
    obtain ⟨r9, ps9, b9, n1, n2, n3, n4, n5, n6⟩ := tB_hd m1 (by omega)
    subst n5
    replace m2 := bq_cons m2
    have m4 := m2.1
    replace m2 := bq_cons m2.2
    have m5 := m2.1
    have m6 := m2.2
    replace m6 : bx _ := m6
    clear m2 m1
    have h8 := h8s.out r9 n2
    have hty := hts9.out r9 n2
    replace n4 : bx _ := n4
    replace n6 : bx _ := n6
    rw [List.length_cons, List.length_cons, List.length_append, List.length_append] at m3
    have za := i32_clamp (x := j17_h0_at) (by omega)
    have lp : (leb 5 ps9.length).length = 1 := by rw [leb_1 (by omega)]; rfl
    unfold ty at hty
    obtain ⟨X9, hX9⟩ : ∃ X, X = (if (gft r9).toInt.toNat = 64 then [0] else [1, (gft r9).toInt.toNat] : List Nat) := ⟨_, rfl⟩
    rw [← hX9] at m3 m6
    have lX : X9.length = 1 ∨ X9.length = 2 := by rw [hX9]; split; exact Or.inl rfl; exact Or.inr rfl
    refine lv_aload_n hx hb d_RE_readTypes_35 rfl (lv_at hl 0 rfl) ?_
    refine lv_bipush (v := 96) hx hb d_RE_readTypes_36 (by decide) ?_
    have hPc := hP.sub (ws' := [(h0, .inr (7, [.ref aw, .ref ac, .int j17_h0_at, .int h0_limit, .int j17_h0_sound, .int h0_codeCount, .ref ob, .int h0_openCount])), (aw, .inr (10, [.ref ab, .ref ac, .int x5, .ref wat, .ref wap, .ref wag, .int aw_functionCount, .ref waf, .int aw_hasMemory, .long aw_pagesLeast, .long aw_pagesMost, .int aw_globalCount, .ref wgt, .ref wft, .ref wfv, .ref wgc, .int aw_exportCount, .ref wek, .ref wei, .ref wes, .ref wez])), (ab, .inr (1, [.ref ax, .int ab_length])), (ax, .inl (cax, 8192, .inl gax))]) [3, 4, 5, 6] rfl
    have hDc := hD.sub (ws' := [(h0, .inr (7, [.ref aw, .ref ac, .int j17_h0_at, .int h0_limit, .int j17_h0_sound, .int h0_codeCount, .ref ob, .int h0_openCount])), (aw, .inr (10, [.ref ab, .ref ac, .int x5, .ref wat, .ref wap, .ref wag, .int aw_functionCount, .ref waf, .int aw_hasMemory, .long aw_pagesLeast, .long aw_pagesMost, .int aw_globalCount, .ref wgt, .ref wft, .ref wfv, .ref wgc, .int aw_exportCount, .ref wek, .ref wei, .ref wes, .ref wez])), (ab, .inr (1, [.ref ax, .int ab_length])), (ax, .inl (cax, 8192, .inl gax))]) [3, 4, 5, 6] (by decide) rfl
    have hKc := hK.sub (tys' := [(cax, .byte)]) [0] rfl
    have hFc := va_free (wc := [(h0, .inr (7, [.ref aw, .ref ac, .int j17_h0_at, .int h0_limit, .int j17_h0_sound, .int h0_codeCount, .ref ob, .int h0_openCount])), (aw, .inr (10, [.ref ab, .ref ac, .int x5, .ref wat, .ref wap, .ref wag, .int aw_functionCount, .ref waf, .int aw_hasMemory, .long aw_pagesLeast, .long aw_pagesMost, .int aw_globalCount, .ref wgt, .ref wft, .ref wfv, .ref wgc, .int aw_exportCount, .ref wek, .ref wei, .ref wes, .ref wez])), (ab, .inr (1, [.ref ax, .int ab_length])), (ax, .inl (cax, 8192, .inl gax))]) hD hS hA [3, 4, 5, 6] rfl
    refine va_callv (va_runV (As := [.int 96]) (rest := []) ⟨hx, hb, hml, hown, hts⟩ (c_RE_expectx l dC dI H.size h0 aw ac ob ab wat wap wag waf wgt wft wfv wgc wek wei wes wez ax cax j17_h0_at h0_limit j17_h0_sound h0_codeCount h0_openCount x5 aw_functionCount aw_hasMemory aw_pagesLeast aw_pagesMost aw_globalCount aw_exportCount ab_length gax (b_j17_h0_sound) 96 (by omega) (by omega) (by omega) (by (try dsimp only) <;> omega)) (cwV 1 hts (gV kM_RE_56 kV_RE_expect kS_RE_expect kI_RE kC_RE_expect) rfl rfl rfl (by decide +kernel) ⟨Nat.le_of_ble_eq_true rfl, Nat.le_of_ble_eq_true rfl⟩) ⟨fun a U g mk z => by obtain ⟨z0, z1, zP, zK, zD⟩ := z; exact ⟨z0, z1, zP, va_K.moved (u := U) (U := U.calling g mk a) (Vm.Alike.refl U.vm) zK, zD⟩, va_recv hKc hPc (ci := 7) (q0 := 0) rfl rfl, fun U hU hW => ⟨rfl, by rw [hU], by rw [hU]; exact hPc, va_K.moved hW.alike hKc, hDc.weaken (fun _ _ _ _ => trivial)⟩⟩ rfl rfl hl.1 rfl (lv_room (Nat.le_of_ble_eq_true rfl)) d_RE_readTypes_38 ⟨(Nat.zero_le _), (Nat.zero_le _)⟩) hS (fun q _ h => hFc q h) hFc (fun u t H1 locs ht hvm hw hB hz1 hk1 hS => ?_)
    obtain ⟨n7, n8⟩ := u
    try dsimp only at hw
    obtain ⟨bn8, xr6⟩ := hw
    try clear hw
    have tn8 := b01 bn8
    have za38 := i32_clamp (x := n7) (by omega)
    have ea38 : n7.toNatClampNeg = j17_h0_at.toNatClampNeg + 1 := by omega
    obtain ⟨hP1, hK1, hD1⟩ := hB
    rw [ht] at hP1
    obtain ⟨hP, hD⟩ := va_join (wr := [(wat, .inl (cwat, 20, .inl j17_wat)), (wap, .inl (cwap, 160, .inl j17_wap)), (wag, .inl (cwag, 20, .inl j17_wag))]) (w1 := [(h0, .inr (7, [.ref aw, .ref ac, .int n7, .int h0_limit, .int n8, .int h0_codeCount, .ref ob, .int h0_openCount])), (aw, .inr (10, [.ref ab, .ref ac, .int x5, .ref wat, .ref wap, .ref wag, .int aw_functionCount, .ref waf, .int aw_hasMemory, .long aw_pagesLeast, .long aw_pagesMost, .int aw_globalCount, .ref wgt, .ref wft, .ref wfv, .ref wgc, .int aw_exportCount, .ref wek, .ref wei, .ref wes, .ref wez])), (ab, .inr (1, [.ref ax, .int ab_length])), (ax, .inl (cax, 8192, .inl gax))]) hP hD [3, 4, 5, 6] [0, 1, 2] rfl rfl (by decide) (by decide) hk1 hFc hP1 hD1
    clear hPc hDc hKc hFc hz1 hk1 hP1 hK1 hD1
    generalize H1 = H at hP hS ⊢
    have hP : va_P (dC, dI) cls [(wat, .inl (cwat, 20, .inl j17_wat)), (wap, .inl (cwap, 160, .inl j17_wap)), (wag, .inl (cwag, 20, .inl j17_wag)), (h0, .inr (7, [.ref aw, .ref ac, .int n7, .int h0_limit, .int n8, .int h0_codeCount, .ref ob, .int h0_openCount])), (aw, .inr (10, [.ref ab, .ref ac, .int x5, .ref wat, .ref wap, .ref wag, .int aw_functionCount, .ref waf, .int aw_hasMemory, .long aw_pagesLeast, .long aw_pagesMost, .int aw_globalCount, .ref wgt, .ref wft, .ref wfv, .ref wgc, .int aw_exportCount, .ref wek, .ref wei, .ref wes, .ref wez])), (ab, .inr (1, [.ref ax, .int ab_length])), (ax, .inl (cax, 8192, .inl gax))] H := hP
    have hD : va_D A [(wat, .inl (cwat, 20, .inl j17_wat)), (wap, .inl (cwap, 160, .inl j17_wap)), (wag, .inl (cwag, 20, .inl j17_wag)), (h0, .inr (7, [.ref aw, .ref ac, .int n7, .int h0_limit, .int n8, .int h0_codeCount, .ref ob, .int h0_openCount])), (aw, .inr (10, [.ref ab, .ref ac, .int x5, .ref wat, .ref wap, .ref wag, .int aw_functionCount, .ref waf, .int aw_hasMemory, .long aw_pagesLeast, .long aw_pagesMost, .int aw_globalCount, .ref wgt, .ref wft, .ref wfv, .ref wgc, .int aw_exportCount, .ref wek, .ref wei, .ref wes, .ref wez])), (ab, .inr (1, [.ref ax, .int ab_length])), (ax, .inl (cax, 8192, .inl gax))] := hD
    refine lv_aload_n hx hb d_RE_readTypes_41 rfl (lv_at hl 0 rfl) ?_
    refine lv_ldc2 hx hb hown (hts _ kL_RE_101) d_RE_readTypes_42 ?_
    refine lv_topl (fun x9 ex9 => ?_)
    have tx9 : x9.toInt = 8 := by rw [ex9]; decide
    have hPc := hP.sub (ws' := [(h0, .inr (7, [.ref aw, .ref ac, .int n7, .int h0_limit, .int n8, .int h0_codeCount, .ref ob, .int h0_openCount])), (aw, .inr (10, [.ref ab, .ref ac, .int x5, .ref wat, .ref wap, .ref wag, .int aw_functionCount, .ref waf, .int aw_hasMemory, .long aw_pagesLeast, .long aw_pagesMost, .int aw_globalCount, .ref wgt, .ref wft, .ref wfv, .ref wgc, .int aw_exportCount, .ref wek, .ref wei, .ref wes, .ref wez])), (ab, .inr (1, [.ref ax, .int ab_length])), (ax, .inl (cax, 8192, .inl gax))]) [3, 4, 5, 6] rfl
    have hDc := hD.sub (ws' := [(h0, .inr (7, [.ref aw, .ref ac, .int n7, .int h0_limit, .int n8, .int h0_codeCount, .ref ob, .int h0_openCount])), (aw, .inr (10, [.ref ab, .ref ac, .int x5, .ref wat, .ref wap, .ref wag, .int aw_functionCount, .ref waf, .int aw_hasMemory, .long aw_pagesLeast, .long aw_pagesMost, .int aw_globalCount, .ref wgt, .ref wft, .ref wfv, .ref wgc, .int aw_exportCount, .ref wek, .ref wei, .ref wes, .ref wez])), (ab, .inr (1, [.ref ax, .int ab_length])), (ax, .inl (cax, 8192, .inl gax))]) [3, 4, 5, 6] (by decide) rfl
    have hKc := hK.sub (tys' := [(cax, .byte)]) [0] rfl
    have hFc := va_free (wc := [(h0, .inr (7, [.ref aw, .ref ac, .int n7, .int h0_limit, .int n8, .int h0_codeCount, .ref ob, .int h0_openCount])), (aw, .inr (10, [.ref ab, .ref ac, .int x5, .ref wat, .ref wap, .ref wag, .int aw_functionCount, .ref waf, .int aw_hasMemory, .long aw_pagesLeast, .long aw_pagesMost, .int aw_globalCount, .ref wgt, .ref wft, .ref wfv, .ref wgc, .int aw_exportCount, .ref wek, .ref wei, .ref wes, .ref wez])), (ab, .inr (1, [.ref ax, .int ab_length])), (ax, .inl (cax, 8192, .inl gax))]) hD hS hA [3, 4, 5, 6] rfl
    refine va_calll (va_runV (As := [.long x9]) (rest := []) ⟨hx, hb, hml, hown, hts⟩ (c_RE_readUnsignedx l dC dI H.size h0 aw ac ob ab wat wap wag waf wgt wft wfv wgc wek wei wes wez ax cax n7 h0_limit n8 h0_codeCount h0_openCount x5 aw_functionCount aw_hasMemory aw_pagesLeast aw_pagesMost aw_globalCount aw_exportCount ab_length gax ps9.length (bn8) x9 (by omega) (by omega) (by omega) ((by rw [leb_1 (by omega)]; exact ⟨(by rw [ea38]; exact m5), trivial⟩)) (by omega)) (cwV 1 hts (gV kM_RE_64 kV_RE_readUnsigned kS_RE_readUnsigned kI_RE kC_RE_readUnsigned) rfl rfl rfl (by decide +kernel) ⟨Nat.le_of_ble_eq_true rfl, Nat.le_of_ble_eq_true rfl⟩) ⟨fun a U g mk z => by obtain ⟨z0, z1, zP, zK, zD⟩ := z; exact ⟨z0, z1, zP, va_K.moved (u := U) (U := U.calling g mk a) (Vm.Alike.refl U.vm) zK, zD⟩, va_recv hKc hPc (ci := 7) (q0 := 0) rfl rfl, fun U hU hW => ⟨rfl, by rw [hU], by rw [hU]; exact hPc, va_K.moved hW.alike hKc, hDc.weaken (fun _ _ _ _ => trivial)⟩⟩ rfl rfl hl.1 rfl (lv_room (Nat.le_of_ble_eq_true rfl)) d_RE_readTypes_45 ⟨(Nat.zero_le _), (Nat.zero_le _)⟩) hS (fun q _ h => hFc q h) hFc (fun r10 u t H1 locs ht hvm hw hB hz1 hk1 hS => ?_)
    obtain ⟨n11, n12⟩ := u
    try dsimp only at hw
    obtain ⟨bn12, xr10⟩ := hw
    try clear hw
    have tn12 := b01 bn12
    have za45 := i32_clamp (x := n11) (by omega)
    obtain ⟨hP1, hK1, hD1⟩ := hB
    rw [ht] at hP1
    obtain ⟨hP, hD⟩ := va_join (wr := [(wat, .inl (cwat, 20, .inl j17_wat)), (wap, .inl (cwap, 160, .inl j17_wap)), (wag, .inl (cwag, 20, .inl j17_wag))]) (w1 := [(h0, .inr (7, [.ref aw, .ref ac, .int n11, .int h0_limit, .int n12, .int h0_codeCount, .ref ob, .int h0_openCount])), (aw, .inr (10, [.ref ab, .ref ac, .int x5, .ref wat, .ref wap, .ref wag, .int aw_functionCount, .ref waf, .int aw_hasMemory, .long aw_pagesLeast, .long aw_pagesMost, .int aw_globalCount, .ref wgt, .ref wft, .ref wfv, .ref wgc, .int aw_exportCount, .ref wek, .ref wei, .ref wes, .ref wez])), (ab, .inr (1, [.ref ax, .int ab_length])), (ax, .inl (cax, 8192, .inl gax))]) hP hD [3, 4, 5, 6] [0, 1, 2] rfl rfl (by decide) (by decide) hk1 hFc hP1 hD1
    clear hPc hDc hKc hFc hz1 hk1 hP1 hK1 hD1
    generalize H1 = H at hP hS ⊢
    have hP : va_P (dC, dI) cls [(wat, .inl (cwat, 20, .inl j17_wat)), (wap, .inl (cwap, 160, .inl j17_wap)), (wag, .inl (cwag, 20, .inl j17_wag)), (h0, .inr (7, [.ref aw, .ref ac, .int n11, .int h0_limit, .int n12, .int h0_codeCount, .ref ob, .int h0_openCount])), (aw, .inr (10, [.ref ab, .ref ac, .int x5, .ref wat, .ref wap, .ref wag, .int aw_functionCount, .ref waf, .int aw_hasMemory, .long aw_pagesLeast, .long aw_pagesMost, .int aw_globalCount, .ref wgt, .ref wft, .ref wfv, .ref wgc, .int aw_exportCount, .ref wek, .ref wei, .ref wes, .ref wez])), (ab, .inr (1, [.ref ax, .int ab_length])), (ax, .inl (cax, 8192, .inl gax))] H := hP
    have hD : va_D A [(wat, .inl (cwat, 20, .inl j17_wat)), (wap, .inl (cwap, 160, .inl j17_wap)), (wag, .inl (cwag, 20, .inl j17_wag)), (h0, .inr (7, [.ref aw, .ref ac, .int n11, .int h0_limit, .int n12, .int h0_codeCount, .ref ob, .int h0_openCount])), (aw, .inr (10, [.ref ab, .ref ac, .int x5, .ref wat, .ref wap, .ref wag, .int aw_functionCount, .ref waf, .int aw_hasMemory, .long aw_pagesLeast, .long aw_pagesMost, .int aw_globalCount, .ref wgt, .ref wft, .ref wfv, .ref wgc, .int aw_exportCount, .ref wek, .ref wei, .ref wes, .ref wez])), (ab, .inr (1, [.ref ax, .int ab_length])), (ax, .inl (cax, 8192, .inl gax))] := hD
    refine lv_l2i hx hb d_RE_readTypes_48 rfl ?_
    refine lv_topi (fun x13 ex13 => ?_)
    have tx13 := l2i_t ex13 (by omega) (by omega)
    refine lv_istore_n (lv' := [(2, .int x13), (0, .ref h0), (1, .int j17_l1)]) hx hb d_RE_readTypes_49 rfl hl (by decide) rfl (fun ls hl => ?_)
    refine lv_aload_n hx hb d_RE_readTypes_50 rfl (lv_at hl 1 rfl) ?_
    refine va_get (D := (dC, dI)) (ci := 7) (v := .ref aw) (C := R_RE) (T := F_RE) (N := 8) hx hb hts i_RE hown hK hP 3 rfl rfl 0 (by decide) (hts _ kF_RE_15) (fun _ h9 => h9) rfl d_RE_readTypes_51 ?_
    refine va_get (D := (dC, dI)) (ci := 10) (v := .ref wat) (C := R_WA) (T := F_WA) (N := 21) hx hb hts i_WA hown hK hP 4 rfl rfl 3 (by decide) (hts _ kF_RE_103) (fun _ h9 => h9) rfl d_RE_readTypes_54 ?_
    refine lv_iload_n hx hb d_RE_readTypes_57 rfl (lv_at hl 2 rfl) ?_
    refine lv_iload_n hx hb d_RE_readTypes_58 rfl (lv_at hl 0 rfl) ?_
    have g59 : vp_in j17_l1 20 := vp_in_iff.mpr ⟨by omega, by omega⟩
    refine va_iast hx hb hK hP hD hS 0 1 rfl rfl g59 d_RE_readTypes_59 (fun H locs hP hD hS => ?_)
    generalize ef14 : upd j17_wat j17_l1.toNatClampNeg x13 = f14 at hP hD
    have eW := ef14
    refine lv_iconst (v := 0) hx hb d_RE_readTypes_60 (by decide) ?_
    refine lv_istore_n (lv' := [(3, .int 0), (2, .int x13), (0, .ref h0), (1, .int j17_l1)]) hx hb d_RE_readTypes_61 rfl hl (by decide) rfl (fun ls hl => ?_)
    refine w_loop (σ := Int32 × (Nat → Int32) × Int32 × Int32) (fun u H locs ls => match u with | (j62_l3, j62_wap, j62_h0_at, j62_h0_sound) => (0 ≤ j62_l3.toInt ∧ j62_l3.toInt ≤ 8) ∧ (j62_h0_sound = 0 ∨ j62_h0_sound = 1) ∧ (j62_l3.toInt ≤ x13.toInt ∧ j62_h0_at.toInt = j17_h0_at.toInt + 2 + j62_l3.toInt ∧ j62_h0_sound.toInt = 1) ∧ (∀ j : Nat, ((j : Int) < 8 * j17_l1.toInt ∧ ((j % 8 : Nat) : Int) < (f14 (j / 8)).toInt) ∨ (8 * j17_l1.toInt ≤ (j : Int) ∧ (j : Int) < 8 * j17_l1.toInt + j62_l3.toInt) → ((j62_wap j).toInt = 127 ∨ (j62_wap j).toInt = 126)) ∧ (bx (bq gax j62_h0_at.toNatClampNeg (ps9.drop j62_l3.toNatClampNeg ++ (X9 ++ b9)))) ∧ va_P (dC, dI) cls [(wat, .inl (cwat, 20, .inl f14)), (wap, .inl (cwap, 160, .inl j62_wap)), (wag, .inl (cwag, 20, .inl j17_wag)), (h0, .inr (7, [.ref aw, .ref ac, .int j62_h0_at, .int h0_limit, .int j62_h0_sound, .int h0_codeCount, .ref ob, .int h0_openCount])), (aw, .inr (10, [.ref ab, .ref ac, .int x5, .ref wat, .ref wap, .ref wag, .int aw_functionCount, .ref waf, .int aw_hasMemory, .long aw_pagesLeast, .long aw_pagesMost, .int aw_globalCount, .ref wgt, .ref wft, .ref wfv, .ref wgc, .int aw_exportCount, .ref wek, .ref wei, .ref wes, .ref wez])), (ab, .inr (1, [.ref ax, .int ab_length])), (ax, .inl (cax, 8192, .inl gax))] H ∧ va_D A [(wat, .inl (cwat, 20, .inl f14)), (wap, .inl (cwap, 160, .inl j62_wap)), (wag, .inl (cwag, 20, .inl j17_wag)), (h0, .inr (7, [.ref aw, .ref ac, .int j62_h0_at, .int h0_limit, .int j62_h0_sound, .int h0_codeCount, .ref ob, .int h0_openCount])), (aw, .inr (10, [.ref ab, .ref ac, .int x5, .ref wat, .ref wap, .ref wag, .int aw_functionCount, .ref waf, .int aw_hasMemory, .long aw_pagesLeast, .long aw_pagesMost, .int aw_globalCount, .ref wgt, .ref wft, .ref wfv, .ref wgc, .int aw_exportCount, .ref wek, .ref wei, .ref wes, .ref wez])), (ab, .inr (1, [.ref ax, .int ab_length])), (ax, .inl (cax, 8192, .inl gax))] ∧ va_S A s.heap H locs ∧ lv_has ls 4 [(0, .ref h0), (1, .int j17_l1), (2, .int x13), (3, .int j62_l3)]) (fun u => match u with | (j62_l3, j62_wap, j62_h0_at, j62_h0_sound) => (x13.toInt - j62_l3.toInt).toNat) ?_ (0, j17_wap, n11, n12) ⟨by (try dsimp only) <;> omega, bn12, by (try dsimp only) <;> omega, fun j q => q.elim (fun q => v4 j q.1 (by have q2 := q.2; rw [← eW, pk_un (show j / 8 ≠ j17_l1.toNatClampNeg by omega)] at q2; exact q2)) (fun q => absurd q.2 (by show ¬ (j : Int) < 8 * j17_l1.toInt + 0; omega)), (bq_at m6.out (by omega)), hP, hD, hS, lv_sub hl [2, 3, 1, 0] rfl⟩
    intro N62 ih62 u H locs ls hN62 hI
    obtain ⟨j62_l3, j62_wap, j62_h0_at, j62_h0_sound⟩ := u
    obtain ⟨b_j62_l3, b_j62_h0_sound, u1, u4, hq62, hP, hD, hS, hl⟩ := hI
    have tj62_h0_sound := b01 b_j62_h0_sound
    have hN62 : (x13.toInt - j62_l3.toInt).toNat < N62 + 1 := hN62
    refine lv_iload_n hx hb d_RE_readTypes_62 rfl (lv_at hl 3 rfl) ?_
    refine lv_iload_n hx hb d_RE_readTypes_63 rfl (lv_at hl 2 rfl) ?_
    refine lv_icmp_ge (tgt := 91) hx hb d_RE_readTypes_64 (by decide) (fun c64 => ?_) (fun c64 => ?_)
    · have q64 := leI c64
      have q91 := hq62.out
      rw [List.drop_of_length_le (by have := i32_clamp (x := j62_l3) (by omega); omega), List.nil_append] at q91
      have q92 := bq_app q91
      have q93 := q92.2
      replace q93 : bx _ := q93
      have q92 := q92.1
      rw [hX9] at q92
      have z62 := i32_clamp (x := j62_h0_at) (by omega)
      have g91 : ((gft r9).toInt = 64 ∧ bn (gax j62_h0_at.toNatClampNeg) = 0 ∧ X9.length = 1) ∨ ((gft r9).toInt ≠ 64 ∧ bn (gax j62_h0_at.toNatClampNeg) = 1 ∧ bn (gax (j62_h0_at.toNatClampNeg + 1)) = (gft r9).toInt.toNat ∧ X9.length = 2) := by by_cases q : (gft r9).toInt.toNat = 64; (rw [if_pos q] at q92 hX9; exact Or.inl ⟨by omega, q92.1, by rw [hX9]; rfl⟩); (rw [if_neg q] at q92 hX9; exact Or.inr ⟨by omega, q92.1, q92.2.1, by rw [hX9]; rfl⟩)
      clear q92 q91
      obtain ⟨gb9, hgb⟩ : ∃ g : Nat, g = bn (gax j62_h0_at.toNatClampNeg) := ⟨_, rfl⟩
      have gb1 : gb9 ≤ 1 := by omega
      have lg : (leb 5 gb9).length = 1 := by rw [leb_1 (by omega)]; rfl
      refine lv_aload_n hx hb d_RE_readTypes_91 rfl (lv_at hl 0 rfl) ?_
      refine va_get (D := (dC, dI)) (ci := 7) (v := .ref aw) (C := R_RE) (T := F_RE) (N := 8) hx hb hts i_RE hown hK hP 3 rfl rfl 0 (by decide) (hts _ kF_RE_15) (fun _ h9 => h9) rfl d_RE_readTypes_92 ?_
      refine va_get (D := (dC, dI)) (ci := 10) (v := .ref wag) (C := R_WA) (T := F_WA) (N := 21) hx hb hts i_WA hown hK hP 4 rfl rfl 5 (by decide) (hts _ kF_RE_112) (fun _ h9 => h9) rfl d_RE_readTypes_95 ?_
      refine lv_iload_n hx hb d_RE_readTypes_98 rfl (lv_at hl 1 rfl) ?_
      refine lv_aload_n hx hb d_RE_readTypes_99 rfl (lv_at hl 0 rfl) ?_
      refine lv_lconst (v := 1) hx hb d_RE_readTypes_100 (by decide) ?_
      have kl1 : (1 : Int64).toInt = 1 := by decide
      have hPc := hP.sub (ws' := [(h0, .inr (7, [.ref aw, .ref ac, .int j62_h0_at, .int h0_limit, .int j62_h0_sound, .int h0_codeCount, .ref ob, .int h0_openCount])), (aw, .inr (10, [.ref ab, .ref ac, .int x5, .ref wat, .ref wap, .ref wag, .int aw_functionCount, .ref waf, .int aw_hasMemory, .long aw_pagesLeast, .long aw_pagesMost, .int aw_globalCount, .ref wgt, .ref wft, .ref wfv, .ref wgc, .int aw_exportCount, .ref wek, .ref wei, .ref wes, .ref wez])), (ab, .inr (1, [.ref ax, .int ab_length])), (ax, .inl (cax, 8192, .inl gax))]) [3, 4, 5, 6] rfl
      have hDc := hD.sub (ws' := [(h0, .inr (7, [.ref aw, .ref ac, .int j62_h0_at, .int h0_limit, .int j62_h0_sound, .int h0_codeCount, .ref ob, .int h0_openCount])), (aw, .inr (10, [.ref ab, .ref ac, .int x5, .ref wat, .ref wap, .ref wag, .int aw_functionCount, .ref waf, .int aw_hasMemory, .long aw_pagesLeast, .long aw_pagesMost, .int aw_globalCount, .ref wgt, .ref wft, .ref wfv, .ref wgc, .int aw_exportCount, .ref wek, .ref wei, .ref wes, .ref wez])), (ab, .inr (1, [.ref ax, .int ab_length])), (ax, .inl (cax, 8192, .inl gax))]) [3, 4, 5, 6] (by decide) rfl
      have hKc := hK.sub (tys' := [(cax, .byte)]) [0] rfl
      have hFc := va_free (wc := [(h0, .inr (7, [.ref aw, .ref ac, .int j62_h0_at, .int h0_limit, .int j62_h0_sound, .int h0_codeCount, .ref ob, .int h0_openCount])), (aw, .inr (10, [.ref ab, .ref ac, .int x5, .ref wat, .ref wap, .ref wag, .int aw_functionCount, .ref waf, .int aw_hasMemory, .long aw_pagesLeast, .long aw_pagesMost, .int aw_globalCount, .ref wgt, .ref wft, .ref wfv, .ref wgc, .int aw_exportCount, .ref wek, .ref wei, .ref wes, .ref wez])), (ab, .inr (1, [.ref ax, .int ab_length])), (ax, .inl (cax, 8192, .inl gax))]) hD hS hA [3, 4, 5, 6] rfl
      refine va_calll (va_runV (As := [.long 1]) (rest := [.int j17_l1, .ref wag]) ⟨hx, hb, hml, hown, hts⟩ (c_RE_readUnsignedx l dC dI H.size h0 aw ac ob ab wat wap wag waf wgt wft wfv wgc wek wei wes wez ax cax j62_h0_at h0_limit j62_h0_sound h0_codeCount h0_openCount x5 aw_functionCount aw_hasMemory aw_pagesLeast aw_pagesMost aw_globalCount aw_exportCount ab_length gax gb9 (b_j62_h0_sound) 1 (by omega) (by omega) (by omega) ((by rw [leb_1 (by omega)]; exact ⟨hgb.symm, trivial⟩)) (by omega)) (cwV 1 hts (gV kM_RE_64 kV_RE_readUnsigned kS_RE_readUnsigned kI_RE kC_RE_readUnsigned) rfl rfl rfl (by decide +kernel) ⟨Nat.le_of_ble_eq_true rfl, Nat.le_of_ble_eq_true rfl⟩) ⟨fun a U g mk z => by obtain ⟨z0, z1, zP, zK, zD⟩ := z; exact ⟨z0, z1, zP, va_K.moved (u := U) (U := U.calling g mk a) (Vm.Alike.refl U.vm) zK, zD⟩, va_recv hKc hPc (ci := 7) (q0 := 0) rfl rfl, fun U hU hW => ⟨rfl, by rw [hU], by rw [hU]; exact hPc, va_K.moved hW.alike hKc, hDc.weaken (fun _ _ _ _ => trivial)⟩⟩ rfl rfl hl.1 rfl (lv_room (Nat.le_of_ble_eq_true rfl)) d_RE_readTypes_101 ⟨(Nat.zero_le _), (Nat.zero_le _)⟩) hS (fun q _ h => hFc q h) hFc (fun r15 u t H1 locs ht hvm hw hB hz1 hk1 hS => ?_)
      obtain ⟨n16, n17⟩ := u
      try dsimp only at hw
      obtain ⟨bn17, xr15⟩ := hw
      try clear hw
      have tn17 := b01 bn17
      have za101 := i32_clamp (x := n16) (by omega)
      have ea101 : j62_h0_at.toNatClampNeg + 1 = n16.toNatClampNeg := by omega
      rw [ea101] at g91
      obtain ⟨hP1, hK1, hD1⟩ := hB
      rw [ht] at hP1
      obtain ⟨hP, hD⟩ := va_join (wr := [(wat, .inl (cwat, 20, .inl f14)), (wap, .inl (cwap, 160, .inl j62_wap)), (wag, .inl (cwag, 20, .inl j17_wag))]) (w1 := [(h0, .inr (7, [.ref aw, .ref ac, .int n16, .int h0_limit, .int n17, .int h0_codeCount, .ref ob, .int h0_openCount])), (aw, .inr (10, [.ref ab, .ref ac, .int x5, .ref wat, .ref wap, .ref wag, .int aw_functionCount, .ref waf, .int aw_hasMemory, .long aw_pagesLeast, .long aw_pagesMost, .int aw_globalCount, .ref wgt, .ref wft, .ref wfv, .ref wgc, .int aw_exportCount, .ref wek, .ref wei, .ref wes, .ref wez])), (ab, .inr (1, [.ref ax, .int ab_length])), (ax, .inl (cax, 8192, .inl gax))]) hP hD [3, 4, 5, 6] [0, 1, 2] rfl rfl (by decide) (by decide) hk1 hFc hP1 hD1
      clear hPc hDc hKc hFc hz1 hk1 hP1 hK1 hD1
      generalize H1 = H at hP hS ⊢
      have hP : va_P (dC, dI) cls [(wat, .inl (cwat, 20, .inl f14)), (wap, .inl (cwap, 160, .inl j62_wap)), (wag, .inl (cwag, 20, .inl j17_wag)), (h0, .inr (7, [.ref aw, .ref ac, .int n16, .int h0_limit, .int n17, .int h0_codeCount, .ref ob, .int h0_openCount])), (aw, .inr (10, [.ref ab, .ref ac, .int x5, .ref wat, .ref wap, .ref wag, .int aw_functionCount, .ref waf, .int aw_hasMemory, .long aw_pagesLeast, .long aw_pagesMost, .int aw_globalCount, .ref wgt, .ref wft, .ref wfv, .ref wgc, .int aw_exportCount, .ref wek, .ref wei, .ref wes, .ref wez])), (ab, .inr (1, [.ref ax, .int ab_length])), (ax, .inl (cax, 8192, .inl gax))] H := hP
      have hD : va_D A [(wat, .inl (cwat, 20, .inl f14)), (wap, .inl (cwap, 160, .inl j62_wap)), (wag, .inl (cwag, 20, .inl j17_wag)), (h0, .inr (7, [.ref aw, .ref ac, .int n16, .int h0_limit, .int n17, .int h0_codeCount, .ref ob, .int h0_openCount])), (aw, .inr (10, [.ref ab, .ref ac, .int x5, .ref wat, .ref wap, .ref wag, .int aw_functionCount, .ref waf, .int aw_hasMemory, .long aw_pagesLeast, .long aw_pagesMost, .int aw_globalCount, .ref wgt, .ref wft, .ref wfv, .ref wgc, .int aw_exportCount, .ref wek, .ref wei, .ref wes, .ref wez])), (ab, .inr (1, [.ref ax, .int ab_length])), (ax, .inl (cax, 8192, .inl gax))] := hD
      refine lv_lconst (v := 1) hx hb d_RE_readTypes_104 (by decide) ?_
      have kl1 : (1 : Int64).toInt = 1 := by decide
      refine W.lcmp hx hb d_RE_readTypes_105 ?_
      refine lv_topi (fun x18 ex18 => ?_)
      have tx18 := lgc ex18
      refine w_cut (pc2 := 118) (σ := Int32 × Int32 × Int32) (fun u H locs ls => match u with | (j118_s0, j118_h0_at, j118_h0_sound) => (j118_h0_sound = 0 ∨ j118_h0_sound = 1) ∧ (j118_s0.toInt = (gft r9).toInt ∧ j118_h0_at.toInt = j62_h0_at.toInt + (X9.length : Int) ∧ j118_h0_sound.toInt = 1) ∧ va_P (dC, dI) cls [(wat, .inl (cwat, 20, .inl f14)), (wap, .inl (cwap, 160, .inl j62_wap)), (wag, .inl (cwag, 20, .inl j17_wag)), (h0, .inr (7, [.ref aw, .ref ac, .int j118_h0_at, .int h0_limit, .int j118_h0_sound, .int h0_codeCount, .ref ob, .int h0_openCount])), (aw, .inr (10, [.ref ab, .ref ac, .int x5, .ref wat, .ref wap, .ref wag, .int aw_functionCount, .ref waf, .int aw_hasMemory, .long aw_pagesLeast, .long aw_pagesMost, .int aw_globalCount, .ref wgt, .ref wft, .ref wfv, .ref wgc, .int aw_exportCount, .ref wek, .ref wei, .ref wes, .ref wez])), (ab, .inr (1, [.ref ax, .int ab_length])), (ax, .inl (cax, 8192, .inl gax))] H ∧ va_D A [(wat, .inl (cwat, 20, .inl f14)), (wap, .inl (cwap, 160, .inl j62_wap)), (wag, .inl (cwag, 20, .inl j17_wag)), (h0, .inr (7, [.ref aw, .ref ac, .int j118_h0_at, .int h0_limit, .int j118_h0_sound, .int h0_codeCount, .ref ob, .int h0_openCount])), (aw, .inr (10, [.ref ab, .ref ac, .int x5, .ref wat, .ref wap, .ref wag, .int aw_functionCount, .ref waf, .int aw_hasMemory, .long aw_pagesLeast, .long aw_pagesMost, .int aw_globalCount, .ref wgt, .ref wft, .ref wfv, .ref wgc, .int aw_exportCount, .ref wek, .ref wei, .ref wes, .ref wez])), (ab, .inr (1, [.ref ax, .int ab_length])), (ax, .inl (cax, 8192, .inl gax))] ∧ va_S A s.heap H locs ∧ lv_has ls 4 [(0, .ref h0), (1, .int j17_l1)]) (fun u => match u with | (j118_s0, j118_h0_at, j118_h0_sound) => [.int j118_s0, .int j17_l1, .ref wag]) ?_ (fun jn118 => ?_)
      · intro u H locs ls hI
        obtain ⟨j118_s0, j118_h0_at, j118_h0_sound⟩ := u
        obtain ⟨b_j118_h0_sound, y118, hP, hD, hS, hl⟩ := hI
        have tj118_h0_sound := b01 b_j118_h0_sound
        have g118 : vp_in j17_l1 20 := vp_in_iff.mpr ⟨by omega, by omega⟩
        refine va_iast hx hb hK hP hD hS 2 3 rfl rfl g118 d_RE_readTypes_118 (fun H locs hP hD hS => ?_)
        generalize ef19 : upd j17_wag j17_l1.toNatClampNeg j118_s0 = f19 at hP hD
        obtain ⟨x20, ex20⟩ : ∃ z : Int32, z = j17_l1 + 1 := ⟨_, rfl⟩
        have tx20 : x20.toInt = j17_l1.toInt + 1 := by have z := i32_add ex20 (by omega) (by omega); omega
        refine lv_iinc (v := x20) (lv' := [(1, .int x20), (0, .ref h0)]) hx hb d_RE_readTypes_119 hl (k := 1) rfl (by rw [ex20]; rfl) (by decide) rfl (fun ls hl => ?_)
        refine lv_goto (tgt := 17) hx hb d_RE_readTypes_122 (by decide) ?_
        exact ih17 (x20, f19, j62_wap, f14, j118_h0_at, j118_h0_sound) _ _ _ (by show (x5.toInt - x20.toInt).toNat < N17; omega) ⟨by (try dsimp only) <;> omega, b_j118_h0_sound, by (try dsimp only) <;> omega, (by rw [show x20.toNatClampNeg = j17_l1.toNatClampNeg + 1 from clampN (by omega)]; exact ⟨b9, n6.out, bq_at q93.out (by have := i32_clamp (x := j118_h0_at) (by omega); omega), by omega⟩), fun t z => by rw [← ef19, ← eW]; by_cases q : t = j17_l1.toNatClampNeg; (subst q; rw [pk_us, pk_us]; exact ⟨r9, n1, by omega, by omega⟩); (rw [pk_un q, pk_un q]; exact v3 t (by omega)), fun j z1 z2 => by by_cases q : (j : Int) < 8 * j17_l1.toInt; exact u4 j (Or.inl ⟨q, z2⟩); exact u4 j (Or.inr ⟨by omega, by rw [← eW, show j / 8 = j17_l1.toNatClampNeg from by omega, pk_us] at z2; omega⟩), hP, hD, hS, lv_sub hl [1, 0] rfl⟩
      · skip
        refine lv_if_ne (tgt := 116) hx hb d_RE_readTypes_106 (by decide) (fun c106 => ?_) (fun c106 => ?_)
        · have q106 := neI c106
          refine lv_bipush (v := 64) hx hb d_RE_readTypes_116 (by decide) ?_
          exact jn118 (64, n16, n17) _ _ _ ⟨bn17, by (try dsimp only) <;> omega, hP, hD, hS, lv_sub hl [0, 1] rfl⟩
        · have q106 := eqI c106
          refine lv_aload_n hx hb d_RE_readTypes_109 rfl (lv_at hl 0 rfl) ?_
          have hPc := hP.sub (ws' := [(h0, .inr (7, [.ref aw, .ref ac, .int n16, .int h0_limit, .int n17, .int h0_codeCount, .ref ob, .int h0_openCount])), (aw, .inr (10, [.ref ab, .ref ac, .int x5, .ref wat, .ref wap, .ref wag, .int aw_functionCount, .ref waf, .int aw_hasMemory, .long aw_pagesLeast, .long aw_pagesMost, .int aw_globalCount, .ref wgt, .ref wft, .ref wfv, .ref wgc, .int aw_exportCount, .ref wek, .ref wei, .ref wes, .ref wez])), (ab, .inr (1, [.ref ax, .int ab_length])), (ax, .inl (cax, 8192, .inl gax))]) [3, 4, 5, 6] rfl
          have hDc := hD.sub (ws' := [(h0, .inr (7, [.ref aw, .ref ac, .int n16, .int h0_limit, .int n17, .int h0_codeCount, .ref ob, .int h0_openCount])), (aw, .inr (10, [.ref ab, .ref ac, .int x5, .ref wat, .ref wap, .ref wag, .int aw_functionCount, .ref waf, .int aw_hasMemory, .long aw_pagesLeast, .long aw_pagesMost, .int aw_globalCount, .ref wgt, .ref wft, .ref wfv, .ref wgc, .int aw_exportCount, .ref wek, .ref wei, .ref wes, .ref wez])), (ab, .inr (1, [.ref ax, .int ab_length])), (ax, .inl (cax, 8192, .inl gax))]) [3, 4, 5, 6] (by decide) rfl
          have hKc := hK.sub (tys' := [(cax, .byte)]) [0] rfl
          have hFc := va_free (wc := [(h0, .inr (7, [.ref aw, .ref ac, .int n16, .int h0_limit, .int n17, .int h0_codeCount, .ref ob, .int h0_openCount])), (aw, .inr (10, [.ref ab, .ref ac, .int x5, .ref wat, .ref wap, .ref wag, .int aw_functionCount, .ref waf, .int aw_hasMemory, .long aw_pagesLeast, .long aw_pagesMost, .int aw_globalCount, .ref wgt, .ref wft, .ref wfv, .ref wgc, .int aw_exportCount, .ref wek, .ref wei, .ref wes, .ref wez])), (ab, .inr (1, [.ref ax, .int ab_length])), (ax, .inl (cax, 8192, .inl gax))]) hD hS hA [3, 4, 5, 6] rfl
          refine va_calli (va_runV (As := []) (rest := [.int j17_l1, .ref wag]) ⟨hx, hb, hml, hown, hts⟩ (c_RE_readTypex l dC dI H.size h0 aw ac ob ab wat wap wag waf wgt wft wfv wgc wek wei wes wez ax cax n16 h0_limit n17 h0_codeCount h0_openCount x5 aw_functionCount aw_hasMemory aw_pagesLeast aw_pagesMost aw_globalCount aw_exportCount ab_length gax (bn17) (by omega) (by omega) (by omega) (by (try dsimp only) <;> omega)) (cwV 0 hts (gV kM_RE_109 kV_RE_readType kS_RE_readType kI_RE kC_RE_readType) rfl rfl rfl (by decide +kernel) ⟨Nat.le_of_ble_eq_true rfl, Nat.le_of_ble_eq_true rfl⟩) ⟨fun a U g mk z => by obtain ⟨z0, z1, zP, zK, zD⟩ := z; exact ⟨z0, z1, zP, va_K.moved (u := U) (U := U.calling g mk a) (Vm.Alike.refl U.vm) zK, zD⟩, va_recv hKc hPc (ci := 7) (q0 := 0) rfl rfl, fun U hU hW => ⟨rfl, by rw [hU], by rw [hU]; exact hPc, va_K.moved hW.alike hKc, hDc.weaken (fun _ _ _ _ => trivial)⟩⟩ rfl rfl hl.1 rfl (lv_room (Nat.le_of_ble_eq_true rfl)) d_RE_readTypes_110 ⟨(Nat.zero_le _), (Nat.zero_le _)⟩) hS (fun q _ h => hFc q h) hFc (fun r21 u t H1 locs ht hvm hw hB hz1 hk1 hS => ?_)
          obtain ⟨n22, n23⟩ := u
          try dsimp only at hw
          obtain ⟨bn23, xr21⟩ := hw
          try clear hw
          have tn23 := b01 bn23
          obtain ⟨hP1, hK1, hD1⟩ := hB
          rw [ht] at hP1
          obtain ⟨hP, hD⟩ := va_join (wr := [(wat, .inl (cwat, 20, .inl f14)), (wap, .inl (cwap, 160, .inl j62_wap)), (wag, .inl (cwag, 20, .inl j17_wag))]) (w1 := [(h0, .inr (7, [.ref aw, .ref ac, .int n22, .int h0_limit, .int n23, .int h0_codeCount, .ref ob, .int h0_openCount])), (aw, .inr (10, [.ref ab, .ref ac, .int x5, .ref wat, .ref wap, .ref wag, .int aw_functionCount, .ref waf, .int aw_hasMemory, .long aw_pagesLeast, .long aw_pagesMost, .int aw_globalCount, .ref wgt, .ref wft, .ref wfv, .ref wgc, .int aw_exportCount, .ref wek, .ref wei, .ref wes, .ref wez])), (ab, .inr (1, [.ref ax, .int ab_length])), (ax, .inl (cax, 8192, .inl gax))]) hP hD [3, 4, 5, 6] [0, 1, 2] rfl rfl (by decide) (by decide) hk1 hFc hP1 hD1
          clear hPc hDc hKc hFc hz1 hk1 hP1 hK1 hD1
          generalize H1 = H at hP hS ⊢
          have hP : va_P (dC, dI) cls [(wat, .inl (cwat, 20, .inl f14)), (wap, .inl (cwap, 160, .inl j62_wap)), (wag, .inl (cwag, 20, .inl j17_wag)), (h0, .inr (7, [.ref aw, .ref ac, .int n22, .int h0_limit, .int n23, .int h0_codeCount, .ref ob, .int h0_openCount])), (aw, .inr (10, [.ref ab, .ref ac, .int x5, .ref wat, .ref wap, .ref wag, .int aw_functionCount, .ref waf, .int aw_hasMemory, .long aw_pagesLeast, .long aw_pagesMost, .int aw_globalCount, .ref wgt, .ref wft, .ref wfv, .ref wgc, .int aw_exportCount, .ref wek, .ref wei, .ref wes, .ref wez])), (ab, .inr (1, [.ref ax, .int ab_length])), (ax, .inl (cax, 8192, .inl gax))] H := hP
          have hD : va_D A [(wat, .inl (cwat, 20, .inl f14)), (wap, .inl (cwap, 160, .inl j62_wap)), (wag, .inl (cwag, 20, .inl j17_wag)), (h0, .inr (7, [.ref aw, .ref ac, .int n22, .int h0_limit, .int n23, .int h0_codeCount, .ref ob, .int h0_openCount])), (aw, .inr (10, [.ref ab, .ref ac, .int x5, .ref wat, .ref wap, .ref wag, .int aw_functionCount, .ref waf, .int aw_hasMemory, .long aw_pagesLeast, .long aw_pagesMost, .int aw_globalCount, .ref wgt, .ref wft, .ref wfv, .ref wgc, .int aw_exportCount, .ref wek, .ref wei, .ref wes, .ref wez])), (ab, .inr (1, [.ref ax, .int ab_length])), (ax, .inl (cax, 8192, .inl gax))] := hD
          refine lv_goto (tgt := 118) hx hb d_RE_readTypes_113 (by decide) ?_
          exact jn118 (r21, n22, n23) _ _ _ ⟨bn23, by (try dsimp only) <;> omega, hP, hD, hS, lv_sub hl [0, 1] rfl⟩
    · have q64 := nleI c64
      have c67 := i32_clamp (x := j62_l3) (by omega)
      have q67 := hq62.out
      obtain ⟨pp, tp_, ep⟩ : ∃ x T, ps9.drop j62_l3.toNatClampNeg = x :: T := by rcases h9 : ps9.drop j62_l3.toNatClampNeg with _ | ⟨x, T⟩; (exfalso; have := congrArg List.length h9; rw [List.length_drop, List.length_nil] at this; omega); exact ⟨x, T, rfl⟩
      rw [ep] at q67
      have hk67 : j62_l3.toNatClampNeg < ps9.length := by omega
      have ep2 := ep
      rw [List.drop_eq_getElem_cons hk67] at ep2
      injection ep2 with e1 e2
      have np := n4.out pp (by rw [← e1]; exact List.getElem_mem hk67)
      replace q67 := bq_cons q67
      have q68 := q67.1
      have q69 := q67.2
      replace q69 : bx _ := q69
      rw [← e2] at q69
      clear q67 ep e1 e2
      have z62 := i32_clamp (x := j62_h0_at) (by omega)
      refine lv_aload_n hx hb d_RE_readTypes_67 rfl (lv_at hl 0 rfl) ?_
      refine va_get (D := (dC, dI)) (ci := 7) (v := .ref aw) (C := R_RE) (T := F_RE) (N := 8) hx hb hts i_RE hown hK hP 3 rfl rfl 0 (by decide) (hts _ kF_RE_15) (fun _ h9 => h9) rfl d_RE_readTypes_68 ?_
      refine va_get (D := (dC, dI)) (ci := 10) (v := .ref wap) (C := R_WA) (T := F_WA) (N := 21) hx hb hts i_WA hown hK hP 4 rfl rfl 4 (by decide) (hts _ kF_RE_106) (fun _ h9 => h9) rfl d_RE_readTypes_71 ?_
      refine lv_iload_n hx hb d_RE_readTypes_74 rfl (lv_at hl 1 rfl) ?_
      refine lv_bipush (v := 8) hx hb d_RE_readTypes_75 (by decide) ?_
      refine lv_imul hx hb d_RE_readTypes_77 ?_
      refine lv_topi (fun x24 ex24 => ?_)
      have tx24 : x24.toInt = j17_l1.toInt * 8 := by have z := i32_mul ex24 (by rw [k8]; omega) (by rw [k8]; omega); rw [k8] at z; exact z
      refine lv_iload_n hx hb d_RE_readTypes_78 rfl (lv_at hl 3 rfl) ?_
      refine lv_iadd hx hb d_RE_readTypes_79 ?_
      refine lv_topi (fun x25 ex25 => ?_)
      have tx25 : x25.toInt = x24.toInt + j62_l3.toInt := by have z := i32_add ex25 (by omega) (by omega); omega
      refine lv_aload_n hx hb d_RE_readTypes_80 rfl (lv_at hl 0 rfl) ?_
      have hPc := hP.sub (ws' := [(h0, .inr (7, [.ref aw, .ref ac, .int j62_h0_at, .int h0_limit, .int j62_h0_sound, .int h0_codeCount, .ref ob, .int h0_openCount])), (aw, .inr (10, [.ref ab, .ref ac, .int x5, .ref wat, .ref wap, .ref wag, .int aw_functionCount, .ref waf, .int aw_hasMemory, .long aw_pagesLeast, .long aw_pagesMost, .int aw_globalCount, .ref wgt, .ref wft, .ref wfv, .ref wgc, .int aw_exportCount, .ref wek, .ref wei, .ref wes, .ref wez])), (ab, .inr (1, [.ref ax, .int ab_length])), (ax, .inl (cax, 8192, .inl gax))]) [3, 4, 5, 6] rfl
      have hDc := hD.sub (ws' := [(h0, .inr (7, [.ref aw, .ref ac, .int j62_h0_at, .int h0_limit, .int j62_h0_sound, .int h0_codeCount, .ref ob, .int h0_openCount])), (aw, .inr (10, [.ref ab, .ref ac, .int x5, .ref wat, .ref wap, .ref wag, .int aw_functionCount, .ref waf, .int aw_hasMemory, .long aw_pagesLeast, .long aw_pagesMost, .int aw_globalCount, .ref wgt, .ref wft, .ref wfv, .ref wgc, .int aw_exportCount, .ref wek, .ref wei, .ref wes, .ref wez])), (ab, .inr (1, [.ref ax, .int ab_length])), (ax, .inl (cax, 8192, .inl gax))]) [3, 4, 5, 6] (by decide) rfl
      have hKc := hK.sub (tys' := [(cax, .byte)]) [0] rfl
      have hFc := va_free (wc := [(h0, .inr (7, [.ref aw, .ref ac, .int j62_h0_at, .int h0_limit, .int j62_h0_sound, .int h0_codeCount, .ref ob, .int h0_openCount])), (aw, .inr (10, [.ref ab, .ref ac, .int x5, .ref wat, .ref wap, .ref wag, .int aw_functionCount, .ref waf, .int aw_hasMemory, .long aw_pagesLeast, .long aw_pagesMost, .int aw_globalCount, .ref wgt, .ref wft, .ref wfv, .ref wgc, .int aw_exportCount, .ref wek, .ref wei, .ref wes, .ref wez])), (ab, .inr (1, [.ref ax, .int ab_length])), (ax, .inl (cax, 8192, .inl gax))]) hD hS hA [3, 4, 5, 6] rfl
      refine va_calli (va_runV (As := []) (rest := [.int x25, .ref wap]) ⟨hx, hb, hml, hown, hts⟩ (c_RE_readTypex l dC dI H.size h0 aw ac ob ab wat wap wag waf wgt wft wfv wgc wek wei wes wez ax cax j62_h0_at h0_limit j62_h0_sound h0_codeCount h0_openCount x5 aw_functionCount aw_hasMemory aw_pagesLeast aw_pagesMost aw_globalCount aw_exportCount ab_length gax (b_j62_h0_sound) (by omega) (by omega) (by omega) (by (try dsimp only) <;> omega)) (cwV 0 hts (gV kM_RE_109 kV_RE_readType kS_RE_readType kI_RE kC_RE_readType) rfl rfl rfl (by decide +kernel) ⟨Nat.le_of_ble_eq_true rfl, Nat.le_of_ble_eq_true rfl⟩) ⟨fun a U g mk z => by obtain ⟨z0, z1, zP, zK, zD⟩ := z; exact ⟨z0, z1, zP, va_K.moved (u := U) (U := U.calling g mk a) (Vm.Alike.refl U.vm) zK, zD⟩, va_recv hKc hPc (ci := 7) (q0 := 0) rfl rfl, fun U hU hW => ⟨rfl, by rw [hU], by rw [hU]; exact hPc, va_K.moved hW.alike hKc, hDc.weaken (fun _ _ _ _ => trivial)⟩⟩ rfl rfl hl.1 rfl (lv_room (Nat.le_of_ble_eq_true rfl)) d_RE_readTypes_81 ⟨(Nat.zero_le _), (Nat.zero_le _)⟩) hS (fun q _ h => hFc q h) hFc (fun r26 u t H1 locs ht hvm hw hB hz1 hk1 hS => ?_)
      obtain ⟨n27, n28⟩ := u
      try dsimp only at hw
      obtain ⟨bn28, xr26⟩ := hw
      try clear hw
      have tn28 := b01 bn28
      obtain ⟨hP1, hK1, hD1⟩ := hB
      rw [ht] at hP1
      obtain ⟨hP, hD⟩ := va_join (wr := [(wat, .inl (cwat, 20, .inl f14)), (wap, .inl (cwap, 160, .inl j62_wap)), (wag, .inl (cwag, 20, .inl j17_wag))]) (w1 := [(h0, .inr (7, [.ref aw, .ref ac, .int n27, .int h0_limit, .int n28, .int h0_codeCount, .ref ob, .int h0_openCount])), (aw, .inr (10, [.ref ab, .ref ac, .int x5, .ref wat, .ref wap, .ref wag, .int aw_functionCount, .ref waf, .int aw_hasMemory, .long aw_pagesLeast, .long aw_pagesMost, .int aw_globalCount, .ref wgt, .ref wft, .ref wfv, .ref wgc, .int aw_exportCount, .ref wek, .ref wei, .ref wes, .ref wez])), (ab, .inr (1, [.ref ax, .int ab_length])), (ax, .inl (cax, 8192, .inl gax))]) hP hD [3, 4, 5, 6] [0, 1, 2] rfl rfl (by decide) (by decide) hk1 hFc hP1 hD1
      clear hPc hDc hKc hFc hz1 hk1 hP1 hK1 hD1
      generalize H1 = H at hP hS ⊢
      have hP : va_P (dC, dI) cls [(wat, .inl (cwat, 20, .inl f14)), (wap, .inl (cwap, 160, .inl j62_wap)), (wag, .inl (cwag, 20, .inl j17_wag)), (h0, .inr (7, [.ref aw, .ref ac, .int n27, .int h0_limit, .int n28, .int h0_codeCount, .ref ob, .int h0_openCount])), (aw, .inr (10, [.ref ab, .ref ac, .int x5, .ref wat, .ref wap, .ref wag, .int aw_functionCount, .ref waf, .int aw_hasMemory, .long aw_pagesLeast, .long aw_pagesMost, .int aw_globalCount, .ref wgt, .ref wft, .ref wfv, .ref wgc, .int aw_exportCount, .ref wek, .ref wei, .ref wes, .ref wez])), (ab, .inr (1, [.ref ax, .int ab_length])), (ax, .inl (cax, 8192, .inl gax))] H := hP
      have hD : va_D A [(wat, .inl (cwat, 20, .inl f14)), (wap, .inl (cwap, 160, .inl j62_wap)), (wag, .inl (cwag, 20, .inl j17_wag)), (h0, .inr (7, [.ref aw, .ref ac, .int n27, .int h0_limit, .int n28, .int h0_codeCount, .ref ob, .int h0_openCount])), (aw, .inr (10, [.ref ab, .ref ac, .int x5, .ref wat, .ref wap, .ref wag, .int aw_functionCount, .ref waf, .int aw_hasMemory, .long aw_pagesLeast, .long aw_pagesMost, .int aw_globalCount, .ref wgt, .ref wft, .ref wfv, .ref wgc, .int aw_exportCount, .ref wek, .ref wei, .ref wes, .ref wez])), (ab, .inr (1, [.ref ax, .int ab_length])), (ax, .inl (cax, 8192, .inl gax))] := hD
      have g84 : vp_in x25 160 := vp_in_iff.mpr ⟨by omega, by omega⟩
      refine va_iast hx hb hK hP hD hS 1 2 rfl rfl g84 d_RE_readTypes_84 (fun H locs hP hD hS => ?_)
      generalize ef29 : upd j62_wap x25.toNatClampNeg r26 = f29 at hP hD
      obtain ⟨x30, ex30⟩ : ∃ z : Int32, z = j62_l3 + 1 := ⟨_, rfl⟩
      have tx30 : x30.toInt = j62_l3.toInt + 1 := by have z := i32_add ex30 (by omega) (by omega); omega
      refine lv_iinc (v := x30) (lv' := [(3, .int x30), (0, .ref h0), (1, .int j17_l1), (2, .int x13)]) hx hb d_RE_readTypes_85 hl (k := 3) rfl (by rw [ex30]; rfl) (by decide) rfl (fun ls hl => ?_)
      refine lv_goto (tgt := 62) hx hb d_RE_readTypes_88 (by decide) ?_
      have c8 := i32_clamp (x := x25) (by omega)
      exact ih62 (x30, f29, n27, n28) _ _ _ (by show (x13.toInt - x30.toInt).toNat < N62; omega) ⟨by (try dsimp only) <;> omega, bn28, by (try dsimp only) <;> omega, (by rw [← ef29]; exact upd_all (Q := fun v => v.toInt = 127 ∨ v.toInt = 126) u4 (by omega) (fun j q => by rcases q with q | q; exact Or.inr (Or.inl q); by_cases y : j = x25.toNatClampNeg; exact Or.inl y; exact Or.inr (Or.inr (by omega)))), (by rw [show x30.toNatClampNeg = j62_l3.toNatClampNeg + 1 from clampN (by omega)]; exact bq_at q69.out (by have := i32_clamp (x := n27) (by omega); omega)), hP, hD, hS, lv_sub hl [1, 2, 3, 0] rfl⟩

section q_n44q08
/-! p5: the class: locals -/
/-- where the runs of locals are: q of them are left -/
def lrI (f : Nat → Int32) (L a0 : Nat) (o : Int) (lt : Nat → Int32) (s a : Int32) (q t : Int) : Prop := (s.toInt = 1 ∧ ∃ ls : List Nat, (ls.length : Int) = t ∧ zLo f L a0 = zR f L q.toNat ls a.toNatClampNeg ∧ ∀ (j x : Nat), ls[j]? = some x → (lt ((o.toNat) + j)).toInt = (x : Int)) ∨ (s.toInt = 0 ∧ zLo f L a0 = none)
theorem lr_0 {f : Nat → Int32} {L a0 : Nat} {o : Int} {lt : Nat → Int32} {s0 s a : Int32} {r t : Int} (h : rz (zM f L 60 a0) s0 s a r) (hs : s0.toInt = 1) (ht : t = 0) : lrI f L a0 o lt s a r t := by
  rcases h with ⟨h1, h2, h3, h4⟩ | ⟨h1, h2⟩
  · exact Or.inl ⟨h1, [], by rw [ht]; rfl, by unfold zLo; rw [h4], fun j x hj => by cases hj⟩
  · exact Or.inr ⟨h1, by unfold zLo; rw [h2 hs]⟩
theorem lr_s {f : Nat → Int32} {L a0 : Nat} {o : Int} {lt lt2 : Nat → Int32} {s a s2 a2 s3 a3 : Int32} {q t r y M : Int} (h : lrI f L a0 o lt s a q t) (hs : s.toInt = 1) (h1 : rz (zM f L M.toNat a.toNatClampNeg) s s2 a2 r) (hM : M = 60 - t) (h2 : rz (zTy f L a2.toNatClampNeg) s2 s3 a3 y) (hq : 0 < q) (hr : 0 ≤ r) (ho : 0 ≤ o) (ht : 0 ≤ t) (hk : ∀ j : Nat, (j : Int) < t → lt2 (o.toNat + j) = lt (o.toNat + j)) (hn : ∀ j : Nat, t ≤ (j : Int) → (j : Int) < t + r → (lt2 (o.toNat + j)).toInt = y) : lrI f L a0 o lt2 s3 a3 (q - 1) (t + r) := by
  rcases h with ⟨u1, ls, u2, u3, u4⟩ | ⟨u1, u2⟩
  · have e9 : q.toNat = (q - 1).toNat + 1 := by (first | (apply Int.le_antisymm <;> omega) | omega)
    rw [e9, zR, show 60 - ls.length = M.toNat by (first | (apply Int.le_antisymm <;> omega) | omega)] at u3
    rcases h1 with ⟨v1, v2, v3, v4⟩ | ⟨v1, v2⟩
    · rw [v4] at u3
      rcases h2 with ⟨w1, w2, w3, w4⟩ | ⟨w1, w2⟩
      · dsimp only at u3
        rw [w4] at u3
        refine Or.inl ⟨w1, ls ++ List.replicate r.toNat y.toNat, by rw [List.length_append, List.length_replicate]; (first | (apply Int.le_antisymm <;> omega) | omega), u3, fun j x hj => ?_⟩
        by_cases e : j < ls.length
        · rw [List.getElem?_append_left e] at hj
          rw [hk j (by (first | (apply Int.le_antisymm <;> omega) | omega))]
          exact u4 j x hj
        · rw [List.getElem?_append_right (by (first | (apply Int.le_antisymm <;> omega) | omega))] at hj
          obtain ⟨g1, g2⟩ := List.getElem?_eq_some_iff.mp hj
          rw [List.length_replicate] at g1
          rw [List.getElem_replicate] at g2
          rw [hn j (by (first | (apply Int.le_antisymm <;> omega) | omega)) (by (first | (apply Int.le_antisymm <;> omega) | omega))]
          (first | (apply Int.le_antisymm <;> omega) | omega)
      · dsimp only at u3
        rw [w2 v1] at u3
        exact Or.inr ⟨w1, u3⟩
    · rw [v2 hs] at u3
      refine Or.inr ⟨?_, u3⟩
      rcases h2 with ⟨w1, w2, w3, w4⟩ | ⟨w1, w2⟩
      · exact absurd w2 (by (first | (apply Int.le_antisymm <;> omega) | omega))
      · exact w1
  · exact absurd u1 (by (first | (apply Int.le_antisymm <;> omega) | omega))
/-- what the locals leave -/
def loz (f : Nat → Int32) (L a : Nat) (p : Int) (s2 a2 : Int32) (lk lk2 lt2 : Nat → Int32) : Prop := ∃ t : Int32, lk2 = upd lk p.toNat t ∧ ((s2.toInt = 1 ∧ ∃ ls : List Nat, zLo f L a = some (ls, a2.toNatClampNeg) ∧ t.toInt = (ls.length : Int) ∧ ls.length ≤ 60 ∧ ∀ (j x : Nat), ls[j]? = some x → (lt2 ((60 * p).toNat + j)).toInt = (x : Int)) ∨ (s2.toInt = 0 ∧ zLo f L a = none))
theorem lr_e {f : Nat → Int32} {L a0 : Nat} {p : Int} {lt lk : Nat → Int32} {s a t : Int32} {q : Int} (h : lrI f L a0 (60 * p) lt s a q t.toInt) (hq : q = 0 ∨ s.toInt = 0) (ht : t.toInt ≤ 60) : loz f L a0 p s a lk (upd lk p.toNat t) lt := by
  refine ⟨t, rfl, ?_⟩
  rcases h with ⟨u1, ls, u2, u3, u4⟩ | ⟨u1, u2⟩
  · rw [hq.resolve_right (by (first | (apply Int.le_antisymm <;> omega) | omega))] at u3
    exact Or.inl ⟨u1, ls, u3, u2.symm, by (first | (apply Int.le_antisymm <;> omega) | omega), u4⟩
  · exact Or.inr ⟨u1, u2⟩
abbrev at_RE_readLocalsy (dC : Nat → ClassId) (dI : Nat → Nat → Nat) (h0 aw ac ob ab wat wap wag waf wgt wft wfv wgc wek wei wes wez ax cfi clk clt cop cva cpt cel cla : Nat) (cax cclk cclt : ClassId) (h0_limit : Int32) (h0_codeCount : Int32) (h0_openCount : Int32) (aw_typeCount : Int32) (aw_functionCount : Int32) (aw_hasMemory : Int32) (aw_pagesLeast : Int64) (aw_pagesMost : Int64) (aw_globalCount : Int32) (aw_exportCount : Int32) (ab_length : Int32) (ac_length : Int32) (ac_labelCount : Int32) (gax : Nat → Int32) (A : Nat → Prop) (u : (Nat → Int32) × (Nat → Int32) × Int32 × Int32) (t : State) : Prop := match u with | (gclk, gclt, h0_at, h0_sound) => va_P (dC, dI) cls (wz_241 h0 aw ac h0_at h0_limit h0_sound h0_codeCount ob h0_openCount aw ab ac aw_typeCount wat wap wag aw_functionCount waf aw_hasMemory aw_pagesLeast aw_pagesMost aw_globalCount wgt wft wfv wgc aw_exportCount wek wei wes wez ab ax ab_length ac cfi clk clt ac_length cop cva cpt cel ac_labelCount cla ax cax gax clk cclk gclk clt cclt gclt) t.heap ∧ va_K (dC, dI) cls [(cax, .byte), (cclk, .int), (cclt, .int)] t ∧ va_D A (wz_241 h0 aw ac h0_at h0_limit h0_sound h0_codeCount ob h0_openCount aw ab ac aw_typeCount wat wap wag aw_functionCount waf aw_hasMemory aw_pagesLeast aw_pagesMost aw_globalCount wgt wft wfv wgc aw_exportCount wek wei wes wez ab ax ab_length ac cfi clk clt ac_length cop cva cpt cel ac_labelCount cla ax cax gax clk cclk gclk clt cclt gclt)
set_option maxHeartbeats 4000000 in
set_option maxRecDepth 100000 in
theorem c_RE_readLocalsy (l : Launch) (dC : Nat → ClassId) (dI : Nat → Nat → Nat) (sz : Nat) (h0 aw ac ob ab wat wap wag waf wgt wft wfv wgc wek wei wes wez ax cfi clk clt cop cva cpt cel cla : Nat) (cax cclk cclt : ClassId) (h0_at : Int32) (h0_limit : Int32) (h0_sound : Int32) (h0_codeCount : Int32) (h0_openCount : Int32) (aw_typeCount : Int32) (aw_functionCount : Int32) (aw_hasMemory : Int32) (aw_pagesLeast : Int64) (aw_pagesMost : Int64) (aw_globalCount : Int32) (aw_exportCount : Int32) (ab_length : Int32) (ac_length : Int32) (ac_labelCount : Int32) (gax : Nat → Int32) (gclk : Nat → Int32) (gclt : Nat → Int32)  (b_h0_sound : h0_sound = 0 ∨ h0_sound = 1) (p0 : Int32)  (ha : 0 ≤ h0_at.toInt ∧ h0_at.toInt ≤ h0_limit.toInt ∧ h0_limit.toInt ≤ ab_length.toInt ∧ ab_length.toInt ≤ 8192) (hs : h0_sound.toInt = 1) (hp : 0 ≤ p0.toInt ∧ p0.toInt < 30) : Met l y_RE_readLocals w_RE_readLocals ({ frames := 2, cells := 0, slots := 0, locals := 46 }) (va_Pc [.ref h0, .int p0] (fun U => U.heap.size = sz ∧ va_P (dC, dI) cls (wz_241 h0 aw ac h0_at h0_limit h0_sound h0_codeCount ob h0_openCount aw ab ac aw_typeCount wat wap wag aw_functionCount waf aw_hasMemory aw_pagesLeast aw_pagesMost aw_globalCount wgt wft wfv wgc aw_exportCount wek wei wes wez ab ax ab_length ac cfi clk clt ac_length cop cva cpt cel ac_labelCount cla ax cax gax clk cclk gclk clt cclt gclt) U.heap ∧ va_K (dC, dI) cls [(cax, .byte), (cclk, .int), (cclt, .int)] U ∧ va_D (fun _ => True) (wz_241 h0 aw ac h0_at h0_limit h0_sound h0_codeCount ob h0_openCount aw ab ac aw_typeCount wat wap wag aw_functionCount waf aw_hasMemory aw_pagesLeast aw_pagesMost aw_globalCount wgt wft wfv wgc aw_exportCount wek wei wes wez ab ax ab_length ac cfi clk clt ac_length cop cva cpt cel ac_labelCount cla ax cax gax clk cclk gclk clt cclt gclt))) (va_Qv (fun (u : (Nat → Int32) × (Nat → Int32) × Int32 × Int32) => match u with | (gclk2, gclt2, h0_at2, h0_sound2) => (h0_sound2 = 0 ∨ h0_sound2 = 1) ∧ ((h0_at.toInt ≤ h0_at2.toInt ∧ h0_at2.toInt ≤ h0_limit.toInt) ∧ bx (∀ j : Nat, ((j : Int) < 60 * p0.toInt ∨ 60 * p0.toInt + 60 ≤ (j : Int)) → gclt2 j = gclt j) ∧ loz gax h0_limit.toNatClampNeg h0_at.toNatClampNeg p0.toInt h0_sound2 h0_at2 gclk gclk2 gclt2)) (at_RE_readLocalsy dC dI h0 aw ac ob ab wat wap wag waf wgt wft wfv wgc wek wei wes wez ax cfi clk clt cop cva cpt cel cla cax cclk cclt h0_limit h0_codeCount h0_openCount aw_typeCount aw_functionCount aw_hasMemory aw_pagesLeast aw_pagesMost aw_globalCount aw_exportCount ab_length ac_length ac_labelCount gax (va_A (wz_241 h0 aw ac h0_at h0_limit h0_sound h0_codeCount ob h0_openCount aw ab ac aw_typeCount wat wap wag aw_functionCount waf aw_hasMemory aw_pagesLeast aw_pagesMost aw_globalCount wgt wft wfv wgc aw_exportCount wek wei wes wez ab ax ab_length ac cfi clk clt ac_length cop cva cpt cel ac_labelCount cla ax cax gax clk cclk gclk clt cclt gclt) sz)) (va_A (wz_241 h0 aw ac h0_at h0_limit h0_sound h0_codeCount ob h0_openCount aw ab ac aw_typeCount wat wap wag aw_functionCount waf aw_hasMemory aw_pagesLeast aw_pagesMost aw_globalCount wgt wft wfv wgc aw_exportCount wek wei wes wez ab ax ab_length ac cfi clk clt ac_length cop cva cpt cel ac_labelCount cla ax cax gax clk cclk gclk clt cclt gclt) sz)) 0 0 (va_A (wz_241 h0 aw ac h0_at h0_limit h0_sound h0_codeCount ob h0_openCount aw ab ac aw_typeCount wat wap wag aw_functionCount waf aw_hasMemory aw_pagesLeast aw_pagesMost aw_globalCount wgt wft wfv wgc aw_exportCount wek wei wes wez ab ax ab_length ac cfi clk clt ac_length cop cva cpt cel ac_labelCount cla ax cax gax clk cclk gclk clt cclt gclt) sz) := by
  refine Met.ofW (cc := b_RE_readLocals) (maxL := 8) (ret := none) (by decide) rfl ?_
  intro p e s m args below meth c s₁ B hml hv
  obtain ⟨rfl, hsz, hP, hK, hD0⟩ := hv
  have hx := B.exec
  have hb := B.bytes
  have hr := B.returns
  have hts0 := atoms_spec (ws := w_RE_readLocals) B.pre
  have hts : ∀ w ∈ lw_g, w.before _ s = true := fun w h => hts0 w (List.mem_cons_of_mem _ h)
  have hown : s.vm.findClass R_RE = some m.cls := findClass_of_methodNamed B.named
  have hlocks := B.notSynchronized
  clear hts0
  subst hsz
  have hD := hD0.self (sz := s.heap.size)
  generalize hAe : va_A (wz_241 h0 aw ac h0_at h0_limit h0_sound h0_codeCount ob h0_openCount aw ab ac aw_typeCount wat wap wag aw_functionCount waf aw_hasMemory aw_pagesLeast aw_pagesMost aw_globalCount wgt wft wfv wgc aw_exportCount wek wei wes wez ab ax ab_length ac cfi clk clt ac_length cop cva cpt cel ac_labelCount cla ax cax gax clk cclk gclk clt cclt gclt) s.heap.size = A at hD ⊢
  have hA : ∀ q : Nat, s.heap.size ≤ q → A q := fun q h => by rw [← hAe]; exact Or.inr h
  clear hAe
  have hP : va_P (dC, dI) cls (wz_241 h0 aw ac h0_at h0_limit h0_sound h0_codeCount ob h0_openCount aw ab ac aw_typeCount wat wap wag aw_functionCount waf aw_hasMemory aw_pagesLeast aw_pagesMost aw_globalCount wgt wft wfv wgc aw_exportCount wek wei wes wez ab ax ab_length ac cfi clk clt ac_length cop cva cpt cel ac_labelCount cla ax cax gax clk cclk gclk clt cclt gclt) s.heap := hP
  have hl := lv_entry ([.ref h0, .int p0]) (n := 8) (Nat.le_of_ble_eq_true rfl)
  rw [lg_entry_eq]
  generalize (lg_sl ([.ref h0, .int p0]) ++ List.replicate (8 - (lg_sl ([.ref h0, .int p0])).length) Slot.unset).toArray = ls at hl ⊢
  have hl : lv_has ls 8 [(0, .ref h0), (1, .int p0)] := hl
  have k0 : (0 : Int32).toInt = 0 := by decide
  refine w_gen (A := A) hP (fun H locs hP hS => ?_)
  have k1 : (1 : Int32).toInt = 1 := by decide
  have k60 : (60 : Int32).toInt = 60 := by decide
  have lo_p0 := i32_lo p0
  have hi_p0 := i32_hi p0
  have th0_sound := b01 b_h0_sound
  have zat := i32_clamp (x := h0_at) (by (first | (apply Int.le_antisymm <;> omega) | omega))
  have zlm := i32_clamp (x := h0_limit) (by (first | (apply Int.le_antisymm <;> omega) | omega))
  refine lv_iconst (v := 0) hx hb d_RE_readLocals_0 (by decide) ?_
  refine lv_istore_n (lv' := [(2, .int 0), (0, .ref h0), (1, .int p0)]) hx hb d_RE_readLocals_1 rfl hl (by decide) rfl (fun ls hl => ?_)
  refine lv_aload_n hx hb d_RE_readLocals_2 rfl (lv_at hl 1 rfl) ?_
  refine lv_ldc2 hx hb hown (hts _ kL_RE_186) d_RE_readLocals_3 ?_
  refine lv_topl (fun x1 ex1 => ?_)
  have tx1 : x1.toInt = 60 := by rw [ex1]; decide
  have hPc := hP.sb (wq := (wz_46 h0 aw ac h0_at h0_limit h0_sound h0_codeCount ob h0_openCount aw ab ac aw_typeCount wat wap wag aw_functionCount waf aw_hasMemory aw_pagesLeast aw_pagesMost aw_globalCount wgt wft wfv wgc aw_exportCount wek wei wes wez ab ax ab_length ax cax gax)) [0, 1, 2, 4] rfl
  have hDc := hD.sb (wq := (wz_46 h0 aw ac h0_at h0_limit h0_sound h0_codeCount ob h0_openCount aw ab ac aw_typeCount wat wap wag aw_functionCount waf aw_hasMemory aw_pagesLeast aw_pagesMost aw_globalCount wgt wft wfv wgc aw_exportCount wek wei wes wez ab ax ab_length ax cax gax)) [0, 1, 2, 4] (by decide) rfl
  have hKc := hK.sb (tyq := [(cax, .byte)]) [0] rfl
  have hFc := va_free (wc := (wz_46 h0 aw ac h0_at h0_limit h0_sound h0_codeCount ob h0_openCount aw ab ac aw_typeCount wat wap wag aw_functionCount waf aw_hasMemory aw_pagesLeast aw_pagesMost aw_globalCount wgt wft wfv wgc aw_exportCount wek wei wes wez ab ax ab_length ax cax gax)) hD hS hA [0, 1, 2, 4] rfl
  refine va_calll (va_runV (As := [.long x1]) (rest := []) ⟨hx, hb, hml, hown, hts⟩ (c_RE_readUnsignedy l dC dI H.size h0 aw ac ob ab wat wap wag waf wgt wft wfv wgc wek wei wes wez ax cax h0_at h0_limit h0_sound h0_codeCount h0_openCount aw_typeCount aw_functionCount aw_hasMemory aw_pagesLeast aw_pagesMost aw_globalCount aw_exportCount ab_length gax (b_h0_sound) x1 (by (try dsimp only) <;> (first | (apply Int.le_antisymm <;> omega) | omega)) (by (first | (apply Int.le_antisymm <;> omega) | omega))) (cwV 1 hts (gV kM_RE_64 kV_RE_readUnsigned kS_RE_readUnsigned kI_RE kC_RE_readUnsigned) rfl rfl rfl (by decide +kernel) ⟨Nat.le_of_ble_eq_true rfl, Nat.le_of_ble_eq_true rfl⟩) ⟨fun a U g mk z => by obtain ⟨z0, z1, zP, zK, zD⟩ := z; exact ⟨z0, z1, zP, va_K.moved (u := U) (U := U.calling g mk a) (Vm.Alike.refl U.vm) zK, zD⟩, va_recv hKc hPc (ci := 7) (q0 := 0) rfl rfl, fun U hU hW => ⟨rfl, by rw [hU], va_P.he hU.symm hPc, va_K.moved hW.alike hKc, hDc.weaken (fun _ _ _ _ => trivial)⟩⟩ rfl rfl hl.1 rfl (lv_room (Nat.le_of_ble_eq_true rfl)) d_RE_readLocals_6 ⟨(Nat.zero_le _), (Nat.zero_le _)⟩) hS (fun q _ h => hFc q h) hFc (fun r2 u t H1 locs ht hvm hw hB hz1 hk1 hS => ?_)
  obtain ⟨n3, n4⟩ := u
  try dsimp only at hw
  obtain ⟨bn4, xr2⟩ := hw
  try clear hw
  have tn4 := b01 bn4
  have u6 : rz (zM gax h0_limit.toNatClampNeg 60 h0_at.toNatClampNeg) h0_sound n4 n3 r2.toInt := by have z9 := xr2.2; rw [show x1.toInt.toNat = 60 from by (first | (apply Int.le_antisymm <;> omega) | omega)] at z9; exact z9
  obtain ⟨hP1, hK1, hD1⟩ := hB
  replace hP1 := va_P.he ht hP1
  obtain ⟨hP, hD⟩ := va_join (wr := (wz_242 ac cfi clk clt ac_length cop cva cpt cel ac_labelCount cla clk cclk gclk clt cclt gclt)) (w1 := (wz_46 h0 aw ac n3 h0_limit n4 h0_codeCount ob h0_openCount aw ab ac aw_typeCount wat wap wag aw_functionCount waf aw_hasMemory aw_pagesLeast aw_pagesMost aw_globalCount wgt wft wfv wgc aw_exportCount wek wei wes wez ab ax ab_length ax cax gax)) hP hD [0, 1, 2, 4] [3, 5, 6] rfl rfl (by decide) (by decide) hk1 hFc hP1 hD1
  clear hPc hDc hKc hFc hz1 hk1 hP1 hK1 hD1
  rename Heap => H
  have hP : va_P (dC, dI) cls (wz_243 ac cfi clk clt ac_length cop cva cpt cel ac_labelCount cla clk cclk gclk clt cclt gclt h0 aw ac n3 h0_limit n4 h0_codeCount ob h0_openCount aw ab ac aw_typeCount wat wap wag aw_functionCount waf aw_hasMemory aw_pagesLeast aw_pagesMost aw_globalCount wgt wft wfv wgc aw_exportCount wek wei wes wez ab ax ab_length ax cax gax) H := hP
  have hD : va_D A (wz_243 ac cfi clk clt ac_length cop cva cpt cel ac_labelCount cla clk cclk gclk clt cclt gclt h0 aw ac n3 h0_limit n4 h0_codeCount ob h0_openCount aw ab ac aw_typeCount wat wap wag aw_functionCount waf aw_hasMemory aw_pagesLeast aw_pagesMost aw_globalCount wgt wft wfv wgc aw_exportCount wek wei wes wez ab ax ab_length ax cax gax) := hD
  refine lv_l2i hx hb d_RE_readLocals_9 rfl ?_
  refine lv_topi (fun x5 ex5 => ?_)
  have tx5 := l2i_t ex5 (by (first | (apply Int.le_antisymm <;> omega) | omega)) (by (first | (apply Int.le_antisymm <;> omega) | omega))
  refine lv_istore_n (lv' := [(3, .int x5), (2, .int 0), (0, .ref h0), (1, .int p0)]) hx hb d_RE_readLocals_10 rfl hl (by decide) rfl (fun ls hl => ?_)
  refine lv_iconst (v := 0) hx hb d_RE_readLocals_11 (by decide) ?_
  refine lv_istore (lv' := [(4, .int 0), (3, .int x5), (2, .int 0), (0, .ref h0), (1, .int p0)]) hx hb d_RE_readLocals_12 hl (by decide) rfl (fun ls hl => ?_)
  refine w_loop (σ := Int32 × Int32 × (Nat → Int32) × Int32 × Int32) (fun u H locs ls => match u with | (j14_l2, j14_l4, j14_clt, j14_h0_at, j14_h0_sound) => (0 ≤ j14_l2.toInt ∧ j14_l2.toInt ≤ 60) ∧ (0 ≤ j14_l4.toInt ∧ j14_l4.toInt ≤ 60) ∧ (j14_h0_sound = 0 ∨ j14_h0_sound = 1) ∧ (lrI gax h0_limit.toNatClampNeg h0_at.toNatClampNeg (60 * p0.toInt) j14_clt j14_h0_sound j14_h0_at (x5.toInt - j14_l4.toInt) j14_l2.toInt) ∧ ((h0_at.toInt ≤ j14_h0_at.toInt ∧ j14_h0_at.toInt ≤ h0_limit.toInt)) ∧ (j14_l4.toInt ≤ x5.toInt) ∧ (bx (∀ j : Nat, ((j : Int) < 60 * p0.toInt ∨ 60 * p0.toInt + 60 ≤ (j : Int)) → j14_clt j = gclt j)) ∧ va_P (dC, dI) cls (wz_243 ac cfi clk clt ac_length cop cva cpt cel ac_labelCount cla clk cclk gclk clt cclt j14_clt h0 aw ac j14_h0_at h0_limit j14_h0_sound h0_codeCount ob h0_openCount aw ab ac aw_typeCount wat wap wag aw_functionCount waf aw_hasMemory aw_pagesLeast aw_pagesMost aw_globalCount wgt wft wfv wgc aw_exportCount wek wei wes wez ab ax ab_length ax cax gax) H ∧ va_D A (wz_243 ac cfi clk clt ac_length cop cva cpt cel ac_labelCount cla clk cclk gclk clt cclt j14_clt h0 aw ac j14_h0_at h0_limit j14_h0_sound h0_codeCount ob h0_openCount aw ab ac aw_typeCount wat wap wag aw_functionCount waf aw_hasMemory aw_pagesLeast aw_pagesMost aw_globalCount wgt wft wfv wgc aw_exportCount wek wei wes wez ab ax ab_length ax cax gax) ∧ va_S A s.heap H locs ∧ lv_has ls 8 [(0, .ref h0), (1, .int p0), (2, .int j14_l2), (3, .int x5), (4, .int j14_l4)]) (fun u => match u with | (j14_l2, j14_l4, j14_clt, j14_h0_at, j14_h0_sound) => (x5.toInt - j14_l4.toInt).toNat) ?_ (0, 0, gclt, n3, n4) ⟨by (try dsimp only) <;> (first | (apply Int.le_antisymm <;> omega) | omega), by (try dsimp only) <;> (first | (apply Int.le_antisymm <;> omega) | omega), bn4, (by rw [show x5.toInt - (0 : Int32).toInt = x5.toInt from by (first | (apply Int.le_antisymm <;> omega) | omega)]; exact lr_0 (r := x5.toInt) (by have z9 := u6; rw [show r2.toInt = x5.toInt from by (first | (apply Int.le_antisymm <;> omega) | omega)] at z9; exact z9) hs (by decide)), by (try dsimp only) <;> (first | (apply Int.le_antisymm <;> omega) | omega), by (try dsimp only) <;> (first | (apply Int.le_antisymm <;> omega) | omega), (fun _ _ => rfl), hP, hD, hS, lv_sub hl [3, 4, 2, 1, 0] rfl⟩
  intro N14 ih14 u H locs ls hN14 hI
  obtain ⟨j14_l2, j14_l4, j14_clt, j14_h0_at, j14_h0_sound⟩ := u
  obtain ⟨b_j14_l2, b_j14_l4, b_j14_h0_sound, v1, v2, v3, v5, hP, hD, hS, hl⟩ := hI
  have tj14_h0_sound := b01 b_j14_h0_sound
  have hN14 : (x5.toInt - j14_l4.toInt).toNat < N14 + 1 := hN14
  refine lv_iload hx hb d_RE_readLocals_14 (lv_at hl 4 rfl) ?_
  refine lv_iload_n hx hb d_RE_readLocals_16 rfl (lv_at hl 3 rfl) ?_
  refine w_cut (pc2 := 91) (σ := Unit) (fun u H locs ls => match u with | _ => (j14_h0_sound.toInt = 0 ∨ x5.toInt ≤ j14_l4.toInt) ∧ va_P (dC, dI) cls (wz_243 ac cfi clk clt ac_length cop cva cpt cel ac_labelCount cla clk cclk gclk clt cclt j14_clt h0 aw ac j14_h0_at h0_limit j14_h0_sound h0_codeCount ob h0_openCount aw ab ac aw_typeCount wat wap wag aw_functionCount waf aw_hasMemory aw_pagesLeast aw_pagesMost aw_globalCount wgt wft wfv wgc aw_exportCount wek wei wes wez ab ax ab_length ax cax gax) H ∧ va_D A (wz_243 ac cfi clk clt ac_length cop cva cpt cel ac_labelCount cla clk cclk gclk clt cclt j14_clt h0 aw ac j14_h0_at h0_limit j14_h0_sound h0_codeCount ob h0_openCount aw ab ac aw_typeCount wat wap wag aw_functionCount waf aw_hasMemory aw_pagesLeast aw_pagesMost aw_globalCount wgt wft wfv wgc aw_exportCount wek wei wes wez ab ax ab_length ax cax gax) ∧ va_S A s.heap H locs ∧ lv_has ls 8 [(0, .ref h0), (1, .int p0), (2, .int j14_l2)]) (fun u => match u with | _ => []) ?_ (fun jn91 => ?_)
  · intro u H locs ls hI
    obtain ⟨y91, hP, hD, hS, hl⟩ := hI
    refine lv_aload_n hx hb d_RE_readLocals_91 rfl (lv_at hl 0 rfl) ?_
    refine va_get (D := (dC, dI)) (ci := 7) (v := .ref ac) (C := R_RE) (T := F_RE) (N := 8) hx hb hts i_RE hown hK hP 3 rfl rfl 1 (by decide) (hts _ kF_RE_25) (fun _ h9 => h9) rfl d_RE_readLocals_92 ?_
    refine va_get (D := (dC, dI)) (ci := 3) (v := .ref clk) (C := R_CD) (T := F_CD) (N := 10) hx hb hts i_CD hown hK hP 0 rfl rfl 1 (by decide) (hts _ kF_RE_191) (fun _ h9 => h9) rfl d_RE_readLocals_95 ?_
    refine lv_iload_n hx hb d_RE_readLocals_98 rfl (lv_at hl 1 rfl) ?_
    refine lv_iload_n hx hb d_RE_readLocals_99 rfl (lv_at hl 2 rfl) ?_
    have g100 : vp_in p0 30 := vp_in_iff.mpr ⟨by (first | (apply Int.le_antisymm <;> omega) | omega), by (first | (apply Int.le_antisymm <;> omega) | omega)⟩
    refine va_iast hx hb hK hP hD hS 1 1 rfl rfl g100 d_RE_readLocals_100 (fun H locs hP hD hS => ?_)
    generalize ef6 : upd gclk p0.toNatClampNeg j14_l2 = f6 at hP hD
    have hP9 := hP.sb (wq := (wz_241 h0 aw ac j14_h0_at h0_limit j14_h0_sound h0_codeCount ob h0_openCount aw ab ac aw_typeCount wat wap wag aw_functionCount waf aw_hasMemory aw_pagesLeast aw_pagesMost aw_globalCount wgt wft wfv wgc aw_exportCount wek wei wes wez ab ax ab_length ac cfi clk clt ac_length cop cva cpt cel ac_labelCount cla ax cax gax clk cclk f6 clt cclt j14_clt)) [3, 4, 5, 0, 6, 1, 2] rfl
    have hD9 := hD.sb (wq := (wz_241 h0 aw ac j14_h0_at h0_limit j14_h0_sound h0_codeCount ob h0_openCount aw ab ac aw_typeCount wat wap wag aw_functionCount waf aw_hasMemory aw_pagesLeast aw_pagesMost aw_globalCount wgt wft wfv wgc aw_exportCount wek wei wes wez ab ax ab_length ac cfi clk clt ac_length cop cva cpt cel ac_labelCount cla ax cax gax clk cclk f6 clt cclt j14_clt)) [3, 4, 5, 0, 6, 1, 2] (by decide) rfl
    exact W.vret hx hb hr (fun t ht hW => ⟨⟨(f6, j14_clt, j14_h0_at, j14_h0_sound), rfl, ⟨b_j14_h0_sound, ⟨⟨by (try dsimp only) <;> (first | (apply Int.le_antisymm <;> omega) | omega), by (try dsimp only) <;> (first | (apply Int.le_antisymm <;> omega) | omega)⟩, v5, (by rw [← ef6, show p0.toNatClampNeg = p0.toInt.toNat from by have := i32_clamp (x := p0) (by (first | (apply Int.le_antisymm <;> omega) | omega)); (first | (apply Int.le_antisymm <;> omega) | omega)]; exact lr_e v1 (by (first | (apply Int.le_antisymm <;> omega) | omega)) (by (first | (apply Int.le_antisymm <;> omega) | omega)))⟩⟩, va_P.he ht.symm hP9, va_K.moved hW.alike hK, hD9⟩, hS.F ht⟩) hS.2.2 d_RE_readLocals_101
  · skip
    refine lv_icmp_ge (tgt := 91) hx hb d_RE_readLocals_17 (by decide) (fun c17 => ?_) (fun c17 => ?_)
    · have q17 := leI c17
      exact jn91 () _ _ _ ⟨by (try dsimp only) <;> (first | (apply Int.le_antisymm <;> omega) | omega), hP, hD, hS, lv_sub hl [0, 1, 2] rfl⟩
    · have q17 := nleI c17
      refine lv_aload_n hx hb d_RE_readLocals_20 rfl (lv_at hl 0 rfl) ?_
      refine va_get (D := (dC, dI)) (ci := 7) (v := .int j14_h0_sound) (C := R_RE) (T := F_RE) (N := 8) hx hb hts i_RE hown hK hP 3 rfl rfl 4 (by decide) (hts _ kF_RE_45) (fun _ h9 => h9) rfl d_RE_readLocals_21 ?_
      refine lv_if_eq (tgt := 91) hx hb d_RE_readLocals_24 (by decide) (fun c24 => ?_) (fun c24 => ?_)
      · have q24 := eqI c24
        exact jn91 () _ _ _ ⟨by (try dsimp only) <;> (first | (apply Int.le_antisymm <;> omega) | omega), hP, hD, hS, lv_sub hl [0, 1, 2] rfl⟩
      · have q24 := neI c24
        refine lv_aload_n hx hb d_RE_readLocals_27 rfl (lv_at hl 0 rfl) ?_
        refine lv_bipush (v := 60) hx hb d_RE_readLocals_28 (by decide) ?_
        refine lv_iload_n hx hb d_RE_readLocals_30 rfl (lv_at hl 2 rfl) ?_
        refine lv_isub hx hb d_RE_readLocals_31 ?_
        refine lv_topi (fun x7 ex7 => ?_)
        have tx7 : x7.toInt = 60 - j14_l2.toInt := by have z := i32_sub ex7 (by (first | (apply Int.le_antisymm <;> omega) | omega)) (by (first | (apply Int.le_antisymm <;> omega) | omega)); first | exact z | (first | (apply Int.le_antisymm <;> omega) | omega)
        refine lv_i2l hx hb d_RE_readLocals_32 rfl ?_
        refine lv_topl (fun x8 ex8 => ?_)
        have tx8 := i2l_t ex8
        have hPc := hP.sb (wq := (wz_46 h0 aw ac j14_h0_at h0_limit j14_h0_sound h0_codeCount ob h0_openCount aw ab ac aw_typeCount wat wap wag aw_functionCount waf aw_hasMemory aw_pagesLeast aw_pagesMost aw_globalCount wgt wft wfv wgc aw_exportCount wek wei wes wez ab ax ab_length ax cax gax)) [3, 4, 5, 6] rfl
        have hDc := hD.sb (wq := (wz_46 h0 aw ac j14_h0_at h0_limit j14_h0_sound h0_codeCount ob h0_openCount aw ab ac aw_typeCount wat wap wag aw_functionCount waf aw_hasMemory aw_pagesLeast aw_pagesMost aw_globalCount wgt wft wfv wgc aw_exportCount wek wei wes wez ab ax ab_length ax cax gax)) [3, 4, 5, 6] (by decide) rfl
        have hKc := hK.sb (tyq := [(cax, .byte)]) [0] rfl
        have hFc := va_free (wc := (wz_46 h0 aw ac j14_h0_at h0_limit j14_h0_sound h0_codeCount ob h0_openCount aw ab ac aw_typeCount wat wap wag aw_functionCount waf aw_hasMemory aw_pagesLeast aw_pagesMost aw_globalCount wgt wft wfv wgc aw_exportCount wek wei wes wez ab ax ab_length ax cax gax)) hD hS hA [3, 4, 5, 6] rfl
        refine va_calll (va_runV (As := [.long x8]) (rest := []) ⟨hx, hb, hml, hown, hts⟩ (c_RE_readUnsignedy l dC dI H.size h0 aw ac ob ab wat wap wag waf wgt wft wfv wgc wek wei wes wez ax cax j14_h0_at h0_limit j14_h0_sound h0_codeCount h0_openCount aw_typeCount aw_functionCount aw_hasMemory aw_pagesLeast aw_pagesMost aw_globalCount aw_exportCount ab_length gax (b_j14_h0_sound) x8 (by (try dsimp only) <;> (first | (apply Int.le_antisymm <;> omega) | omega)) (by (first | (apply Int.le_antisymm <;> omega) | omega))) (cwV 1 hts (gV kM_RE_64 kV_RE_readUnsigned kS_RE_readUnsigned kI_RE kC_RE_readUnsigned) rfl rfl rfl (by decide +kernel) ⟨Nat.le_of_ble_eq_true rfl, Nat.le_of_ble_eq_true rfl⟩) ⟨fun a U g mk z => by obtain ⟨z0, z1, zP, zK, zD⟩ := z; exact ⟨z0, z1, zP, va_K.moved (u := U) (U := U.calling g mk a) (Vm.Alike.refl U.vm) zK, zD⟩, va_recv hKc hPc (ci := 7) (q0 := 0) rfl rfl, fun U hU hW => ⟨rfl, by rw [hU], va_P.he hU.symm hPc, va_K.moved hW.alike hKc, hDc.weaken (fun _ _ _ _ => trivial)⟩⟩ rfl rfl hl.1 rfl (lv_room (Nat.le_of_ble_eq_true rfl)) d_RE_readLocals_33 ⟨(Nat.zero_le _), (Nat.zero_le _)⟩) hS (fun q _ h => hFc q h) hFc (fun r9 u t H1 locs ht hvm hw hB hz1 hk1 hS => ?_)
        obtain ⟨n10, n11⟩ := u
        try dsimp only at hw
        obtain ⟨bn11, xr9⟩ := hw
        try clear hw
        have tn11 := b01 bn11
        obtain ⟨hP1, hK1, hD1⟩ := hB
        replace hP1 := va_P.he ht hP1
        obtain ⟨hP, hD⟩ := va_join (wr := (wz_242 ac cfi clk clt ac_length cop cva cpt cel ac_labelCount cla clk cclk gclk clt cclt j14_clt)) (w1 := (wz_46 h0 aw ac n10 h0_limit n11 h0_codeCount ob h0_openCount aw ab ac aw_typeCount wat wap wag aw_functionCount waf aw_hasMemory aw_pagesLeast aw_pagesMost aw_globalCount wgt wft wfv wgc aw_exportCount wek wei wes wez ab ax ab_length ax cax gax)) hP hD [3, 4, 5, 6] [0, 1, 2] rfl rfl (by decide) (by decide) hk1 hFc hP1 hD1
        clear hPc hDc hKc hFc hz1 hk1 hP1 hK1 hD1
        rename Heap => H
        have hP : va_P (dC, dI) cls (wz_243 ac cfi clk clt ac_length cop cva cpt cel ac_labelCount cla clk cclk gclk clt cclt j14_clt h0 aw ac n10 h0_limit n11 h0_codeCount ob h0_openCount aw ab ac aw_typeCount wat wap wag aw_functionCount waf aw_hasMemory aw_pagesLeast aw_pagesMost aw_globalCount wgt wft wfv wgc aw_exportCount wek wei wes wez ab ax ab_length ax cax gax) H := hP
        have hD : va_D A (wz_243 ac cfi clk clt ac_length cop cva cpt cel ac_labelCount cla clk cclk gclk clt cclt j14_clt h0 aw ac n10 h0_limit n11 h0_codeCount ob h0_openCount aw ab ac aw_typeCount wat wap wag aw_functionCount waf aw_hasMemory aw_pagesLeast aw_pagesMost aw_globalCount wgt wft wfv wgc aw_exportCount wek wei wes wez ab ax ab_length ax cax gax) := hD
        refine lv_l2i hx hb d_RE_readLocals_36 rfl ?_
        refine lv_topi (fun x12 ex12 => ?_)
        have tx12 := l2i_t ex12 (by (first | (apply Int.le_antisymm <;> omega) | omega)) (by (first | (apply Int.le_antisymm <;> omega) | omega))
        refine lv_istore (lv' := [(5, .int x12), (0, .ref h0), (1, .int p0), (2, .int j14_l2), (3, .int x5), (4, .int j14_l4)]) hx hb d_RE_readLocals_37 hl (by decide) rfl (fun ls hl => ?_)
        refine lv_aload_n hx hb d_RE_readLocals_39 rfl (lv_at hl 1 rfl) ?_
        have hPc := hP.sb (wq := (wz_46 h0 aw ac n10 h0_limit n11 h0_codeCount ob h0_openCount aw ab ac aw_typeCount wat wap wag aw_functionCount waf aw_hasMemory aw_pagesLeast aw_pagesMost aw_globalCount wgt wft wfv wgc aw_exportCount wek wei wes wez ab ax ab_length ax cax gax)) [3, 4, 5, 6] rfl
        have hDc := hD.sb (wq := (wz_46 h0 aw ac n10 h0_limit n11 h0_codeCount ob h0_openCount aw ab ac aw_typeCount wat wap wag aw_functionCount waf aw_hasMemory aw_pagesLeast aw_pagesMost aw_globalCount wgt wft wfv wgc aw_exportCount wek wei wes wez ab ax ab_length ax cax gax)) [3, 4, 5, 6] (by decide) rfl
        have hKc := hK.sb (tyq := [(cax, .byte)]) [0] rfl
        have hFc := va_free (wc := (wz_46 h0 aw ac n10 h0_limit n11 h0_codeCount ob h0_openCount aw ab ac aw_typeCount wat wap wag aw_functionCount waf aw_hasMemory aw_pagesLeast aw_pagesMost aw_globalCount wgt wft wfv wgc aw_exportCount wek wei wes wez ab ax ab_length ax cax gax)) hD hS hA [3, 4, 5, 6] rfl
        refine va_calli (va_runV (As := []) (rest := []) ⟨hx, hb, hml, hown, hts⟩ (c_RE_readTypey l dC dI H.size h0 aw ac ob ab wat wap wag waf wgt wft wfv wgc wek wei wes wez ax cax n10 h0_limit n11 h0_codeCount h0_openCount aw_typeCount aw_functionCount aw_hasMemory aw_pagesLeast aw_pagesMost aw_globalCount aw_exportCount ab_length gax (bn11) (by (try dsimp only) <;> (first | (apply Int.le_antisymm <;> omega) | omega))) (cwV 0 hts (gV kM_RE_109 kV_RE_readType kS_RE_readType kI_RE kC_RE_readType) rfl rfl rfl (by decide +kernel) ⟨Nat.le_of_ble_eq_true rfl, Nat.le_of_ble_eq_true rfl⟩) ⟨fun a U g mk z => by obtain ⟨z0, z1, zP, zK, zD⟩ := z; exact ⟨z0, z1, zP, va_K.moved (u := U) (U := U.calling g mk a) (Vm.Alike.refl U.vm) zK, zD⟩, va_recv hKc hPc (ci := 7) (q0 := 0) rfl rfl, fun U hU hW => ⟨rfl, by rw [hU], va_P.he hU.symm hPc, va_K.moved hW.alike hKc, hDc.weaken (fun _ _ _ _ => trivial)⟩⟩ rfl rfl hl.1 rfl (lv_room (Nat.le_of_ble_eq_true rfl)) d_RE_readLocals_40 ⟨(Nat.zero_le _), (Nat.zero_le _)⟩) hS (fun q _ h => hFc q h) hFc (fun r13 u t H1 locs ht hvm hw hB hz1 hk1 hS => ?_)
        obtain ⟨n14, n15⟩ := u
        try dsimp only at hw
        obtain ⟨br13, bn15, xr13⟩ := hw
        try clear hw
        have tn15 := b01 bn15
        obtain ⟨hP1, hK1, hD1⟩ := hB
        replace hP1 := va_P.he ht hP1
        obtain ⟨hP, hD⟩ := va_join (wr := (wz_242 ac cfi clk clt ac_length cop cva cpt cel ac_labelCount cla clk cclk gclk clt cclt j14_clt)) (w1 := (wz_46 h0 aw ac n14 h0_limit n15 h0_codeCount ob h0_openCount aw ab ac aw_typeCount wat wap wag aw_functionCount waf aw_hasMemory aw_pagesLeast aw_pagesMost aw_globalCount wgt wft wfv wgc aw_exportCount wek wei wes wez ab ax ab_length ax cax gax)) hP hD [3, 4, 5, 6] [0, 1, 2] rfl rfl (by decide) (by decide) hk1 hFc hP1 hD1
        clear hPc hDc hKc hFc hz1 hk1 hP1 hK1 hD1
        rename Heap => H
        have hP : va_P (dC, dI) cls (wz_243 ac cfi clk clt ac_length cop cva cpt cel ac_labelCount cla clk cclk gclk clt cclt j14_clt h0 aw ac n14 h0_limit n15 h0_codeCount ob h0_openCount aw ab ac aw_typeCount wat wap wag aw_functionCount waf aw_hasMemory aw_pagesLeast aw_pagesMost aw_globalCount wgt wft wfv wgc aw_exportCount wek wei wes wez ab ax ab_length ax cax gax) H := hP
        have hD : va_D A (wz_243 ac cfi clk clt ac_length cop cva cpt cel ac_labelCount cla clk cclk gclk clt cclt j14_clt h0 aw ac n14 h0_limit n15 h0_codeCount ob h0_openCount aw ab ac aw_typeCount wat wap wag aw_functionCount waf aw_hasMemory aw_pagesLeast aw_pagesMost aw_globalCount wgt wft wfv wgc aw_exportCount wek wei wes wez ab ax ab_length ax cax gax) := hD
        refine lv_istore (lv' := [(6, .int r13), (5, .int x12), (0, .ref h0), (1, .int p0), (2, .int j14_l2), (3, .int x5), (4, .int j14_l4)]) hx hb d_RE_readLocals_43 hl (by decide) rfl (fun ls hl => ?_)
        refine lv_iconst (v := 0) hx hb d_RE_readLocals_45 (by decide) ?_
        refine lv_istore (lv' := [(7, .int 0), (6, .int r13), (5, .int x12), (0, .ref h0), (1, .int p0), (2, .int j14_l2), (3, .int x5), (4, .int j14_l4)]) hx hb d_RE_readLocals_46 hl (by decide) rfl (fun ls hl => ?_)
        refine w_loop (σ := Int32 × (Nat → Int32)) (fun u H locs ls => match u with | (j48_l7, j48_clt) => (0 ≤ j48_l7.toInt ∧ j48_l7.toInt ≤ 60) ∧ (j48_l7.toInt ≤ x12.toInt) ∧ (bx (∀ j : Nat, ((j : Int) < 60 * p0.toInt + j14_l2.toInt) → j48_clt j = j14_clt j)) ∧ (bx (∀ j : Nat, j14_l2.toInt ≤ (j : Int) → (j : Int) < j14_l2.toInt + j48_l7.toInt → (j48_clt ((60 * p0.toInt).toNat + j)).toInt = r13.toInt)) ∧ (bx (∀ j : Nat, ((j : Int) < 60 * p0.toInt ∨ 60 * p0.toInt + 60 ≤ (j : Int)) → j48_clt j = gclt j)) ∧ va_P (dC, dI) cls (wz_243 ac cfi clk clt ac_length cop cva cpt cel ac_labelCount cla clk cclk gclk clt cclt j48_clt h0 aw ac n14 h0_limit n15 h0_codeCount ob h0_openCount aw ab ac aw_typeCount wat wap wag aw_functionCount waf aw_hasMemory aw_pagesLeast aw_pagesMost aw_globalCount wgt wft wfv wgc aw_exportCount wek wei wes wez ab ax ab_length ax cax gax) H ∧ va_D A (wz_243 ac cfi clk clt ac_length cop cva cpt cel ac_labelCount cla clk cclk gclk clt cclt j48_clt h0 aw ac n14 h0_limit n15 h0_codeCount ob h0_openCount aw ab ac aw_typeCount wat wap wag aw_functionCount waf aw_hasMemory aw_pagesLeast aw_pagesMost aw_globalCount wgt wft wfv wgc aw_exportCount wek wei wes wez ab ax ab_length ax cax gax) ∧ va_S A s.heap H locs ∧ lv_has ls 8 [(0, .ref h0), (1, .int p0), (2, .int j14_l2), (3, .int x5), (4, .int j14_l4), (5, .int x12), (6, .int r13), (7, .int j48_l7)]) (fun u => match u with | (j48_l7, j48_clt) => (x12.toInt - j48_l7.toInt).toNat) ?_ (0, j14_clt) ⟨by (try dsimp only) <;> (first | (apply Int.le_antisymm <;> omega) | omega), by (try dsimp only) <;> (first | (apply Int.le_antisymm <;> omega) | omega), (fun _ _ => rfl), (fun j h1 h2 => absurd h2 (by (first | (apply Int.le_antisymm <;> omega) | omega))), v5, hP, hD, hS, lv_sub hl [3, 4, 5, 6, 7, 2, 1, 0] rfl⟩
        intro N48 ih48 u H locs ls hN48 hI
        obtain ⟨j48_l7, j48_clt⟩ := u
        obtain ⟨b_j48_l7, u1, u4, u5, u7, hP, hD, hS, hl⟩ := hI
        have hN48 : (x12.toInt - j48_l7.toInt).toNat < N48 + 1 := hN48
        refine lv_iload hx hb d_RE_readLocals_48 (lv_at hl 7 rfl) ?_
        refine lv_iload hx hb d_RE_readLocals_50 (lv_at hl 5 rfl) ?_
        refine lv_icmp_ge (tgt := 80) hx hb d_RE_readLocals_52 (by decide) (fun c52 => ?_) (fun c52 => ?_)
        · have q52 := leI c52
          refine lv_iload_n hx hb d_RE_readLocals_80 rfl (lv_at hl 2 rfl) ?_
          refine lv_iload hx hb d_RE_readLocals_81 (lv_at hl 5 rfl) ?_
          refine lv_iadd hx hb d_RE_readLocals_83 ?_
          refine lv_topi (fun x16 ex16 => ?_)
          have tx16 : x16.toInt = j14_l2.toInt + x12.toInt := by have z := i32_add ex16 (by (first | (apply Int.le_antisymm <;> omega) | omega)) (by (first | (apply Int.le_antisymm <;> omega) | omega)); first | exact z | (first | (apply Int.le_antisymm <;> omega) | omega)
          refine lv_istore_n (lv' := [(2, .int x16), (0, .ref h0), (1, .int p0), (3, .int x5), (4, .int j14_l4), (5, .int x12), (6, .int r13), (7, .int j48_l7)]) hx hb d_RE_readLocals_84 rfl hl (by decide) rfl (fun ls hl => ?_)
          obtain ⟨x17, ex17⟩ : ∃ z : Int32, z = j14_l4 + 1 := ⟨_, rfl⟩
          have tx17 : x17.toInt = j14_l4.toInt + 1 := by have z := i32_add ex17 (by (first | (apply Int.le_antisymm <;> omega) | omega)) (by (first | (apply Int.le_antisymm <;> omega) | omega)); first | exact z | (first | (apply Int.le_antisymm <;> omega) | omega)
          refine lv_iinc (v := x17) (lv' := [(4, .int x17), (2, .int x16), (0, .ref h0), (1, .int p0), (3, .int x5), (5, .int x12), (6, .int r13), (7, .int j48_l7)]) hx hb d_RE_readLocals_85 hl (k := 4) rfl (by rw [ex17]; rfl) (by decide) rfl (fun ls hl => ?_)
          refine lv_goto (tgt := 14) hx hb d_RE_readLocals_88 (by decide) ?_
          exact ih14 (x16, x17, j48_clt, n14, n15) _ _ _ (by show (x5.toInt - x17.toInt).toNat < N14; (first | (apply Int.le_antisymm <;> omega) | omega)) ⟨by (try dsimp only) <;> (first | (apply Int.le_antisymm <;> omega) | omega), by (try dsimp only) <;> (first | (apply Int.le_antisymm <;> omega) | omega), bn15, (by have z8 := lr_s v1 (by (first | (apply Int.le_antisymm <;> omega) | omega)) xr9.2 (M := x8.toInt) (by (first | (apply Int.le_antisymm <;> omega) | omega)) xr13.2 (lt2 := j48_clt) (by (first | (apply Int.le_antisymm <;> omega) | omega)) (by (first | (apply Int.le_antisymm <;> omega) | omega)) (by (first | (apply Int.le_antisymm <;> omega) | omega)) (by (first | (apply Int.le_antisymm <;> omega) | omega)) (fun j hj => u4.out _ (by (first | (apply Int.le_antisymm <;> omega) | omega))) (fun j h1 h2 => u5.out j h1 (by (first | (apply Int.le_antisymm <;> omega) | omega))); rw [show x5.toInt - x17.toInt = x5.toInt - j14_l4.toInt - 1 from by (first | (apply Int.le_antisymm <;> omega) | omega), show x16.toInt = j14_l2.toInt + r9.toInt from by (first | (apply Int.le_antisymm <;> omega) | omega)]; exact z8), by (try dsimp only) <;> (first | (apply Int.le_antisymm <;> omega) | omega), by (try dsimp only) <;> (first | (apply Int.le_antisymm <;> omega) | omega), u7, hP, hD, hS, lv_sub hl [2, 3, 1, 4, 0] rfl⟩
        · have q52 := nleI c52
          refine lv_aload_n hx hb d_RE_readLocals_55 rfl (lv_at hl 0 rfl) ?_
          refine va_get (D := (dC, dI)) (ci := 7) (v := .ref ac) (C := R_RE) (T := F_RE) (N := 8) hx hb hts i_RE hown hK hP 3 rfl rfl 1 (by decide) (hts _ kF_RE_25) (fun _ h9 => h9) rfl d_RE_readLocals_56 ?_
          refine va_get (D := (dC, dI)) (ci := 3) (v := .ref clt) (C := R_CD) (T := F_CD) (N := 10) hx hb hts i_CD hown hK hP 0 rfl rfl 2 (by decide) (hts _ kF_RE_188) (fun _ h9 => h9) rfl d_RE_readLocals_59 ?_
          refine lv_iload_n hx hb d_RE_readLocals_62 rfl (lv_at hl 1 rfl) ?_
          refine lv_bipush (v := 60) hx hb d_RE_readLocals_63 (by decide) ?_
          refine lv_imul hx hb d_RE_readLocals_65 ?_
          refine lv_topi (fun x18 ex18 => ?_)
          have tx18 : x18.toInt = p0.toInt * 60 := by have z := i32_mul ex18 (by rw [k60]; (first | (apply Int.le_antisymm <;> omega) | omega)) (by rw [k60]; (first | (apply Int.le_antisymm <;> omega) | omega)); rw [k60] at z; exact z
          refine lv_iload_n hx hb d_RE_readLocals_66 rfl (lv_at hl 2 rfl) ?_
          refine lv_iadd hx hb d_RE_readLocals_67 ?_
          refine lv_topi (fun x19 ex19 => ?_)
          have tx19 : x19.toInt = x18.toInt + j14_l2.toInt := by have z := i32_add ex19 (by (first | (apply Int.le_antisymm <;> omega) | omega)) (by (first | (apply Int.le_antisymm <;> omega) | omega)); first | exact z | (first | (apply Int.le_antisymm <;> omega) | omega)
          refine lv_iload hx hb d_RE_readLocals_68 (lv_at hl 7 rfl) ?_
          refine lv_iadd hx hb d_RE_readLocals_70 ?_
          refine lv_topi (fun x20 ex20 => ?_)
          have tx20 : x20.toInt = x19.toInt + j48_l7.toInt := by have z := i32_add ex20 (by (first | (apply Int.le_antisymm <;> omega) | omega)) (by (first | (apply Int.le_antisymm <;> omega) | omega)); first | exact z | (first | (apply Int.le_antisymm <;> omega) | omega)
          refine lv_iload hx hb d_RE_readLocals_71 (lv_at hl 6 rfl) ?_
          have g73 : vp_in x20 1800 := vp_in_iff.mpr ⟨by (first | (apply Int.le_antisymm <;> omega) | omega), by (first | (apply Int.le_antisymm <;> omega) | omega)⟩
          refine va_iast hx hb hK hP hD hS 2 2 rfl rfl g73 d_RE_readLocals_73 (fun H locs hP hD hS => ?_)
          generalize ef21 : upd j48_clt x20.toNatClampNeg r13 = f21 at hP hD
          obtain ⟨x22, ex22⟩ : ∃ z : Int32, z = j48_l7 + 1 := ⟨_, rfl⟩
          have tx22 : x22.toInt = j48_l7.toInt + 1 := by have z := i32_add ex22 (by (first | (apply Int.le_antisymm <;> omega) | omega)) (by (first | (apply Int.le_antisymm <;> omega) | omega)); first | exact z | (first | (apply Int.le_antisymm <;> omega) | omega)
          refine lv_iinc (v := x22) (lv' := [(7, .int x22), (0, .ref h0), (1, .int p0), (2, .int j14_l2), (3, .int x5), (4, .int j14_l4), (5, .int x12), (6, .int r13)]) hx hb d_RE_readLocals_74 hl (k := 7) rfl (by rw [ex22]; rfl) (by decide) rfl (fun ls hl => ?_)
          refine lv_goto (tgt := 48) hx hb d_RE_readLocals_77 (by decide) ?_
          have c73 := i32_clamp (x := x20) (by (first | (apply Int.le_antisymm <;> omega) | omega))
          exact ih48 (x22, f21) _ _ _ (by show (x12.toInt - x22.toInt).toNat < N48; (first | (apply Int.le_antisymm <;> omega) | omega)) ⟨by (try dsimp only) <;> (first | (apply Int.le_antisymm <;> omega) | omega), by (try dsimp only) <;> (first | (apply Int.le_antisymm <;> omega) | omega), (fun j hj => by rw [← ef21, pk_un (by (first | (apply Int.le_antisymm <;> omega) | omega))]; exact u4.out j hj), (fun j h1 h2 => by rw [← ef21]; by_cases q : (60 * p0.toInt).toNat + j = x20.toNatClampNeg; (rw [q, pk_us]); (rw [pk_un q]; exact u5.out j h1 (by (first | (apply Int.le_antisymm <;> omega) | omega)))), (fun j hj => by rw [← ef21, pk_un (by (first | (apply Int.le_antisymm <;> omega) | omega))]; exact u7.out j hj), hP, hD, hS, lv_sub hl [1, 2, 3, 4, 5, 6, 7, 0] rfl⟩
end q_n44q08
section q_n44q09
/-! p5: the class: a code -/
theorem zM_up {f : Nat → Int32} {L M M2 a n b : Nat} (h : zM f L M a = some (n, b)) (hM : M ≤ M2) : zM f L M2 a = some (n, b) := by
  have hl := zM_le h
  unfold zM at h ⊢
  split at h
  · rename_i v c e
    split at h
    · cases h
      exact if_pos (by (first | (apply Int.le_antisymm <;> omega) | omega))
    · cases h
  · cases h
theorem zM_none {f : Nat → Int32} {L M M2 a : Nat} (h : zM f L M a = none) : zM f L M2 a = none ∨ ∃ n b, zM f L M2 a = some (n, b) ∧ M < n := by
  cases e : zM f L M2 a with
  | none => exact Or.inl rfl
  | some x =>
    refine Or.inr ⟨x.1, x.2, rfl, ?_⟩
    unfold zM at h e
    cases e2 : zU f L 5 1 0 a with
    | none => rw [e2] at e; cases e
    | some y =>
      rw [e2] at h e
      dsimp only at h e
      split at e
      · cases e
        split at h
        · cases h
        · show M < y.1
          (first | (apply Int.le_antisymm <;> omega) | omega)
      · cases e
/-- the instructions of a code, n of them read: more: whether one more is to come -/
def kI (f : Nat → Int32) (L b : Nat) (l : List zIn) (s a more cl oc lc : Int32) (n : Int) (op pt el la go lt : Nat → Int32) (va : Nat → Int64) (p : Int) (t : Int32) : Prop :=
  (s.toInt = 1 ∧ ∃ (ls : List Nat) (is : List zIn), (t.toInt = (ls.length : Int) ∧ ls.length ≤ 60 ∧ ∀ (j x : Nat), ls[j]? = some x → (lt ((60 * p).toNat + j)).toInt = (x : Int)) ∧ RI op pt la va lc.toInt (l ++ is) ∧ (∀ j, (el j).toInt < 5000) ∧ (0 ≤ lc.toInt ∧ lc.toInt ≤ a.toInt) ∧ cl.toInt ≤ a.toInt ∧ cl.toInt = ((l ++ is).length : Int) ∧ (is.length : Int) = n ∧
    ((more.toInt = 1 ∧ ∃ st : List Nat, zBody f L b = (match zK f L (5001 - is.length) st is a.toNatClampNeg with | some (i2, e) => some (ls, i2, e) | none => none) ∧ (st.length : Int) = oc.toInt ∧ obI go op el (l ++ is).length (l ++ is).length st) ∨
     (more.toInt = 0 ∧ zBody f L b = some (ls, is, a.toNatClampNeg)))) ∨ (s.toInt = 0 ∧ zBody f L b = none)
theorem kI_0 {f op pt el la go lt lk lk2 : Nat → Int32} {va : Nat → Int64} {L b : Nat} {l : List zIn} {s a more cl oc lc : Int32} {n p : Int} (hz : loz f L b p s a lk lk2 lt) (hri : RI op pt la va lc.toInt l) (hel : ∀ j, (el j).toInt < 5000) (hlc : 0 ≤ lc.toInt ∧ lc.toInt ≤ a.toInt) (hcl : cl.toInt ≤ a.toInt) (hln : (l.length : Int) = cl.toInt) (hn : n = 0) (hm : more.toInt = 1) (ho : oc.toInt = 0) : ∃ t : Int32, lk2 = upd lk p.toNat t ∧ kI f L b l s a more cl oc lc n op pt el la go lt va p t := by
  obtain ⟨t, h1, ⟨h2, ls, h3, h4, h5, h6⟩ | ⟨h2, h3⟩⟩ := hz
  · refine ⟨t, h1, Or.inl ⟨h2, ls, [], ⟨h4, h5, h6⟩, by rw [List.append_nil]; exact hri, hel, hlc, hcl, by rw [List.append_nil]; (first | (apply Int.le_antisymm <;> omega) | omega), by rw [hn]; rfl, Or.inl ⟨hm, [], ?_, by rw [ho]; rfl, trivial⟩⟩⟩
    unfold zBody
    rw [h3]
    rfl
  · refine ⟨t, h1, Or.inr ⟨h2, ?_⟩⟩
    unfold zBody
    rw [h3]
theorem kI_s {f op2 pt2 el2 la2 go2 lt : Nat → Int32} {va2 : Nat → Int64} {L b : Nat} {l : List zIn} {a s2 a2 r cl2 oc2 lc2 t : Int32} {n p : Int} {ls : List Nat} {is : List zIn} {st : List Nat}
    (hls : t.toInt = (ls.length : Int) ∧ ls.length ≤ 60 ∧ ∀ (j x : Nat), ls[j]? = some x → (lt ((60 * p).toNat + j)).toInt = (x : Int)) (hB : zBody f L b = (match zK f L (5001 - is.length) st is a.toNatClampNeg with | some (i2, e) => some (ls, i2, e) | none => none)) (hn : (is.length : Int) = n) (hn2 : n ≤ 5000)
    (hz : riz f L a.toNatClampNeg st (l ++ is) s2 a2 cl2 oc2 lc2 r op2 pt2 el2 la2 go2 va2) : kI f L b l s2 a2 r cl2 oc2 lc2 (n + 1) op2 pt2 el2 la2 go2 lt va2 p t := by
  rw [show 5001 - is.length = (5000 - is.length) + 1 by (first | (apply Int.le_antisymm <;> omega) | omega), zK] at hB
  rcases hz with ⟨h1, x, so, h2, h3, h4, h5, h6, h7, h8⟩ | ⟨h1, h2⟩
  · rw [h2] at hB
    have e1 : l ++ is ++ [x] = l ++ (is ++ [x]) := List.append_assoc _ _ _
    have e2 : (l ++ (is ++ [x])).length = (l ++ is).length + 1 := by rw [← e1, List.length_append, List.length_singleton]
    have e3 : (is ++ [x]).length = is.length + 1 := by rw [List.length_append, List.length_singleton]
    rw [e1] at h4
    refine Or.inl ⟨h1, ls, is ++ [x], hls, h4, h5, h6, h7, by rw [e2]; (first | (apply Int.le_antisymm <;> omega) | omega), by rw [e3]; (first | (apply Int.le_antisymm <;> omega) | omega), ?_⟩
    cases so with
    | none =>
      dsimp only at h8 hB
      exact Or.inr ⟨h8, hB⟩
    | some s9 =>
      dsimp only at h8 hB
      refine Or.inl ⟨h8.1, s9, ?_, h8.2.1, by rw [e2]; exact h8.2.2⟩
      rw [hB, show 5001 - (is ++ [x]).length = 5000 - is.length by (first | (apply Int.le_antisymm <;> omega) | omega)]
  · rw [h2] at hB
    exact Or.inr ⟨h1, hB⟩
/-- what a code leaves -/
def cdz (f : Nat → Int32) (L a : Nat) (l : List zIn) (p : Int) (s2 a2 cl2 lc2 : Int32) (fi fi2 lk lk2 lt2 op pt el la : Nat → Int32) (va : Nat → Int64) : Prop := (s2.toInt = 1 ∧ ∃ (ls : List Nat) (is : List zIn) (t x y : Int32), zCode f L a = some ((ls, is), a2.toNatClampNeg) ∧ t.toInt = (ls.length : Int) ∧ ls.length ≤ 60 ∧ (∀ (j z : Nat), ls[j]? = some z → (lt2 ((60 * p).toNat + j)).toInt = (z : Int)) ∧ lk2 = upd lk p.toNat t ∧ fi2 = upd (upd fi p.toNat x) (p.toNat + 1) y ∧ x.toInt = (l.length : Int) ∧ y.toInt = ((l ++ is).length : Int) ∧ RI op pt la va lc2.toInt (l ++ is) ∧ (∀ j, (el j).toInt < 5000) ∧ (0 ≤ lc2.toInt ∧ lc2.toInt ≤ a2.toInt) ∧ cl2.toInt ≤ a2.toInt ∧ cl2.toInt = ((l ++ is).length : Int)) ∨ (s2.toInt = 0 ∧ zCode f L a = none)
theorem cd_n1 {f : Nat → Int32} {L a : Nat} {s s2 a2 : Int32} {r M : Int} (h : rz (zM f L M.toNat a) s s2 a2 r) (hs : s.toInt = 1) (hM : (L : Int) ≤ M) (hM2 : M ≤ 4294967295) (h2 : ¬ (s2.toInt = 1 ∧ r ≤ (L : Int) - a2.toInt)) (ha : 0 ≤ a2.toInt) : zCode f L a = none := by
  have k2 := i32_clamp ha
  unfold zCode
  rcases h with ⟨u1, u2, u3, u4⟩ | ⟨u1, u2⟩
  · rw [zM_up u4 (show M.toNat ≤ 4294967295 by (first | (apply Int.le_antisymm <;> omega) | omega))]
    dsimp only
    have := (zM_le u4).2.2
    exact if_neg (by (first | (apply Int.le_antisymm <;> omega) | omega))
  · rcases zM_none (M2 := 4294967295) (u2 hs) with e | ⟨n, b, e, hn⟩
    · rw [e]
    · rw [e]
      dsimp only
      exact if_neg (by (first | (apply Int.le_antisymm <;> omega) | omega))
theorem cd_1 {f : Nat → Int32} {L a : Nat} {s s2 a2 : Int32} {r M : Int} {L2 : Nat} (h : rz (zM f L M.toNat a) s s2 a2 r) (hs : s2.toInt = 1) (hM2 : M ≤ 4294967295) (h2 : r ≤ (L : Int) - a2.toInt) (ha : 0 ≤ a2.toInt) (hL2 : (L2 : Int) = a2.toInt + r) : zCode f L a = (match zBody f L2 a2.toNatClampNeg with | some (ls, is, e) => if e = L2 then some ((ls, is), e) else none | none => none) := by
  have k2 := i32_clamp ha
  unfold zCode
  rcases h with ⟨u1, u2, u3, u4⟩ | ⟨u1, u2⟩
  · rw [zM_up u4 (show M.toNat ≤ 4294967295 by (first | (apply Int.le_antisymm <;> omega) | omega))]
    dsimp only
    rw [if_pos (by (first | (apply Int.le_antisymm <;> omega) | omega)), show a2.toNatClampNeg + r.toNat = L2 by (first | (apply Int.le_antisymm <;> omega) | omega)]
    cases zBody f L2 a2.toNatClampNeg with
    | none => rfl
    | some x => rfl
  · exact absurd u1 (by (first | (apply Int.le_antisymm <;> omega) | omega))
theorem kI_in {f op pt el la go lt : Nat → Int32} {va : Nat → Int64} {L b : Nat} {l : List zIn} {s a more cl oc lc t : Int32} {n p : Int} (h : kI f L b l s a more cl oc lc n op pt el la go lt va p t) (hs : s.toInt = 1) (hm : more.toInt = 1) : ∃ (ls : List Nat) (is : List zIn) (st : List Nat), (t.toInt = (ls.length : Int) ∧ ls.length ≤ 60 ∧ ∀ (j x : Nat), ls[j]? = some x → (lt ((60 * p).toNat + j)).toInt = (x : Int)) ∧ RI op pt la va lc.toInt (l ++ is) ∧ (∀ j, (el j).toInt < 5000) ∧ (0 ≤ lc.toInt ∧ lc.toInt ≤ a.toInt) ∧ cl.toInt ≤ a.toInt ∧ cl.toInt = ((l ++ is).length : Int) ∧ (is.length : Int) = n ∧ zBody f L b = (match zK f L (5001 - is.length) st is a.toNatClampNeg with | some (i2, e) => some (ls, i2, e) | none => none) ∧ (st.length : Int) = oc.toInt ∧ obI go op el (l ++ is).length (l ++ is).length st := by
  rcases h with ⟨h1, ls, is, h2, h3, h4, h5, h6, h7, h8, ⟨h9, st, h10, h11, h12⟩ | ⟨h9, h10⟩⟩ | ⟨h1, h2⟩
  · exact ⟨ls, is, st, h2, h3, h4, h5, h6, h7, h8, h10, h11, h12⟩
  · (first | (apply Int.le_antisymm <;> omega) | omega)
  · (first | (apply Int.le_antisymm <;> omega) | omega)
theorem kI_n {f op pt el la go lt : Nat → Int32} {va : Nat → Int64} {L b : Nat} {l : List zIn} {s a more cl oc lc t : Int32} {n p : Int} (h : kI f L b l s a more cl oc lc n op pt el la go lt va p t) (hs : s.toInt = 1) : n ≤ a.toInt := by
  rcases h with ⟨h1, ls, is, h2, h3, h4, h5, h6, h7, h8, h9⟩ | ⟨h1, h2⟩
  · rw [List.length_append] at h7
    (first | (apply Int.le_antisymm <;> omega) | omega)
  · (first | (apply Int.le_antisymm <;> omega) | omega)
theorem cd_e {f op pt el la go lt fi lk : Nat → Int32} {va : Nat → Int64} {L b a0 : Nat} {l : List zIn} {s a more cl oc lc t s3 L0 x y : Int32} {n p : Int} (h : kI f L b l s a more cl oc lc n op pt el la go lt va p t) (hm : s.toInt = 0 ∨ more.toInt = 0) (hz : zCode f L0.toNatClampNeg a0 = (match zBody f L b with | some (ls, is, e) => if e = L then some ((ls, is), e) else none | none => none)) (c : (s3.toInt = 1 ∧ s.toInt = 1 ∧ a.toInt = (L : Int)) ∨ (s3.toInt = 0 ∧ ¬ (s.toInt = 1 ∧ a.toInt = (L : Int)))) (ha : 0 ≤ a.toInt) (hx : x.toInt = (l.length : Int)) (hy : y = cl) : cdz f L0.toNatClampNeg a0 l p s3 a cl lc fi (upd (upd fi p.toNat x) (p.toNat + 1) y) lk (upd lk p.toNat t) lt op pt el la va := by
  have ka := i32_clamp ha
  subst hy
  rcases h with ⟨h1, ls, is, h2, h3, h4, h5, h6, h7, h8, ⟨h9, h10⟩ | ⟨h9, h10⟩⟩ | ⟨h1, h2⟩
  · (first | (apply Int.le_antisymm <;> omega) | omega)
  · rw [h10] at hz
    dsimp only at hz
    rcases c with ⟨c1, c2, c3⟩ | ⟨c1, c2⟩
    · rw [if_pos (by (first | (apply Int.le_antisymm <;> omega) | omega))] at hz
      exact Or.inl ⟨c1, ls, is, t, x, y, hz, h2.1, h2.2.1, h2.2.2, rfl, rfl, hx, h7, h3, h4, h5, h6, h7⟩
    · rw [if_neg (by (first | (apply Int.le_antisymm <;> omega) | omega))] at hz
      exact Or.inr ⟨c1, hz⟩
  · rw [h2] at hz
    exact Or.inr ⟨by (first | (apply Int.le_antisymm <;> omega) | omega), hz⟩
end q_n44q09
section q_n44q10
/-! p5: the class: a code is read as zCode reads it -/
abbrev at_RE_readCodey (dC : Nat → ClassId) (dI : Nat → Nat → Nat) (h0 aw ac ob ab wat wap wag waf wgt wft wfv wgc wek wei wes wez ax cfi clk clt cop cva cpt cel cla : Nat) (cax cob ccfi cclk cclt ccop ccva ccpt ccel ccla : ClassId) (h0_codeCount : Int32) (aw_typeCount : Int32) (aw_functionCount : Int32) (aw_hasMemory : Int32) (aw_pagesLeast : Int64) (aw_pagesMost : Int64) (aw_globalCount : Int32) (aw_exportCount : Int32) (ab_length : Int32) (gax : Nat → Int32) (A : Nat → Prop) (u : (Nat → Int32) × (Nat → Int32) × (Nat → Int32) × (Nat → Int32) × (Nat → Int32) × (Nat → Int32) × (Nat → Int32) × (Nat → Int64) × (Nat → Int32) × Int32 × Int32 × Int32 × Int32 × Int32 × Int32) (t : State) : Prop := match u with | (gcel, gcfi, gcla, gclk, gclt, gcop, gcpt, gcva, gob, ac_labelCount, ac_length, h0_at, h0_limit, h0_openCount, h0_sound) => va_P (dC, dI) cls (wz_50 h0 aw ac h0_at h0_limit h0_sound h0_codeCount ob h0_openCount aw ab ac aw_typeCount wat wap wag aw_functionCount waf aw_hasMemory aw_pagesLeast aw_pagesMost aw_globalCount wgt wft wfv wgc aw_exportCount wek wei wes wez ab ax ab_length ac cfi clk clt ac_length cop cva cpt cel ac_labelCount cla ax cax gax ob cob gob cfi ccfi gcfi clk cclk gclk clt cclt gclt cop ccop gcop cva ccva gcva cpt ccpt gcpt cel ccel gcel cla ccla gcla) t.heap ∧ va_K (dC, dI) cls [(cax, .byte), (cob, .int), (ccfi, .int), (cclk, .int), (cclt, .int), (ccop, .int), (ccva, .long), (ccpt, .int), (ccel, .int), (ccla, .int)] t ∧ va_D A (wz_50 h0 aw ac h0_at h0_limit h0_sound h0_codeCount ob h0_openCount aw ab ac aw_typeCount wat wap wag aw_functionCount waf aw_hasMemory aw_pagesLeast aw_pagesMost aw_globalCount wgt wft wfv wgc aw_exportCount wek wei wes wez ab ax ab_length ac cfi clk clt ac_length cop cva cpt cel ac_labelCount cla ax cax gax ob cob gob cfi ccfi gcfi clk cclk gclk clt cclt gclt cop ccop gcop cva ccva gcva cpt ccpt gcpt cel ccel gcel cla ccla gcla)
set_option maxHeartbeats 4000000 in
set_option maxRecDepth 100000 in
theorem c_RE_readCodey (l : Launch) (dC : Nat → ClassId) (dI : Nat → Nat → Nat) (sz : Nat) (h0 aw ac ob ab wat wap wag waf wgt wft wfv wgc wek wei wes wez ax cfi clk clt cop cva cpt cel cla : Nat) (cax cob ccfi cclk cclt ccop ccva ccpt ccel ccla : ClassId) (h0_at : Int32) (h0_limit : Int32) (h0_sound : Int32) (h0_codeCount : Int32) (h0_openCount : Int32) (aw_typeCount : Int32) (aw_functionCount : Int32) (aw_hasMemory : Int32) (aw_pagesLeast : Int64) (aw_pagesMost : Int64) (aw_globalCount : Int32) (aw_exportCount : Int32) (ab_length : Int32) (ac_length : Int32) (ac_labelCount : Int32) (gax : Nat → Int32) (gob : Nat → Int32) (gcfi : Nat → Int32) (gclk : Nat → Int32) (gclt : Nat → Int32) (gcop : Nat → Int32) (gcva : Nat → Int64) (gcpt : Nat → Int32) (gcel : Nat → Int32) (gcla : Nat → Int32) (l9 : List zIn)  (b_h0_sound : h0_sound = 0 ∨ h0_sound = 1) (b_h0_openCount : 0 ≤ h0_openCount.toInt ∧ h0_openCount.toInt ≤ 100) (b_ac_length : 0 ≤ ac_length.toInt ∧ ac_length.toInt ≤ 5000) (b_ac_labelCount : 0 ≤ ac_labelCount.toInt ∧ ac_labelCount.toInt ≤ 2000) (p0 : Int32)  (ha : 0 ≤ h0_at.toInt ∧ h0_at.toInt ≤ h0_limit.toInt ∧ h0_limit.toInt ≤ ab_length.toInt ∧ ab_length.toInt ≤ 8192) (hs : h0_sound.toInt = 1) (hn : h0_limit.toInt ≤ 2000) (hp : 0 ≤ p0.toInt ∧ p0.toInt < 30) (hri : RI gcop gcpt gcla gcva ac_labelCount.toInt l9) (hln : (l9.length : Int) = ac_length.toInt) (hlc : 0 ≤ ac_labelCount.toInt ∧ ac_labelCount.toInt ≤ h0_at.toInt) (hcl : ac_length.toInt ≤ h0_at.toInt) (hel : bx (∀ j : Nat, (gcel j).toInt < 5000)) : Met l y_RE_readCode w_RE_readCode ({ frames := 4, cells := 0, slots := 0, locals := 91 }) (va_Pc [.ref h0, .int p0] (fun U => U.heap.size = sz ∧ va_P (dC, dI) cls (wz_50 h0 aw ac h0_at h0_limit h0_sound h0_codeCount ob h0_openCount aw ab ac aw_typeCount wat wap wag aw_functionCount waf aw_hasMemory aw_pagesLeast aw_pagesMost aw_globalCount wgt wft wfv wgc aw_exportCount wek wei wes wez ab ax ab_length ac cfi clk clt ac_length cop cva cpt cel ac_labelCount cla ax cax gax ob cob gob cfi ccfi gcfi clk cclk gclk clt cclt gclt cop ccop gcop cva ccva gcva cpt ccpt gcpt cel ccel gcel cla ccla gcla) U.heap ∧ va_K (dC, dI) cls [(cax, .byte), (cob, .int), (ccfi, .int), (cclk, .int), (cclt, .int), (ccop, .int), (ccva, .long), (ccpt, .int), (ccel, .int), (ccla, .int)] U ∧ va_D (fun _ => True) (wz_50 h0 aw ac h0_at h0_limit h0_sound h0_codeCount ob h0_openCount aw ab ac aw_typeCount wat wap wag aw_functionCount waf aw_hasMemory aw_pagesLeast aw_pagesMost aw_globalCount wgt wft wfv wgc aw_exportCount wek wei wes wez ab ax ab_length ac cfi clk clt ac_length cop cva cpt cel ac_labelCount cla ax cax gax ob cob gob cfi ccfi gcfi clk cclk gclk clt cclt gclt cop ccop gcop cva ccva gcva cpt ccpt gcpt cel ccel gcel cla ccla gcla))) (va_Qv (fun (u : (Nat → Int32) × (Nat → Int32) × (Nat → Int32) × (Nat → Int32) × (Nat → Int32) × (Nat → Int32) × (Nat → Int32) × (Nat → Int64) × (Nat → Int32) × Int32 × Int32 × Int32 × Int32 × Int32 × Int32) => match u with | (gcel2, gcfi2, gcla2, gclk2, gclt2, gcop2, gcpt2, gcva2, gob2, ac_labelCount2, ac_length2, h0_at2, h0_limit2, h0_openCount2, h0_sound2) => (0 ≤ ac_labelCount2.toInt ∧ ac_labelCount2.toInt ≤ 2000) ∧ (0 ≤ ac_length2.toInt ∧ ac_length2.toInt ≤ 5000) ∧ (0 ≤ h0_openCount2.toInt ∧ h0_openCount2.toInt ≤ 100) ∧ (h0_sound2 = 0 ∨ h0_sound2 = 1) ∧ ((h0_at.toInt ≤ h0_at2.toInt ∧ h0_at2.toInt ≤ h0_limit.toInt) ∧ h0_limit = h0_limit2 ∧ bx (∀ j : Nat, ((j : Int) < 60 * p0.toInt ∨ 60 * p0.toInt + 60 ≤ (j : Int)) → gclt2 j = gclt j) ∧ cdz gax h0_limit.toNatClampNeg h0_at.toNatClampNeg l9 p0.toInt h0_sound2 h0_at2 ac_length2 ac_labelCount2 gcfi gcfi2 gclk gclk2 gclt2 gcop2 gcpt2 gcel2 gcla2 gcva2)) (at_RE_readCodey dC dI h0 aw ac ob ab wat wap wag waf wgt wft wfv wgc wek wei wes wez ax cfi clk clt cop cva cpt cel cla cax cob ccfi cclk cclt ccop ccva ccpt ccel ccla h0_codeCount aw_typeCount aw_functionCount aw_hasMemory aw_pagesLeast aw_pagesMost aw_globalCount aw_exportCount ab_length gax (va_A (wz_50 h0 aw ac h0_at h0_limit h0_sound h0_codeCount ob h0_openCount aw ab ac aw_typeCount wat wap wag aw_functionCount waf aw_hasMemory aw_pagesLeast aw_pagesMost aw_globalCount wgt wft wfv wgc aw_exportCount wek wei wes wez ab ax ab_length ac cfi clk clt ac_length cop cva cpt cel ac_labelCount cla ax cax gax ob cob gob cfi ccfi gcfi clk cclk gclk clt cclt gclt cop ccop gcop cva ccva gcva cpt ccpt gcpt cel ccel gcel cla ccla gcla) sz)) (va_A (wz_50 h0 aw ac h0_at h0_limit h0_sound h0_codeCount ob h0_openCount aw ab ac aw_typeCount wat wap wag aw_functionCount waf aw_hasMemory aw_pagesLeast aw_pagesMost aw_globalCount wgt wft wfv wgc aw_exportCount wek wei wes wez ab ax ab_length ac cfi clk clt ac_length cop cva cpt cel ac_labelCount cla ax cax gax ob cob gob cfi ccfi gcfi clk cclk gclk clt cclt gclt cop ccop gcop cva ccva gcva cpt ccpt gcpt cel ccel gcel cla ccla gcla) sz)) 0 0 (va_A (wz_50 h0 aw ac h0_at h0_limit h0_sound h0_codeCount ob h0_openCount aw ab ac aw_typeCount wat wap wag aw_functionCount waf aw_hasMemory aw_pagesLeast aw_pagesMost aw_globalCount wgt wft wfv wgc aw_exportCount wek wei wes wez ab ax ab_length ac cfi clk clt ac_length cop cva cpt cel ac_labelCount cla ax cax gax ob cob gob cfi ccfi gcfi clk cclk gclk clt cclt gclt cop ccop gcop cva ccva gcva cpt ccpt gcpt cel ccel gcel cla ccla gcla) sz) := by
  refine Met.ofW (cc := b_RE_readCode) (maxL := 6) (ret := none) (by decide) rfl ?_
  intro p e s m args below meth c s₁ B hml hv
  obtain ⟨rfl, hsz, hP, hK, hD0⟩ := hv
  have hx := B.exec
  have hb := B.bytes
  have hr := B.returns
  have hts0 := atoms_spec (ws := w_RE_readCode) B.pre
  have hts : ∀ w ∈ lw_g, w.before _ s = true := fun w h => hts0 w (List.mem_cons_of_mem _ h)
  have hown : s.vm.findClass R_RE = some m.cls := findClass_of_methodNamed B.named
  have hlocks := B.notSynchronized
  clear hts0
  subst hsz
  have hD := hD0.self (sz := s.heap.size)
  generalize hAe : va_A (wz_50 h0 aw ac h0_at h0_limit h0_sound h0_codeCount ob h0_openCount aw ab ac aw_typeCount wat wap wag aw_functionCount waf aw_hasMemory aw_pagesLeast aw_pagesMost aw_globalCount wgt wft wfv wgc aw_exportCount wek wei wes wez ab ax ab_length ac cfi clk clt ac_length cop cva cpt cel ac_labelCount cla ax cax gax ob cob gob cfi ccfi gcfi clk cclk gclk clt cclt gclt cop ccop gcop cva ccva gcva cpt ccpt gcpt cel ccel gcel cla ccla gcla) s.heap.size = A at hD ⊢
  have hA : ∀ q : Nat, s.heap.size ≤ q → A q := fun q h => by rw [← hAe]; exact Or.inr h
  clear hAe
  have hP : va_P (dC, dI) cls (wz_50 h0 aw ac h0_at h0_limit h0_sound h0_codeCount ob h0_openCount aw ab ac aw_typeCount wat wap wag aw_functionCount waf aw_hasMemory aw_pagesLeast aw_pagesMost aw_globalCount wgt wft wfv wgc aw_exportCount wek wei wes wez ab ax ab_length ac cfi clk clt ac_length cop cva cpt cel ac_labelCount cla ax cax gax ob cob gob cfi ccfi gcfi clk cclk gclk clt cclt gclt cop ccop gcop cva ccva gcva cpt ccpt gcpt cel ccel gcel cla ccla gcla) s.heap := hP
  have hl := lv_entry ([.ref h0, .int p0]) (n := 6) (Nat.le_of_ble_eq_true rfl)
  rw [lg_entry_eq]
  generalize (lg_sl ([.ref h0, .int p0]) ++ List.replicate (6 - (lg_sl ([.ref h0, .int p0])).length) Slot.unset).toArray = ls at hl ⊢
  have hl : lv_has ls 6 [(0, .ref h0), (1, .int p0)] := hl
  have k0 : (0 : Int32).toInt = 0 := by decide
  refine w_gen (A := A) hP (fun H locs hP hS => ?_)
  have k1 : (1 : Int32).toInt = 1 := by decide
  have k5000 : (5000 : Int32).toInt = 5000 := by decide
  have lo_p0 := i32_lo p0
  have hi_p0 := i32_hi p0
  have th0_sound := b01 b_h0_sound
  have zat := i32_clamp (x := h0_at) (by (first | (apply Int.le_antisymm <;> omega) | omega))
  have zlm := i32_clamp (x := h0_limit) (by (first | (apply Int.le_antisymm <;> omega) | omega))
  refine lv_aload_n hx hb d_RE_readCode_0 rfl (lv_at hl 0 rfl) ?_
  refine va_get (D := (dC, dI)) (ci := 7) (v := .int h0_limit) (C := R_RE) (T := F_RE) (N := 8) hx hb hts i_RE hown hK hP 0 rfl rfl 3 (by decide) (hts _ kF_RE_42) (fun _ h9 => h9) rfl d_RE_readCode_1 ?_
  refine lv_istore_n (lv' := [(2, .int h0_limit), (0, .ref h0), (1, .int p0)]) hx hb d_RE_readCode_4 rfl hl (by decide) rfl (fun ls hl => ?_)
  refine lv_aload_n hx hb d_RE_readCode_5 rfl (lv_at hl 1 rfl) ?_
  refine lv_aload_n hx hb d_RE_readCode_6 rfl (lv_at hl 1 rfl) ?_
  refine va_get (D := (dC, dI)) (ci := 7) (v := .ref aw) (C := R_RE) (T := F_RE) (N := 8) hx hb hts i_RE hown hK hP 0 rfl rfl 0 (by decide) (hts _ kF_RE_15) (fun _ h9 => h9) rfl d_RE_readCode_7 ?_
  refine va_get (D := (dC, dI)) (ci := 10) (v := .ref ab) (C := R_WA) (T := F_WA) (N := 21) hx hb hts i_WA hown hK hP 1 rfl rfl 0 (by decide) (hts _ kF_RE_33) (fun _ h9 => h9) rfl d_RE_readCode_10 ?_
  refine va_get (D := (dC, dI)) (ci := 1) (v := .int ab_length) (C := R_BR) (T := F_BR) (N := 2) hx hb hts i_BR hown hK hP 2 rfl rfl 1 (by decide) (hts _ kF_RE_37) (fun _ h9 => h9) rfl d_RE_readCode_13 ?_
  refine lv_i2l hx hb d_RE_readCode_16 rfl ?_
  refine lv_topl (fun x1 ex1 => ?_)
  have tx1 := i2l_t ex1
  have hPc := hP.sb (wq := (wz_46 h0 aw ac h0_at h0_limit h0_sound h0_codeCount ob h0_openCount aw ab ac aw_typeCount wat wap wag aw_functionCount waf aw_hasMemory aw_pagesLeast aw_pagesMost aw_globalCount wgt wft wfv wgc aw_exportCount wek wei wes wez ab ax ab_length ax cax gax)) [0, 1, 2, 4] rfl
  have hDc := hD.sb (wq := (wz_46 h0 aw ac h0_at h0_limit h0_sound h0_codeCount ob h0_openCount aw ab ac aw_typeCount wat wap wag aw_functionCount waf aw_hasMemory aw_pagesLeast aw_pagesMost aw_globalCount wgt wft wfv wgc aw_exportCount wek wei wes wez ab ax ab_length ax cax gax)) [0, 1, 2, 4] (by decide) rfl
  have hKc := hK.sb (tyq := [(cax, .byte)]) [0] rfl
  have hFc := va_free (wc := (wz_46 h0 aw ac h0_at h0_limit h0_sound h0_codeCount ob h0_openCount aw ab ac aw_typeCount wat wap wag aw_functionCount waf aw_hasMemory aw_pagesLeast aw_pagesMost aw_globalCount wgt wft wfv wgc aw_exportCount wek wei wes wez ab ax ab_length ax cax gax)) hD hS hA [0, 1, 2, 4] rfl
  refine va_calll (va_runV (As := [.long x1]) (rest := []) ⟨hx, hb, hml, hown, hts⟩ (c_RE_readUnsignedy l dC dI H.size h0 aw ac ob ab wat wap wag waf wgt wft wfv wgc wek wei wes wez ax cax h0_at h0_limit h0_sound h0_codeCount h0_openCount aw_typeCount aw_functionCount aw_hasMemory aw_pagesLeast aw_pagesMost aw_globalCount aw_exportCount ab_length gax (b_h0_sound) x1 (by (try dsimp only) <;> (first | (apply Int.le_antisymm <;> omega) | omega)) (by (first | (apply Int.le_antisymm <;> omega) | omega))) (cwV 1 hts (gV kM_RE_64 kV_RE_readUnsigned kS_RE_readUnsigned kI_RE kC_RE_readUnsigned) rfl rfl rfl (by decide +kernel) ⟨Nat.le_of_ble_eq_true rfl, Nat.le_of_ble_eq_true rfl⟩) ⟨fun a U g mk z => by obtain ⟨z0, z1, zP, zK, zD⟩ := z; exact ⟨z0, z1, zP, va_K.moved (u := U) (U := U.calling g mk a) (Vm.Alike.refl U.vm) zK, zD⟩, va_recv hKc hPc (ci := 7) (q0 := 0) rfl rfl, fun U hU hW => ⟨rfl, by rw [hU], va_P.he hU.symm hPc, va_K.moved hW.alike hKc, hDc.weaken (fun _ _ _ _ => trivial)⟩⟩ rfl rfl hl.1 rfl (lv_room (Nat.le_of_ble_eq_true rfl)) d_RE_readCode_17 ⟨(Nat.zero_le _), (Nat.zero_le _)⟩) hS (fun q _ h => hFc q h) hFc (fun r2 u t H1 locs ht hvm hw hB hz1 hk1 hS => ?_)
  obtain ⟨n3, n4⟩ := u
  try dsimp only at hw
  obtain ⟨bn4, xr2⟩ := hw
  try clear hw
  have tn4 := b01 bn4
  obtain ⟨hP1, hK1, hD1⟩ := hB
  replace hP1 := va_P.he ht hP1
  obtain ⟨hP, hD⟩ := va_join (wr := [(ac, .inr (3, [.ref cfi, .ref clk, .ref clt, .int ac_length, .ref cop, .ref cva, .ref cpt, .ref cel, .int ac_labelCount, .ref cla])), (ob, .inl (cob, 100, .inl gob)), (cfi, .inl (ccfi, 31, .inl gcfi)), (clk, .inl (cclk, 30, .inl gclk)), (clt, .inl (cclt, 1800, .inl gclt)), (cop, .inl (ccop, 5000, .inl gcop)), (cva, .inl (ccva, 5000, .inr (.inl gcva))), (cpt, .inl (ccpt, 5000, .inl gcpt)), (cel, .inl (ccel, 5000, .inl gcel)), (cla, .inl (ccla, 2000, .inl gcla))]) (w1 := (wz_46 h0 aw ac n3 h0_limit n4 h0_codeCount ob h0_openCount aw ab ac aw_typeCount wat wap wag aw_functionCount waf aw_hasMemory aw_pagesLeast aw_pagesMost aw_globalCount wgt wft wfv wgc aw_exportCount wek wei wes wez ab ax ab_length ax cax gax)) hP hD [0, 1, 2, 4] [3, 5, 6, 7, 8, 9, 10, 11, 12, 13] rfl rfl (by decide) (by decide) hk1 hFc hP1 hD1
  clear hPc hDc hKc hFc hz1 hk1 hP1 hK1 hD1
  rename Heap => H
  have hP : va_P (dC, dI) cls (wz_51 ac cfi clk clt ac_length cop cva cpt cel ac_labelCount cla ob cob gob cfi ccfi gcfi clk cclk gclk clt cclt gclt cop ccop gcop cva ccva gcva cpt ccpt gcpt cel ccel gcel cla ccla gcla h0 aw ac n3 h0_limit n4 h0_codeCount ob h0_openCount aw ab ac aw_typeCount wat wap wag aw_functionCount waf aw_hasMemory aw_pagesLeast aw_pagesMost aw_globalCount wgt wft wfv wgc aw_exportCount wek wei wes wez ab ax ab_length ax cax gax) H := hP
  have hD : va_D A (wz_51 ac cfi clk clt ac_length cop cva cpt cel ac_labelCount cla ob cob gob cfi ccfi gcfi clk cclk gclk clt cclt gclt cop ccop gcop cva ccva gcva cpt ccpt gcpt cel ccel gcel cla ccla gcla h0 aw ac n3 h0_limit n4 h0_codeCount ob h0_openCount aw ab ac aw_typeCount wat wap wag aw_functionCount waf aw_hasMemory aw_pagesLeast aw_pagesMost aw_globalCount wgt wft wfv wgc aw_exportCount wek wei wes wez ab ax ab_length ax cax gax) := hD
  refine lv_l2i hx hb d_RE_readCode_20 rfl ?_
  refine lv_topi (fun x5 ex5 => ?_)
  have tx5 := l2i_t ex5 (by (first | (apply Int.le_antisymm <;> omega) | omega)) (by (first | (apply Int.le_antisymm <;> omega) | omega))
  refine lv_istore_n (lv' := [(3, .int x5), (2, .int h0_limit), (0, .ref h0), (1, .int p0)]) hx hb d_RE_readCode_21 rfl hl (by decide) rfl (fun ls hl => ?_)
  refine lv_aload_n hx hb d_RE_readCode_22 rfl (lv_at hl 2 rfl) ?_
  refine lv_aload_n hx hb d_RE_readCode_23 rfl (lv_at hl 2 rfl) ?_
  refine va_get (D := (dC, dI)) (ci := 7) (v := .int n4) (C := R_RE) (T := F_RE) (N := 8) hx hb hts i_RE hown hK hP 10 rfl rfl 4 (by decide) (hts _ kF_RE_45) (fun _ h9 => h9) rfl d_RE_readCode_24 ?_
  refine w_cut (pc2 := 48) (σ := Int32) (fun u H locs ls => match u with | j48_s0 => (j48_s0 = 0 ∨ j48_s0 = 1) ∧ ((j48_s0.toInt = 1 ∧ n4.toInt = 1 ∧ x5.toInt ≤ h0_limit.toInt - n3.toInt) ∨ (j48_s0.toInt = 0 ∧ ¬ (n4.toInt = 1 ∧ x5.toInt ≤ h0_limit.toInt - n3.toInt))) ∧ va_P (dC, dI) cls (wz_51 ac cfi clk clt ac_length cop cva cpt cel ac_labelCount cla ob cob gob cfi ccfi gcfi clk cclk gclk clt cclt gclt cop ccop gcop cva ccva gcva cpt ccpt gcpt cel ccel gcel cla ccla gcla h0 aw ac n3 h0_limit n4 h0_codeCount ob h0_openCount aw ab ac aw_typeCount wat wap wag aw_functionCount waf aw_hasMemory aw_pagesLeast aw_pagesMost aw_globalCount wgt wft wfv wgc aw_exportCount wek wei wes wez ab ax ab_length ax cax gax) H ∧ va_D A (wz_51 ac cfi clk clt ac_length cop cva cpt cel ac_labelCount cla ob cob gob cfi ccfi gcfi clk cclk gclk clt cclt gclt cop ccop gcop cva ccva gcva cpt ccpt gcpt cel ccel gcel cla ccla gcla h0 aw ac n3 h0_limit n4 h0_codeCount ob h0_openCount aw ab ac aw_typeCount wat wap wag aw_functionCount waf aw_hasMemory aw_pagesLeast aw_pagesMost aw_globalCount wgt wft wfv wgc aw_exportCount wek wei wes wez ab ax ab_length ax cax gax) ∧ va_S A s.heap H locs ∧ lv_has ls 6 [(0, .ref h0), (1, .int p0), (2, .int h0_limit), (3, .int x5)]) (fun u => match u with | j48_s0 => [.int j48_s0, .ref h0]) ?_ (fun jn48 => ?_)
  · intro u H locs ls hI
    obtain ⟨j48_s0, rfl⟩ : ∃ z, z = u := ⟨_, rfl⟩
    obtain ⟨b_j48_s0, y48, hP, hD, hS, hl⟩ := hI
    have tj48_s0 := b01 b_j48_s0
    refine va_put (D := (dC, dI)) (ci := 7) (v := .int j48_s0) (ty := .boolean) (C := R_RE) (T := F_RE) (N := 8) hx hb hts i_RE t_RE t_RE_ok n_RE hown hK hP hD hS 10 rfl rfl 4 (by decide) (hts _ kF_RE_45) (fun _ h9 => h9) rfl (by decide +kernel) (zn01 (b_j48_s0)) (fz01 (b_j48_s0)) (Nat.le_of_ble_eq_true rfl) d_RE_readCode_48 (fun H locs hP hD hS => ?_)
    refine lv_aload_n hx hb d_RE_readCode_51 rfl (lv_at hl 0 rfl) ?_
    refine va_get (D := (dC, dI)) (ci := 7) (v := .int j48_s0) (C := R_RE) (T := F_RE) (N := 8) hx hb hts i_RE hown hK hP 10 rfl rfl 4 (by decide) (hts _ kF_RE_45) (fun _ h9 => h9) rfl d_RE_readCode_52 ?_
    refine lv_if_ne (tgt := 59) hx hb d_RE_readCode_55 (by decide) (fun c55 => ?_) (fun c55 => ?_)
    · have q55 := neI c55
      refine lv_aload_n hx hb d_RE_readCode_59 rfl (lv_at hl 0 rfl) ?_
      refine lv_aload_n hx hb d_RE_readCode_60 rfl (lv_at hl 0 rfl) ?_
      refine va_get (D := (dC, dI)) (ci := 7) (v := .int n3) (C := R_RE) (T := F_RE) (N := 8) hx hb hts i_RE hown hK hP 10 rfl rfl 2 (by decide) (hts _ kF_RE_29) (fun _ h9 => h9) rfl d_RE_readCode_61 ?_
      refine lv_iload_n hx hb d_RE_readCode_64 rfl (lv_at hl 3 rfl) ?_
      refine lv_iadd hx hb d_RE_readCode_65 ?_
      refine lv_topi (fun x6 ex6 => ?_)
      have tx6 : x6.toInt = n3.toInt + x5.toInt := by have z := i32_add ex6 (by (first | (apply Int.le_antisymm <;> omega) | omega)) (by (first | (apply Int.le_antisymm <;> omega) | omega)); first | exact z | (first | (apply Int.le_antisymm <;> omega) | omega)
      refine va_put (D := (dC, dI)) (ci := 7) (v := .int x6) (ty := .int) (C := R_RE) (T := F_RE) (N := 8) hx hb hts i_RE t_RE t_RE_ok n_RE hown hK hP hD hS 10 rfl rfl 3 (by decide) (hts _ kF_RE_42) (fun _ h9 => h9) rfl (by decide +kernel) rfl rfl (Nat.le_of_ble_eq_true rfl) d_RE_readCode_66 (fun H locs hP hD hS => ?_)
      refine lv_aload_n hx hb d_RE_readCode_69 rfl (lv_at hl 0 rfl) ?_
      refine va_get (D := (dC, dI)) (ci := 7) (v := .ref ac) (C := R_RE) (T := F_RE) (N := 8) hx hb hts i_RE hown hK hP 10 rfl rfl 1 (by decide) (hts _ kF_RE_25) (fun _ h9 => h9) rfl d_RE_readCode_70 ?_
      refine va_get (D := (dC, dI)) (ci := 3) (v := .ref cfi) (C := R_CD) (T := F_CD) (N := 10) hx hb hts i_CD hown hK hP 0 rfl rfl 0 (by decide) (hts _ kF_RE_170) (fun _ h9 => h9) rfl d_RE_readCode_73 ?_
      refine lv_iload_n hx hb d_RE_readCode_76 rfl (lv_at hl 1 rfl) ?_
      refine lv_aload_n hx hb d_RE_readCode_77 rfl (lv_at hl 0 rfl) ?_
      refine va_get (D := (dC, dI)) (ci := 7) (v := .ref ac) (C := R_RE) (T := F_RE) (N := 8) hx hb hts i_RE hown hK hP 10 rfl rfl 1 (by decide) (hts _ kF_RE_25) (fun _ h9 => h9) rfl d_RE_readCode_78 ?_
      refine va_get (D := (dC, dI)) (ci := 3) (v := .int ac_length) (C := R_CD) (T := F_CD) (N := 10) hx hb hts i_CD hown hK hP 0 rfl rfl 3 (by decide) (hts _ kF_RE_175) (fun _ h9 => h9) rfl d_RE_readCode_81 ?_
      have g84 : vp_in p0 31 := vp_in_iff.mpr ⟨by (first | (apply Int.le_antisymm <;> omega) | omega), by (first | (apply Int.le_antisymm <;> omega) | omega)⟩
      refine va_iast hx hb hK hP hD hS 2 2 rfl rfl g84 d_RE_readCode_84 (fun H locs hP hD hS => ?_)
      generalize ef7 : upd gcfi p0.toNatClampNeg ac_length = f7 at hP hD
      refine lv_aload_n hx hb d_RE_readCode_85 rfl (lv_at hl 0 rfl) ?_
      refine lv_iload_n hx hb d_RE_readCode_86 rfl (lv_at hl 1 rfl) ?_
      have hPc := hP.sb (wq := (wz_241 h0 aw ac n3 x6 j48_s0 h0_codeCount ob h0_openCount aw ab ac aw_typeCount wat wap wag aw_functionCount waf aw_hasMemory aw_pagesLeast aw_pagesMost aw_globalCount wgt wft wfv wgc aw_exportCount wek wei wes wez ab ax ab_length ac cfi clk clt ac_length cop cva cpt cel ac_labelCount cla ax cax gax clk cclk gclk clt cclt gclt)) [10, 11, 12, 0, 13, 3, 4] rfl
      have hDc := hD.sb (wq := (wz_241 h0 aw ac n3 x6 j48_s0 h0_codeCount ob h0_openCount aw ab ac aw_typeCount wat wap wag aw_functionCount waf aw_hasMemory aw_pagesLeast aw_pagesMost aw_globalCount wgt wft wfv wgc aw_exportCount wek wei wes wez ab ax ab_length ac cfi clk clt ac_length cop cva cpt cel ac_labelCount cla ax cax gax clk cclk gclk clt cclt gclt)) [10, 11, 12, 0, 13, 3, 4] (by decide) rfl
      have hKc := hK.sb (tyq := [(cax, .byte), (cclk, .int), (cclt, .int)]) [0, 3, 4] rfl
      have hFc := va_free (wc := (wz_241 h0 aw ac n3 x6 j48_s0 h0_codeCount ob h0_openCount aw ab ac aw_typeCount wat wap wag aw_functionCount waf aw_hasMemory aw_pagesLeast aw_pagesMost aw_globalCount wgt wft wfv wgc aw_exportCount wek wei wes wez ab ax ab_length ac cfi clk clt ac_length cop cva cpt cel ac_labelCount cla ax cax gax clk cclk gclk clt cclt gclt)) hD hS hA [10, 11, 12, 0, 13, 3, 4] rfl
      refine va_callv (va_runV (As := [.int p0]) (rest := []) ⟨hx, hb, hml, hown, hts⟩ (c_RE_readLocalsy l dC dI H.size h0 aw ac ob ab wat wap wag waf wgt wft wfv wgc wek wei wes wez ax cfi clk clt cop cva cpt cel cla cax cclk cclt n3 x6 j48_s0 h0_codeCount h0_openCount aw_typeCount aw_functionCount aw_hasMemory aw_pagesLeast aw_pagesMost aw_globalCount aw_exportCount ab_length ac_length ac_labelCount gax gclk gclt (b_j48_s0) p0 (by (try dsimp only) <;> (first | (apply Int.le_antisymm <;> omega) | omega)) (by (first | (apply Int.le_antisymm <;> omega) | omega)) (hp)) (cwV 1 hts (gV kM_RE_176 kV_RE_readLocals kS_RE_readLocals kI_RE kC_RE_readLocals) rfl rfl rfl (by decide +kernel) ⟨Nat.le_of_ble_eq_true rfl, Nat.le_of_ble_eq_true rfl⟩) ⟨fun a U g mk z => by obtain ⟨z0, z1, zP, zK, zD⟩ := z; exact ⟨z0, z1, zP, va_K.moved (u := U) (U := U.calling g mk a) (Vm.Alike.refl U.vm) zK, zD⟩, va_recv hKc hPc (ci := 7) (q0 := 0) rfl rfl, fun U hU hW => ⟨rfl, by rw [hU], va_P.he hU.symm hPc, va_K.moved hW.alike hKc, hDc.weaken (fun _ _ _ _ => trivial)⟩⟩ rfl rfl hl.1 rfl (lv_room (Nat.le_of_ble_eq_true rfl)) d_RE_readCode_87 ⟨(Nat.zero_le _), (Nat.zero_le _)⟩) hS (fun q _ h => hFc q h) hFc (fun u t H1 locs ht hvm hw hB hz1 hk1 hS => ?_)
      obtain ⟨n9, n10, n11, n12⟩ := u
      try dsimp only at hw
      obtain ⟨bn12, xr8⟩ := hw
      try clear hw
      have tn12 := b01 bn12
      obtain ⟨hP1, hK1, hD1⟩ := hB
      replace hP1 := va_P.he ht hP1
      obtain ⟨hP, hD⟩ := va_join (wr := [(ob, .inl (cob, 100, .inl gob)), (cfi, .inl (ccfi, 31, .inl f7)), (cop, .inl (ccop, 5000, .inl gcop)), (cva, .inl (ccva, 5000, .inr (.inl gcva))), (cpt, .inl (ccpt, 5000, .inl gcpt)), (cel, .inl (ccel, 5000, .inl gcel)), (cla, .inl (ccla, 2000, .inl gcla))]) (w1 := (wz_241 h0 aw ac n11 x6 n12 h0_codeCount ob h0_openCount aw ab ac aw_typeCount wat wap wag aw_functionCount waf aw_hasMemory aw_pagesLeast aw_pagesMost aw_globalCount wgt wft wfv wgc aw_exportCount wek wei wes wez ab ax ab_length ac cfi clk clt ac_length cop cva cpt cel ac_labelCount cla ax cax gax clk cclk n9 clt cclt n10)) hP hD [10, 11, 12, 0, 13, 3, 4] [1, 2, 5, 6, 7, 8, 9] rfl rfl (by decide) (by decide) hk1 hFc hP1 hD1
      clear hPc hDc hKc hFc hz1 hk1 hP1 hK1 hD1
      rename Heap => H
      have hP : va_P (dC, dI) cls [(ob, .inl (cob, 100, .inl gob)), (cfi, .inl (ccfi, 31, .inl f7)), (cop, .inl (ccop, 5000, .inl gcop)), (cva, .inl (ccva, 5000, .inr (.inl gcva))), (cpt, .inl (ccpt, 5000, .inl gcpt)), (cel, .inl (ccel, 5000, .inl gcel)), (cla, .inl (ccla, 2000, .inl gcla)), (h0, .inr (7, [.ref aw, .ref ac, .int n11, .int x6, .int n12, .int h0_codeCount, .ref ob, .int h0_openCount])), (aw, .inr (10, [.ref ab, .ref ac, .int aw_typeCount, .ref wat, .ref wap, .ref wag, .int aw_functionCount, .ref waf, .int aw_hasMemory, .long aw_pagesLeast, .long aw_pagesMost, .int aw_globalCount, .ref wgt, .ref wft, .ref wfv, .ref wgc, .int aw_exportCount, .ref wek, .ref wei, .ref wes, .ref wez])), (ab, .inr (1, [.ref ax, .int ab_length])), (ac, .inr (3, [.ref cfi, .ref clk, .ref clt, .int ac_length, .ref cop, .ref cva, .ref cpt, .ref cel, .int ac_labelCount, .ref cla])), (ax, .inl (cax, 8192, .inl gax)), (clk, .inl (cclk, 30, .inl n9)), (clt, .inl (cclt, 1800, .inl n10))] H := hP
      have hD : va_D A [(ob, .inl (cob, 100, .inl gob)), (cfi, .inl (ccfi, 31, .inl f7)), (cop, .inl (ccop, 5000, .inl gcop)), (cva, .inl (ccva, 5000, .inr (.inl gcva))), (cpt, .inl (ccpt, 5000, .inl gcpt)), (cel, .inl (ccel, 5000, .inl gcel)), (cla, .inl (ccla, 2000, .inl gcla)), (h0, .inr (7, [.ref aw, .ref ac, .int n11, .int x6, .int n12, .int h0_codeCount, .ref ob, .int h0_openCount])), (aw, .inr (10, [.ref ab, .ref ac, .int aw_typeCount, .ref wat, .ref wap, .ref wag, .int aw_functionCount, .ref waf, .int aw_hasMemory, .long aw_pagesLeast, .long aw_pagesMost, .int aw_globalCount, .ref wgt, .ref wft, .ref wfv, .ref wgc, .int aw_exportCount, .ref wek, .ref wei, .ref wes, .ref wez])), (ab, .inr (1, [.ref ax, .int ab_length])), (ac, .inr (3, [.ref cfi, .ref clk, .ref clt, .int ac_length, .ref cop, .ref cva, .ref cpt, .ref cel, .int ac_labelCount, .ref cla])), (ax, .inl (cax, 8192, .inl gax)), (clk, .inl (cclk, 30, .inl n9)), (clt, .inl (cclt, 1800, .inl n10))] := hD
      refine lv_aload_n hx hb d_RE_readCode_90 rfl (lv_at hl 0 rfl) ?_
      refine lv_iconst (v := 0) hx hb d_RE_readCode_91 (by decide) ?_
      refine va_put (D := (dC, dI)) (ci := 7) (v := .int 0) (ty := .int) (C := R_RE) (T := F_RE) (N := 8) hx hb hts i_RE t_RE t_RE_ok n_RE hown hK hP hD hS 7 rfl rfl 7 (by decide) (hts _ kF_RE_179) (fun _ h9 => h9) rfl (by decide +kernel) rfl rfl (Nat.le_of_ble_eq_true rfl) d_RE_readCode_92 (fun H locs hP hD hS => ?_)
      refine lv_iconst (v := 1) hx hb d_RE_readCode_95 (by decide) ?_
      refine lv_istore (lv' := [(4, .int 1), (0, .ref h0), (1, .int p0), (2, .int h0_limit), (3, .int x5)]) hx hb d_RE_readCode_96 hl (by decide) rfl (fun ls hl => ?_)
      obtain ⟨tt9, etk, kk9⟩ := kI_0 xr8.2.2 hri hel.out (by (first | (apply Int.le_antisymm <;> omega) | omega)) (by (first | (apply Int.le_antisymm <;> omega) | omega)) hln rfl (show (1 : Int32).toInt = 1 from by decide) (show (0 : Int32).toInt = 0 from by decide) (go := gob)
      refine lv_iconst (v := 0) hx hb d_RE_readCode_98 (by decide) ?_
      refine lv_istore (lv' := [(5, .int 0), (4, .int 1), (0, .ref h0), (1, .int p0), (2, .int h0_limit), (3, .int x5)]) hx hb d_RE_readCode_99 hl (by decide) rfl (fun ls hl => ?_)
      refine w_loop (σ := Int32 × Int32 × (Nat → Int32) × (Nat → Int32) × (Nat → Int32) × (Nat → Int32) × (Nat → Int64) × (Nat → Int32) × Int32 × Int32 × Int32 × Int32 × Int32) (fun u H locs ls => match u with | (j101_l4, j101_l5, j101_cel, j101_cla, j101_cop, j101_cpt, j101_cva, j101_ob, j101_ac_labelCount, j101_ac_length, j101_h0_at, j101_h0_openCount, j101_h0_sound) => (j101_l4 = 0 ∨ j101_l4 = 1) ∧ (0 ≤ j101_l5.toInt ∧ j101_l5.toInt ≤ 5001) ∧ (0 ≤ j101_ac_labelCount.toInt ∧ j101_ac_labelCount.toInt ≤ 2000) ∧ (0 ≤ j101_ac_length.toInt ∧ j101_ac_length.toInt ≤ 5000) ∧ (0 ≤ j101_h0_openCount.toInt ∧ j101_h0_openCount.toInt ≤ 100) ∧ (j101_h0_sound = 0 ∨ j101_h0_sound = 1) ∧ (kI gax x6.toNatClampNeg n3.toNatClampNeg l9 j101_h0_sound j101_h0_at j101_l4 j101_ac_length j101_h0_openCount j101_ac_labelCount j101_l5.toInt j101_cop j101_cpt j101_cel j101_cla j101_ob n10 j101_cva p0.toInt tt9) ∧ (h0_at.toInt ≤ j101_h0_at.toInt ∧ j101_h0_at.toInt ≤ x6.toInt) ∧ va_P (dC, dI) cls [(ob, .inl (cob, 100, .inl j101_ob)), (cfi, .inl (ccfi, 31, .inl f7)), (cop, .inl (ccop, 5000, .inl j101_cop)), (cva, .inl (ccva, 5000, .inr (.inl j101_cva))), (cpt, .inl (ccpt, 5000, .inl j101_cpt)), (cel, .inl (ccel, 5000, .inl j101_cel)), (cla, .inl (ccla, 2000, .inl j101_cla)), (h0, .inr (7, [.ref aw, .ref ac, .int j101_h0_at, .int x6, .int j101_h0_sound, .int h0_codeCount, .ref ob, .int j101_h0_openCount])), (aw, .inr (10, [.ref ab, .ref ac, .int aw_typeCount, .ref wat, .ref wap, .ref wag, .int aw_functionCount, .ref waf, .int aw_hasMemory, .long aw_pagesLeast, .long aw_pagesMost, .int aw_globalCount, .ref wgt, .ref wft, .ref wfv, .ref wgc, .int aw_exportCount, .ref wek, .ref wei, .ref wes, .ref wez])), (ab, .inr (1, [.ref ax, .int ab_length])), (ac, .inr (3, [.ref cfi, .ref clk, .ref clt, .int j101_ac_length, .ref cop, .ref cva, .ref cpt, .ref cel, .int j101_ac_labelCount, .ref cla])), (ax, .inl (cax, 8192, .inl gax)), (clk, .inl (cclk, 30, .inl n9)), (clt, .inl (cclt, 1800, .inl n10))] H ∧ va_D A [(ob, .inl (cob, 100, .inl j101_ob)), (cfi, .inl (ccfi, 31, .inl f7)), (cop, .inl (ccop, 5000, .inl j101_cop)), (cva, .inl (ccva, 5000, .inr (.inl j101_cva))), (cpt, .inl (ccpt, 5000, .inl j101_cpt)), (cel, .inl (ccel, 5000, .inl j101_cel)), (cla, .inl (ccla, 2000, .inl j101_cla)), (h0, .inr (7, [.ref aw, .ref ac, .int j101_h0_at, .int x6, .int j101_h0_sound, .int h0_codeCount, .ref ob, .int j101_h0_openCount])), (aw, .inr (10, [.ref ab, .ref ac, .int aw_typeCount, .ref wat, .ref wap, .ref wag, .int aw_functionCount, .ref waf, .int aw_hasMemory, .long aw_pagesLeast, .long aw_pagesMost, .int aw_globalCount, .ref wgt, .ref wft, .ref wfv, .ref wgc, .int aw_exportCount, .ref wek, .ref wei, .ref wes, .ref wez])), (ab, .inr (1, [.ref ax, .int ab_length])), (ac, .inr (3, [.ref cfi, .ref clk, .ref clt, .int j101_ac_length, .ref cop, .ref cva, .ref cpt, .ref cel, .int j101_ac_labelCount, .ref cla])), (ax, .inl (cax, 8192, .inl gax)), (clk, .inl (cclk, 30, .inl n9)), (clt, .inl (cclt, 1800, .inl n10))] ∧ va_S A s.heap H locs ∧ lv_has ls 6 [(0, .ref h0), (1, .int p0), (2, .int h0_limit), (4, .int j101_l4), (5, .int j101_l5)]) (fun u => match u with | (j101_l4, j101_l5, j101_cel, j101_cla, j101_cop, j101_cpt, j101_cva, j101_ob, j101_ac_labelCount, j101_ac_length, j101_h0_at, j101_h0_openCount, j101_h0_sound) => (5001 - j101_l5.toInt).toNat) ?_ (1, 0, gcel, gcla, gcop, gcpt, gcva, gob, ac_labelCount, ac_length, n11, 0, n12) ⟨Or.inr rfl, by (try dsimp only) <;> (first | (apply Int.le_antisymm <;> omega) | omega), b_ac_labelCount, b_ac_length, by (try dsimp only) <;> (first | (apply Int.le_antisymm <;> omega) | omega), bn12, kk9, by (try dsimp only) <;> (first | (apply Int.le_antisymm <;> omega) | omega), hP, hD, hS, lv_sub hl [2, 3, 4, 1, 0] rfl⟩
      intro N101 ih101 u H locs ls hN101 hI
      obtain ⟨j101_l4, j101_l5, j101_cel, j101_cla, j101_cop, j101_cpt, j101_cva, j101_ob, j101_ac_labelCount, j101_ac_length, j101_h0_at, j101_h0_openCount, j101_h0_sound⟩ := u
      obtain ⟨b_j101_l4, b_j101_l5, b_j101_ac_labelCount, b_j101_ac_length, b_j101_h0_openCount, b_j101_h0_sound, v1, v2, hP, hD, hS, hl⟩ := hI
      have tj101_l4 := b01 b_j101_l4
      have tj101_h0_sound := b01 b_j101_h0_sound
      have hN101 : (5001 - j101_l5.toInt).toNat < N101 + 1 := hN101
      refine lv_iload hx hb d_RE_readCode_101 (lv_at hl 4 rfl) ?_
      refine lv_sipush (v := 5000) hx hb d_RE_readCode_103 (by decide) ?_
      refine w_cut (pc2 := 133) (σ := Unit) (fun u H locs ls => match u with | _ => (j101_h0_sound.toInt = 0 ∨ j101_l4.toInt = 0) ∧ va_P (dC, dI) cls [(ob, .inl (cob, 100, .inl j101_ob)), (cfi, .inl (ccfi, 31, .inl f7)), (cop, .inl (ccop, 5000, .inl j101_cop)), (cva, .inl (ccva, 5000, .inr (.inl j101_cva))), (cpt, .inl (ccpt, 5000, .inl j101_cpt)), (cel, .inl (ccel, 5000, .inl j101_cel)), (cla, .inl (ccla, 2000, .inl j101_cla)), (h0, .inr (7, [.ref aw, .ref ac, .int j101_h0_at, .int x6, .int j101_h0_sound, .int h0_codeCount, .ref ob, .int j101_h0_openCount])), (aw, .inr (10, [.ref ab, .ref ac, .int aw_typeCount, .ref wat, .ref wap, .ref wag, .int aw_functionCount, .ref waf, .int aw_hasMemory, .long aw_pagesLeast, .long aw_pagesMost, .int aw_globalCount, .ref wgt, .ref wft, .ref wfv, .ref wgc, .int aw_exportCount, .ref wek, .ref wei, .ref wes, .ref wez])), (ab, .inr (1, [.ref ax, .int ab_length])), (ac, .inr (3, [.ref cfi, .ref clk, .ref clt, .int j101_ac_length, .ref cop, .ref cva, .ref cpt, .ref cel, .int j101_ac_labelCount, .ref cla])), (ax, .inl (cax, 8192, .inl gax)), (clk, .inl (cclk, 30, .inl n9)), (clt, .inl (cclt, 1800, .inl n10))] H ∧ va_D A [(ob, .inl (cob, 100, .inl j101_ob)), (cfi, .inl (ccfi, 31, .inl f7)), (cop, .inl (ccop, 5000, .inl j101_cop)), (cva, .inl (ccva, 5000, .inr (.inl j101_cva))), (cpt, .inl (ccpt, 5000, .inl j101_cpt)), (cel, .inl (ccel, 5000, .inl j101_cel)), (cla, .inl (ccla, 2000, .inl j101_cla)), (h0, .inr (7, [.ref aw, .ref ac, .int j101_h0_at, .int x6, .int j101_h0_sound, .int h0_codeCount, .ref ob, .int j101_h0_openCount])), (aw, .inr (10, [.ref ab, .ref ac, .int aw_typeCount, .ref wat, .ref wap, .ref wag, .int aw_functionCount, .ref waf, .int aw_hasMemory, .long aw_pagesLeast, .long aw_pagesMost, .int aw_globalCount, .ref wgt, .ref wft, .ref wfv, .ref wgc, .int aw_exportCount, .ref wek, .ref wei, .ref wes, .ref wez])), (ab, .inr (1, [.ref ax, .int ab_length])), (ac, .inr (3, [.ref cfi, .ref clk, .ref clt, .int j101_ac_length, .ref cop, .ref cva, .ref cpt, .ref cel, .int j101_ac_labelCount, .ref cla])), (ax, .inl (cax, 8192, .inl gax)), (clk, .inl (cclk, 30, .inl n9)), (clt, .inl (cclt, 1800, .inl n10))] ∧ va_S A s.heap H locs ∧ lv_has ls 6 [(0, .ref h0), (1, .int p0), (2, .int h0_limit)]) (fun u => match u with | _ => []) ?_ (fun jn133 => ?_)
      · intro u H locs ls hI
        obtain ⟨y133, hP, hD, hS, hl⟩ := hI
        refine lv_aload_n hx hb d_RE_readCode_133 rfl (lv_at hl 0 rfl) ?_
        refine va_get (D := (dC, dI)) (ci := 7) (v := .ref ac) (C := R_RE) (T := F_RE) (N := 8) hx hb hts i_RE hown hK hP 7 rfl rfl 1 (by decide) (hts _ kF_RE_25) (fun _ h9 => h9) rfl d_RE_readCode_134 ?_
        refine va_get (D := (dC, dI)) (ci := 3) (v := .ref cfi) (C := R_CD) (T := F_CD) (N := 10) hx hb hts i_CD hown hK hP 10 rfl rfl 0 (by decide) (hts _ kF_RE_170) (fun _ h9 => h9) rfl d_RE_readCode_137 ?_
        refine lv_iload_n hx hb d_RE_readCode_140 rfl (lv_at hl 1 rfl) ?_
        refine lv_iconst (v := 1) hx hb d_RE_readCode_141 (by decide) ?_
        refine lv_iadd hx hb d_RE_readCode_142 ?_
        refine lv_topi (fun x13 ex13 => ?_)
        have tx13 : x13.toInt = p0.toInt + 1 := by have z := i32_add ex13 (by (first | (apply Int.le_antisymm <;> omega) | omega)) (by (first | (apply Int.le_antisymm <;> omega) | omega)); first | exact z | (first | (apply Int.le_antisymm <;> omega) | omega)
        refine lv_aload_n hx hb d_RE_readCode_143 rfl (lv_at hl 0 rfl) ?_
        refine va_get (D := (dC, dI)) (ci := 7) (v := .ref ac) (C := R_RE) (T := F_RE) (N := 8) hx hb hts i_RE hown hK hP 7 rfl rfl 1 (by decide) (hts _ kF_RE_25) (fun _ h9 => h9) rfl d_RE_readCode_144 ?_
        refine va_get (D := (dC, dI)) (ci := 3) (v := .int j101_ac_length) (C := R_CD) (T := F_CD) (N := 10) hx hb hts i_CD hown hK hP 10 rfl rfl 3 (by decide) (hts _ kF_RE_175) (fun _ h9 => h9) rfl d_RE_readCode_147 ?_
        have g150 : vp_in x13 31 := vp_in_iff.mpr ⟨by (first | (apply Int.le_antisymm <;> omega) | omega), by (first | (apply Int.le_antisymm <;> omega) | omega)⟩
        refine va_iast hx hb hK hP hD hS 1 2 rfl rfl g150 d_RE_readCode_150 (fun H locs hP hD hS => ?_)
        generalize ef14 : upd f7 x13.toNatClampNeg j101_ac_length = f14 at hP hD
        refine lv_aload_n hx hb d_RE_readCode_151 rfl (lv_at hl 0 rfl) ?_
        refine lv_aload_n hx hb d_RE_readCode_152 rfl (lv_at hl 0 rfl) ?_
        refine va_get (D := (dC, dI)) (ci := 7) (v := .int j101_h0_sound) (C := R_RE) (T := F_RE) (N := 8) hx hb hts i_RE hown hK hP 7 rfl rfl 4 (by decide) (hts _ kF_RE_45) (fun _ h9 => h9) rfl d_RE_readCode_153 ?_
        refine w_cut (pc2 := 175) (σ := Int32) (fun u H locs ls => match u with | j175_s0 => (j175_s0 = 0 ∨ j175_s0 = 1) ∧ ((j175_s0.toInt = 1 ∧ j101_h0_sound.toInt = 1 ∧ j101_h0_at.toInt = x6.toInt) ∨ (j175_s0.toInt = 0 ∧ ¬ (j101_h0_sound.toInt = 1 ∧ j101_h0_at.toInt = x6.toInt))) ∧ va_P (dC, dI) cls [(ob, .inl (cob, 100, .inl j101_ob)), (cfi, .inl (ccfi, 31, .inl f14)), (cop, .inl (ccop, 5000, .inl j101_cop)), (cva, .inl (ccva, 5000, .inr (.inl j101_cva))), (cpt, .inl (ccpt, 5000, .inl j101_cpt)), (cel, .inl (ccel, 5000, .inl j101_cel)), (cla, .inl (ccla, 2000, .inl j101_cla)), (h0, .inr (7, [.ref aw, .ref ac, .int j101_h0_at, .int x6, .int j101_h0_sound, .int h0_codeCount, .ref ob, .int j101_h0_openCount])), (aw, .inr (10, [.ref ab, .ref ac, .int aw_typeCount, .ref wat, .ref wap, .ref wag, .int aw_functionCount, .ref waf, .int aw_hasMemory, .long aw_pagesLeast, .long aw_pagesMost, .int aw_globalCount, .ref wgt, .ref wft, .ref wfv, .ref wgc, .int aw_exportCount, .ref wek, .ref wei, .ref wes, .ref wez])), (ab, .inr (1, [.ref ax, .int ab_length])), (ac, .inr (3, [.ref cfi, .ref clk, .ref clt, .int j101_ac_length, .ref cop, .ref cva, .ref cpt, .ref cel, .int j101_ac_labelCount, .ref cla])), (ax, .inl (cax, 8192, .inl gax)), (clk, .inl (cclk, 30, .inl n9)), (clt, .inl (cclt, 1800, .inl n10))] H ∧ va_D A [(ob, .inl (cob, 100, .inl j101_ob)), (cfi, .inl (ccfi, 31, .inl f14)), (cop, .inl (ccop, 5000, .inl j101_cop)), (cva, .inl (ccva, 5000, .inr (.inl j101_cva))), (cpt, .inl (ccpt, 5000, .inl j101_cpt)), (cel, .inl (ccel, 5000, .inl j101_cel)), (cla, .inl (ccla, 2000, .inl j101_cla)), (h0, .inr (7, [.ref aw, .ref ac, .int j101_h0_at, .int x6, .int j101_h0_sound, .int h0_codeCount, .ref ob, .int j101_h0_openCount])), (aw, .inr (10, [.ref ab, .ref ac, .int aw_typeCount, .ref wat, .ref wap, .ref wag, .int aw_functionCount, .ref waf, .int aw_hasMemory, .long aw_pagesLeast, .long aw_pagesMost, .int aw_globalCount, .ref wgt, .ref wft, .ref wfv, .ref wgc, .int aw_exportCount, .ref wek, .ref wei, .ref wes, .ref wez])), (ab, .inr (1, [.ref ax, .int ab_length])), (ac, .inr (3, [.ref cfi, .ref clk, .ref clt, .int j101_ac_length, .ref cop, .ref cva, .ref cpt, .ref cel, .int j101_ac_labelCount, .ref cla])), (ax, .inl (cax, 8192, .inl gax)), (clk, .inl (cclk, 30, .inl n9)), (clt, .inl (cclt, 1800, .inl n10))] ∧ va_S A s.heap H locs ∧ lv_has ls 6 [(0, .ref h0), (2, .int h0_limit)]) (fun u => match u with | j175_s0 => [.int j175_s0, .ref h0]) ?_ (fun jn175 => ?_)
        · intro u H locs ls hI
          obtain ⟨j175_s0, rfl⟩ : ∃ z, z = u := ⟨_, rfl⟩
          obtain ⟨b_j175_s0, y175, hP, hD, hS, hl⟩ := hI
          have tj175_s0 := b01 b_j175_s0
          refine va_put (D := (dC, dI)) (ci := 7) (v := .int j175_s0) (ty := .boolean) (C := R_RE) (T := F_RE) (N := 8) hx hb hts i_RE t_RE t_RE_ok n_RE hown hK hP hD hS 7 rfl rfl 4 (by decide) (hts _ kF_RE_45) (fun _ h9 => h9) rfl (by decide +kernel) (zn01 (b_j175_s0)) (fz01 (b_j175_s0)) (Nat.le_of_ble_eq_true rfl) d_RE_readCode_175 (fun H locs hP hD hS => ?_)
          refine lv_aload_n hx hb d_RE_readCode_178 rfl (lv_at hl 0 rfl) ?_
          refine lv_iload_n hx hb d_RE_readCode_179 rfl (lv_at hl 1 rfl) ?_
          refine va_put (D := (dC, dI)) (ci := 7) (v := .int h0_limit) (ty := .int) (C := R_RE) (T := F_RE) (N := 8) hx hb hts i_RE t_RE t_RE_ok n_RE hown hK hP hD hS 7 rfl rfl 3 (by decide) (hts _ kF_RE_42) (fun _ h9 => h9) rfl (by decide +kernel) rfl rfl (Nat.le_of_ble_eq_true rfl) d_RE_readCode_180 (fun H locs hP hD hS => ?_)
          have hP9 := hP.sb (wq := (wz_50 h0 aw ac j101_h0_at h0_limit j175_s0 h0_codeCount ob j101_h0_openCount aw ab ac aw_typeCount wat wap wag aw_functionCount waf aw_hasMemory aw_pagesLeast aw_pagesMost aw_globalCount wgt wft wfv wgc aw_exportCount wek wei wes wez ab ax ab_length ac cfi clk clt j101_ac_length cop cva cpt cel j101_ac_labelCount cla ax cax gax ob cob j101_ob cfi ccfi f14 clk cclk n9 clt cclt n10 cop ccop j101_cop cva ccva j101_cva cpt ccpt j101_cpt cel ccel j101_cel cla ccla j101_cla)) [7, 8, 9, 10, 11, 0, 1, 12, 13, 2, 3, 4, 5, 6] rfl
          have hD9 := hD.sb (wq := (wz_50 h0 aw ac j101_h0_at h0_limit j175_s0 h0_codeCount ob j101_h0_openCount aw ab ac aw_typeCount wat wap wag aw_functionCount waf aw_hasMemory aw_pagesLeast aw_pagesMost aw_globalCount wgt wft wfv wgc aw_exportCount wek wei wes wez ab ax ab_length ac cfi clk clt j101_ac_length cop cva cpt cel j101_ac_labelCount cla ax cax gax ob cob j101_ob cfi ccfi f14 clk cclk n9 clt cclt n10 cop ccop j101_cop cva ccva j101_cva cpt ccpt j101_cpt cel ccel j101_cel cla ccla j101_cla)) [7, 8, 9, 10, 11, 0, 1, 12, 13, 2, 3, 4, 5, 6] (by decide) rfl
          exact W.vret hx hb hr (fun t ht hW => ⟨⟨(j101_cel, f14, j101_cla, n9, n10, j101_cop, j101_cpt, j101_cva, j101_ob, j101_ac_labelCount, j101_ac_length, j101_h0_at, h0_limit, j101_h0_openCount, j175_s0), rfl, ⟨b_j101_ac_labelCount, b_j101_ac_length, b_j101_h0_openCount, b_j175_s0, ⟨⟨by (try dsimp only) <;> (first | (apply Int.le_antisymm <;> omega) | omega), by (try dsimp only) <;> (first | (apply Int.le_antisymm <;> omega) | omega)⟩, rfl, xr8.2.1, (by rw [← ef14, ← ef7, etk, show p0.toNatClampNeg = p0.toInt.toNat from by have := i32_clamp (x := p0) (by (first | (apply Int.le_antisymm <;> omega) | omega)); (first | (apply Int.le_antisymm <;> omega) | omega), show x13.toNatClampNeg = p0.toInt.toNat + 1 from by have := i32_clamp (x := x13) (by (first | (apply Int.le_antisymm <;> omega) | omega)); (first | (apply Int.le_antisymm <;> omega) | omega)]; exact cd_e v1 y133 (cd_1 xr2.2 (by (first | (apply Int.le_antisymm <;> omega) | omega)) (M := x1.toInt) (by (first | (apply Int.le_antisymm <;> omega) | omega)) (by have := i32_clamp (x := h0_limit) (by (first | (apply Int.le_antisymm <;> omega) | omega)); (first | (apply Int.le_antisymm <;> omega) | omega)) (by (first | (apply Int.le_antisymm <;> omega) | omega)) (by have := i32_clamp (x := x6) (by (first | (apply Int.le_antisymm <;> omega) | omega)); (first | (apply Int.le_antisymm <;> omega) | omega))) (by have := i32_clamp (x := x6) (by (first | (apply Int.le_antisymm <;> omega) | omega)); (first | (apply Int.le_antisymm <;> omega) | omega)) (by (first | (apply Int.le_antisymm <;> omega) | omega)) (by (first | (apply Int.le_antisymm <;> omega) | omega)) rfl)⟩⟩, va_P.he ht.symm hP9, va_K.moved hW.alike hK, hD9⟩, hS.F ht⟩) hS.2.2 d_RE_readCode_183
        · skip
          refine w_cut (pc2 := 174) (σ := Unit) (fun u H locs ls => match u with | _ => (¬ (j101_h0_sound.toInt = 1 ∧ j101_h0_at.toInt = x6.toInt)) ∧ va_P (dC, dI) cls [(ob, .inl (cob, 100, .inl j101_ob)), (cfi, .inl (ccfi, 31, .inl f14)), (cop, .inl (ccop, 5000, .inl j101_cop)), (cva, .inl (ccva, 5000, .inr (.inl j101_cva))), (cpt, .inl (ccpt, 5000, .inl j101_cpt)), (cel, .inl (ccel, 5000, .inl j101_cel)), (cla, .inl (ccla, 2000, .inl j101_cla)), (h0, .inr (7, [.ref aw, .ref ac, .int j101_h0_at, .int x6, .int j101_h0_sound, .int h0_codeCount, .ref ob, .int j101_h0_openCount])), (aw, .inr (10, [.ref ab, .ref ac, .int aw_typeCount, .ref wat, .ref wap, .ref wag, .int aw_functionCount, .ref waf, .int aw_hasMemory, .long aw_pagesLeast, .long aw_pagesMost, .int aw_globalCount, .ref wgt, .ref wft, .ref wfv, .ref wgc, .int aw_exportCount, .ref wek, .ref wei, .ref wes, .ref wez])), (ab, .inr (1, [.ref ax, .int ab_length])), (ac, .inr (3, [.ref cfi, .ref clk, .ref clt, .int j101_ac_length, .ref cop, .ref cva, .ref cpt, .ref cel, .int j101_ac_labelCount, .ref cla])), (ax, .inl (cax, 8192, .inl gax)), (clk, .inl (cclk, 30, .inl n9)), (clt, .inl (cclt, 1800, .inl n10))] H ∧ va_D A [(ob, .inl (cob, 100, .inl j101_ob)), (cfi, .inl (ccfi, 31, .inl f14)), (cop, .inl (ccop, 5000, .inl j101_cop)), (cva, .inl (ccva, 5000, .inr (.inl j101_cva))), (cpt, .inl (ccpt, 5000, .inl j101_cpt)), (cel, .inl (ccel, 5000, .inl j101_cel)), (cla, .inl (ccla, 2000, .inl j101_cla)), (h0, .inr (7, [.ref aw, .ref ac, .int j101_h0_at, .int x6, .int j101_h0_sound, .int h0_codeCount, .ref ob, .int j101_h0_openCount])), (aw, .inr (10, [.ref ab, .ref ac, .int aw_typeCount, .ref wat, .ref wap, .ref wag, .int aw_functionCount, .ref waf, .int aw_hasMemory, .long aw_pagesLeast, .long aw_pagesMost, .int aw_globalCount, .ref wgt, .ref wft, .ref wfv, .ref wgc, .int aw_exportCount, .ref wek, .ref wei, .ref wes, .ref wez])), (ab, .inr (1, [.ref ax, .int ab_length])), (ac, .inr (3, [.ref cfi, .ref clk, .ref clt, .int j101_ac_length, .ref cop, .ref cva, .ref cpt, .ref cel, .int j101_ac_labelCount, .ref cla])), (ax, .inl (cax, 8192, .inl gax)), (clk, .inl (cclk, 30, .inl n9)), (clt, .inl (cclt, 1800, .inl n10))] ∧ va_S A s.heap H locs ∧ lv_has ls 6 [(0, .ref h0), (2, .int h0_limit)]) (fun u => match u with | _ => [.ref h0]) ?_ (fun jn174 => ?_)
          · intro u H locs ls hI
            obtain ⟨y174, hP, hD, hS, hl⟩ := hI
            refine lv_iconst (v := 0) hx hb d_RE_readCode_174 (by decide) ?_
            exact jn175 0 _ _ _ ⟨Or.inl rfl, by (try dsimp only) <;> (first | (apply Int.le_antisymm <;> omega) | omega), hP, hD, hS, lv_sub hl [0, 1] rfl⟩
          · skip
            refine lv_if_eq (tgt := 174) hx hb d_RE_readCode_156 (by decide) (fun c156 => ?_) (fun c156 => ?_)
            · have q156 := eqI c156
              exact jn174 () _ _ _ ⟨by (try dsimp only) <;> (first | (apply Int.le_antisymm <;> omega) | omega), hP, hD, hS, lv_sub hl [0, 2] rfl⟩
            · have q156 := neI c156
              refine lv_aload_n hx hb d_RE_readCode_159 rfl (lv_at hl 0 rfl) ?_
              refine va_get (D := (dC, dI)) (ci := 7) (v := .int j101_h0_at) (C := R_RE) (T := F_RE) (N := 8) hx hb hts i_RE hown hK hP 7 rfl rfl 2 (by decide) (hts _ kF_RE_29) (fun _ h9 => h9) rfl d_RE_readCode_160 ?_
              refine lv_aload_n hx hb d_RE_readCode_163 rfl (lv_at hl 0 rfl) ?_
              refine va_get (D := (dC, dI)) (ci := 7) (v := .int x6) (C := R_RE) (T := F_RE) (N := 8) hx hb hts i_RE hown hK hP 7 rfl rfl 3 (by decide) (hts _ kF_RE_42) (fun _ h9 => h9) rfl d_RE_readCode_164 ?_
              refine lv_icmp_ne (tgt := 174) hx hb d_RE_readCode_167 (by decide) (fun c167 => ?_) (fun c167 => ?_)
              · have q167 := neI c167
                exact jn174 () _ _ _ ⟨by (try dsimp only) <;> (first | (apply Int.le_antisymm <;> omega) | omega), hP, hD, hS, lv_sub hl [0, 2] rfl⟩
              · have q167 := eqI c167
                refine lv_iconst (v := 1) hx hb d_RE_readCode_170 (by decide) ?_
                refine lv_goto (tgt := 175) hx hb d_RE_readCode_171 (by decide) ?_
                exact jn175 1 _ _ _ ⟨Or.inr rfl, by (try dsimp only) <;> (first | (apply Int.le_antisymm <;> omega) | omega), hP, hD, hS, lv_sub hl [0, 2] rfl⟩
      · skip
        refine lv_icmp_gt (tgt := 133) hx hb d_RE_readCode_106 (by decide) (fun c106 => ?_) (fun c106 => ?_)
        · have q106 := ltI c106
          exact jn133 () _ _ _ ⟨(by rcases tj101_h0_sound with z | z; (exact Or.inl z); (have := kI_n v1 z; (first | (apply Int.le_antisymm <;> omega) | omega))), hP, hD, hS, lv_sub hl [0, 1, 2] rfl⟩
        · have q106 := nltI c106
          refine lv_aload_n hx hb d_RE_readCode_109 rfl (lv_at hl 0 rfl) ?_
          refine va_get (D := (dC, dI)) (ci := 7) (v := .int j101_h0_sound) (C := R_RE) (T := F_RE) (N := 8) hx hb hts i_RE hown hK hP 7 rfl rfl 4 (by decide) (hts _ kF_RE_45) (fun _ h9 => h9) rfl d_RE_readCode_110 ?_
          refine lv_if_eq (tgt := 133) hx hb d_RE_readCode_113 (by decide) (fun c113 => ?_) (fun c113 => ?_)
          · have q113 := eqI c113
            exact jn133 () _ _ _ ⟨(by rcases tj101_h0_sound with z | z; (exact Or.inl z); (have := kI_n v1 z; (first | (apply Int.le_antisymm <;> omega) | omega))), hP, hD, hS, lv_sub hl [0, 1, 2] rfl⟩
          · have q113 := neI c113
            refine lv_iload hx hb d_RE_readCode_116 (lv_at hl 3 rfl) ?_
            refine lv_if_eq (tgt := 133) hx hb d_RE_readCode_118 (by decide) (fun c118 => ?_) (fun c118 => ?_)
            · have q118 := eqI c118
              exact jn133 () _ _ _ ⟨(by rcases tj101_h0_sound with z | z; (exact Or.inl z); (have := kI_n v1 z; (first | (apply Int.le_antisymm <;> omega) | omega))), hP, hD, hS, lv_sub hl [0, 1, 2] rfl⟩
            · have q118 := neI c118
              obtain ⟨ls8, is8, st8, w1, w2, w3, w4, w5, w6, w7, w8, w9, w10⟩ := kI_in v1 (by (first | (apply Int.le_antisymm <;> omega) | omega)) (by (first | (apply Int.le_antisymm <;> omega) | omega))
              refine lv_aload_n hx hb d_RE_readCode_121 rfl (lv_at hl 0 rfl) ?_
              have hPc := hP.sb (wq := [(h0, .inr (7, [.ref aw, .ref ac, .int j101_h0_at, .int x6, .int j101_h0_sound, .int h0_codeCount, .ref ob, .int j101_h0_openCount])), (aw, .inr (10, [.ref ab, .ref ac, .int aw_typeCount, .ref wat, .ref wap, .ref wag, .int aw_functionCount, .ref waf, .int aw_hasMemory, .long aw_pagesLeast, .long aw_pagesMost, .int aw_globalCount, .ref wgt, .ref wft, .ref wfv, .ref wgc, .int aw_exportCount, .ref wek, .ref wei, .ref wes, .ref wez])), (ab, .inr (1, [.ref ax, .int ab_length])), (ac, .inr (3, [.ref cfi, .ref clk, .ref clt, .int j101_ac_length, .ref cop, .ref cva, .ref cpt, .ref cel, .int j101_ac_labelCount, .ref cla])), (ax, .inl (cax, 8192, .inl gax)), (ob, .inl (cob, 100, .inl j101_ob)), (cop, .inl (ccop, 5000, .inl j101_cop)), (cva, .inl (ccva, 5000, .inr (.inl j101_cva))), (cpt, .inl (ccpt, 5000, .inl j101_cpt)), (cel, .inl (ccel, 5000, .inl j101_cel)), (cla, .inl (ccla, 2000, .inl j101_cla))]) [7, 8, 9, 10, 11, 0, 2, 3, 4, 5, 6] rfl
              have hDc := hD.sb (wq := [(h0, .inr (7, [.ref aw, .ref ac, .int j101_h0_at, .int x6, .int j101_h0_sound, .int h0_codeCount, .ref ob, .int j101_h0_openCount])), (aw, .inr (10, [.ref ab, .ref ac, .int aw_typeCount, .ref wat, .ref wap, .ref wag, .int aw_functionCount, .ref waf, .int aw_hasMemory, .long aw_pagesLeast, .long aw_pagesMost, .int aw_globalCount, .ref wgt, .ref wft, .ref wfv, .ref wgc, .int aw_exportCount, .ref wek, .ref wei, .ref wes, .ref wez])), (ab, .inr (1, [.ref ax, .int ab_length])), (ac, .inr (3, [.ref cfi, .ref clk, .ref clt, .int j101_ac_length, .ref cop, .ref cva, .ref cpt, .ref cel, .int j101_ac_labelCount, .ref cla])), (ax, .inl (cax, 8192, .inl gax)), (ob, .inl (cob, 100, .inl j101_ob)), (cop, .inl (ccop, 5000, .inl j101_cop)), (cva, .inl (ccva, 5000, .inr (.inl j101_cva))), (cpt, .inl (ccpt, 5000, .inl j101_cpt)), (cel, .inl (ccel, 5000, .inl j101_cel)), (cla, .inl (ccla, 2000, .inl j101_cla))]) [7, 8, 9, 10, 11, 0, 2, 3, 4, 5, 6] (by decide) rfl
              have hKc := hK.sb (tyq := [(cax, .byte), (cob, .int), (ccop, .int), (ccva, .long), (ccpt, .int), (ccel, .int), (ccla, .int)]) [0, 1, 5, 6, 7, 8, 9] rfl
              have hFc := va_free (wc := [(h0, .inr (7, [.ref aw, .ref ac, .int j101_h0_at, .int x6, .int j101_h0_sound, .int h0_codeCount, .ref ob, .int j101_h0_openCount])), (aw, .inr (10, [.ref ab, .ref ac, .int aw_typeCount, .ref wat, .ref wap, .ref wag, .int aw_functionCount, .ref waf, .int aw_hasMemory, .long aw_pagesLeast, .long aw_pagesMost, .int aw_globalCount, .ref wgt, .ref wft, .ref wfv, .ref wgc, .int aw_exportCount, .ref wek, .ref wei, .ref wes, .ref wez])), (ab, .inr (1, [.ref ax, .int ab_length])), (ac, .inr (3, [.ref cfi, .ref clk, .ref clt, .int j101_ac_length, .ref cop, .ref cva, .ref cpt, .ref cel, .int j101_ac_labelCount, .ref cla])), (ax, .inl (cax, 8192, .inl gax)), (ob, .inl (cob, 100, .inl j101_ob)), (cop, .inl (ccop, 5000, .inl j101_cop)), (cva, .inl (ccva, 5000, .inr (.inl j101_cva))), (cpt, .inl (ccpt, 5000, .inl j101_cpt)), (cel, .inl (ccel, 5000, .inl j101_cel)), (cla, .inl (ccla, 2000, .inl j101_cla))]) hD hS hA [7, 8, 9, 10, 11, 0, 2, 3, 4, 5, 6] rfl
              refine va_calli (va_runV (As := []) (rest := []) ⟨hx, hb, hml, hown, hts⟩ (c_RE_readInstructiony l dC dI H.size h0 aw ac ob ab wat wap wag waf wgt wft wfv wgc wek wei wes wez ax cfi clk clt cop cva cpt cel cla cax cob ccop ccva ccpt ccel ccla j101_h0_at x6 j101_h0_sound h0_codeCount j101_h0_openCount aw_typeCount aw_functionCount aw_hasMemory aw_pagesLeast aw_pagesMost aw_globalCount aw_exportCount ab_length j101_ac_length j101_ac_labelCount gax j101_ob j101_cop j101_cva j101_cpt j101_cel j101_cla (l9 ++ is8) st8 (b_j101_h0_sound) (b_j101_h0_openCount) (b_j101_ac_length) (b_j101_ac_labelCount) (by (try dsimp only) <;> (first | (apply Int.le_antisymm <;> omega) | omega)) (by (first | (apply Int.le_antisymm <;> omega) | omega)) (by (first | (apply Int.le_antisymm <;> omega) | omega)) (w2) (w10) (w9) (w6.symm) (w4) (w5) (w3)) (cwV 0 hts (gV kM_RE_182 kV_RE_readInstruction kS_RE_readInstruction kI_RE kC_RE_readInstruction) rfl rfl rfl (by decide +kernel) ⟨Nat.le_of_ble_eq_true rfl, Nat.le_of_ble_eq_true rfl⟩) ⟨fun a U g mk z => by obtain ⟨z0, z1, zP, zK, zD⟩ := z; exact ⟨z0, z1, zP, va_K.moved (u := U) (U := U.calling g mk a) (Vm.Alike.refl U.vm) zK, zD⟩, va_recv hKc hPc (ci := 7) (q0 := 0) rfl rfl, fun U hU hW => ⟨rfl, by rw [hU], va_P.he hU.symm hPc, va_K.moved hW.alike hKc, hDc.weaken (fun _ _ _ _ => trivial)⟩⟩ rfl rfl hl.1 rfl (lv_room (Nat.le_of_ble_eq_true rfl)) d_RE_readCode_122 ⟨(Nat.zero_le _), (Nat.zero_le _)⟩) hS (fun q _ h => hFc q h) hFc (fun r15 u t H1 locs ht hvm hw hB hz1 hk1 hS => ?_)
              obtain ⟨n16, n17, n18, n19, n20, n21, n22, n23, n24, n25, n26⟩ := u
              try dsimp only at hw
              obtain ⟨br15, bn22, bn23, bn25, bn26, xr15⟩ := hw
              try clear hw
              have tr15 := b01 br15
              have tn26 := b01 bn26
              obtain ⟨hP1, hK1, hD1⟩ := hB
              replace hP1 := va_P.he ht hP1
              obtain ⟨hP, hD⟩ := va_join (wr := [(cfi, .inl (ccfi, 31, .inl f7)), (clk, .inl (cclk, 30, .inl n9)), (clt, .inl (cclt, 1800, .inl n10))]) (w1 := [(h0, .inr (7, [.ref aw, .ref ac, .int n24, .int x6, .int n26, .int h0_codeCount, .ref ob, .int n25])), (aw, .inr (10, [.ref ab, .ref ac, .int aw_typeCount, .ref wat, .ref wap, .ref wag, .int aw_functionCount, .ref waf, .int aw_hasMemory, .long aw_pagesLeast, .long aw_pagesMost, .int aw_globalCount, .ref wgt, .ref wft, .ref wfv, .ref wgc, .int aw_exportCount, .ref wek, .ref wei, .ref wes, .ref wez])), (ab, .inr (1, [.ref ax, .int ab_length])), (ac, .inr (3, [.ref cfi, .ref clk, .ref clt, .int n23, .ref cop, .ref cva, .ref cpt, .ref cel, .int n22, .ref cla])), (ax, .inl (cax, 8192, .inl gax)), (ob, .inl (cob, 100, .inl n21)), (cop, .inl (ccop, 5000, .inl n18)), (cva, .inl (ccva, 5000, .inr (.inl n20))), (cpt, .inl (ccpt, 5000, .inl n19)), (cel, .inl (ccel, 5000, .inl n16)), (cla, .inl (ccla, 2000, .inl n17))]) hP hD [7, 8, 9, 10, 11, 0, 2, 3, 4, 5, 6] [1, 12, 13] rfl rfl (by decide) (by decide) hk1 hFc hP1 hD1
              clear hPc hDc hKc hFc hz1 hk1 hP1 hK1 hD1
              rename Heap => H
              have hP : va_P (dC, dI) cls [(cfi, .inl (ccfi, 31, .inl f7)), (clk, .inl (cclk, 30, .inl n9)), (clt, .inl (cclt, 1800, .inl n10)), (h0, .inr (7, [.ref aw, .ref ac, .int n24, .int x6, .int n26, .int h0_codeCount, .ref ob, .int n25])), (aw, .inr (10, [.ref ab, .ref ac, .int aw_typeCount, .ref wat, .ref wap, .ref wag, .int aw_functionCount, .ref waf, .int aw_hasMemory, .long aw_pagesLeast, .long aw_pagesMost, .int aw_globalCount, .ref wgt, .ref wft, .ref wfv, .ref wgc, .int aw_exportCount, .ref wek, .ref wei, .ref wes, .ref wez])), (ab, .inr (1, [.ref ax, .int ab_length])), (ac, .inr (3, [.ref cfi, .ref clk, .ref clt, .int n23, .ref cop, .ref cva, .ref cpt, .ref cel, .int n22, .ref cla])), (ax, .inl (cax, 8192, .inl gax)), (ob, .inl (cob, 100, .inl n21)), (cop, .inl (ccop, 5000, .inl n18)), (cva, .inl (ccva, 5000, .inr (.inl n20))), (cpt, .inl (ccpt, 5000, .inl n19)), (cel, .inl (ccel, 5000, .inl n16)), (cla, .inl (ccla, 2000, .inl n17))] H := hP
              have hD : va_D A [(cfi, .inl (ccfi, 31, .inl f7)), (clk, .inl (cclk, 30, .inl n9)), (clt, .inl (cclt, 1800, .inl n10)), (h0, .inr (7, [.ref aw, .ref ac, .int n24, .int x6, .int n26, .int h0_codeCount, .ref ob, .int n25])), (aw, .inr (10, [.ref ab, .ref ac, .int aw_typeCount, .ref wat, .ref wap, .ref wag, .int aw_functionCount, .ref waf, .int aw_hasMemory, .long aw_pagesLeast, .long aw_pagesMost, .int aw_globalCount, .ref wgt, .ref wft, .ref wfv, .ref wgc, .int aw_exportCount, .ref wek, .ref wei, .ref wes, .ref wez])), (ab, .inr (1, [.ref ax, .int ab_length])), (ac, .inr (3, [.ref cfi, .ref clk, .ref clt, .int n23, .ref cop, .ref cva, .ref cpt, .ref cel, .int n22, .ref cla])), (ax, .inl (cax, 8192, .inl gax)), (ob, .inl (cob, 100, .inl n21)), (cop, .inl (ccop, 5000, .inl n18)), (cva, .inl (ccva, 5000, .inr (.inl n20))), (cpt, .inl (ccpt, 5000, .inl n19)), (cel, .inl (ccel, 5000, .inl n16)), (cla, .inl (ccla, 2000, .inl n17))] := hD
              refine lv_istore (lv' := [(4, .int r15), (0, .ref h0), (1, .int p0), (2, .int h0_limit), (5, .int j101_l5)]) hx hb d_RE_readCode_125 hl (by decide) rfl (fun ls hl => ?_)
              obtain ⟨x27, ex27⟩ : ∃ z : Int32, z = j101_l5 + 1 := ⟨_, rfl⟩
              have tx27 : x27.toInt = j101_l5.toInt + 1 := by have z := i32_add ex27 (by (first | (apply Int.le_antisymm <;> omega) | omega)) (by (first | (apply Int.le_antisymm <;> omega) | omega)); first | exact z | (first | (apply Int.le_antisymm <;> omega) | omega)
              refine lv_iinc (v := x27) (lv' := [(5, .int x27), (4, .int r15), (0, .ref h0), (1, .int p0), (2, .int h0_limit)]) hx hb d_RE_readCode_127 hl (k := 4) rfl (by rw [ex27]; rfl) (by decide) rfl (fun ls hl => ?_)
              refine lv_goto (tgt := 101) hx hb d_RE_readCode_130 (by decide) ?_
              exact ih101 (r15, x27, n16, n17, n18, n19, n20, n21, n22, n23, n24, n25, n26) _ _ _ (by show (5001 - x27.toInt).toNat < N101; (first | (apply Int.le_antisymm <;> omega) | omega)) ⟨br15, by (try dsimp only) <;> (first | (apply Int.le_antisymm <;> omega) | omega), bn22, bn23, bn25, bn26, (by rw [show x27.toInt = j101_l5.toInt + 1 from by (first | (apply Int.le_antisymm <;> omega) | omega)]; exact kI_s w1 w8 w7 (by (first | (apply Int.le_antisymm <;> omega) | omega)) xr15.2), by (try dsimp only) <;> (first | (apply Int.le_antisymm <;> omega) | omega), hP.sub [8, 0, 9, 10, 11, 12, 13, 3, 4, 5, 6, 7, 1, 2] rfl, hD.sub [8, 0, 9, 10, 11, 12, 13, 3, 4, 5, 6, 7, 1, 2] (by decide) rfl, hS, lv_sub hl [2, 3, 4, 1, 0] rfl⟩
    · have q55 := eqI c55
      have hP9 := hP.sb (wq := (wz_50 h0 aw ac n3 h0_limit j48_s0 h0_codeCount ob h0_openCount aw ab ac aw_typeCount wat wap wag aw_functionCount waf aw_hasMemory aw_pagesLeast aw_pagesMost aw_globalCount wgt wft wfv wgc aw_exportCount wek wei wes wez ab ax ab_length ac cfi clk clt ac_length cop cva cpt cel ac_labelCount cla ax cax gax ob cob gob cfi ccfi gcfi clk cclk gclk clt cclt gclt cop ccop gcop cva ccva gcva cpt ccpt gcpt cel ccel gcel cla ccla gcla)) [10, 11, 12, 0, 13, 1, 2, 3, 4, 5, 6, 7, 8, 9] rfl
      have hD9 := hD.sb (wq := (wz_50 h0 aw ac n3 h0_limit j48_s0 h0_codeCount ob h0_openCount aw ab ac aw_typeCount wat wap wag aw_functionCount waf aw_hasMemory aw_pagesLeast aw_pagesMost aw_globalCount wgt wft wfv wgc aw_exportCount wek wei wes wez ab ax ab_length ac cfi clk clt ac_length cop cva cpt cel ac_labelCount cla ax cax gax ob cob gob cfi ccfi gcfi clk cclk gclk clt cclt gclt cop ccop gcop cva ccva gcva cpt ccpt gcpt cel ccel gcel cla ccla gcla)) [10, 11, 12, 0, 13, 1, 2, 3, 4, 5, 6, 7, 8, 9] (by decide) rfl
      exact W.vret hx hb hr (fun t ht hW => ⟨⟨(gcel, gcfi, gcla, gclk, gclt, gcop, gcpt, gcva, gob, ac_labelCount, ac_length, n3, h0_limit, h0_openCount, j48_s0), rfl, ⟨b_ac_labelCount, b_ac_length, b_h0_openCount, b_j48_s0, ⟨⟨by (try dsimp only) <;> (first | (apply Int.le_antisymm <;> omega) | omega), by (try dsimp only) <;> (first | (apply Int.le_antisymm <;> omega) | omega)⟩, rfl, fun _ _ => rfl, Or.inr ⟨by (try dsimp only) <;> (first | (apply Int.le_antisymm <;> omega) | omega), cd_n1 xr2.2 hs (M := x1.toInt) (by have := i32_clamp (x := h0_limit) (by (first | (apply Int.le_antisymm <;> omega) | omega)); (first | (apply Int.le_antisymm <;> omega) | omega)) (by (first | (apply Int.le_antisymm <;> omega) | omega)) (by have := i32_clamp (x := h0_limit) (by (first | (apply Int.le_antisymm <;> omega) | omega)); (first | (apply Int.le_antisymm <;> omega) | omega)) (by (first | (apply Int.le_antisymm <;> omega) | omega))⟩⟩⟩, va_P.he ht.symm hP9, va_K.moved hW.alike hK, hD9⟩, hS.F ht⟩) hS.2.2 d_RE_readCode_58
  · skip
    refine w_cut (pc2 := 47) (σ := Unit) (fun u H locs ls => match u with | _ => (¬ (n4.toInt = 1 ∧ x5.toInt ≤ h0_limit.toInt - n3.toInt)) ∧ va_P (dC, dI) cls (wz_51 ac cfi clk clt ac_length cop cva cpt cel ac_labelCount cla ob cob gob cfi ccfi gcfi clk cclk gclk clt cclt gclt cop ccop gcop cva ccva gcva cpt ccpt gcpt cel ccel gcel cla ccla gcla h0 aw ac n3 h0_limit n4 h0_codeCount ob h0_openCount aw ab ac aw_typeCount wat wap wag aw_functionCount waf aw_hasMemory aw_pagesLeast aw_pagesMost aw_globalCount wgt wft wfv wgc aw_exportCount wek wei wes wez ab ax ab_length ax cax gax) H ∧ va_D A (wz_51 ac cfi clk clt ac_length cop cva cpt cel ac_labelCount cla ob cob gob cfi ccfi gcfi clk cclk gclk clt cclt gclt cop ccop gcop cva ccva gcva cpt ccpt gcpt cel ccel gcel cla ccla gcla h0 aw ac n3 h0_limit n4 h0_codeCount ob h0_openCount aw ab ac aw_typeCount wat wap wag aw_functionCount waf aw_hasMemory aw_pagesLeast aw_pagesMost aw_globalCount wgt wft wfv wgc aw_exportCount wek wei wes wez ab ax ab_length ax cax gax) ∧ va_S A s.heap H locs ∧ lv_has ls 6 [(0, .ref h0), (1, .int p0), (2, .int h0_limit), (3, .int x5)]) (fun u => match u with | _ => [.ref h0]) ?_ (fun jn47 => ?_)
    · intro u H locs ls hI
      obtain ⟨y47, hP, hD, hS, hl⟩ := hI
      refine lv_iconst (v := 0) hx hb d_RE_readCode_47 (by decide) ?_
      exact jn48 0 _ _ _ ⟨Or.inl rfl, by (try dsimp only) <;> (first | (apply Int.le_antisymm <;> omega) | omega), hP, hD, hS, lv_sub hl [0, 1, 2, 3] rfl⟩
    · skip
      refine lv_if_eq (tgt := 47) hx hb d_RE_readCode_27 (by decide) (fun c27 => ?_) (fun c27 => ?_)
      · have q27 := eqI c27
        exact jn47 () _ _ _ ⟨by (try dsimp only) <;> (first | (apply Int.le_antisymm <;> omega) | omega), hP, hD, hS, lv_sub hl [2, 3, 1, 0] rfl⟩
      · have q27 := neI c27
        refine lv_iload_n hx hb d_RE_readCode_30 rfl (lv_at hl 0 rfl) ?_
        refine lv_aload_n hx hb d_RE_readCode_31 rfl (lv_at hl 2 rfl) ?_
        refine va_get (D := (dC, dI)) (ci := 7) (v := .int h0_limit) (C := R_RE) (T := F_RE) (N := 8) hx hb hts i_RE hown hK hP 10 rfl rfl 3 (by decide) (hts _ kF_RE_42) (fun _ h9 => h9) rfl d_RE_readCode_32 ?_
        refine lv_aload_n hx hb d_RE_readCode_35 rfl (lv_at hl 2 rfl) ?_
        refine va_get (D := (dC, dI)) (ci := 7) (v := .int n3) (C := R_RE) (T := F_RE) (N := 8) hx hb hts i_RE hown hK hP 10 rfl rfl 2 (by decide) (hts _ kF_RE_29) (fun _ h9 => h9) rfl d_RE_readCode_36 ?_
        refine lv_isub hx hb d_RE_readCode_39 ?_
        refine lv_topi (fun x28 ex28 => ?_)
        have tx28 : x28.toInt = h0_limit.toInt - n3.toInt := by have z := i32_sub ex28 (by (first | (apply Int.le_antisymm <;> omega) | omega)) (by (first | (apply Int.le_antisymm <;> omega) | omega)); first | exact z | (first | (apply Int.le_antisymm <;> omega) | omega)
        refine lv_icmp_gt (tgt := 47) hx hb d_RE_readCode_40 (by decide) (fun c40 => ?_) (fun c40 => ?_)
        · have q40 := ltI c40
          exact jn47 () _ _ _ ⟨by (try dsimp only) <;> (first | (apply Int.le_antisymm <;> omega) | omega), hP, hD, hS, lv_sub hl [2, 3, 1, 0] rfl⟩
        · have q40 := nltI c40
          refine lv_iconst (v := 1) hx hb d_RE_readCode_43 (by decide) ?_
          refine lv_goto (tgt := 48) hx hb d_RE_readCode_44 (by decide) ?_
          exact jn48 1 _ _ _ ⟨Or.inr rfl, by (try dsimp only) <;> (first | (apply Int.le_antisymm <;> omega) | omega), hP, hD, hS, lv_sub hl [2, 3, 1, 0] rfl⟩
end q_n44q10
section q_n44q11
/-! p5: the class: types -/
/-- the tables hold the types T -/
def tyA (wt wp wg : Nat → Int32) (T : List (List Nat × Nat)) : Prop := ∀ (t : Nat) (x : List Nat × Nat), T[t]? = some x → (wt t).toInt = (x.1.length : Int) ∧ x.1.length ≤ 8 ∧ (wg t).toInt = (x.2 : Int) ∧ ∀ (p y : Nat), x.1[p]? = some y → (wp (8 * t + p)).toInt = (y : Int)
def tyO (f : Nat → Int32) (L a0 : Nat) (s a : Int32) (n k : Int) (wt wp wg : Nat → Int32) : Prop := (s.toInt = 1 ∧ ∃ T : List (List Nat × Nat), (T.length : Int) = k ∧ zV f L 20 (zType f L) a0 = zA (zType f L) (n - k).toNat T a.toNatClampNeg ∧ tyA wt wp wg T) ∨ (s.toInt = 0 ∧ zV f L 20 (zType f L) a0 = none)
/-- within a type: q parameters are left, l of them read -/
def tyN (f : Nat → Int32) (L a0 : Nat) (s a : Int32) (q l t : Int) (wp : Nat → Int32) : Prop := (s.toInt = 1 ∧ ∃ ps : List Nat, (ps.length : Int) = l ∧ zType f L a0 = zTyC f L q.toNat ps a.toNatClampNeg ∧ ∀ (p y : Nat), ps[p]? = some y → (wp ((8 * t).toNat + p)).toInt = (y : Int)) ∨ (s.toInt = 0 ∧ zType f L a0 = none)
theorem tyO_0 {f wt wp wg : Nat → Int32} {L a0 : Nat} {s0 s a : Int32} {r k : Int} (h : rz (zM f L 20 a0) s0 s a r) (hs : s0.toInt = 1) (hk : k = 0) : tyO f L a0 s a r k wt wp wg := by
  rcases h with ⟨h1, h2, h3, h4⟩ | ⟨h1, h2⟩
  · refine Or.inl ⟨h1, [], by rw [hk]; rfl, ?_, fun t x ht => by cases ht⟩
    unfold zV
    rw [h4, hk, Int.sub_zero]
  · refine Or.inr ⟨h1, ?_⟩
    unfold zV
    rw [h2 hs]
theorem tyN_0 {f wp : Nat → Int32} {L : Nat} {s a s2 a2 s3 a3 : Int32} {r l t : Int} (h1 : rp (zE f L 96 a.toNatClampNeg) s s2 a2) (h2 : rz (zM f L 8 a2.toNatClampNeg) s2 s3 a3 r) (hs : s.toInt = 1) (hl : l = 0) : tyN f L a.toNatClampNeg s3 a3 r l t wp := by
  rcases h1 with ⟨u1, u2, u3⟩ | ⟨u1, u2⟩
  · rcases h2 with ⟨v1, v2, v3, v4⟩ | ⟨v1, v2⟩
    · refine Or.inl ⟨v1, [], by rw [hl]; rfl, ?_, fun p y hp => by cases hp⟩
      unfold zType
      rw [u3]
      dsimp only
      rw [v4]
    · refine Or.inr ⟨v1, ?_⟩
      unfold zType
      rw [u3]
      dsimp only
      rw [v2 u1]
  · refine Or.inr ⟨?_, ?_⟩
    · rcases h2 with ⟨v1, v2, v3, v4⟩ | ⟨v1, v2⟩
      · exact absurd v2 (by (first | (apply Int.le_antisymm <;> omega) | omega))
      · exact v1
    · unfold zType
      rw [u2 hs]
theorem tyN_s {f wp : Nat → Int32} {L a0 i : Nat} {s a s2 a2 v : Int32} {q l t : Int} (h : tyN f L a0 s a q l t wp) (h1 : rz (zTy f L a.toNatClampNeg) s s2 a2 v.toInt) (hq : 0 < q) (hi : (i : Int) = 8 * t + l) (ht : 0 ≤ t) (hl : 0 ≤ l) : tyN f L a0 s2 a2 (q - 1) (l + 1) t (upd wp i v) := by
  rcases h with ⟨u1, ps, u2, u3, u4⟩ | ⟨u1, u2⟩
  · unfold zTyC at u3
    rw [show q.toNat = (q - 1).toNat + 1 by (first | (apply Int.le_antisymm <;> omega) | omega), zA] at u3
    rcases h1 with ⟨v1, v2, v3, v4⟩ | ⟨v1, v2⟩
    · rw [v4] at u3
      refine Or.inl ⟨v1, ps ++ [v.toInt.toNat], by rw [List.length_append, List.length_singleton]; (first | (apply Int.le_antisymm <;> omega) | omega), u3, fun p y hp => ?_⟩
      by_cases e : p < ps.length
      · rw [List.getElem?_append_left e] at hp
        rw [pk_un (show (8 * t).toNat + p ≠ i by (first | (apply Int.le_antisymm <;> omega) | omega))]
        exact u4 p y hp
      · have hp2 : p = ps.length := by
          have := (List.getElem?_eq_some_iff.mp hp).1
          rw [List.length_append, List.length_singleton] at this
          (first | (apply Int.le_antisymm <;> omega) | omega)
        rw [hp2, List.getElem?_append_right (Nat.le_refl _), Nat.sub_self] at hp
        cases hp
        rw [hp2, show (8 * t).toNat + ps.length = i by (first | (apply Int.le_antisymm <;> omega) | omega), pk_us]
        (first | (apply Int.le_antisymm <;> omega) | omega)
    · rw [v2 u1] at u3
      exact Or.inr ⟨v1, u3⟩
  · refine Or.inr ⟨?_, u2⟩
    rcases h1 with ⟨v1, v2, v3, v4⟩ | ⟨v1, v2⟩
    · exact absurd v2 (by (first | (apply Int.le_antisymm <;> omega) | omega))
    · exact v1
/-- a type is read: y: what it gives -/
def tyE (f : Nat → Int32) (L a0 : Nat) (s a : Int32) (l t : Int) (wp : Nat → Int32) (y : Int) : Prop := (s.toInt = 1 ∧ ∃ ps : List Nat, (ps.length : Int) = l ∧ 0 ≤ y ∧ zType f L a0 = some ((ps, y.toNat), a.toNatClampNeg) ∧ ∀ (p y : Nat), ps[p]? = some y → (wp ((8 * t).toNat + p)).toInt = (y : Int)) ∨ (s.toInt = 0 ∧ zType f L a0 = none)
theorem tyE_0 {f wp : Nat → Int32} {L a0 : Nat} {s a s2 a2 : Int32} {q l l2 t r : Int} (h : tyN f L a0 s a q l t wp) (hq : q = 0) (hl : l = l2) (h1 : rz (zM f L 1 a.toNatClampNeg) s s2 a2 r) (hr : r ≠ 1) : tyE f L a0 s2 a2 l2 t wp 64 := by
  subst hl
  rcases h with ⟨u1, ps, u2, u3, u4⟩ | ⟨u1, u2⟩
  · unfold zTyC at u3
    rw [hq, show (0 : Int).toNat = 0 from rfl, zA] at u3
    dsimp only at u3
    unfold zTyE at u3
    rcases h1 with ⟨v1, v2, v3, v4⟩ | ⟨v1, v2⟩
    · rw [v4] at u3
      dsimp only at u3
      rw [if_neg (by (first | (apply Int.le_antisymm <;> omega) | omega))] at u3
      exact Or.inl ⟨v1, ps, u2, by decide, u3, u4⟩
    · rw [v2 u1] at u3
      exact Or.inr ⟨v1, u3⟩
  · refine Or.inr ⟨?_, u2⟩
    rcases h1 with ⟨v1, v2, v3, v4⟩ | ⟨v1, v2⟩
    · exact absurd v2 (by (first | (apply Int.le_antisymm <;> omega) | omega))
    · exact v1
theorem tyE_1 {f wp : Nat → Int32} {L a0 : Nat} {s a s2 a2 s3 a3 : Int32} {q l l2 t r y : Int} (h : tyN f L a0 s a q l t wp) (hq : q = 0) (hl : l = l2) (h1 : rz (zM f L 1 a.toNatClampNeg) s s2 a2 r) (hr : r = 1) (h2 : rz (zTy f L a2.toNatClampNeg) s2 s3 a3 y) : tyE f L a0 s3 a3 l2 t wp y := by
  subst hl
  rcases h with ⟨u1, ps, u2, u3, u4⟩ | ⟨u1, u2⟩
  · unfold zTyC at u3
    rw [hq, show (0 : Int).toNat = 0 from rfl, zA] at u3
    dsimp only at u3
    unfold zTyE at u3
    rcases h1 with ⟨v1, v2, v3, v4⟩ | ⟨v1, v2⟩
    · rw [v4] at u3
      dsimp only at u3
      rw [if_pos (by (first | (apply Int.le_antisymm <;> omega) | omega))] at u3
      rcases h2 with ⟨w1, w2, w3, w4⟩ | ⟨w1, w2⟩
      · rw [w4] at u3
        exact Or.inl ⟨w1, ps, u2, w3, u3, u4⟩
      · rw [w2 v1] at u3
        exact Or.inr ⟨w1, u3⟩
    · rw [v2 u1] at u3
      refine Or.inr ⟨?_, u3⟩
      rcases h2 with ⟨w1, w2, w3, w4⟩ | ⟨w1, w2⟩
      · exact absurd w2 (by (first | (apply Int.le_antisymm <;> omega) | omega))
      · exact w1
  · refine Or.inr ⟨?_, u2⟩
    rcases h2 with ⟨w1, w2, w3, w4⟩ | ⟨w1, w2⟩
    · rcases h1 with ⟨v1, v2, v3, v4⟩ | ⟨v1, v2⟩
      · (first | (apply Int.le_antisymm <;> omega) | omega)
      · (first | (apply Int.le_antisymm <;> omega) | omega)
    · exact w1
theorem tyO_s {f wt wp wg wp2 : Nat → Int32} {L a0 : Nat} {s a s2 a2 v g : Int32} {n k l : Int} (h : tyO f L a0 s a n k wt wp wg) (hs : s.toInt = 1) (h1 : tyE f L a.toNatClampNeg s2 a2 l k wp2 g.toInt) (hk : 0 ≤ k) (hn : k < n) (hl : l ≤ 8) (hv : v.toInt = l) (hp : ∀ j : Nat, (j : Int) < 8 * k → wp2 j = wp j) : tyO f L a0 s2 a2 n (k + 1) (upd wt k.toNat v) wp2 (upd wg k.toNat g) := by
  rcases h with ⟨u1, T, u2, u3, u4⟩ | ⟨u1, u2⟩
  · rw [show (n - k).toNat = (n - (k + 1)).toNat + 1 by (first | (apply Int.le_antisymm <;> omega) | omega), zA] at u3
    rcases h1 with ⟨v1, ps, v2, v3, v4, v5⟩ | ⟨v1, v2⟩
    · rw [v4] at u3
      refine Or.inl ⟨v1, T ++ [(ps, g.toInt.toNat)], by rw [List.length_append, List.length_singleton]; (first | (apply Int.le_antisymm <;> omega) | omega), u3, fun t x ht => ?_⟩
      by_cases e : t < T.length
      · rw [List.getElem?_append_left e] at ht
        obtain ⟨q1, q2, q3, q4⟩ := u4 t x ht
        rw [pk_un (show t ≠ k.toNat by (first | (apply Int.le_antisymm <;> omega) | omega)), pk_un (show t ≠ k.toNat by (first | (apply Int.le_antisymm <;> omega) | omega))]
        refine ⟨q1, q2, q3, fun p y hpy => ?_⟩
        have := (List.getElem?_eq_some_iff.mp hpy).1
        rw [hp _ (by (first | (apply Int.le_antisymm <;> omega) | omega))]
        exact q4 p y hpy
      · have ht2 : t = T.length := by
          have := (List.getElem?_eq_some_iff.mp ht).1
          rw [List.length_append, List.length_singleton] at this
          (first | (apply Int.le_antisymm <;> omega) | omega)
        rw [ht2, List.getElem?_append_right (Nat.le_refl _), Nat.sub_self] at ht
        cases ht
        rw [ht2, show T.length = k.toNat by (first | (apply Int.le_antisymm <;> omega) | omega), pk_us, pk_us]
        refine ⟨by dsimp only; (first | (apply Int.le_antisymm <;> omega) | omega), by dsimp only; (first | (apply Int.le_antisymm <;> omega) | omega), by dsimp only; (first | (apply Int.le_antisymm <;> omega) | omega), fun p y hpy => ?_⟩
        have := v5 p y hpy
        rw [show 8 * k.toNat + p = (8 * k).toNat + p by (first | (apply Int.le_antisymm <;> omega) | omega)]
        exact this
    · rw [v2] at u3
      exact Or.inr ⟨v1, u3⟩
  · (first | (apply Int.le_antisymm <;> omega) | omega)
end q_n44q11

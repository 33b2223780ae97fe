section q_87
/-! Reader: signed numbers as they were put -/
theorem sp_F : ∀ b : Fin 128, ((nI b.val <<< ((25 : Int32) &&& 31)) >>> ((25 : Int32) &&& 31)).toInt = if b.val < 64 then (b.val : Int) else b.val - 128 := by decide +kernel
theorem sp_t {p x y : Int32} {v : Int} (e1 : x = p <<< ((25 : Int32) &&& 31)) (e2 : y = x >>> ((25 : Int32) &&& 31)) (hp : p.toInt = v % 128) (h0 : -64 ≤ v) (h1 : v ≤ 63) : y.toInt = v := by
  have hb : (v % 128).toNat < 128 := by (first | (apply Int.le_antisymm <;> omega) | omega)
  have q := sp_F ⟨(v % 128).toNat, hb⟩
  dsimp only at q
  rw [e2, e1, nI_b (p := p) (b := (v % 128).toNat) (by (first | (apply Int.le_antisymm <;> omega) | omega)) (by (first | (apply Int.le_antisymm <;> omega) | omega)), q]
  split <;> (first | (apply Int.le_antisymm <;> omega) | omega)
theorem ab_F : ∀ (a : Fin 128) (n : Fin 7), (a.val : Int) - 64 < 2 ^ n.val → -(2 ^ n.val : Int) ≤ (a.val : Int) - 64 → ((Int32.ofInt ((a.val : Int) - 64)) >>> (nI n.val &&& 31)).toInt = 0 ∨ ((Int32.ofInt ((a.val : Int) - 64)) >>> (nI n.val &&& 31)).toInt = -1 := by decide +kernel
theorem ab_t {p s x : Int32} {n : Nat} (e : x = p >>> (s &&& 31)) (hs : s.toInt = (n : Int)) (hn : n < 7) (h0 : -(2 ^ n : Int) ≤ p.toInt) (h1 : p.toInt < 2 ^ n) (b0 : -64 ≤ p.toInt) (b1 : p.toInt ≤ 63) : x.toInt = 0 ∨ x.toInt = -1 := by
  have q := ab_F ⟨(p.toInt + 64).toNat, by (first | (apply Int.le_antisymm <;> omega) | omega)⟩ ⟨n, hn⟩
  dsimp only at q
  rw [show (((p.toInt + 64).toNat : Nat) : Int) - 64 = p.toInt from by (first | (apply Int.le_antisymm <;> omega) | omega)] at q
  rw [e, nI_b (p := s) (b := n) hs (by (first | (apply Int.le_antisymm <;> omega) | omega))]
  have e2 : Int32.ofInt p.toInt = p := Int32.ofInt_toInt p
  rw [e2] at q
  exact q h1 h0
/-- k groups are read, v is to come: it has n + 1 bits -/
def sgI (f : Nat → Int32) (a : Nat) (k n : Nat) (v : Int) : Prop := bq f a (sleb (10 - k) v) ∧ -(2 ^ n : Int) ≤ v ∧ v < 2 ^ n ∧ k ≤ 9
theorem sg_go {f : Nat → Int32} {a k n : Nat} {v : Int} (h : sgI f a k n v) (hk : n + 7 * k ≤ 63) (q : v < -64 ∨ 63 < v) : 7 ≤ n ∧ bn (f a) = (v % 128).toNat + 128 ∧ sgI f (a + 1) (k + 1) (n - 7) (v / 128) ∧ (sleb (10 - k) v).length = 1 + (sleb (10 - (k + 1)) (v / 128)).length := by
  obtain ⟨h1, h2, h3, h4⟩ := h
  have hn : 7 ≤ n := by
    rcases Nat.lt_or_ge n 7 with w | w
    · exfalso
      have : (2 : Int) ^ n ≤ 64 := by
        have c : n = 0 ∨ n = 1 ∨ n = 2 ∨ n = 3 ∨ n = 4 ∨ n = 5 ∨ n = 6 := by (first | (apply Int.le_antisymm <;> omega) | omega)
        rcases c with rfl | rfl | rfl | rfl | rfl | rfl | rfl <;> decide
      (first | (apply Int.le_antisymm <;> omega) | omega)
    · exact w
  have e : (2 : Int) ^ n = 2 ^ (n - 7) * 128 := by
    have : n = n - 7 + 7 := by (first | (apply Int.le_antisymm <;> omega) | omega)
    rw [this, Int.pow_add, show n - 7 + 7 - 7 = n - 7 by (first | (apply Int.le_antisymm <;> omega) | omega)]
    rfl
  rw [show 10 - k = (10 - (k + 1)) + 1 by (first | (apply Int.le_antisymm <;> omega) | omega), sleb_go q] at h1 ⊢
  rw [e] at h2 h3
  exact ⟨hn, h1.1, ⟨h1.2, by (first | (apply Int.le_antisymm <;> omega) | omega), by (first | (apply Int.le_antisymm <;> omega) | omega), by (first | (apply Int.le_antisymm <;> omega) | omega)⟩, by rw [List.length_cons]; (first | (apply Int.le_antisymm <;> omega) | omega)⟩
theorem sg_end {f : Nat → Int32} {a k n : Nat} {v : Int} (h : sgI f a k n v) (q : ¬ (v < -64 ∨ 63 < v)) : bn (f a) = (v % 128).toNat ∧ (sleb (10 - k) v).length = 1 := by
  obtain ⟨h1, -⟩ := h
  rw [sleb_end (Or.inr (by (first | (apply Int.le_antisymm <;> omega) | omega)))] at h1 ⊢
  exact ⟨h1.1, rfl⟩
abbrev at_RE_readSignedx (dC : Nat → ClassId) (dI : Nat → Nat → Nat) (h0 aw ac ob ab wat wap wag waf wgt wft wfv wgc wek wei wes wez ax : Nat) (cax : ClassId) (h0_limit : Int32) (h0_codeCount : Int32) (h0_openCount : Int32) (aw_typeCount : Int32) (aw_functionCount : Int32) (aw_hasMemory : Int32) (aw_pagesLeast : Int64) (aw_pagesMost : Int64) (aw_globalCount : Int32) (aw_exportCount : Int32) (ab_length : Int32) (gax : Nat → Int32) (A : Nat → Prop) (u : Int32 × Int32) (t : State) : Prop := match u with | (h0_at, h0_sound) => va_P (dC, dI) cls (wz_46 h0 aw ac h0_at h0_limit h0_sound h0_codeCount ob h0_openCount aw ab ac aw_typeCount wat wap wag aw_functionCount waf aw_hasMemory aw_pagesLeast aw_pagesMost aw_globalCount wgt wft wfv wgc aw_exportCount wek wei wes wez ab ax ab_length ax cax gax) t.heap ∧ va_K (dC, dI) cls [(cax, .byte)] t ∧ va_D A (wz_46 h0 aw ac h0_at h0_limit h0_sound h0_codeCount ob h0_openCount aw ab ac aw_typeCount wat wap wag aw_functionCount waf aw_hasMemory aw_pagesLeast aw_pagesMost aw_globalCount wgt wft wfv wgc aw_exportCount wek wei wes wez ab ax ab_length ax cax gax)
set_option maxHeartbeats 4000000 in
set_option maxRecDepth 100000 in
theorem c_RE_readSignedx (l : Launch) (dC : Nat → ClassId) (dI : Nat → Nat → Nat) (sz : Nat) (h0 aw ac ob ab wat wap wag waf wgt wft wfv wgc wek wei wes wez ax : Nat) (cax : ClassId) (h0_at : Int32) (h0_limit : Int32) (h0_sound : Int32) (h0_codeCount : Int32) (h0_openCount : Int32) (aw_typeCount : Int32) (aw_functionCount : Int32) (aw_hasMemory : Int32) (aw_pagesLeast : Int64) (aw_pagesMost : Int64) (aw_globalCount : Int32) (aw_exportCount : Int32) (ab_length : Int32) (gax : Nat → Int32) (gv : Int)  (b_h0_sound : h0_sound = 0 ∨ h0_sound = 1) (p0 : Int32)  (hs : h0_sound.toInt = 1) (ha : 0 ≤ h0_at.toInt ∧ h0_limit.toInt ≤ ab_length.toInt ∧ ab_length.toInt ≤ 8192) (hv : (p0.toInt = 32 ∧ -2147483648 ≤ gv ∧ gv ≤ 2147483647) ∨ (p0.toInt = 64 ∧ -9223372036854775808 ≤ gv ∧ gv ≤ 9223372036854775807)) (hbq : bq gax h0_at.toNatClampNeg (sleb 10 gv)) (hl : h0_at.toInt + ((sleb 10 gv).length : Int) ≤ h0_limit.toInt) : Met l y_RE_readSigned w_RE_readSigned ({ frames := 1, cells := 0, slots := 0, locals := 20 }) (va_Pc [.ref h0, .int p0] (fun U => U.heap.size = sz ∧ va_P (dC, dI) cls (wz_46 h0 aw ac h0_at h0_limit h0_sound h0_codeCount ob h0_openCount aw ab ac aw_typeCount wat wap wag aw_functionCount waf aw_hasMemory aw_pagesLeast aw_pagesMost aw_globalCount wgt wft wfv wgc aw_exportCount wek wei wes wez ab ax ab_length ax cax gax) U.heap ∧ va_K (dC, dI) cls [(cax, .byte)] U ∧ va_D (fun _ => True) (wz_46 h0 aw ac h0_at h0_limit h0_sound h0_codeCount ob h0_openCount aw ab ac aw_typeCount wat wap wag aw_functionCount waf aw_hasMemory aw_pagesLeast aw_pagesMost aw_globalCount wgt wft wfv wgc aw_exportCount wek wei wes wez ab ax ab_length ax cax gax))) (va_Ql (fun (r : Int64) (u : Int32 × Int32) => match u with | (h0_at2, h0_sound2) => (h0_sound2 = 0 ∨ h0_sound2 = 1) ∧ (h0_at2.toInt = h0_at.toInt + ((sleb 10 gv).length : Int) ∧ h0_sound2.toInt = 1)) (at_RE_readSignedx dC dI h0 aw ac ob ab wat wap wag waf wgt wft wfv wgc wek wei wes wez ax cax h0_limit h0_codeCount h0_openCount aw_typeCount aw_functionCount aw_hasMemory aw_pagesLeast aw_pagesMost aw_globalCount aw_exportCount ab_length gax (va_A (wz_46 h0 aw ac h0_at h0_limit h0_sound h0_codeCount ob h0_openCount aw ab ac aw_typeCount wat wap wag aw_functionCount waf aw_hasMemory aw_pagesLeast aw_pagesMost aw_globalCount wgt wft wfv wgc aw_exportCount wek wei wes wez ab ax ab_length ax cax gax) sz)) (va_A (wz_46 h0 aw ac h0_at h0_limit h0_sound h0_codeCount ob h0_openCount aw ab ac aw_typeCount wat wap wag aw_functionCount waf aw_hasMemory aw_pagesLeast aw_pagesMost aw_globalCount wgt wft wfv wgc aw_exportCount wek wei wes wez ab ax ab_length ax cax gax) sz)) 0 0 (va_A (wz_46 h0 aw ac h0_at h0_limit h0_sound h0_codeCount ob h0_openCount aw ab ac aw_typeCount wat wap wag aw_functionCount waf aw_hasMemory aw_pagesLeast aw_pagesMost aw_globalCount wgt wft wfv wgc aw_exportCount wek wei wes wez ab ax ab_length ax cax gax) sz) := by
  refine Met.ofW (cc := b_RE_readSigned) (maxL := 8) (ret := (Option.some .long)) (by decide) rfl ?_
  intro p e s m args below meth c s₁ B hml hv
  obtain ⟨rfl, hsz, hP, hK, hD0⟩ := hv
  have hx := B.exec
  have hb := B.bytes
  have hr := B.returns
  have hts0 := atoms_spec (ws := w_RE_readSigned) B.pre
  have hts : ∀ w ∈ lw_g, w.before _ s = true := fun w h => hts0 w (List.mem_cons_of_mem _ h)
  have hown : s.vm.findClass R_RE = some m.cls := findClass_of_methodNamed B.named
  have hlocks := B.notSynchronized
  clear hts0
  subst hsz
  have hD := hD0.self (sz := s.heap.size)
  generalize hAe : va_A (wz_46 h0 aw ac h0_at h0_limit h0_sound h0_codeCount ob h0_openCount aw ab ac aw_typeCount wat wap wag aw_functionCount waf aw_hasMemory aw_pagesLeast aw_pagesMost aw_globalCount wgt wft wfv wgc aw_exportCount wek wei wes wez ab ax ab_length ax cax gax) s.heap.size = A at hD ⊢
  have hA : ∀ q : Nat, s.heap.size ≤ q → A q := fun q h => by rw [← hAe]; exact Or.inr h
  clear hAe
  have hP : va_P (dC, dI) cls (wz_46 h0 aw ac h0_at h0_limit h0_sound h0_codeCount ob h0_openCount aw ab ac aw_typeCount wat wap wag aw_functionCount waf aw_hasMemory aw_pagesLeast aw_pagesMost aw_globalCount wgt wft wfv wgc aw_exportCount wek wei wes wez ab ax ab_length ax cax gax) s.heap := hP
  have hl := lv_entry ([.ref h0, .int p0]) (n := 8) (Nat.le_of_ble_eq_true rfl)
  rw [lg_entry_eq]
  generalize (lg_sl ([.ref h0, .int p0]) ++ List.replicate (8 - (lg_sl ([.ref h0, .int p0])).length) Slot.unset).toArray = ls at hl ⊢
  have hl : lv_has ls 8 [(0, .ref h0), (1, .int p0)] := hl
  have k0 : (0 : Int32).toInt = 0 := by decide
  refine w_gen (A := A) hP (fun H locs hP hS => ?_)
  have km1 : (-1 : Int32).toInt = -1 := by decide
  have k1 : (1 : Int32).toInt = 1 := by decide
  have k7 : (7 : Int32).toInt = 7 := by decide
  have k25 : (25 : Int32).toInt = 25 := by decide
  have k64 : (64 : Int32).toInt = 64 := by decide
  have k127 : (127 : Int32).toInt = 127 := by decide
  have k128 : (128 : Int32).toInt = 128 := by decide
  have lo_p0 := i32_lo p0
  have hi_p0 := i32_hi p0
  have th0_sound := b01 b_h0_sound
  refine lv_lconst (v := 0) hx hb d_RE_readSigned_0 (by decide) ?_
  have kl0 : (0 : Int64).toInt = 0 := by decide
  refine lv_lstore_n (lv' := [(2, .long 0), (0, .ref h0), (1, .int p0)]) hx hb d_RE_readSigned_1 rfl hl (by decide) rfl (fun ls hl => ?_)
  refine lv_iconst (v := 0) hx hb d_RE_readSigned_2 (by decide) ?_
  refine lv_istore (lv' := [(4, .int 0), (2, .long 0), (0, .ref h0), (1, .int p0)]) hx hb d_RE_readSigned_3 hl (by decide) rfl (fun ls hl => ?_)
  refine w_loop (σ := Int64 × Int32 × Int32) (fun u H locs ls => match u with | (j5_l2, j5_l4, j5_h0_at) => (0 ≤ j5_l4.toInt ∧ j5_l4.toInt < p0.toInt ∧ h0_at.toInt ≤ j5_h0_at.toInt) ∧ (bx (∃ (k n : Nat) (v : Int), sgI gax j5_h0_at.toNatClampNeg k n v ∧ j5_l4.toInt = 7 * (k : Int) ∧ p0.toInt = 7 * (k : Int) + n + 1 ∧ j5_h0_at.toInt + ((sleb (10 - k) v).length : Int) = h0_at.toInt + ((sleb 10 gv).length : Int))) ∧ va_P (dC, dI) cls (wz_46 h0 aw ac j5_h0_at h0_limit h0_sound h0_codeCount ob h0_openCount aw ab ac aw_typeCount wat wap wag aw_functionCount waf aw_hasMemory aw_pagesLeast aw_pagesMost aw_globalCount wgt wft wfv wgc aw_exportCount wek wei wes wez ab ax ab_length ax cax gax) H ∧ va_D A (wz_46 h0 aw ac j5_h0_at h0_limit h0_sound h0_codeCount ob h0_openCount aw ab ac aw_typeCount wat wap wag aw_functionCount waf aw_hasMemory aw_pagesLeast aw_pagesMost aw_globalCount wgt wft wfv wgc aw_exportCount wek wei wes wez ab ax ab_length ax cax gax) ∧ va_S A s.heap H locs ∧ lv_has ls 8 [(0, .ref h0), (1, .int p0), (2, .long j5_l2), (4, .int j5_l4)]) (fun u => match u with | (j5_l2, j5_l4, j5_h0_at) => (p0.toInt - j5_l4.toInt).toNat) ?_ (0, 0, h0_at) ⟨by (try dsimp only) <;> (first | (apply Int.le_antisymm <;> omega) | omega), (by rcases hv with ⟨a1, a2, a3⟩ | ⟨a1, a2, a3⟩; (exact ⟨0, 31, gv, ⟨hbq, by show -(2147483648 : Int) ≤ gv; (first | (apply Int.le_antisymm <;> omega) | omega), by show gv < 2147483648; (first | (apply Int.le_antisymm <;> omega) | omega), by (first | (apply Int.le_antisymm <;> omega) | omega)⟩, by decide, by (first | (apply Int.le_antisymm <;> omega) | omega), rfl⟩); (exact ⟨0, 63, gv, ⟨hbq, by show -(9223372036854775808 : Int) ≤ gv; (first | (apply Int.le_antisymm <;> omega) | omega), by show gv < 9223372036854775808; (first | (apply Int.le_antisymm <;> omega) | omega), by (first | (apply Int.le_antisymm <;> omega) | omega)⟩, by decide, by (first | (apply Int.le_antisymm <;> omega) | omega), rfl⟩)), hP, hD, hS, lv_sub hl [2, 3, 1, 0] rfl⟩
  intro N5 ih5 u H locs ls hN5 hI
  obtain ⟨j5_l2, j5_l4, j5_h0_at⟩ := u
  obtain ⟨v1, hSg, hP, hD, hS, hl⟩ := hI
  have hN5 : (p0.toInt - j5_l4.toInt).toNat < N5 + 1 := hN5
  refine lv_iload hx hb d_RE_readSigned_5 (lv_at hl 3 rfl) ?_
  refine lv_iload_n hx hb d_RE_readSigned_7 rfl (lv_at hl 1 rfl) ?_
  refine lv_icmp_ge (tgt := 135) hx hb d_RE_readSigned_8 (by decide) (fun c8 => absurd (leI c8) (by (first | (apply Int.le_antisymm <;> omega) | omega))) (fun c8 => ?_)
  have q8 := nleI c8
  obtain ⟨k9, n9, v9, s9, s1, s2, s3⟩ := hSg.out
  have l9 := (sleb_len (10 - k9) v9).1
  refine lv_aload_n hx hb d_RE_readSigned_11 rfl (lv_at hl 0 rfl) ?_
  have hPc := hP.sb (wq := (wz_46 h0 aw ac j5_h0_at h0_limit h0_sound h0_codeCount ob h0_openCount aw ab ac aw_typeCount wat wap wag aw_functionCount waf aw_hasMemory aw_pagesLeast aw_pagesMost aw_globalCount wgt wft wfv wgc aw_exportCount wek wei wes wez ab ax ab_length ax cax gax)) [0, 1, 2, 3] rfl
  have hDc := hD.sb (wq := (wz_46 h0 aw ac j5_h0_at h0_limit h0_sound h0_codeCount ob h0_openCount aw ab ac aw_typeCount wat wap wag aw_functionCount waf aw_hasMemory aw_pagesLeast aw_pagesMost aw_globalCount wgt wft wfv wgc aw_exportCount wek wei wes wez ab ax ab_length ax cax gax)) [0, 1, 2, 3] (by decide) rfl
  have hKc := hK.sb (tyq := [(cax, .byte)]) [0] rfl
  have hFc := va_free (wc := (wz_46 h0 aw ac j5_h0_at h0_limit h0_sound h0_codeCount ob h0_openCount aw ab ac aw_typeCount wat wap wag aw_functionCount waf aw_hasMemory aw_pagesLeast aw_pagesMost aw_globalCount wgt wft wfv wgc aw_exportCount wek wei wes wez ab ax ab_length ax cax gax)) hD hS hA [0, 1, 2, 3] rfl
  refine va_calli (va_runV (As := []) (rest := []) ⟨hx, hb, hml, hown, hts⟩ (c_RE_nextx l dC dI H.size h0 aw ac ob ab wat wap wag waf wgt wft wfv wgc wek wei wes wez ax cax j5_h0_at h0_limit h0_sound h0_codeCount h0_openCount aw_typeCount aw_functionCount aw_hasMemory aw_pagesLeast aw_pagesMost aw_globalCount aw_exportCount ab_length gax (b_h0_sound) (hs) (by (first | (apply Int.le_antisymm <;> omega) | omega)) (by (first | (apply Int.le_antisymm <;> omega) | omega))) (cwV 0 hts (gV kM_RE_60 kV_RE_next kS_RE_next kI_RE kC_RE_next) rfl rfl rfl (by decide +kernel) ⟨Nat.le_of_ble_eq_true rfl, Nat.le_of_ble_eq_true rfl⟩) ⟨fun a U g mk z => by obtain ⟨z0, z1, zP, zK, zD⟩ := z; exact ⟨z0, z1, zP, va_K.moved (u := U) (U := U.calling g mk a) (Vm.Alike.refl U.vm) zK, zD⟩, va_recv hKc hPc (ci := 7) (q0 := 0) rfl rfl, fun U hU hW => ⟨rfl, by rw [hU], va_P.he hU.symm hPc, va_K.moved hW.alike hKc, hDc.weaken (fun _ _ _ _ => trivial)⟩⟩ rfl rfl hl.1 rfl (lv_room (Nat.le_of_ble_eq_true rfl)) d_RE_readSigned_12 ⟨(Nat.zero_le _), (Nat.zero_le _)⟩) hS (fun q _ h => hFc q h) hFc (fun r1 u t H1 locs ht hvm hw hB hz1 hk1 hS => ?_)
  obtain ⟨n2, rfl⟩ : ∃ z, z = u := ⟨_, rfl⟩
  try dsimp only at hw
  have xr1 := hw
  try clear hw
  have z12 := i32_clamp (x := j5_h0_at) (by (first | (apply Int.le_antisymm <;> omega) | omega))
  have b12 : (∃ v : Int, -64 ≤ v ∧ v ≤ 63 ∧ r1.toInt = v % 128 ∧ j5_h0_at.toInt + 1 = h0_at.toInt + ((sleb 10 gv).length : Int) ∧ (p0.toInt - j5_l4.toInt ≤ 7 → -(2 ^ (p0.toInt - j5_l4.toInt - 1).toNat : Int) ≤ v ∧ v < 2 ^ (p0.toInt - j5_l4.toInt - 1).toNat)) ∨ (128 ≤ r1.toInt ∧ ∃ (k n : Nat) (v : Int), sgI gax (j5_h0_at.toNatClampNeg + 1) k n v ∧ j5_l4.toInt + 7 = 7 * (k : Int) ∧ p0.toInt = 7 * (k : Int) + n + 1 ∧ j5_h0_at.toInt + 1 + ((sleb (10 - k) v).length : Int) = h0_at.toInt + ((sleb 10 gv).length : Int)) := by
    have x9 := xr1.2
    by_cases q : v9 < -64 ∨ 63 < v9
    · obtain ⟨w1, w2, w3, w4⟩ := sg_go s9 (by (first | (apply Int.le_antisymm <;> omega) | omega)) q
      rw [w2] at x9
      exact Or.inr ⟨by (first | (apply Int.le_antisymm <;> omega) | omega), k9 + 1, n9 - 7, v9 / 128, w3, by (first | (apply Int.le_antisymm <;> omega) | omega), by (first | (apply Int.le_antisymm <;> omega) | omega), by (first | (apply Int.le_antisymm <;> omega) | omega)⟩
    · obtain ⟨w1, w2⟩ := sg_end s9 q
      rw [w1] at x9
      refine Or.inl ⟨v9, by (first | (apply Int.le_antisymm <;> omega) | omega), by (first | (apply Int.le_antisymm <;> omega) | omega), by (first | (apply Int.le_antisymm <;> omega) | omega), by (first | (apply Int.le_antisymm <;> omega) | omega), fun _ => ?_⟩
      rw [show (p0.toInt - j5_l4.toInt - 1).toNat = n9 from by (first | (apply Int.le_antisymm <;> omega) | omega)]
      exact ⟨s9.2.1, s9.2.2.1⟩
  replace b12 : bx _ := b12
  have c12 : r1.toInt < 128 ∨ 128 ≤ r1.toInt := by (first | (apply Int.le_antisymm <;> omega) | omega)
  obtain ⟨hP1, hK1, hD1⟩ := hB
  replace hP1 := va_P.he ht hP1
  obtain ⟨hP, hD⟩ := va_join (wr := []) (w1 := (wz_46 h0 aw ac n2 h0_limit h0_sound h0_codeCount ob h0_openCount aw ab ac aw_typeCount wat wap wag aw_functionCount waf aw_hasMemory aw_pagesLeast aw_pagesMost aw_globalCount wgt wft wfv wgc aw_exportCount wek wei wes wez ab ax ab_length ax cax gax)) hP hD [0, 1, 2, 3] [] rfl rfl (by decide) (by decide) hk1 hFc hP1 hD1
  clear hPc hDc hKc hFc hz1 hk1 hP1 hK1 hD1
  rename Heap => H
  have hP : va_P (dC, dI) cls (wz_46 h0 aw ac n2 h0_limit h0_sound h0_codeCount ob h0_openCount aw ab ac aw_typeCount wat wap wag aw_functionCount waf aw_hasMemory aw_pagesLeast aw_pagesMost aw_globalCount wgt wft wfv wgc aw_exportCount wek wei wes wez ab ax ab_length ax cax gax) H := hP
  have hD : va_D A (wz_46 h0 aw ac n2 h0_limit h0_sound h0_codeCount ob h0_openCount aw ab ac aw_typeCount wat wap wag aw_functionCount waf aw_hasMemory aw_pagesLeast aw_pagesMost aw_globalCount wgt wft wfv wgc aw_exportCount wek wei wes wez ab ax ab_length ax cax gax) := hD
  refine lv_istore (lv' := [(5, .int r1), (0, .ref h0), (1, .int p0), (2, .long j5_l2), (4, .int j5_l4)]) hx hb d_RE_readSigned_15 hl (by decide) rfl (fun ls hl => ?_)
  refine lv_lload_n hx hb d_RE_readSigned_17 rfl (lv_at hl 3 rfl) ?_
  refine lv_iload hx hb d_RE_readSigned_18 (lv_at hl 0 rfl) ?_
  refine lv_bipush (v := 127) hx hb d_RE_readSigned_20 (by decide) ?_
  refine lv_iand hx hb d_RE_readSigned_22 ?_
  refine lv_topi (fun x3 ex3 => ?_)
  refine lv_i2l hx hb d_RE_readSigned_23 rfl ?_
  refine lv_topl (fun x4 ex4 => ?_)
  have tx4 := i2l_t ex4
  refine lv_iload hx hb d_RE_readSigned_24 (lv_at hl 4 rfl) ?_
  refine lv_lshl hx hb d_RE_readSigned_26 rfl ?_
  refine lv_topl (fun x5 ex5 => ?_)
  refine lv_lor hx hb d_RE_readSigned_27 ?_
  refine lv_topl (fun x6 ex6 => ?_)
  refine lv_lstore_n (lv' := [(2, .long x6), (5, .int r1), (0, .ref h0), (1, .int p0), (4, .int j5_l4)]) hx hb d_RE_readSigned_28 rfl hl (by decide) rfl (fun ls hl => ?_)
  refine lv_iload hx hb d_RE_readSigned_29 (lv_at hl 1 rfl) ?_
  refine lv_sipush (v := 128) hx hb d_RE_readSigned_31 (by decide) ?_
  refine lv_icmp_ge (tgt := 129) hx hb d_RE_readSigned_34 (by decide) (fun c34 => ?_) (fun c34 => ?_)
  · have q34 := leI c34
    obtain ⟨x7, ex7⟩ : ∃ z : Int32, z = j5_l4 + 7 := ⟨_, rfl⟩
    have tx7 : x7.toInt = j5_l4.toInt + 7 := by have z := i32_add ex7 (by (first | (apply Int.le_antisymm <;> omega) | omega)) (by (first | (apply Int.le_antisymm <;> omega) | omega)); first | exact z | (first | (apply Int.le_antisymm <;> omega) | omega)
    refine lv_iinc (v := x7) (lv' := [(4, .int x7), (2, .long x6), (5, .int r1), (0, .ref h0), (1, .int p0)]) hx hb d_RE_readSigned_129 hl (k := 4) rfl (by rw [ex7]; rfl) (by decide) rfl (fun ls hl => ?_)
    refine lv_goto (tgt := 5) hx hb d_RE_readSigned_132 (by decide) ?_
    have q9 : ∃ (k n : Nat) (v : Int), sgI gax (j5_h0_at.toNatClampNeg + 1) k n v ∧ j5_l4.toInt + 7 = 7 * (k : Int) ∧ p0.toInt = 7 * (k : Int) + n + 1 ∧ j5_h0_at.toInt + 1 + ((sleb (10 - k) v).length : Int) = h0_at.toInt + ((sleb 10 gv).length : Int) := by rcases b12.out with w | w; (exfalso; obtain ⟨v8, y1, y2, y3, -⟩ := w; clear b12 hSg; (first | (apply Int.le_antisymm <;> omega) | omega)); exact w.2
    obtain ⟨k8, n8, v8, u1, u2, u3, u4⟩ := q9
    exact ih5 (x6, x7, n2) _ _ _ (by show (p0.toInt - x7.toInt).toNat < N5; (first | (apply Int.le_antisymm <;> omega) | omega)) ⟨by have := xr1.1; have := u1.2.2.2; (try dsimp only) <;> (first | (apply Int.le_antisymm <;> omega) | omega), ⟨k8, n8, v8, (by rw [show n2.toNatClampNeg = j5_h0_at.toNatClampNeg + 1 from clampN (by have := xr1.1; (first | (apply Int.le_antisymm <;> omega) | omega))]; exact u1), by (first | (apply Int.le_antisymm <;> omega) | omega), by (first | (apply Int.le_antisymm <;> omega) | omega), by have := xr1.1; (first | (apply Int.le_antisymm <;> omega) | omega)⟩, hP, hD, hS, lv_sub hl [3, 4, 1, 0] rfl⟩
  · have q34 := nleI c34
    obtain ⟨v8, y1, y2, y3, y4, y9⟩ : ∃ v : Int, -64 ≤ v ∧ v ≤ 63 ∧ r1.toInt = v % 128 ∧ j5_h0_at.toInt + 1 = h0_at.toInt + ((sleb 10 gv).length : Int) ∧ (p0.toInt - j5_l4.toInt ≤ 7 → -(2 ^ (p0.toInt - j5_l4.toInt - 1).toNat : Int) ≤ v ∧ v < 2 ^ (p0.toInt - j5_l4.toInt - 1).toNat) := by rcases b12.out with w | w; exact w; (exfalso; have w1 := w.1; clear w b12; (first | (apply Int.le_antisymm <;> omega) | omega))
    replace y9 : bx _ := y9
    refine lv_iload hx hb d_RE_readSigned_37 (lv_at hl 1 rfl) ?_
    refine lv_bipush (v := 25) hx hb d_RE_readSigned_39 (by decide) ?_
    refine lv_ishl hx hb d_RE_readSigned_41 ?_
    refine lv_topi (fun x8 ex8 => ?_)
    refine lv_bipush (v := 25) hx hb d_RE_readSigned_42 (by decide) ?_
    refine lv_ishr hx hb d_RE_readSigned_44 ?_
    refine lv_topi (fun x9 ex9 => ?_)
    have t45 : x9.toInt = v8 := sp_t ex8 ex9 y3 y1 y2
    refine lv_istore (lv' := [(6, .int x9), (2, .long x6), (5, .int r1), (0, .ref h0), (1, .int p0), (4, .int j5_l4)]) hx hb d_RE_readSigned_45 hl (by decide) rfl (fun ls hl => ?_)
    refine lv_iload_n hx hb d_RE_readSigned_47 rfl (lv_at hl 4 rfl) ?_
    refine lv_iload hx hb d_RE_readSigned_48 (lv_at hl 5 rfl) ?_
    refine lv_isub hx hb d_RE_readSigned_50 ?_
    refine lv_topi (fun x10 ex10 => ?_)
    have tx10 : x10.toInt = p0.toInt - j5_l4.toInt := by have z := i32_sub ex10 (by (first | (apply Int.le_antisymm <;> omega) | omega)) (by (first | (apply Int.le_antisymm <;> omega) | omega)); first | exact z | (first | (apply Int.le_antisymm <;> omega) | omega)
    refine lv_bipush (v := 7) hx hb d_RE_readSigned_51 (by decide) ?_
    refine w_cut (pc2 := 69) (σ := Int32) (fun u H locs ls => match u with | j69_s0 => (j69_s0.toInt = 0 ∨ j69_s0.toInt = -1) ∧ va_P (dC, dI) cls (wz_46 h0 aw ac n2 h0_limit h0_sound h0_codeCount ob h0_openCount aw ab ac aw_typeCount wat wap wag aw_functionCount waf aw_hasMemory aw_pagesLeast aw_pagesMost aw_globalCount wgt wft wfv wgc aw_exportCount wek wei wes wez ab ax ab_length ax cax gax) H ∧ va_D A (wz_46 h0 aw ac n2 h0_limit h0_sound h0_codeCount ob h0_openCount aw ab ac aw_typeCount wat wap wag aw_functionCount waf aw_hasMemory aw_pagesLeast aw_pagesMost aw_globalCount wgt wft wfv wgc aw_exportCount wek wei wes wez ab ax ab_length ax cax gax) ∧ va_S A s.heap H locs ∧ lv_has ls 8 [(0, .ref h0), (2, .long x6), (4, .int j5_l4), (6, .int x9)]) (fun u => match u with | j69_s0 => [.int j69_s0]) ?_ (fun jn69 => ?_)
    · intro u H locs ls hI
      obtain ⟨j69_s0, rfl⟩ : ∃ z, z = u := ⟨_, rfl⟩
      obtain ⟨y69, hP, hD, hS, hl⟩ := hI
      refine lv_istore (lv' := [(7, .int j69_s0), (0, .ref h0), (2, .long x6), (4, .int j5_l4), (6, .int x9)]) hx hb d_RE_readSigned_69 hl (by decide) rfl (fun ls hl => ?_)
      refine lv_aload_n hx hb d_RE_readSigned_71 rfl (lv_at hl 1 rfl) ?_
      refine lv_aload_n hx hb d_RE_readSigned_72 rfl (lv_at hl 1 rfl) ?_
      refine va_get (D := (dC, dI)) (ci := 7) (v := .int h0_sound) (C := R_RE) (T := F_RE) (N := 8) hx hb hts i_RE hown hK hP 0 rfl rfl 4 (by decide) (hts _ kF_RE_45) (fun _ h9 => h9) rfl d_RE_readSigned_73 ?_
      refine lv_if_eq (tgt := 94) hx hb d_RE_readSigned_76 (by decide) (fun c76 => absurd (eqI c76) (by (first | (apply Int.le_antisymm <;> omega) | omega))) (fun c76 => ?_)
      have q76 := neI c76
      refine lv_iload hx hb d_RE_readSigned_79 (lv_at hl 0 rfl) ?_
      refine w_cut (pc2 := 90) (σ := Unit) (fun u H locs ls => match u with | _ => va_P (dC, dI) cls (wz_46 h0 aw ac n2 h0_limit h0_sound h0_codeCount ob h0_openCount aw ab ac aw_typeCount wat wap wag aw_functionCount waf aw_hasMemory aw_pagesLeast aw_pagesMost aw_globalCount wgt wft wfv wgc aw_exportCount wek wei wes wez ab ax ab_length ax cax gax) H ∧ va_D A (wz_46 h0 aw ac n2 h0_limit h0_sound h0_codeCount ob h0_openCount aw ab ac aw_typeCount wat wap wag aw_functionCount waf aw_hasMemory aw_pagesLeast aw_pagesMost aw_globalCount wgt wft wfv wgc aw_exportCount wek wei wes wez ab ax ab_length ax cax gax) ∧ va_S A s.heap H locs ∧ lv_has ls 8 [(2, .long x6), (4, .int j5_l4), (6, .int x9)]) (fun u => match u with | _ => [.ref h0]) ?_ (fun jn90 => ?_)
      · intro u H locs ls hI
        obtain ⟨hP, hD, hS, hl⟩ := hI
        refine lv_iconst (v := 1) hx hb d_RE_readSigned_90 (by decide) ?_
        refine lv_goto (tgt := 95) hx hb d_RE_readSigned_91 (by decide) ?_
        refine va_put (D := (dC, dI)) (ci := 7) (v := .int 1) (ty := .boolean) (C := R_RE) (T := F_RE) (N := 8) hx hb hts i_RE t_RE t_RE_ok n_RE hown hK hP hD hS 0 rfl rfl 4 (by decide) (hts _ kF_RE_45) (fun _ h9 => h9) rfl (by decide +kernel) rfl rfl (Nat.le_of_ble_eq_true rfl) d_RE_readSigned_95 (fun H locs hP hD hS => ?_)
        refine lv_iload hx hb d_RE_readSigned_98 (lv_at hl 1 rfl) ?_
        refine lv_bipush (v := 7) hx hb d_RE_readSigned_100 (by decide) ?_
        refine lv_iadd hx hb d_RE_readSigned_102 ?_
        refine lv_topi (fun x11 ex11 => ?_)
        have tx11 : x11.toInt = j5_l4.toInt + 7 := by have z := i32_add ex11 (by (first | (apply Int.le_antisymm <;> omega) | omega)) (by (first | (apply Int.le_antisymm <;> omega) | omega)); first | exact z | (first | (apply Int.le_antisymm <;> omega) | omega)
        refine lv_bipush (v := 64) hx hb d_RE_readSigned_103 (by decide) ?_
        refine lv_icmp_ge (tgt := 127) hx hb d_RE_readSigned_105 (by decide) (fun c105 => ?_) (fun c105 => ?_)
        · have q105 := leI c105
          refine lv_lload_n hx hb d_RE_readSigned_127 rfl (lv_at hl 0 rfl) ?_
          have hP9 := hP.sb (wq := (wz_46 h0 aw ac n2 h0_limit 1 h0_codeCount ob h0_openCount aw ab ac aw_typeCount wat wap wag aw_functionCount waf aw_hasMemory aw_pagesLeast aw_pagesMost aw_globalCount wgt wft wfv wgc aw_exportCount wek wei wes wez ab ax ab_length ax cax gax)) [0, 1, 2, 3] rfl
          have hD9 := hD.sb (wq := (wz_46 h0 aw ac n2 h0_limit 1 h0_codeCount ob h0_openCount aw ab ac aw_typeCount wat wap wag aw_functionCount waf aw_hasMemory aw_pagesLeast aw_pagesMost aw_globalCount wgt wft wfv wgc aw_exportCount wek wei wes wez ab ax ab_length ax cax gax)) [0, 1, 2, 3] (by decide) rfl
          exact W.lret (v := x6) hx hb hr (fun t ht hW => ⟨⟨x6, (n2, 1), rfl, ⟨Or.inr rfl, ⟨by have := xr1.1; (try dsimp only) <;> (first | (apply Int.le_antisymm <;> omega) | omega), by (try dsimp only) <;> (first | (apply Int.le_antisymm <;> omega) | omega)⟩⟩, va_P.he ht.symm hP9, va_K.moved hW.alike hK, hD9⟩, hS.F ht⟩) hS.2.2 d_RE_readSigned_128
        · have q105 := nleI c105
          refine lv_iload hx hb d_RE_readSigned_108 (lv_at hl 2 rfl) ?_
          refine lv_if_ge (tgt := 127) hx hb d_RE_readSigned_110 (by decide) (fun c110 => ?_) (fun c110 => ?_)
          · have q110 := leI c110
            refine lv_lload_n hx hb d_RE_readSigned_127 rfl (lv_at hl 0 rfl) ?_
            have hP9 := hP.sb (wq := (wz_46 h0 aw ac n2 h0_limit 1 h0_codeCount ob h0_openCount aw ab ac aw_typeCount wat wap wag aw_functionCount waf aw_hasMemory aw_pagesLeast aw_pagesMost aw_globalCount wgt wft wfv wgc aw_exportCount wek wei wes wez ab ax ab_length ax cax gax)) [0, 1, 2, 3] rfl
            have hD9 := hD.sb (wq := (wz_46 h0 aw ac n2 h0_limit 1 h0_codeCount ob h0_openCount aw ab ac aw_typeCount wat wap wag aw_functionCount waf aw_hasMemory aw_pagesLeast aw_pagesMost aw_globalCount wgt wft wfv wgc aw_exportCount wek wei wes wez ab ax ab_length ax cax gax)) [0, 1, 2, 3] (by decide) rfl
            exact W.lret (v := x6) hx hb hr (fun t ht hW => ⟨⟨x6, (n2, 1), rfl, ⟨Or.inr rfl, ⟨by have := xr1.1; (try dsimp only) <;> (first | (apply Int.le_antisymm <;> omega) | omega), by (try dsimp only) <;> (first | (apply Int.le_antisymm <;> omega) | omega)⟩⟩, va_P.he ht.symm hP9, va_K.moved hW.alike hK, hD9⟩, hS.F ht⟩) hS.2.2 d_RE_readSigned_128
          · have q110 := nleI c110
            refine lv_lload_n hx hb d_RE_readSigned_113 rfl (lv_at hl 0 rfl) ?_
            refine lv_ldc2 hx hb hown (hts _ kL_RE_127) d_RE_readSigned_114 ?_
            refine lv_topl (fun x12 ex12 => ?_)
            have tx12 : x12.toInt = -1 := by rw [ex12]; decide
            refine lv_iload hx hb d_RE_readSigned_117 (lv_at hl 1 rfl) ?_
            refine lv_bipush (v := 7) hx hb d_RE_readSigned_119 (by decide) ?_
            refine lv_iadd hx hb d_RE_readSigned_121 ?_
            refine lv_topi (fun x13 ex13 => ?_)
            have tx13 : x13.toInt = j5_l4.toInt + 7 := by have z := i32_add ex13 (by (first | (apply Int.le_antisymm <;> omega) | omega)) (by (first | (apply Int.le_antisymm <;> omega) | omega)); first | exact z | (first | (apply Int.le_antisymm <;> omega) | omega)
            refine lv_lshl hx hb d_RE_readSigned_122 rfl ?_
            refine lv_topl (fun x14 ex14 => ?_)
            refine lv_lor hx hb d_RE_readSigned_123 ?_
            refine lv_topl (fun x15 ex15 => ?_)
            refine lv_goto (tgt := 128) hx hb d_RE_readSigned_124 (by decide) ?_
            have hP9 := hP.sb (wq := (wz_46 h0 aw ac n2 h0_limit 1 h0_codeCount ob h0_openCount aw ab ac aw_typeCount wat wap wag aw_functionCount waf aw_hasMemory aw_pagesLeast aw_pagesMost aw_globalCount wgt wft wfv wgc aw_exportCount wek wei wes wez ab ax ab_length ax cax gax)) [0, 1, 2, 3] rfl
            have hD9 := hD.sb (wq := (wz_46 h0 aw ac n2 h0_limit 1 h0_codeCount ob h0_openCount aw ab ac aw_typeCount wat wap wag aw_functionCount waf aw_hasMemory aw_pagesLeast aw_pagesMost aw_globalCount wgt wft wfv wgc aw_exportCount wek wei wes wez ab ax ab_length ax cax gax)) [0, 1, 2, 3] (by decide) rfl
            exact W.lret (v := x15) hx hb hr (fun t ht hW => ⟨⟨x15, (n2, 1), rfl, ⟨Or.inr rfl, ⟨by have := xr1.1; (try dsimp only) <;> (first | (apply Int.le_antisymm <;> omega) | omega), by (try dsimp only) <;> (first | (apply Int.le_antisymm <;> omega) | omega)⟩⟩, va_P.he ht.symm hP9, va_K.moved hW.alike hK, hD9⟩, hS.F ht⟩) hS.2.2 d_RE_readSigned_128
      · skip
        refine lv_if_eq (tgt := 90) hx hb d_RE_readSigned_81 (by decide) (fun c81 => ?_) (fun c81 => ?_)
        · have q81 := eqI c81
          exact jn90 () _ _ _ ⟨hP, hD, hS, lv_sub hl [2, 3, 4] rfl⟩
        · have q81 := neI c81
          refine lv_iload hx hb d_RE_readSigned_84 (lv_at hl 0 rfl) ?_
          refine lv_iconst (v := (-1)) hx hb d_RE_readSigned_86 (by decide) ?_
          refine lv_icmp_ne (tgt := 94) hx hb d_RE_readSigned_87 (by decide) (fun c87 => absurd (neI c87) (by (first | (apply Int.le_antisymm <;> omega) | omega))) (fun c87 => ?_)
          have q87 := eqI c87
          exact jn90 () _ _ _ ⟨hP, hD, hS, lv_sub hl [2, 3, 4] rfl⟩
    · skip
      refine lv_icmp_le (tgt := 60) hx hb d_RE_readSigned_53 (by decide) (fun c53 => ?_) (fun c53 => ?_)
      · have q53 := leI c53
        refine lv_iload hx hb d_RE_readSigned_60 (lv_at hl 0 rfl) ?_
        refine lv_iload_n hx hb d_RE_readSigned_62 rfl (lv_at hl 4 rfl) ?_
        refine lv_iload hx hb d_RE_readSigned_63 (lv_at hl 5 rfl) ?_
        refine lv_isub hx hb d_RE_readSigned_65 ?_
        refine lv_topi (fun x16 ex16 => ?_)
        have tx16 : x16.toInt = p0.toInt - j5_l4.toInt := by have z := i32_sub ex16 (by (first | (apply Int.le_antisymm <;> omega) | omega)) (by (first | (apply Int.le_antisymm <;> omega) | omega)); first | exact z | (first | (apply Int.le_antisymm <;> omega) | omega)
        refine lv_iconst (v := 1) hx hb d_RE_readSigned_66 (by decide) ?_
        refine lv_isub hx hb d_RE_readSigned_67 ?_
        refine lv_topi (fun x17 ex17 => ?_)
        have tx17 : x17.toInt = x16.toInt - 1 := by have z := i32_sub ex17 (by (first | (apply Int.le_antisymm <;> omega) | omega)) (by (first | (apply Int.le_antisymm <;> omega) | omega)); first | exact z | (first | (apply Int.le_antisymm <;> omega) | omega)
        refine lv_ishr hx hb d_RE_readSigned_68 ?_
        refine lv_topi (fun x18 ex18 => ?_)
        exact jn69 x18 _ _ _ ⟨(ab_t (n := (p0.toInt - j5_l4.toInt - 1).toNat) ex18 (by (first | (apply Int.le_antisymm <;> omega) | omega)) (by (first | (apply Int.le_antisymm <;> omega) | omega)) (by rw [t45]; exact (y9.out (by (first | (apply Int.le_antisymm <;> omega) | omega))).1) (by rw [t45]; exact (y9.out (by (first | (apply Int.le_antisymm <;> omega) | omega))).2) (by (first | (apply Int.le_antisymm <;> omega) | omega)) (by (first | (apply Int.le_antisymm <;> omega) | omega))), hP, hD, hS, lv_sub hl [3, 1, 5, 0] rfl⟩
      · have q53 := nleI c53
        refine lv_iconst (v := 0) hx hb d_RE_readSigned_56 (by decide) ?_
        refine lv_goto (tgt := 69) hx hb d_RE_readSigned_57 (by decide) ?_
        exact jn69 0 _ _ _ ⟨Or.inl (by decide), hP, hD, hS, lv_sub hl [3, 1, 5, 0] rfl⟩
end q_87
section q_88
/-! Reader: blocks and other instructions as they were put -/
abbrev at_RE_openBlockx (dC : Nat → ClassId) (dI : Nat → Nat → Nat) (h0 aw ac ob ab wat wap wag waf wgt wft wfv wgc wek wei wes wez ax cfi clk clt cop cva cpt cel cla : Nat) (cax cob ccva : ClassId) (h0_limit : Int32) (h0_codeCount : Int32) (aw_typeCount : Int32) (aw_functionCount : Int32) (aw_hasMemory : Int32) (aw_pagesLeast : Int64) (aw_pagesMost : Int64) (aw_globalCount : Int32) (aw_exportCount : Int32) (ab_length : Int32) (ac_length : Int32) (ac_labelCount : Int32) (gax : Nat → Int32) (A : Nat → Prop) (u : (Nat → Int64) × (Nat → Int32) × Int32 × Int32 × Int32) (t : State) : Prop := match u with | (gcva, gob, h0_at, h0_openCount, h0_sound) => va_P (dC, dI) cls (wz_233 h0 aw ac h0_at h0_limit h0_sound h0_codeCount ob h0_openCount aw ab ac aw_typeCount wat wap wag aw_functionCount waf aw_hasMemory aw_pagesLeast aw_pagesMost aw_globalCount wgt wft wfv wgc aw_exportCount wek wei wes wez ab ax ab_length ac cfi clk clt ac_length cop cva cpt cel ac_labelCount cla ax cax gax ob cob gob cva ccva gcva) t.heap ∧ va_K (dC, dI) cls [(cax, .byte), (cob, .int), (ccva, .long)] t ∧ va_D A (wz_233 h0 aw ac h0_at h0_limit h0_sound h0_codeCount ob h0_openCount aw ab ac aw_typeCount wat wap wag aw_functionCount waf aw_hasMemory aw_pagesLeast aw_pagesMost aw_globalCount wgt wft wfv wgc aw_exportCount wek wei wes wez ab ax ab_length ac cfi clk clt ac_length cop cva cpt cel ac_labelCount cla ax cax gax ob cob gob cva ccva gcva)
set_option maxHeartbeats 4000000 in
set_option maxRecDepth 100000 in
theorem c_RE_openBlockx (l : Launch) (dC : Nat → ClassId) (dI : Nat → Nat → Nat) (sz : Nat) (h0 aw ac ob ab wat wap wag waf wgt wft wfv wgc wek wei wes wez ax cfi clk clt cop cva cpt cel cla : Nat) (cax cob ccva : ClassId) (h0_at : Int32) (h0_limit : Int32) (h0_sound : Int32) (h0_codeCount : Int32) (h0_openCount : Int32) (aw_typeCount : Int32) (aw_functionCount : Int32) (aw_hasMemory : Int32) (aw_pagesLeast : Int64) (aw_pagesMost : Int64) (aw_globalCount : Int32) (aw_exportCount : Int32) (ab_length : Int32) (ac_length : Int32) (ac_labelCount : Int32) (gax : Nat → Int32) (gob : Nat → Int32) (gcva : Nat → Int64)  (b_h0_sound : h0_sound = 0 ∨ h0_sound = 1) (b_h0_openCount : 0 ≤ h0_openCount.toInt ∧ h0_openCount.toInt ≤ 100) (p0 : Int32)  (hs : h0_sound.toInt = 1) (ha : 0 ≤ h0_at.toInt ∧ h0_limit.toInt ≤ ab_length.toInt ∧ ab_length.toInt ≤ 8192) (hp : 0 ≤ p0.toInt ∧ p0.toInt < 5000) (hl : h0_at.toInt < h0_limit.toInt) (hby : (bn (gax h0_at.toNatClampNeg) : Int) = 64 ∨ (bn (gax h0_at.toNatClampNeg) : Int) = 127) (hoc : h0_openCount.toInt < 100) : Met l y_RE_openBlock w_RE_openBlock ({ frames := 1, cells := 0, slots := 0, locals := 20 }) (va_Pc [.ref h0, .int p0] (fun U => U.heap.size = sz ∧ va_P (dC, dI) cls (wz_233 h0 aw ac h0_at h0_limit h0_sound h0_codeCount ob h0_openCount aw ab ac aw_typeCount wat wap wag aw_functionCount waf aw_hasMemory aw_pagesLeast aw_pagesMost aw_globalCount wgt wft wfv wgc aw_exportCount wek wei wes wez ab ax ab_length ac cfi clk clt ac_length cop cva cpt cel ac_labelCount cla ax cax gax ob cob gob cva ccva gcva) U.heap ∧ va_K (dC, dI) cls [(cax, .byte), (cob, .int), (ccva, .long)] U ∧ va_D (fun _ => True) (wz_233 h0 aw ac h0_at h0_limit h0_sound h0_codeCount ob h0_openCount aw ab ac aw_typeCount wat wap wag aw_functionCount waf aw_hasMemory aw_pagesLeast aw_pagesMost aw_globalCount wgt wft wfv wgc aw_exportCount wek wei wes wez ab ax ab_length ac cfi clk clt ac_length cop cva cpt cel ac_labelCount cla ax cax gax ob cob gob cva ccva gcva))) (va_Qv (fun (u : (Nat → Int64) × (Nat → Int32) × Int32 × Int32 × Int32) => match u with | (gcva2, gob2, h0_at2, h0_openCount2, h0_sound2) => (0 ≤ h0_openCount2.toInt ∧ h0_openCount2.toInt ≤ 100) ∧ (h0_sound2 = 0 ∨ h0_sound2 = 1) ∧ (h0_at2.toInt = h0_at.toInt + 1 ∧ h0_sound2.toInt = 1 ∧ h0_openCount2.toInt = h0_openCount.toInt + 1 ∧ gob2 = upd gob h0_openCount.toNatClampNeg p0 ∧ ∃ v : Int64, v.toInt = (bn (gax h0_at.toNatClampNeg) : Int) ∧ gcva2 = vp_updL gcva p0.toNatClampNeg v)) (at_RE_openBlockx dC dI h0 aw ac ob ab wat wap wag waf wgt wft wfv wgc wek wei wes wez ax cfi clk clt cop cva cpt cel cla cax cob ccva h0_limit h0_codeCount aw_typeCount aw_functionCount aw_hasMemory aw_pagesLeast aw_pagesMost aw_globalCount aw_exportCount ab_length ac_length ac_labelCount gax (va_A (wz_233 h0 aw ac h0_at h0_limit h0_sound h0_codeCount ob h0_openCount aw ab ac aw_typeCount wat wap wag aw_functionCount waf aw_hasMemory aw_pagesLeast aw_pagesMost aw_globalCount wgt wft wfv wgc aw_exportCount wek wei wes wez ab ax ab_length ac cfi clk clt ac_length cop cva cpt cel ac_labelCount cla ax cax gax ob cob gob cva ccva gcva) sz)) (va_A (wz_233 h0 aw ac h0_at h0_limit h0_sound h0_codeCount ob h0_openCount aw ab ac aw_typeCount wat wap wag aw_functionCount waf aw_hasMemory aw_pagesLeast aw_pagesMost aw_globalCount wgt wft wfv wgc aw_exportCount wek wei wes wez ab ax ab_length ac cfi clk clt ac_length cop cva cpt cel ac_labelCount cla ax cax gax ob cob gob cva ccva gcva) sz)) 0 0 (va_A (wz_233 h0 aw ac h0_at h0_limit h0_sound h0_codeCount ob h0_openCount aw ab ac aw_typeCount wat wap wag aw_functionCount waf aw_hasMemory aw_pagesLeast aw_pagesMost aw_globalCount wgt wft wfv wgc aw_exportCount wek wei wes wez ab ax ab_length ac cfi clk clt ac_length cop cva cpt cel ac_labelCount cla ax cax gax ob cob gob cva ccva gcva) sz) := by
  refine Met.ofW (cc := b_RE_openBlock) (maxL := 3) (ret := none) (by decide) rfl ?_
  intro p e s m args below meth c s₁ B hml hv
  obtain ⟨rfl, hsz, hP, hK, hD0⟩ := hv
  have hx := B.exec
  have hb := B.bytes
  have hr := B.returns
  have hts0 := atoms_spec (ws := w_RE_openBlock) B.pre
  have hts : ∀ w ∈ lw_g, w.before _ s = true := fun w h => hts0 w (List.mem_cons_of_mem _ h)
  have hown : s.vm.findClass R_RE = some m.cls := findClass_of_methodNamed B.named
  have hlocks := B.notSynchronized
  clear hts0
  subst hsz
  have hD := hD0.self (sz := s.heap.size)
  generalize hAe : va_A (wz_233 h0 aw ac h0_at h0_limit h0_sound h0_codeCount ob h0_openCount aw ab ac aw_typeCount wat wap wag aw_functionCount waf aw_hasMemory aw_pagesLeast aw_pagesMost aw_globalCount wgt wft wfv wgc aw_exportCount wek wei wes wez ab ax ab_length ac cfi clk clt ac_length cop cva cpt cel ac_labelCount cla ax cax gax ob cob gob cva ccva gcva) s.heap.size = A at hD ⊢
  have hA : ∀ q : Nat, s.heap.size ≤ q → A q := fun q h => by rw [← hAe]; exact Or.inr h
  clear hAe
  have hP : va_P (dC, dI) cls (wz_233 h0 aw ac h0_at h0_limit h0_sound h0_codeCount ob h0_openCount aw ab ac aw_typeCount wat wap wag aw_functionCount waf aw_hasMemory aw_pagesLeast aw_pagesMost aw_globalCount wgt wft wfv wgc aw_exportCount wek wei wes wez ab ax ab_length ac cfi clk clt ac_length cop cva cpt cel ac_labelCount cla ax cax gax ob cob gob cva ccva gcva) s.heap := hP
  have hl := lv_entry ([.ref h0, .int p0]) (n := 3) (Nat.le_of_ble_eq_true rfl)
  rw [lg_entry_eq]
  generalize (lg_sl ([.ref h0, .int p0]) ++ List.replicate (3 - (lg_sl ([.ref h0, .int p0])).length) Slot.unset).toArray = ls at hl ⊢
  have hl : lv_has ls 3 [(0, .ref h0), (1, .int p0)] := hl
  have k0 : (0 : Int32).toInt = 0 := by decide
  refine w_gen (A := A) hP (fun H locs hP hS => ?_)
  have k1 : (1 : Int32).toInt = 1 := by decide
  have k64 : (64 : Int32).toInt = 64 := by decide
  have k100 : (100 : Int32).toInt = 100 := by decide
  have k126 : (126 : Int32).toInt = 126 := by decide
  have k127 : (127 : Int32).toInt = 127 := by decide
  have lo_p0 := i32_lo p0
  have hi_p0 := i32_hi p0
  have th0_sound := b01 b_h0_sound
  refine lv_aload_n hx hb d_RE_openBlock_0 rfl (lv_at hl 0 rfl) ?_
  have hPc := hP.sb (wq := (wz_46 h0 aw ac h0_at h0_limit h0_sound h0_codeCount ob h0_openCount aw ab ac aw_typeCount wat wap wag aw_functionCount waf aw_hasMemory aw_pagesLeast aw_pagesMost aw_globalCount wgt wft wfv wgc aw_exportCount wek wei wes wez ab ax ab_length ax cax gax)) [0, 1, 2, 4] rfl
  have hDc := hD.sb (wq := (wz_46 h0 aw ac h0_at h0_limit h0_sound h0_codeCount ob h0_openCount aw ab ac aw_typeCount wat wap wag aw_functionCount waf aw_hasMemory aw_pagesLeast aw_pagesMost aw_globalCount wgt wft wfv wgc aw_exportCount wek wei wes wez ab ax ab_length ax cax gax)) [0, 1, 2, 4] (by decide) rfl
  have hKc := hK.sb (tyq := [(cax, .byte)]) [0] rfl
  have hFc := va_free (wc := (wz_46 h0 aw ac h0_at h0_limit h0_sound h0_codeCount ob h0_openCount aw ab ac aw_typeCount wat wap wag aw_functionCount waf aw_hasMemory aw_pagesLeast aw_pagesMost aw_globalCount wgt wft wfv wgc aw_exportCount wek wei wes wez ab ax ab_length ax cax gax)) hD hS hA [0, 1, 2, 4] rfl
  refine va_calli (va_runV (As := []) (rest := []) ⟨hx, hb, hml, hown, hts⟩ (c_RE_nextx l dC dI H.size h0 aw ac ob ab wat wap wag waf wgt wft wfv wgc wek wei wes wez ax cax h0_at h0_limit h0_sound h0_codeCount h0_openCount aw_typeCount aw_functionCount aw_hasMemory aw_pagesLeast aw_pagesMost aw_globalCount aw_exportCount ab_length gax (b_h0_sound) (hs) (by (first | (apply Int.le_antisymm <;> omega) | omega)) (by (try dsimp only) <;> (first | (apply Int.le_antisymm <;> omega) | omega))) (cwV 0 hts (gV kM_RE_60 kV_RE_next kS_RE_next kI_RE kC_RE_next) rfl rfl rfl (by decide +kernel) ⟨Nat.le_of_ble_eq_true rfl, Nat.le_of_ble_eq_true rfl⟩) ⟨fun a U g mk z => by obtain ⟨z0, z1, zP, zK, zD⟩ := z; exact ⟨z0, z1, zP, va_K.moved (u := U) (U := U.calling g mk a) (Vm.Alike.refl U.vm) zK, zD⟩, va_recv hKc hPc (ci := 7) (q0 := 0) rfl rfl, fun U hU hW => ⟨rfl, by rw [hU], va_P.he hU.symm hPc, va_K.moved hW.alike hKc, hDc.weaken (fun _ _ _ _ => trivial)⟩⟩ rfl rfl hl.1 rfl (lv_room (Nat.le_of_ble_eq_true rfl)) d_RE_openBlock_1 ⟨(Nat.zero_le _), (Nat.zero_le _)⟩) hS (fun q _ h => hFc q h) hFc (fun r1 u t H1 locs ht hvm hw hB hz1 hk1 hS => ?_)
  obtain ⟨n2, rfl⟩ : ∃ z, z = u := ⟨_, rfl⟩
  try dsimp only at hw
  have xr1 := hw
  try clear hw
  have ur1 := bn_lt (gax h0_at.toNatClampNeg)
  obtain ⟨hP1, hK1, hD1⟩ := hB
  replace hP1 := va_P.he ht hP1
  obtain ⟨hP, hD⟩ := va_join (wr := [(ac, .inr (3, [.ref cfi, .ref clk, .ref clt, .int ac_length, .ref cop, .ref cva, .ref cpt, .ref cel, .int ac_labelCount, .ref cla])), (ob, .inl (cob, 100, .inl gob)), (cva, .inl (ccva, 5000, .inr (.inl gcva)))]) (w1 := (wz_46 h0 aw ac n2 h0_limit h0_sound h0_codeCount ob h0_openCount aw ab ac aw_typeCount wat wap wag aw_functionCount waf aw_hasMemory aw_pagesLeast aw_pagesMost aw_globalCount wgt wft wfv wgc aw_exportCount wek wei wes wez ab ax ab_length ax cax gax)) hP hD [0, 1, 2, 4] [3, 5, 6] rfl rfl (by decide) (by decide) hk1 hFc hP1 hD1
  clear hPc hDc hKc hFc hz1 hk1 hP1 hK1 hD1
  rename Heap => H
  have hP : va_P (dC, dI) cls (wz_234 ac cfi clk clt ac_length cop cva cpt cel ac_labelCount cla ob cob gob cva ccva gcva h0 aw ac n2 h0_limit h0_sound h0_codeCount ob h0_openCount aw ab ac aw_typeCount wat wap wag aw_functionCount waf aw_hasMemory aw_pagesLeast aw_pagesMost aw_globalCount wgt wft wfv wgc aw_exportCount wek wei wes wez ab ax ab_length ax cax gax) H := hP
  have hD : va_D A (wz_234 ac cfi clk clt ac_length cop cva cpt cel ac_labelCount cla ob cob gob cva ccva gcva h0 aw ac n2 h0_limit h0_sound h0_codeCount ob h0_openCount aw ab ac aw_typeCount wat wap wag aw_functionCount waf aw_hasMemory aw_pagesLeast aw_pagesMost aw_globalCount wgt wft wfv wgc aw_exportCount wek wei wes wez ab ax ab_length ax cax gax) := hD
  refine lv_istore_n (lv' := [(2, .int r1), (0, .ref h0), (1, .int p0)]) hx hb d_RE_openBlock_4 rfl hl (by decide) rfl (fun ls hl => ?_)
  refine lv_aload_n hx hb d_RE_openBlock_5 rfl (lv_at hl 1 rfl) ?_
  refine lv_aload_n hx hb d_RE_openBlock_6 rfl (lv_at hl 1 rfl) ?_
  refine va_get (D := (dC, dI)) (ci := 7) (v := .int h0_sound) (C := R_RE) (T := F_RE) (N := 8) hx hb hts i_RE hown hK hP 3 rfl rfl 4 (by decide) (hts _ kF_RE_45) (fun _ h9 => h9) rfl d_RE_openBlock_7 ?_
  refine lv_if_eq (tgt := 44) hx hb d_RE_openBlock_10 (by decide) (fun c10 => absurd (eqI c10) (by (first | (apply Int.le_antisymm <;> omega) | omega))) (fun c10 => ?_)
  have q10 := neI c10
  refine lv_aload_n hx hb d_RE_openBlock_13 rfl (lv_at hl 1 rfl) ?_
  refine va_get (D := (dC, dI)) (ci := 7) (v := .int h0_openCount) (C := R_RE) (T := F_RE) (N := 8) hx hb hts i_RE hown hK hP 3 rfl rfl 7 (by decide) (hts _ kF_RE_179) (fun _ h9 => h9) rfl d_RE_openBlock_14 ?_
  refine lv_bipush (v := 100) hx hb d_RE_openBlock_17 (by decide) ?_
  refine lv_icmp_ge (tgt := 44) hx hb d_RE_openBlock_19 (by decide) (fun c19 => absurd (leI c19) (by (first | (apply Int.le_antisymm <;> omega) | omega))) (fun c19 => ?_)
  have q19 := nleI c19
  refine lv_iload_n hx hb d_RE_openBlock_22 rfl (lv_at hl 0 rfl) ?_
  refine lv_bipush (v := 64) hx hb d_RE_openBlock_23 (by decide) ?_
  refine w_cut (pc2 := 40) (σ := Unit) (fun u H locs ls => match u with | _ => va_P (dC, dI) cls (wz_234 ac cfi clk clt ac_length cop cva cpt cel ac_labelCount cla ob cob gob cva ccva gcva h0 aw ac n2 h0_limit h0_sound h0_codeCount ob h0_openCount aw ab ac aw_typeCount wat wap wag aw_functionCount waf aw_hasMemory aw_pagesLeast aw_pagesMost aw_globalCount wgt wft wfv wgc aw_exportCount wek wei wes wez ab ax ab_length ax cax gax) H ∧ va_D A (wz_234 ac cfi clk clt ac_length cop cva cpt cel ac_labelCount cla ob cob gob cva ccva gcva h0 aw ac n2 h0_limit h0_sound h0_codeCount ob h0_openCount aw ab ac aw_typeCount wat wap wag aw_functionCount waf aw_hasMemory aw_pagesLeast aw_pagesMost aw_globalCount wgt wft wfv wgc aw_exportCount wek wei wes wez ab ax ab_length ax cax gax) ∧ va_S A s.heap H locs ∧ lv_has ls 3 [(0, .ref h0), (1, .int p0), (2, .int r1)]) (fun u => match u with | _ => [.ref h0]) ?_ (fun jn40 => ?_)
  · intro u H locs ls hI
    obtain ⟨hP, hD, hS, hl⟩ := hI
    refine lv_iconst (v := 1) hx hb d_RE_openBlock_40 (by decide) ?_
    refine lv_goto (tgt := 45) hx hb d_RE_openBlock_41 (by decide) ?_
    refine va_put (D := (dC, dI)) (ci := 7) (v := .int 1) (ty := .boolean) (C := R_RE) (T := F_RE) (N := 8) hx hb hts i_RE t_RE t_RE_ok n_RE hown hK hP hD hS 3 rfl rfl 4 (by decide) (hts _ kF_RE_45) (fun _ h9 => h9) rfl (by decide +kernel) rfl rfl (Nat.le_of_ble_eq_true rfl) d_RE_openBlock_45 (fun H locs hP hD hS => ?_)
    refine lv_aload_n hx hb d_RE_openBlock_48 rfl (lv_at hl 0 rfl) ?_
    refine va_get (D := (dC, dI)) (ci := 7) (v := .int 1) (C := R_RE) (T := F_RE) (N := 8) hx hb hts i_RE hown hK hP 3 rfl rfl 4 (by decide) (hts _ kF_RE_45) (fun _ h9 => h9) rfl d_RE_openBlock_49 ?_
    refine lv_if_eq (tgt := 83) hx hb d_RE_openBlock_52 (by decide) (fun c52 => absurd (eqI c52) (by (first | (apply Int.le_antisymm <;> omega) | omega))) (fun c52 => ?_)
    have q52 := neI c52
    refine lv_aload_n hx hb d_RE_openBlock_55 rfl (lv_at hl 0 rfl) ?_
    refine va_get (D := (dC, dI)) (ci := 7) (v := .ref ac) (C := R_RE) (T := F_RE) (N := 8) hx hb hts i_RE hown hK hP 3 rfl rfl 1 (by decide) (hts _ kF_RE_25) (fun _ h9 => h9) rfl d_RE_openBlock_56 ?_
    refine va_get (D := (dC, dI)) (ci := 3) (v := .ref cva) (C := R_CD) (T := F_CD) (N := 10) hx hb hts i_CD hown hK hP 0 rfl rfl 5 (by decide) (hts _ kF_RE_197) (fun _ h9 => h9) rfl d_RE_openBlock_59 ?_
    refine lv_iload_n hx hb d_RE_openBlock_62 rfl (lv_at hl 1 rfl) ?_
    refine lv_iload_n hx hb d_RE_openBlock_63 rfl (lv_at hl 2 rfl) ?_
    refine lv_i2l hx hb d_RE_openBlock_64 rfl ?_
    refine lv_topl (fun x3 ex3 => ?_)
    have tx3 := i2l_t ex3
    have g65 : vp_in p0 5000 := vp_in_iff.mpr ⟨by (first | (apply Int.le_antisymm <;> omega) | omega), by (first | (apply Int.le_antisymm <;> omega) | omega)⟩
    refine va_last hx hb hK hP hD hS 2 2 rfl rfl g65 d_RE_openBlock_65 (fun H locs hP hD hS => ?_)
    generalize ef4 : vp_updL gcva p0.toNatClampNeg x3 = f4 at hP hD
    refine lv_aload_n hx hb d_RE_openBlock_66 rfl (lv_at hl 0 rfl) ?_
    refine va_get (D := (dC, dI)) (ci := 7) (v := .ref ob) (C := R_RE) (T := F_RE) (N := 8) hx hb hts i_RE hown hK hP 3 rfl rfl 6 (by decide) (hts _ kF_RE_9) (fun _ h9 => h9) rfl d_RE_openBlock_67 ?_
    refine lv_aload_n hx hb d_RE_openBlock_70 rfl (lv_at hl 0 rfl) ?_
    refine lv_dup hx hb d_RE_openBlock_71 rfl ?_
    refine va_get (D := (dC, dI)) (ci := 7) (v := .int h0_openCount) (C := R_RE) (T := F_RE) (N := 8) hx hb hts i_RE hown hK hP 3 rfl rfl 7 (by decide) (hts _ kF_RE_179) (fun _ h9 => h9) rfl d_RE_openBlock_72 ?_
    refine lv_dup_x1 hx hb d_RE_openBlock_75 rfl rfl ?_
    refine lv_iconst (v := 1) hx hb d_RE_openBlock_76 (by decide) ?_
    refine lv_iadd hx hb d_RE_openBlock_77 ?_
    refine lv_topi (fun x5 ex5 => ?_)
    have tx5 : x5.toInt = h0_openCount.toInt + 1 := by have z := i32_add ex5 (by (first | (apply Int.le_antisymm <;> omega) | omega)) (by (first | (apply Int.le_antisymm <;> omega) | omega)); first | exact z | (first | (apply Int.le_antisymm <;> omega) | omega)
    refine va_put (D := (dC, dI)) (ci := 7) (v := .int x5) (ty := .int) (C := R_RE) (T := F_RE) (N := 8) hx hb hts i_RE t_RE t_RE_ok n_RE hown hK hP hD hS 3 rfl rfl 7 (by decide) (hts _ kF_RE_179) (fun _ h9 => h9) rfl (by decide +kernel) rfl rfl (Nat.le_of_ble_eq_true rfl) d_RE_openBlock_78 (fun H locs hP hD hS => ?_)
    refine lv_iload_n hx hb d_RE_openBlock_81 rfl (lv_at hl 1 rfl) ?_
    have g82 : vp_in h0_openCount 100 := vp_in_iff.mpr ⟨by (first | (apply Int.le_antisymm <;> omega) | omega), by (first | (apply Int.le_antisymm <;> omega) | omega)⟩
    refine va_iast hx hb hK hP hD hS 1 1 rfl rfl g82 d_RE_openBlock_82 (fun H locs hP hD hS => ?_)
    generalize ef6 : upd gob h0_openCount.toNatClampNeg p0 = f6 at hP hD
    have hP9 := hP.sb (wq := (wz_233 h0 aw ac n2 h0_limit 1 h0_codeCount ob x5 aw ab ac aw_typeCount wat wap wag aw_functionCount waf aw_hasMemory aw_pagesLeast aw_pagesMost aw_globalCount wgt wft wfv wgc aw_exportCount wek wei wes wez ab ax ab_length ac cfi clk clt ac_length cop cva cpt cel ac_labelCount cla ax cax gax ob cob f6 cva ccva f4)) [3, 4, 5, 0, 6, 1, 2] rfl
    have hD9 := hD.sb (wq := (wz_233 h0 aw ac n2 h0_limit 1 h0_codeCount ob x5 aw ab ac aw_typeCount wat wap wag aw_functionCount waf aw_hasMemory aw_pagesLeast aw_pagesMost aw_globalCount wgt wft wfv wgc aw_exportCount wek wei wes wez ab ax ab_length ac cfi clk clt ac_length cop cva cpt cel ac_labelCount cla ax cax gax ob cob f6 cva ccva f4)) [3, 4, 5, 0, 6, 1, 2] (by decide) rfl
    exact W.vret hx hb hr (fun t ht hW => ⟨⟨(f4, f6, n2, x5, 1), rfl, ⟨by (try dsimp only) <;> (first | (apply Int.le_antisymm <;> omega) | omega), Or.inr rfl, ⟨by (try dsimp only) <;> (first | (apply Int.le_antisymm <;> omega) | omega), by (try dsimp only) <;> (first | (apply Int.le_antisymm <;> omega) | omega), by (try dsimp only) <;> (first | (apply Int.le_antisymm <;> omega) | omega), by rw [← ef6], x3, by (first | (apply Int.le_antisymm <;> omega) | omega), by rw [← ef4]⟩⟩, va_P.he ht.symm hP9, va_K.moved hW.alike hK, hD9⟩, hS.F ht⟩) hS.2.2 d_RE_openBlock_83
  · skip
    refine lv_icmp_eq (tgt := 40) hx hb d_RE_openBlock_25 (by decide) (fun c25 => ?_) (fun c25 => ?_)
    · have q25 := eqI c25
      exact jn40 () _ _ _ ⟨hP, hD, hS, lv_sub hl [1, 2, 0] rfl⟩
    · have q25 := neI c25
      refine lv_iload_n hx hb d_RE_openBlock_28 rfl (lv_at hl 0 rfl) ?_
      refine lv_bipush (v := 127) hx hb d_RE_openBlock_29 (by decide) ?_
      refine lv_icmp_eq (tgt := 40) hx hb d_RE_openBlock_31 (by decide) (fun c31 => ?_) (fun c31 => ?_)
      · have q31 := eqI c31
        exact jn40 () _ _ _ ⟨hP, hD, hS, lv_sub hl [1, 2, 0] rfl⟩
      · have q31 := neI c31
        refine lv_iload_n hx hb d_RE_openBlock_34 rfl (lv_at hl 0 rfl) ?_
        refine lv_bipush (v := 126) hx hb d_RE_openBlock_35 (by decide) ?_
        refine lv_icmp_ne (tgt := 44) hx hb d_RE_openBlock_37 (by decide) (fun c37 => absurd (neI c37) (by (first | (apply Int.le_antisymm <;> omega) | omega))) (fun c37 => ?_)
        have q37 := eqI c37
        exact jn40 () _ _ _ ⟨hP, hD, hS, lv_sub hl [1, 2, 0] rfl⟩
abbrev at_RE_turnToElsex (dC : Nat → ClassId) (dI : Nat → Nat → Nat) (h0 aw ac ob cfi clk clt cop cva cpt cel cla : Nat) (cob ccop ccel : ClassId) (h0_at : Int32) (h0_limit : Int32) (h0_codeCount : Int32) (h0_openCount : Int32) (ac_length : Int32) (ac_labelCount : Int32) (gob : Nat → Int32) (gcop : Nat → Int32) (A : Nat → Prop) (u : (Nat → Int32) × Int32) (t : State) : Prop := match u with | (gcel, h0_sound) => va_P (dC, dI) cls (wz_235 h0 aw ac h0_at h0_limit h0_sound h0_codeCount ob h0_openCount ac cfi clk clt ac_length cop cva cpt cel ac_labelCount cla ob cob gob cop ccop gcop cel ccel gcel) t.heap ∧ va_K (dC, dI) cls [(cob, .int), (ccop, .int), (ccel, .int)] t ∧ va_D A (wz_235 h0 aw ac h0_at h0_limit h0_sound h0_codeCount ob h0_openCount ac cfi clk clt ac_length cop cva cpt cel ac_labelCount cla ob cob gob cop ccop gcop cel ccel gcel)
set_option maxHeartbeats 4000000 in
set_option maxRecDepth 100000 in
theorem c_RE_turnToElsex (l : Launch) (dC : Nat → ClassId) (dI : Nat → Nat → Nat) (sz : Nat) (h0 aw ac ob cfi clk clt cop cva cpt cel cla : Nat) (cob ccop ccel : ClassId) (h0_at : Int32) (h0_limit : Int32) (h0_sound : Int32) (h0_codeCount : Int32) (h0_openCount : Int32) (ac_length : Int32) (ac_labelCount : Int32) (gob : Nat → Int32) (gcop : Nat → Int32) (gcel : Nat → Int32)  (b_h0_sound : h0_sound = 0 ∨ h0_sound = 1) (b_h0_openCount : 0 ≤ h0_openCount.toInt ∧ h0_openCount.toInt ≤ 100) (p0 : Int32)  (hs : h0_sound.toInt = 1) (hp : 0 ≤ p0.toInt ∧ p0.toInt < 5000) (hgo : bx (∀ j : Nat, (j : Int) < h0_openCount.toInt → 0 ≤ (gob j).toInt ∧ (gob j).toInt < 5000)) (hoc : 0 < h0_openCount.toInt) (hto : (gcop (gob (h0_openCount.toNatClampNeg - 1)).toNatClampNeg).toInt = 4 ∧ (gcel (gob (h0_openCount.toNatClampNeg - 1)).toNatClampNeg).toInt < 0) : Met l y_RE_turnToElse w_RE_turnToElse ({ frames := 0, cells := 0, slots := 0, locals := 0 }) (va_Pc [.ref h0, .int p0] (fun U => U.heap.size = sz ∧ va_P (dC, dI) cls (wz_235 h0 aw ac h0_at h0_limit h0_sound h0_codeCount ob h0_openCount ac cfi clk clt ac_length cop cva cpt cel ac_labelCount cla ob cob gob cop ccop gcop cel ccel gcel) U.heap ∧ va_K (dC, dI) cls [(cob, .int), (ccop, .int), (ccel, .int)] U ∧ va_D (fun _ => True) (wz_235 h0 aw ac h0_at h0_limit h0_sound h0_codeCount ob h0_openCount ac cfi clk clt ac_length cop cva cpt cel ac_labelCount cla ob cob gob cop ccop gcop cel ccel gcel))) (va_Qv (fun (u : (Nat → Int32) × Int32) => match u with | (gcel2, h0_sound2) => (h0_sound2 = 0 ∨ h0_sound2 = 1) ∧ (h0_sound2.toInt = 1 ∧ gcel2 = upd gcel (gob (h0_openCount.toNatClampNeg - 1)).toNatClampNeg p0)) (at_RE_turnToElsex dC dI h0 aw ac ob cfi clk clt cop cva cpt cel cla cob ccop ccel h0_at h0_limit h0_codeCount h0_openCount ac_length ac_labelCount gob gcop (va_A (wz_235 h0 aw ac h0_at h0_limit h0_sound h0_codeCount ob h0_openCount ac cfi clk clt ac_length cop cva cpt cel ac_labelCount cla ob cob gob cop ccop gcop cel ccel gcel) sz)) (va_A (wz_235 h0 aw ac h0_at h0_limit h0_sound h0_codeCount ob h0_openCount ac cfi clk clt ac_length cop cva cpt cel ac_labelCount cla ob cob gob cop ccop gcop cel ccel gcel) sz)) 0 0 (va_A (wz_235 h0 aw ac h0_at h0_limit h0_sound h0_codeCount ob h0_openCount ac cfi clk clt ac_length cop cva cpt cel ac_labelCount cla ob cob gob cop ccop gcop cel ccel gcel) sz) := by
  refine Met.ofW (cc := b_RE_turnToElse) (maxL := 3) (ret := none) (by decide) rfl ?_
  intro p e s m args below meth c s₁ B hml hv
  obtain ⟨rfl, hsz, hP, hK, hD0⟩ := hv
  have hx := B.exec
  have hb := B.bytes
  have hr := B.returns
  have hts0 := atoms_spec (ws := w_RE_turnToElse) B.pre
  have hts : ∀ w ∈ lw_g, w.before _ s = true := fun w h => hts0 w (List.mem_cons_of_mem _ h)
  have hown : s.vm.findClass R_RE = some m.cls := findClass_of_methodNamed B.named
  have hlocks := B.notSynchronized
  clear hts0
  subst hsz
  have hD := hD0.self (sz := s.heap.size)
  generalize hAe : va_A (wz_235 h0 aw ac h0_at h0_limit h0_sound h0_codeCount ob h0_openCount ac cfi clk clt ac_length cop cva cpt cel ac_labelCount cla ob cob gob cop ccop gcop cel ccel gcel) s.heap.size = A at hD ⊢
  have hA : ∀ q : Nat, s.heap.size ≤ q → A q := fun q h => by rw [← hAe]; exact Or.inr h
  clear hAe
  have hP : va_P (dC, dI) cls (wz_235 h0 aw ac h0_at h0_limit h0_sound h0_codeCount ob h0_openCount ac cfi clk clt ac_length cop cva cpt cel ac_labelCount cla ob cob gob cop ccop gcop cel ccel gcel) s.heap := hP
  have hl := lv_entry ([.ref h0, .int p0]) (n := 3) (Nat.le_of_ble_eq_true rfl)
  rw [lg_entry_eq]
  generalize (lg_sl ([.ref h0, .int p0]) ++ List.replicate (3 - (lg_sl ([.ref h0, .int p0])).length) Slot.unset).toArray = ls at hl ⊢
  have hl : lv_has ls 3 [(0, .ref h0), (1, .int p0)] := hl
  have k0 : (0 : Int32).toInt = 0 := by decide
  refine w_gen (A := A) hP (fun H locs hP hS => ?_)
  have km1 : (-1 : Int32).toInt = -1 := by decide
  have k1 : (1 : Int32).toInt = 1 := by decide
  have k4 : (4 : Int32).toInt = 4 := by decide
  have lo_p0 := i32_lo p0
  have hi_p0 := i32_hi p0
  have th0_sound := b01 b_h0_sound
  refine lv_aload_n hx hb d_RE_turnToElse_0 rfl (lv_at hl 0 rfl) ?_
  refine va_get (D := (dC, dI)) (ci := 7) (v := .int h0_openCount) (C := R_RE) (T := F_RE) (N := 8) hx hb hts i_RE hown hK hP 0 rfl rfl 7 (by decide) (hts _ kF_RE_179) (fun _ h9 => h9) rfl d_RE_turnToElse_1 ?_
  refine lv_if_le (tgt := 21) hx hb d_RE_turnToElse_4 (by decide) (fun c4 => absurd (leI c4) (by (first | (apply Int.le_antisymm <;> omega) | omega))) (fun c4 => ?_)
  have q4 := nleI c4
  refine lv_aload_n hx hb d_RE_turnToElse_7 rfl (lv_at hl 0 rfl) ?_
  refine va_get (D := (dC, dI)) (ci := 7) (v := .ref ob) (C := R_RE) (T := F_RE) (N := 8) hx hb hts i_RE hown hK hP 0 rfl rfl 6 (by decide) (hts _ kF_RE_9) (fun _ h9 => h9) rfl d_RE_turnToElse_8 ?_
  refine lv_aload_n hx hb d_RE_turnToElse_11 rfl (lv_at hl 0 rfl) ?_
  refine va_get (D := (dC, dI)) (ci := 7) (v := .int h0_openCount) (C := R_RE) (T := F_RE) (N := 8) hx hb hts i_RE hown hK hP 0 rfl rfl 7 (by decide) (hts _ kF_RE_179) (fun _ h9 => h9) rfl d_RE_turnToElse_12 ?_
  refine lv_iconst (v := 1) hx hb d_RE_turnToElse_15 (by decide) ?_
  refine lv_isub hx hb d_RE_turnToElse_16 ?_
  refine lv_topi (fun x1 ex1 => ?_)
  have tx1 : x1.toInt = h0_openCount.toInt - 1 := by have z := i32_sub ex1 (by (first | (apply Int.le_antisymm <;> omega) | omega)) (by (first | (apply Int.le_antisymm <;> omega) | omega)); first | exact z | (first | (apply Int.le_antisymm <;> omega) | omega)
  have g17 : vp_in x1 100 := vp_in_iff.mpr ⟨by (first | (apply Int.le_antisymm <;> omega) | omega), by (first | (apply Int.le_antisymm <;> omega) | omega)⟩
  refine va_iald hx hb hK hP 2 0 rfl rfl g17 d_RE_turnToElse_17 ?_
  refine lv_topi (fun x2 ex2 => ?_)
  have ix17 : x1.toNatClampNeg = h0_openCount.toNatClampNeg - 1 := by have := i32_clamp (x := x1) (by (first | (apply Int.le_antisymm <;> omega) | omega)); have := i32_clamp (x := h0_openCount) (by (first | (apply Int.le_antisymm <;> omega) | omega)); (first | (apply Int.le_antisymm <;> omega) | omega)
  have g17 : x2 = gob (h0_openCount.toNatClampNeg - 1) := by rw [ex2, ix17]
  have t17 := hgo.out (h0_openCount.toNatClampNeg - 1) (by have := i32_clamp (x := h0_openCount) (by (first | (apply Int.le_antisymm <;> omega) | omega)); (first | (apply Int.le_antisymm <;> omega) | omega))
  rw [← g17] at t17
  refine lv_goto (tgt := 22) hx hb d_RE_turnToElse_18 (by decide) ?_
  refine lv_istore_n (lv' := [(2, .int x2), (0, .ref h0), (1, .int p0)]) hx hb d_RE_turnToElse_22 rfl hl (by decide) rfl (fun ls hl => ?_)
  refine lv_aload_n hx hb d_RE_turnToElse_23 rfl (lv_at hl 1 rfl) ?_
  refine lv_iload_n hx hb d_RE_turnToElse_24 rfl (lv_at hl 0 rfl) ?_
  refine lv_if_lt (tgt := 57) hx hb d_RE_turnToElse_25 (by decide) (fun c25 => absurd (ltI c25) (by (first | (apply Int.le_antisymm <;> omega) | omega))) (fun c25 => ?_)
  have q25 := nltI c25
  refine lv_aload_n hx hb d_RE_turnToElse_28 rfl (lv_at hl 1 rfl) ?_
  refine va_get (D := (dC, dI)) (ci := 7) (v := .ref ac) (C := R_RE) (T := F_RE) (N := 8) hx hb hts i_RE hown hK hP 0 rfl rfl 1 (by decide) (hts _ kF_RE_25) (fun _ h9 => h9) rfl d_RE_turnToElse_29 ?_
  refine va_get (D := (dC, dI)) (ci := 3) (v := .ref cop) (C := R_CD) (T := F_CD) (N := 10) hx hb hts i_CD hown hK hP 1 rfl rfl 4 (by decide) (hts _ kF_RE_194) (fun _ h9 => h9) rfl d_RE_turnToElse_32 ?_
  refine lv_iload_n hx hb d_RE_turnToElse_35 rfl (lv_at hl 0 rfl) ?_
  have g36 : vp_in x2 5000 := vp_in_iff.mpr ⟨by (first | (apply Int.le_antisymm <;> omega) | omega), by (first | (apply Int.le_antisymm <;> omega) | omega)⟩
  refine va_iald hx hb hK hP 3 1 rfl rfl g36 d_RE_turnToElse_36 ?_
  refine lv_topi (fun x3 ex3 => ?_)
  have tx3 : x3.toInt = 4 := by rw [ex3, g17]; exact hto.1
  refine lv_iconst (v := 4) hx hb d_RE_turnToElse_37 (by decide) ?_
  refine lv_icmp_ne (tgt := 57) hx hb d_RE_turnToElse_38 (by decide) (fun c38 => absurd (neI c38) (by (first | (apply Int.le_antisymm <;> omega) | omega))) (fun c38 => ?_)
  have q38 := eqI c38
  refine lv_aload_n hx hb d_RE_turnToElse_41 rfl (lv_at hl 1 rfl) ?_
  refine va_get (D := (dC, dI)) (ci := 7) (v := .ref ac) (C := R_RE) (T := F_RE) (N := 8) hx hb hts i_RE hown hK hP 0 rfl rfl 1 (by decide) (hts _ kF_RE_25) (fun _ h9 => h9) rfl d_RE_turnToElse_42 ?_
  refine va_get (D := (dC, dI)) (ci := 3) (v := .ref cel) (C := R_CD) (T := F_CD) (N := 10) hx hb hts i_CD hown hK hP 1 rfl rfl 7 (by decide) (hts _ kF_RE_203) (fun _ h9 => h9) rfl d_RE_turnToElse_45 ?_
  refine lv_iload_n hx hb d_RE_turnToElse_48 rfl (lv_at hl 0 rfl) ?_
  have g49 : vp_in x2 5000 := vp_in_iff.mpr ⟨by (first | (apply Int.le_antisymm <;> omega) | omega), by (first | (apply Int.le_antisymm <;> omega) | omega)⟩
  refine va_iald hx hb hK hP 4 2 rfl rfl g49 d_RE_turnToElse_49 ?_
  refine lv_topi (fun x4 ex4 => ?_)
  have tx4 : x4.toInt < 0 := by rw [ex4, g17]; exact hto.2
  refine lv_if_ge (tgt := 57) hx hb d_RE_turnToElse_50 (by decide) (fun c50 => absurd (leI c50) (by (first | (apply Int.le_antisymm <;> omega) | omega))) (fun c50 => ?_)
  have q50 := nleI c50
  refine lv_iconst (v := 1) hx hb d_RE_turnToElse_53 (by decide) ?_
  refine lv_goto (tgt := 58) hx hb d_RE_turnToElse_54 (by decide) ?_
  refine va_put (D := (dC, dI)) (ci := 7) (v := .int 1) (ty := .boolean) (C := R_RE) (T := F_RE) (N := 8) hx hb hts i_RE t_RE t_RE_ok n_RE hown hK hP hD hS 0 rfl rfl 4 (by decide) (hts _ kF_RE_45) (fun _ h9 => h9) rfl (by decide +kernel) rfl rfl (Nat.le_of_ble_eq_true rfl) d_RE_turnToElse_58 (fun H locs hP hD hS => ?_)
  refine lv_aload_n hx hb d_RE_turnToElse_61 rfl (lv_at hl 1 rfl) ?_
  refine va_get (D := (dC, dI)) (ci := 7) (v := .int 1) (C := R_RE) (T := F_RE) (N := 8) hx hb hts i_RE hown hK hP 0 rfl rfl 4 (by decide) (hts _ kF_RE_45) (fun _ h9 => h9) rfl d_RE_turnToElse_62 ?_
  refine lv_if_eq (tgt := 78) hx hb d_RE_turnToElse_65 (by decide) (fun c65 => absurd (eqI c65) (by (first | (apply Int.le_antisymm <;> omega) | omega))) (fun c65 => ?_)
  have q65 := neI c65
  refine lv_aload_n hx hb d_RE_turnToElse_68 rfl (lv_at hl 1 rfl) ?_
  refine va_get (D := (dC, dI)) (ci := 7) (v := .ref ac) (C := R_RE) (T := F_RE) (N := 8) hx hb hts i_RE hown hK hP 0 rfl rfl 1 (by decide) (hts _ kF_RE_25) (fun _ h9 => h9) rfl d_RE_turnToElse_69 ?_
  refine va_get (D := (dC, dI)) (ci := 3) (v := .ref cel) (C := R_CD) (T := F_CD) (N := 10) hx hb hts i_CD hown hK hP 1 rfl rfl 7 (by decide) (hts _ kF_RE_203) (fun _ h9 => h9) rfl d_RE_turnToElse_72 ?_
  refine lv_iload_n hx hb d_RE_turnToElse_75 rfl (lv_at hl 0 rfl) ?_
  refine lv_iload_n hx hb d_RE_turnToElse_76 rfl (lv_at hl 2 rfl) ?_
  have g77 : vp_in x2 5000 := vp_in_iff.mpr ⟨by (first | (apply Int.le_antisymm <;> omega) | omega), by (first | (apply Int.le_antisymm <;> omega) | omega)⟩
  refine va_iast hx hb hK hP hD hS 4 2 rfl rfl g77 d_RE_turnToElse_77 (fun H locs hP hD hS => ?_)
  generalize ef5 : upd gcel x2.toNatClampNeg p0 = f5 at hP hD
  have hP9 := hP.sb (wq := (wz_235 h0 aw ac h0_at h0_limit 1 h0_codeCount ob h0_openCount ac cfi clk clt ac_length cop cva cpt cel ac_labelCount cla ob cob gob cop ccop gcop cel ccel f5)) [0, 1, 2, 3, 4] rfl
  have hD9 := hD.sb (wq := (wz_235 h0 aw ac h0_at h0_limit 1 h0_codeCount ob h0_openCount ac cfi clk clt ac_length cop cva cpt cel ac_labelCount cla ob cob gob cop ccop gcop cel ccel f5)) [0, 1, 2, 3, 4] (by decide) rfl
  exact W.vret hx hb hr (fun t ht hW => ⟨⟨(f5, 1), rfl, ⟨Or.inr rfl, ⟨by (try dsimp only) <;> (first | (apply Int.le_antisymm <;> omega) | omega), by rw [← ef5, g17]⟩⟩, va_P.he ht.symm hP9, va_K.moved hW.alike hK, hD9⟩, hS.F ht⟩) hS.2.2 d_RE_turnToElse_78
abbrev at_RE_closeBlockx (dC : Nat → ClassId) (dI : Nat → Nat → Nat) (h0 aw ac ob cfi clk clt cop cva cpt cel cla : Nat) (cob ccpt ccel : ClassId) (h0_at : Int32) (h0_limit : Int32) (h0_sound : Int32) (h0_codeCount : Int32) (ac_length : Int32) (ac_labelCount : Int32) (gob : Nat → Int32) (gcel : Nat → Int32) (A : Nat → Prop) (u : (Nat → Int32) × Int32) (t : State) : Prop := match u with | (gcpt, h0_openCount) => va_P (dC, dI) cls (wz_235 h0 aw ac h0_at h0_limit h0_sound h0_codeCount ob h0_openCount ac cfi clk clt ac_length cop cva cpt cel ac_labelCount cla ob cob gob cpt ccpt gcpt cel ccel gcel) t.heap ∧ va_K (dC, dI) cls [(cob, .int), (ccpt, .int), (ccel, .int)] t ∧ va_D A (wz_235 h0 aw ac h0_at h0_limit h0_sound h0_codeCount ob h0_openCount ac cfi clk clt ac_length cop cva cpt cel ac_labelCount cla ob cob gob cpt ccpt gcpt cel ccel gcel)
set_option maxHeartbeats 4000000 in
set_option maxRecDepth 100000 in
theorem c_RE_closeBlockx (l : Launch) (dC : Nat → ClassId) (dI : Nat → Nat → Nat) (sz : Nat) (h0 aw ac ob cfi clk clt cop cva cpt cel cla : Nat) (cob ccpt ccel : ClassId) (h0_at : Int32) (h0_limit : Int32) (h0_sound : Int32) (h0_codeCount : Int32) (h0_openCount : Int32) (ac_length : Int32) (ac_labelCount : Int32) (gob : Nat → Int32) (gcpt : Nat → Int32) (gcel : Nat → Int32)  (b_h0_openCount : 0 ≤ h0_openCount.toInt ∧ h0_openCount.toInt ≤ 100) (p0 : Int32)  (hp : 0 ≤ p0.toInt ∧ p0.toInt < 5000) (hgo : bx (∀ j : Nat, (j : Int) < h0_openCount.toInt → 0 ≤ (gob j).toInt ∧ (gob j).toInt < 5000)) (hel : bx (∀ j : Nat, (gcel j).toInt < 5000)) : Met l y_RE_closeBlock w_RE_closeBlock ({ frames := 0, cells := 0, slots := 0, locals := 0 }) (va_Pc [.ref h0, .int p0] (fun U => U.heap.size = sz ∧ va_P (dC, dI) cls (wz_235 h0 aw ac h0_at h0_limit h0_sound h0_codeCount ob h0_openCount ac cfi clk clt ac_length cop cva cpt cel ac_labelCount cla ob cob gob cpt ccpt gcpt cel ccel gcel) U.heap ∧ va_K (dC, dI) cls [(cob, .int), (ccpt, .int), (ccel, .int)] U ∧ va_D (fun _ => True) (wz_235 h0 aw ac h0_at h0_limit h0_sound h0_codeCount ob h0_openCount ac cfi clk clt ac_length cop cva cpt cel ac_labelCount cla ob cob gob cpt ccpt gcpt cel ccel gcel))) (va_Qi (fun (r : Int32) (u : (Nat → Int32) × Int32) => match u with | (gcpt2, h0_openCount2) => (r = 0 ∨ r = 1) ∧ (0 ≤ h0_openCount2.toInt ∧ h0_openCount2.toInt ≤ 100) ∧ ((r.toInt = 0 → h0_openCount.toInt = 0 ∧ h0_openCount2 = h0_openCount ∧ gcpt2 = gcpt) ∧ (r.toInt = 1 → 0 < h0_openCount.toInt ∧ h0_openCount2.toInt = h0_openCount.toInt - 1 ∧ gcpt2 = if 0 ≤ (gcel (gob (h0_openCount.toNatClampNeg - 1)).toNatClampNeg).toInt then upd (upd gcpt (gob (h0_openCount.toNatClampNeg - 1)).toNatClampNeg p0) (gcel (gob (h0_openCount.toNatClampNeg - 1)).toNatClampNeg).toNatClampNeg p0 else upd gcpt (gob (h0_openCount.toNatClampNeg - 1)).toNatClampNeg p0))) (at_RE_closeBlockx dC dI h0 aw ac ob cfi clk clt cop cva cpt cel cla cob ccpt ccel h0_at h0_limit h0_sound h0_codeCount ac_length ac_labelCount gob gcel (va_A (wz_235 h0 aw ac h0_at h0_limit h0_sound h0_codeCount ob h0_openCount ac cfi clk clt ac_length cop cva cpt cel ac_labelCount cla ob cob gob cpt ccpt gcpt cel ccel gcel) sz)) (va_A (wz_235 h0 aw ac h0_at h0_limit h0_sound h0_codeCount ob h0_openCount ac cfi clk clt ac_length cop cva cpt cel ac_labelCount cla ob cob gob cpt ccpt gcpt cel ccel gcel) sz)) 0 0 (va_A (wz_235 h0 aw ac h0_at h0_limit h0_sound h0_codeCount ob h0_openCount ac cfi clk clt ac_length cop cva cpt cel ac_labelCount cla ob cob gob cpt ccpt gcpt cel ccel gcel) sz) := by
  refine Met.ofW (cc := b_RE_closeBlock) (maxL := 3) (ret := (Option.some .boolean)) (by decide) rfl ?_
  intro p e s m args below meth c s₁ B hml hv
  obtain ⟨rfl, hsz, hP, hK, hD0⟩ := hv
  have hx := B.exec
  have hb := B.bytes
  have hr := B.returns
  have hts0 := atoms_spec (ws := w_RE_closeBlock) B.pre
  have hts : ∀ w ∈ lw_g, w.before _ s = true := fun w h => hts0 w (List.mem_cons_of_mem _ h)
  have hown : s.vm.findClass R_RE = some m.cls := findClass_of_methodNamed B.named
  have hlocks := B.notSynchronized
  clear hts0
  subst hsz
  have hD := hD0.self (sz := s.heap.size)
  generalize hAe : va_A (wz_235 h0 aw ac h0_at h0_limit h0_sound h0_codeCount ob h0_openCount ac cfi clk clt ac_length cop cva cpt cel ac_labelCount cla ob cob gob cpt ccpt gcpt cel ccel gcel) s.heap.size = A at hD ⊢
  have hA : ∀ q : Nat, s.heap.size ≤ q → A q := fun q h => by rw [← hAe]; exact Or.inr h
  clear hAe
  have hP : va_P (dC, dI) cls (wz_235 h0 aw ac h0_at h0_limit h0_sound h0_codeCount ob h0_openCount ac cfi clk clt ac_length cop cva cpt cel ac_labelCount cla ob cob gob cpt ccpt gcpt cel ccel gcel) s.heap := hP
  have hl := lv_entry ([.ref h0, .int p0]) (n := 3) (Nat.le_of_ble_eq_true rfl)
  rw [lg_entry_eq]
  generalize (lg_sl ([.ref h0, .int p0]) ++ List.replicate (3 - (lg_sl ([.ref h0, .int p0])).length) Slot.unset).toArray = ls at hl ⊢
  have hl : lv_has ls 3 [(0, .ref h0), (1, .int p0)] := hl
  have k0 : (0 : Int32).toInt = 0 := by decide
  refine w_gen (A := A) hP (fun H locs hP hS => ?_)
  have k1 : (1 : Int32).toInt = 1 := by decide
  have lo_p0 := i32_lo p0
  have hi_p0 := i32_hi p0
  refine lv_aload_n hx hb d_RE_closeBlock_0 rfl (lv_at hl 0 rfl) ?_
  refine va_get (D := (dC, dI)) (ci := 7) (v := .int h0_openCount) (C := R_RE) (T := F_RE) (N := 8) hx hb hts i_RE hown hK hP 0 rfl rfl 7 (by decide) (hts _ kF_RE_179) (fun _ h9 => h9) rfl d_RE_closeBlock_1 ?_
  refine lv_if_ne (tgt := 9) hx hb d_RE_closeBlock_4 (by decide) (fun c4 => ?_) (fun c4 => ?_)
  · have q4 := neI c4
    refine lv_aload_n hx hb d_RE_closeBlock_9 rfl (lv_at hl 0 rfl) ?_
    refine lv_dup hx hb d_RE_closeBlock_10 rfl ?_
    refine va_get (D := (dC, dI)) (ci := 7) (v := .int h0_openCount) (C := R_RE) (T := F_RE) (N := 8) hx hb hts i_RE hown hK hP 0 rfl rfl 7 (by decide) (hts _ kF_RE_179) (fun _ h9 => h9) rfl d_RE_closeBlock_11 ?_
    refine lv_iconst (v := 1) hx hb d_RE_closeBlock_14 (by decide) ?_
    refine lv_isub hx hb d_RE_closeBlock_15 ?_
    refine lv_topi (fun x1 ex1 => ?_)
    have tx1 : x1.toInt = h0_openCount.toInt - 1 := by have z := i32_sub ex1 (by (first | (apply Int.le_antisymm <;> omega) | omega)) (by (first | (apply Int.le_antisymm <;> omega) | omega)); first | exact z | (first | (apply Int.le_antisymm <;> omega) | omega)
    refine va_put (D := (dC, dI)) (ci := 7) (v := .int x1) (ty := .int) (C := R_RE) (T := F_RE) (N := 8) hx hb hts i_RE t_RE t_RE_ok n_RE hown hK hP hD hS 0 rfl rfl 7 (by decide) (hts _ kF_RE_179) (fun _ h9 => h9) rfl (by decide +kernel) rfl rfl (Nat.le_of_ble_eq_true rfl) d_RE_closeBlock_16 (fun H locs hP hD hS => ?_)
    refine lv_aload_n hx hb d_RE_closeBlock_19 rfl (lv_at hl 0 rfl) ?_
    refine va_get (D := (dC, dI)) (ci := 7) (v := .ref ob) (C := R_RE) (T := F_RE) (N := 8) hx hb hts i_RE hown hK hP 0 rfl rfl 6 (by decide) (hts _ kF_RE_9) (fun _ h9 => h9) rfl d_RE_closeBlock_20 ?_
    refine lv_aload_n hx hb d_RE_closeBlock_23 rfl (lv_at hl 0 rfl) ?_
    refine va_get (D := (dC, dI)) (ci := 7) (v := .int x1) (C := R_RE) (T := F_RE) (N := 8) hx hb hts i_RE hown hK hP 0 rfl rfl 7 (by decide) (hts _ kF_RE_179) (fun _ h9 => h9) rfl d_RE_closeBlock_24 ?_
    have g27 : vp_in x1 100 := vp_in_iff.mpr ⟨by (first | (apply Int.le_antisymm <;> omega) | omega), by (first | (apply Int.le_antisymm <;> omega) | omega)⟩
    refine va_iald hx hb hK hP 2 0 rfl rfl g27 d_RE_closeBlock_27 ?_
    refine lv_topi (fun x2 ex2 => ?_)
    have ix17 : x1.toNatClampNeg = h0_openCount.toNatClampNeg - 1 := by have := i32_clamp (x := x1) (by (first | (apply Int.le_antisymm <;> omega) | omega)); have := i32_clamp (x := h0_openCount) (by (first | (apply Int.le_antisymm <;> omega) | omega)); (first | (apply Int.le_antisymm <;> omega) | omega)
    have g17 : x2 = gob (h0_openCount.toNatClampNeg - 1) := by rw [ex2, ix17]
    have t17 := hgo.out (h0_openCount.toNatClampNeg - 1) (by have := i32_clamp (x := h0_openCount) (by (first | (apply Int.le_antisymm <;> omega) | omega)); (first | (apply Int.le_antisymm <;> omega) | omega))
    rw [← g17] at t17
    refine lv_istore_n (lv' := [(2, .int x2), (0, .ref h0), (1, .int p0)]) hx hb d_RE_closeBlock_28 rfl hl (by decide) rfl (fun ls hl => ?_)
    refine lv_aload_n hx hb d_RE_closeBlock_29 rfl (lv_at hl 1 rfl) ?_
    refine va_get (D := (dC, dI)) (ci := 7) (v := .ref ac) (C := R_RE) (T := F_RE) (N := 8) hx hb hts i_RE hown hK hP 0 rfl rfl 1 (by decide) (hts _ kF_RE_25) (fun _ h9 => h9) rfl d_RE_closeBlock_30 ?_
    refine va_get (D := (dC, dI)) (ci := 3) (v := .ref cpt) (C := R_CD) (T := F_CD) (N := 10) hx hb hts i_CD hown hK hP 1 rfl rfl 6 (by decide) (hts _ kF_RE_200) (fun _ h9 => h9) rfl d_RE_closeBlock_33 ?_
    refine lv_iload_n hx hb d_RE_closeBlock_36 rfl (lv_at hl 0 rfl) ?_
    refine lv_iload_n hx hb d_RE_closeBlock_37 rfl (lv_at hl 2 rfl) ?_
    have g38 : vp_in x2 5000 := vp_in_iff.mpr ⟨by (first | (apply Int.le_antisymm <;> omega) | omega), by (first | (apply Int.le_antisymm <;> omega) | omega)⟩
    refine va_iast hx hb hK hP hD hS 3 1 rfl rfl g38 d_RE_closeBlock_38 (fun H locs hP hD hS => ?_)
    generalize ef3 : upd gcpt x2.toNatClampNeg p0 = f3 at hP hD
    refine lv_aload_n hx hb d_RE_closeBlock_39 rfl (lv_at hl 1 rfl) ?_
    refine va_get (D := (dC, dI)) (ci := 7) (v := .ref ac) (C := R_RE) (T := F_RE) (N := 8) hx hb hts i_RE hown hK hP 0 rfl rfl 1 (by decide) (hts _ kF_RE_25) (fun _ h9 => h9) rfl d_RE_closeBlock_40 ?_
    refine va_get (D := (dC, dI)) (ci := 3) (v := .ref cel) (C := R_CD) (T := F_CD) (N := 10) hx hb hts i_CD hown hK hP 1 rfl rfl 7 (by decide) (hts _ kF_RE_203) (fun _ h9 => h9) rfl d_RE_closeBlock_43 ?_
    refine lv_iload_n hx hb d_RE_closeBlock_46 rfl (lv_at hl 0 rfl) ?_
    have g47 : vp_in x2 5000 := vp_in_iff.mpr ⟨by (first | (apply Int.le_antisymm <;> omega) | omega), by (first | (apply Int.le_antisymm <;> omega) | omega)⟩
    refine va_iald hx hb hK hP 4 2 rfl rfl g47 d_RE_closeBlock_47 ?_
    refine lv_topi (fun x4 ex4 => ?_)
    have g47 : x4 = (gcel (gob (h0_openCount.toNatClampNeg - 1)).toNatClampNeg) := by rw [ex4, g17]
    have t47 := hel.out (gob (h0_openCount.toNatClampNeg - 1)).toNatClampNeg
    rw [← g47] at t47
    refine lv_if_lt (tgt := 69) hx hb d_RE_closeBlock_48 (by decide) (fun c48 => ?_) (fun c48 => ?_)
    · have q48 := ltI c48
      refine lv_iconst (v := 1) hx hb d_RE_closeBlock_69 (by decide) ?_
      have hP9 := hP.sb (wq := (wz_235 h0 aw ac h0_at h0_limit h0_sound h0_codeCount ob x1 ac cfi clk clt ac_length cop cva cpt cel ac_labelCount cla ob cob gob cpt ccpt f3 cel ccel gcel)) [0, 1, 2, 3, 4] rfl
      have hD9 := hD.sb (wq := (wz_235 h0 aw ac h0_at h0_limit h0_sound h0_codeCount ob x1 ac cfi clk clt ac_length cop cva cpt cel ac_labelCount cla ob cob gob cpt ccpt f3 cel ccel gcel)) [0, 1, 2, 3, 4] (by decide) rfl
      exact W.zret (v := 1) hx hb hr (zn01 (Or.inr rfl)) (fun t ht hW => ⟨⟨1, (f3, x1), rfl, ⟨Or.inr rfl, by (try dsimp only) <;> (first | (apply Int.le_antisymm <;> omega) | omega), ⟨fun z => absurd z (by decide), fun _ => ⟨by (first | (apply Int.le_antisymm <;> omega) | omega), by (try dsimp only) <;> (first | (apply Int.le_antisymm <;> omega) | omega), by rw [if_neg (by rw [← g47]; (first | (apply Int.le_antisymm <;> omega) | omega)), ← ef3, g17]⟩⟩⟩, va_P.he ht.symm hP9, va_K.moved hW.alike hK, hD9⟩, hS.F ht⟩) hS.2.2 d_RE_closeBlock_70
    · have q48 := nltI c48
      refine lv_aload_n hx hb d_RE_closeBlock_51 rfl (lv_at hl 1 rfl) ?_
      refine va_get (D := (dC, dI)) (ci := 7) (v := .ref ac) (C := R_RE) (T := F_RE) (N := 8) hx hb hts i_RE hown hK hP 0 rfl rfl 1 (by decide) (hts _ kF_RE_25) (fun _ h9 => h9) rfl d_RE_closeBlock_52 ?_
      refine va_get (D := (dC, dI)) (ci := 3) (v := .ref cpt) (C := R_CD) (T := F_CD) (N := 10) hx hb hts i_CD hown hK hP 1 rfl rfl 6 (by decide) (hts _ kF_RE_200) (fun _ h9 => h9) rfl d_RE_closeBlock_55 ?_
      refine lv_aload_n hx hb d_RE_closeBlock_58 rfl (lv_at hl 1 rfl) ?_
      refine va_get (D := (dC, dI)) (ci := 7) (v := .ref ac) (C := R_RE) (T := F_RE) (N := 8) hx hb hts i_RE hown hK hP 0 rfl rfl 1 (by decide) (hts _ kF_RE_25) (fun _ h9 => h9) rfl d_RE_closeBlock_59 ?_
      refine va_get (D := (dC, dI)) (ci := 3) (v := .ref cel) (C := R_CD) (T := F_CD) (N := 10) hx hb hts i_CD hown hK hP 1 rfl rfl 7 (by decide) (hts _ kF_RE_203) (fun _ h9 => h9) rfl d_RE_closeBlock_62 ?_
      refine lv_iload_n hx hb d_RE_closeBlock_65 rfl (lv_at hl 0 rfl) ?_
      have g66 : vp_in x2 5000 := vp_in_iff.mpr ⟨by (first | (apply Int.le_antisymm <;> omega) | omega), by (first | (apply Int.le_antisymm <;> omega) | omega)⟩
      refine va_iald hx hb hK hP 4 2 rfl rfl g66 d_RE_closeBlock_66 ?_
      refine lv_topi (fun x5 ex5 => ?_)
      have g66 : x5 = (gcel (gob (h0_openCount.toNatClampNeg - 1)).toNatClampNeg) := by rw [ex5, g17]
      have h66 : x5.toInt = x4.toInt := by rw [g66, g47]
      have z66 := congrArg Int32.toNatClampNeg g66
      refine lv_iload_n hx hb d_RE_closeBlock_67 rfl (lv_at hl 2 rfl) ?_
      have g68 : vp_in x5 5000 := vp_in_iff.mpr ⟨by (first | (apply Int.le_antisymm <;> omega) | omega), by (first | (apply Int.le_antisymm <;> omega) | omega)⟩
      refine va_iast hx hb hK hP hD hS 3 1 rfl rfl g68 d_RE_closeBlock_68 (fun H locs hP hD hS => ?_)
      generalize ef6 : upd f3 x5.toNatClampNeg p0 = f6 at hP hD
      refine lv_iconst (v := 1) hx hb d_RE_closeBlock_69 (by decide) ?_
      have hP9 := hP.sb (wq := (wz_235 h0 aw ac h0_at h0_limit h0_sound h0_codeCount ob x1 ac cfi clk clt ac_length cop cva cpt cel ac_labelCount cla ob cob gob cpt ccpt f6 cel ccel gcel)) [0, 1, 2, 3, 4] rfl
      have hD9 := hD.sb (wq := (wz_235 h0 aw ac h0_at h0_limit h0_sound h0_codeCount ob x1 ac cfi clk clt ac_length cop cva cpt cel ac_labelCount cla ob cob gob cpt ccpt f6 cel ccel gcel)) [0, 1, 2, 3, 4] (by decide) rfl
      exact W.zret (v := 1) hx hb hr (zn01 (Or.inr rfl)) (fun t ht hW => ⟨⟨1, (f6, x1), rfl, ⟨Or.inr rfl, by (try dsimp only) <;> (first | (apply Int.le_antisymm <;> omega) | omega), ⟨fun z => absurd z (by decide), fun _ => ⟨by (first | (apply Int.le_antisymm <;> omega) | omega), by (try dsimp only) <;> (first | (apply Int.le_antisymm <;> omega) | omega), by rw [if_pos (by rw [← g47]; (first | (apply Int.le_antisymm <;> omega) | omega)), ← ef6, ← ef3, g17, g66]⟩⟩⟩, va_P.he ht.symm hP9, va_K.moved hW.alike hK, hD9⟩, hS.F ht⟩) hS.2.2 d_RE_closeBlock_70
  · have q4 := eqI c4
    refine lv_iconst (v := 0) hx hb d_RE_closeBlock_7 (by decide) ?_
    have hP9 := hP.sb (wq := (wz_235 h0 aw ac h0_at h0_limit h0_sound h0_codeCount ob h0_openCount ac cfi clk clt ac_length cop cva cpt cel ac_labelCount cla ob cob gob cpt ccpt gcpt cel ccel gcel)) [0, 1, 2, 3, 4] rfl
    have hD9 := hD.sb (wq := (wz_235 h0 aw ac h0_at h0_limit h0_sound h0_codeCount ob h0_openCount ac cfi clk clt ac_length cop cva cpt cel ac_labelCount cla ob cob gob cpt ccpt gcpt cel ccel gcel)) [0, 1, 2, 3, 4] (by decide) rfl
    exact W.zret (v := 0) hx hb hr (zn01 (Or.inl rfl)) (fun t ht hW => ⟨⟨0, (gcpt, h0_openCount), rfl, ⟨Or.inl rfl, b_h0_openCount, ⟨fun _ => ⟨by (first | (apply Int.le_antisymm <;> omega) | omega), rfl, rfl⟩, fun z => absurd z (by decide)⟩⟩, va_P.he ht.symm hP9, va_K.moved hW.alike hK, hD9⟩, hS.F ht⟩) hS.2.2 d_RE_closeBlock_8
abbrev at_RE_readOtherx (dC : Nat → ClassId) (dI : Nat → Nat → Nat) (h0 aw ac ob ab wat wap wag waf wgt wft wfv wgc wek wei wes wez ax cfi clk clt cop cva cpt cel cla : Nat) (cax ccva ccpt : ClassId) (h0_limit : Int32) (h0_codeCount : Int32) (h0_openCount : Int32) (aw_typeCount : Int32) (aw_functionCount : Int32) (aw_hasMemory : Int32) (aw_pagesLeast : Int64) (aw_pagesMost : Int64) (aw_globalCount : Int32) (aw_exportCount : Int32) (ab_length : Int32) (ac_length : Int32) (ac_labelCount : Int32) (gax : Nat → Int32) (A : Nat → Prop) (u : (Nat → Int32) × (Nat → Int64) × Int32 × Int32) (t : State) : Prop := match u with | (gcpt, gcva, h0_at, h0_sound) => va_P (dC, dI) cls (wz_236 h0 aw ac h0_at h0_limit h0_sound h0_codeCount ob h0_openCount aw ab ac aw_typeCount wat wap wag aw_functionCount waf aw_hasMemory aw_pagesLeast aw_pagesMost aw_globalCount wgt wft wfv wgc aw_exportCount wek wei wes wez ab ax ab_length ac cfi clk clt ac_length cop cva cpt cel ac_labelCount cla ax cax gax cva ccva gcva cpt ccpt gcpt) t.heap ∧ va_K (dC, dI) cls [(cax, .byte), (ccva, .long), (ccpt, .int)] t ∧ va_D A (wz_236 h0 aw ac h0_at h0_limit h0_sound h0_codeCount ob h0_openCount aw ab ac aw_typeCount wat wap wag aw_functionCount waf aw_hasMemory aw_pagesLeast aw_pagesMost aw_globalCount wgt wft wfv wgc aw_exportCount wek wei wes wez ab ax ab_length ac cfi clk clt ac_length cop cva cpt cel ac_labelCount cla ax cax gax cva ccva gcva cpt ccpt gcpt)
set_option maxHeartbeats 4000000 in
set_option maxRecDepth 100000 in
theorem c_RE_readOtherx (l : Launch) (dC : Nat → ClassId) (dI : Nat → Nat → Nat) (sz : Nat) (h0 aw ac ob ab wat wap wag waf wgt wft wfv wgc wek wei wes wez ax cfi clk clt cop cva cpt cel cla : Nat) (cax ccva ccpt : ClassId) (h0_at : Int32) (h0_limit : Int32) (h0_sound : Int32) (h0_codeCount : Int32) (h0_openCount : Int32) (aw_typeCount : Int32) (aw_functionCount : Int32) (aw_hasMemory : Int32) (aw_pagesLeast : Int64) (aw_pagesMost : Int64) (aw_globalCount : Int32) (aw_exportCount : Int32) (ab_length : Int32) (ac_length : Int32) (ac_labelCount : Int32) (gax : Nat → Int32) (gcva : Nat → Int64) (gcpt : Nat → Int32) (gv : Nat)  (b_h0_sound : h0_sound = 0 ∨ h0_sound = 1) (p0 : Int32) (p1 : Int32)  (hs : h0_sound.toInt = 1) (ha : 0 ≤ h0_at.toInt ∧ h0_limit.toInt ≤ ab_length.toInt ∧ ab_length.toInt ≤ 8192) (hp : 0 ≤ p0.toInt ∧ p0.toInt < 5000) (hk : (p1.toInt = 44 ∨ p1.toInt = 45 ∨ p1.toInt = 58 ∨ p1.toInt = 40 ∨ p1.toInt = 54 ∨ p1.toInt = 41 ∨ p1.toInt = 55) ∨ (p1.toInt = 0 ∨ p1.toInt = 15 ∨ p1.toInt = 26 ∨ (69 ≤ p1.toInt ∧ p1.toInt ≤ 90) ∨ (103 ≤ p1.toInt ∧ p1.toInt ≤ 138) ∨ p1.toInt = 167 ∨ p1.toInt = 172)) (hv : gv < 128) (hbq : (p1.toInt = 44 ∨ p1.toInt = 45 ∨ p1.toInt = 58 ∨ p1.toInt = 40 ∨ p1.toInt = 54 ∨ p1.toInt = 41 ∨ p1.toInt = 55) → bn (gax h0_at.toNatClampNeg) = gv ∧ bn (gax (h0_at.toNatClampNeg + 1)) = 0) (hl : (p1.toInt = 44 ∨ p1.toInt = 45 ∨ p1.toInt = 58 ∨ p1.toInt = 40 ∨ p1.toInt = 54 ∨ p1.toInt = 41 ∨ p1.toInt = 55) → h0_at.toInt + 2 ≤ h0_limit.toInt) : Met l y_RE_readOther w_RE_readOther ({ frames := 2, cells := 0, slots := 0, locals := 46 }) (va_Pc [.ref h0, .int p0, .int p1] (fun U => U.heap.size = sz ∧ va_P (dC, dI) cls (wz_236 h0 aw ac h0_at h0_limit h0_sound h0_codeCount ob h0_openCount aw ab ac aw_typeCount wat wap wag aw_functionCount waf aw_hasMemory aw_pagesLeast aw_pagesMost aw_globalCount wgt wft wfv wgc aw_exportCount wek wei wes wez ab ax ab_length ac cfi clk clt ac_length cop cva cpt cel ac_labelCount cla ax cax gax cva ccva gcva cpt ccpt gcpt) U.heap ∧ va_K (dC, dI) cls [(cax, .byte), (ccva, .long), (ccpt, .int)] U ∧ va_D (fun _ => True) (wz_236 h0 aw ac h0_at h0_limit h0_sound h0_codeCount ob h0_openCount aw ab ac aw_typeCount wat wap wag aw_functionCount waf aw_hasMemory aw_pagesLeast aw_pagesMost aw_globalCount wgt wft wfv wgc aw_exportCount wek wei wes wez ab ax ab_length ac cfi clk clt ac_length cop cva cpt cel ac_labelCount cla ax cax gax cva ccva gcva cpt ccpt gcpt))) (va_Qv (fun (u : (Nat → Int32) × (Nat → Int64) × Int32 × Int32) => match u with | (gcpt2, gcva2, h0_at2, h0_sound2) => (h0_sound2 = 0 ∨ h0_sound2 = 1) ∧ (h0_sound2.toInt = 1 ∧ ((p1.toInt = 44 ∨ p1.toInt = 45 ∨ p1.toInt = 58 ∨ p1.toInt = 40 ∨ p1.toInt = 54 ∨ p1.toInt = 41 ∨ p1.toInt = 55) → h0_at2.toInt = h0_at.toInt + 2 ∧ ∃ (b : Int32) (x : Int64), 0 ≤ b.toInt ∧ x.toInt = 0 ∧ gcpt2 = upd gcpt p0.toNatClampNeg b ∧ gcva2 = vp_updL gcva p0.toNatClampNeg x) ∧ ((p1.toInt = 0 ∨ p1.toInt = 15 ∨ p1.toInt = 26 ∨ (69 ≤ p1.toInt ∧ p1.toInt ≤ 90) ∨ (103 ≤ p1.toInt ∧ p1.toInt ≤ 138) ∨ p1.toInt = 167 ∨ p1.toInt = 172) → h0_at2 = h0_at ∧ gcpt2 = gcpt ∧ gcva2 = gcva))) (at_RE_readOtherx dC dI h0 aw ac ob ab wat wap wag waf wgt wft wfv wgc wek wei wes wez ax cfi clk clt cop cva cpt cel cla cax ccva ccpt h0_limit h0_codeCount h0_openCount aw_typeCount aw_functionCount aw_hasMemory aw_pagesLeast aw_pagesMost aw_globalCount aw_exportCount ab_length ac_length ac_labelCount gax (va_A (wz_236 h0 aw ac h0_at h0_limit h0_sound h0_codeCount ob h0_openCount aw ab ac aw_typeCount wat wap wag aw_functionCount waf aw_hasMemory aw_pagesLeast aw_pagesMost aw_globalCount wgt wft wfv wgc aw_exportCount wek wei wes wez ab ax ab_length ac cfi clk clt ac_length cop cva cpt cel ac_labelCount cla ax cax gax cva ccva gcva cpt ccpt gcpt) sz)) (va_A (wz_236 h0 aw ac h0_at h0_limit h0_sound h0_codeCount ob h0_openCount aw ab ac aw_typeCount wat wap wag aw_functionCount waf aw_hasMemory aw_pagesLeast aw_pagesMost aw_globalCount wgt wft wfv wgc aw_exportCount wek wei wes wez ab ax ab_length ac cfi clk clt ac_length cop cva cpt cel ac_labelCount cla ax cax gax cva ccva gcva cpt ccpt gcpt) sz)) 0 0 (va_A (wz_236 h0 aw ac h0_at h0_limit h0_sound h0_codeCount ob h0_openCount aw ab ac aw_typeCount wat wap wag aw_functionCount waf aw_hasMemory aw_pagesLeast aw_pagesMost aw_globalCount wgt wft wfv wgc aw_exportCount wek wei wes wez ab ax ab_length ac cfi clk clt ac_length cop cva cpt cel ac_labelCount cla ax cax gax cva ccva gcva cpt ccpt gcpt) sz) := by
  refine Met.ofW (cc := b_RE_readOther) (maxL := 3) (ret := none) (by decide) rfl ?_
  intro p e s m args below meth c s₁ B hml hv
  obtain ⟨rfl, hsz, hP, hK, hD0⟩ := hv
  have hx := B.exec
  have hb := B.bytes
  have hr := B.returns
  have hts0 := atoms_spec (ws := w_RE_readOther) B.pre
  have hts : ∀ w ∈ lw_g, w.before _ s = true := fun w h => hts0 w (List.mem_cons_of_mem _ h)
  have hown : s.vm.findClass R_RE = some m.cls := findClass_of_methodNamed B.named
  have hlocks := B.notSynchronized
  clear hts0
  subst hsz
  have hD := hD0.self (sz := s.heap.size)
  generalize hAe : va_A (wz_236 h0 aw ac h0_at h0_limit h0_sound h0_codeCount ob h0_openCount aw ab ac aw_typeCount wat wap wag aw_functionCount waf aw_hasMemory aw_pagesLeast aw_pagesMost aw_globalCount wgt wft wfv wgc aw_exportCount wek wei wes wez ab ax ab_length ac cfi clk clt ac_length cop cva cpt cel ac_labelCount cla ax cax gax cva ccva gcva cpt ccpt gcpt) s.heap.size = A at hD ⊢
  have hA : ∀ q : Nat, s.heap.size ≤ q → A q := fun q h => by rw [← hAe]; exact Or.inr h
  clear hAe
  have hP : va_P (dC, dI) cls (wz_236 h0 aw ac h0_at h0_limit h0_sound h0_codeCount ob h0_openCount aw ab ac aw_typeCount wat wap wag aw_functionCount waf aw_hasMemory aw_pagesLeast aw_pagesMost aw_globalCount wgt wft wfv wgc aw_exportCount wek wei wes wez ab ax ab_length ac cfi clk clt ac_length cop cva cpt cel ac_labelCount cla ax cax gax cva ccva gcva cpt ccpt gcpt) s.heap := hP
  have hl := lv_entry ([.ref h0, .int p0, .int p1]) (n := 3) (Nat.le_of_ble_eq_true rfl)
  rw [lg_entry_eq]
  generalize (lg_sl ([.ref h0, .int p0, .int p1]) ++ List.replicate (3 - (lg_sl ([.ref h0, .int p0, .int p1])).length) Slot.unset).toArray = ls at hl ⊢
  have hl : lv_has ls 3 [(0, .ref h0), (1, .int p0), (2, .int p1)] := hl
  have k0 : (0 : Int32).toInt = 0 := by decide
  refine w_gen (A := A) hP (fun H locs hP hS => ?_)
  have k1 : (1 : Int32).toInt = 1 := by decide
  have k15 : (15 : Int32).toInt = 15 := by decide
  have k26 : (26 : Int32).toInt = 26 := by decide
  have k27 : (27 : Int32).toInt = 27 := by decide
  have lo_p0 := i32_lo p0
  have hi_p0 := i32_hi p0
  have lo_p1 := i32_lo p1
  have hi_p1 := i32_hi p1
  have th0_sound := b01 b_h0_sound
  have za := i32_clamp (x := h0_at) (by (first | (apply Int.le_antisymm <;> omega) | omega))
  have ba : (p1.toInt = 44 ∨ p1.toInt = 45 ∨ p1.toInt = 58 ∨ p1.toInt = 40 ∨ p1.toInt = 54 ∨ p1.toInt = 41 ∨ p1.toInt = 55) → bq gax h0_at.toNatClampNeg (leb 5 gv) ∧ bq gax (h0_at.toNatClampNeg + 1) (leb 5 0) ∧ (leb 5 gv).length = 1 := fun z => by have q := hbq z; rw [leb_1 (by (first | (apply Int.le_antisymm <;> omega) | omega))]; exact ⟨⟨q.1, trivial⟩, ⟨q.2, trivial⟩, rfl⟩
  replace ba : bx _ := ba
  clear hbq
  have l0 : (leb 5 0).length = 1 := by decide
  refine lv_iload_n hx hb d_RE_readOther_0 rfl (lv_at hl 2 rfl) ?_
  have hPc := hP.sb (wq := []) [] rfl
  have hDc := hD.sb (wq := []) [] (by decide) rfl
  have hKc := hK.sb (tyq := []) [] rfl
  have hFc := va_free (wc := []) hD hS hA [] rfl
  refine va_calli (va_runS (As := [.int p1]) (rest := []) ⟨hx, hb, hml, hown, hts⟩ (c_CD_isAccess l dC dI H.size p1) ⟨callB_of 1 hts (gW kC_CD_isAccess) rfl rfl rfl (hts _ kI_CD) (hts _ kM_RE_231) (by decide +kernel) ⟨Nat.le_of_ble_eq_true rfl, Nat.le_of_ble_eq_true rfl⟩, hts _ kT_CD_isAccess⟩ ⟨fun a U g mk z => by obtain ⟨z0, z1, zP, zK, zD⟩ := z; exact ⟨z0, z1, zP, va_K.moved (u := U) (U := U.calling g mk a) (Vm.Alike.refl U.vm) zK, zD⟩, fun U hU hW => ⟨rfl, by rw [hU], va_P.he hU.symm hPc, va_K.moved hW.alike hKc, hDc.weaken (fun _ _ _ _ => trivial)⟩⟩ rfl rfl hl.1 rfl (lv_room (Nat.le_of_ble_eq_true rfl)) d_RE_readOther_1 ⟨(Nat.zero_le _), (Nat.zero_le _)⟩) hS (fun q _ h => hFc q h) hFc (fun r1 u t H1 locs ht hvm hw hB hz1 hk1 hS => ?_)
  try dsimp only at hw
  have tr1 := hw
  obtain ⟨hP1, hK1, hD1⟩ := hB
  replace hP1 := va_P.he ht hP1
  obtain ⟨hP, hD⟩ := va_join (wr := (wz_236 h0 aw ac h0_at h0_limit h0_sound h0_codeCount ob h0_openCount aw ab ac aw_typeCount wat wap wag aw_functionCount waf aw_hasMemory aw_pagesLeast aw_pagesMost aw_globalCount wgt wft wfv wgc aw_exportCount wek wei wes wez ab ax ab_length ac cfi clk clt ac_length cop cva cpt cel ac_labelCount cla ax cax gax cva ccva gcva cpt ccpt gcpt)) (w1 := []) hP hD [] [0, 1, 2, 3, 4, 5, 6] rfl rfl (by decide) (by decide) hk1 hFc hP1 hD1
  clear hPc hDc hKc hFc hz1 hk1 hP1 hK1 hD1
  rename Heap => H
  have hP : va_P (dC, dI) cls (wz_236 h0 aw ac h0_at h0_limit h0_sound h0_codeCount ob h0_openCount aw ab ac aw_typeCount wat wap wag aw_functionCount waf aw_hasMemory aw_pagesLeast aw_pagesMost aw_globalCount wgt wft wfv wgc aw_exportCount wek wei wes wez ab ax ab_length ac cfi clk clt ac_length cop cva cpt cel ac_labelCount cla ax cax gax cva ccva gcva cpt ccpt gcpt) H := hP
  have hD : va_D A (wz_236 h0 aw ac h0_at h0_limit h0_sound h0_codeCount ob h0_openCount aw ab ac aw_typeCount wat wap wag aw_functionCount waf aw_hasMemory aw_pagesLeast aw_pagesMost aw_globalCount wgt wft wfv wgc aw_exportCount wek wei wes wez ab ax ab_length ac cfi clk clt ac_length cop cva cpt cel ac_labelCount cla ax cax gax cva ccva gcva cpt ccpt gcpt) := hD
  refine lv_if_eq (tgt := 43) hx hb d_RE_readOther_4 (by decide) (fun c4 => ?_) (fun c4 => ?_)
  · have q4 := eqI c4
    refine lv_aload_n hx hb d_RE_readOther_43 rfl (lv_at hl 0 rfl) ?_
    refine lv_iload_n hx hb d_RE_readOther_44 rfl (lv_at hl 2 rfl) ?_
    have hPc := hP.sb (wq := []) [] rfl
    have hDc := hD.sb (wq := []) [] (by decide) rfl
    have hKc := hK.sb (tyq := []) [] rfl
    have hFc := va_free (wc := []) hD hS hA [] rfl
    refine va_calli (va_runS (As := [.int p1]) (rest := [.ref h0]) ⟨hx, hb, hml, hown, hts⟩ (c_CD_isNumeric l dC dI H.size p1) ⟨callB_of 1 hts (gW kC_CD_isNumeric) rfl rfl rfl (hts _ kI_CD) (hts _ kM_RE_234) (by decide +kernel) ⟨Nat.le_of_ble_eq_true rfl, Nat.le_of_ble_eq_true rfl⟩, hts _ kT_CD_isNumeric⟩ ⟨fun a U g mk z => by obtain ⟨z0, z1, zP, zK, zD⟩ := z; exact ⟨z0, z1, zP, va_K.moved (u := U) (U := U.calling g mk a) (Vm.Alike.refl U.vm) zK, zD⟩, fun U hU hW => ⟨rfl, by rw [hU], va_P.he hU.symm hPc, va_K.moved hW.alike hKc, hDc.weaken (fun _ _ _ _ => trivial)⟩⟩ rfl rfl hl.1 rfl (lv_room (Nat.le_of_ble_eq_true rfl)) d_RE_readOther_45 ⟨(Nat.zero_le _), (Nat.zero_le _)⟩) hS (fun q _ h => hFc q h) hFc (fun r2 u t H1 locs ht hvm hw hB hz1 hk1 hS => ?_)
    try dsimp only at hw
    have tr2 := hw
    obtain ⟨hP1, hK1, hD1⟩ := hB
    replace hP1 := va_P.he ht hP1
    obtain ⟨hP, hD⟩ := va_join (wr := (wz_236 h0 aw ac h0_at h0_limit h0_sound h0_codeCount ob h0_openCount aw ab ac aw_typeCount wat wap wag aw_functionCount waf aw_hasMemory aw_pagesLeast aw_pagesMost aw_globalCount wgt wft wfv wgc aw_exportCount wek wei wes wez ab ax ab_length ac cfi clk clt ac_length cop cva cpt cel ac_labelCount cla ax cax gax cva ccva gcva cpt ccpt gcpt)) (w1 := []) hP hD [] [0, 1, 2, 3, 4, 5, 6] rfl rfl (by decide) (by decide) hk1 hFc hP1 hD1
    clear hPc hDc hKc hFc hz1 hk1 hP1 hK1 hD1
    rename Heap => H
    have hP : va_P (dC, dI) cls (wz_236 h0 aw ac h0_at h0_limit h0_sound h0_codeCount ob h0_openCount aw ab ac aw_typeCount wat wap wag aw_functionCount waf aw_hasMemory aw_pagesLeast aw_pagesMost aw_globalCount wgt wft wfv wgc aw_exportCount wek wei wes wez ab ax ab_length ac cfi clk clt ac_length cop cva cpt cel ac_labelCount cla ax cax gax cva ccva gcva cpt ccpt gcpt) H := hP
    have hD : va_D A (wz_236 h0 aw ac h0_at h0_limit h0_sound h0_codeCount ob h0_openCount aw ab ac aw_typeCount wat wap wag aw_functionCount waf aw_hasMemory aw_pagesLeast aw_pagesMost aw_globalCount wgt wft wfv wgc aw_exportCount wek wei wes wez ab ax ab_length ac cfi clk clt ac_length cop cva cpt cel ac_labelCount cla ax cax gax cva ccva gcva cpt ccpt gcpt) := hD
    refine w_cut (pc2 := 83) (σ := Int32) (fun u H locs ls => match u with | j83_s0 => (j83_s0 = 0 ∨ j83_s0 = 1) ∧ (j83_s0.toInt = 1) ∧ va_P (dC, dI) cls (wz_236 h0 aw ac h0_at h0_limit h0_sound h0_codeCount ob h0_openCount aw ab ac aw_typeCount wat wap wag aw_functionCount waf aw_hasMemory aw_pagesLeast aw_pagesMost aw_globalCount wgt wft wfv wgc aw_exportCount wek wei wes wez ab ax ab_length ac cfi clk clt ac_length cop cva cpt cel ac_labelCount cla ax cax gax cva ccva gcva cpt ccpt gcpt) H ∧ va_D A (wz_236 h0 aw ac h0_at h0_limit h0_sound h0_codeCount ob h0_openCount aw ab ac aw_typeCount wat wap wag aw_functionCount waf aw_hasMemory aw_pagesLeast aw_pagesMost aw_globalCount wgt wft wfv wgc aw_exportCount wek wei wes wez ab ax ab_length ac cfi clk clt ac_length cop cva cpt cel ac_labelCount cla ax cax gax cva ccva gcva cpt ccpt gcpt) ∧ va_S A s.heap H locs ∧ lv_has ls 3 []) (fun u => match u with | j83_s0 => [.int j83_s0, .ref h0]) ?_ (fun jn83 => ?_)
    · intro u H locs ls hI
      obtain ⟨j83_s0, rfl⟩ : ∃ z, z = u := ⟨_, rfl⟩
      obtain ⟨b_j83_s0, y83, hP, hD, hS, hl⟩ := hI
      have tj83_s0 := b01 b_j83_s0
      refine va_put (D := (dC, dI)) (ci := 7) (v := .int j83_s0) (ty := .boolean) (C := R_RE) (T := F_RE) (N := 8) hx hb hts i_RE t_RE t_RE_ok n_RE hown hK hP hD hS 0 rfl rfl 4 (by decide) (hts _ kF_RE_45) (fun _ h9 => h9) rfl (by decide +kernel) (zn01 (b_j83_s0)) (fz01 (b_j83_s0)) (Nat.le_of_ble_eq_true rfl) d_RE_readOther_83 (fun H locs hP hD hS => ?_)
      have hP9 := hP.sb (wq := (wz_236 h0 aw ac h0_at h0_limit j83_s0 h0_codeCount ob h0_openCount aw ab ac aw_typeCount wat wap wag aw_functionCount waf aw_hasMemory aw_pagesLeast aw_pagesMost aw_globalCount wgt wft wfv wgc aw_exportCount wek wei wes wez ab ax ab_length ac cfi clk clt ac_length cop cva cpt cel ac_labelCount cla ax cax gax cva ccva gcva cpt ccpt gcpt)) [0, 1, 2, 3, 4, 5, 6] rfl
      have hD9 := hD.sb (wq := (wz_236 h0 aw ac h0_at h0_limit j83_s0 h0_codeCount ob h0_openCount aw ab ac aw_typeCount wat wap wag aw_functionCount waf aw_hasMemory aw_pagesLeast aw_pagesMost aw_globalCount wgt wft wfv wgc aw_exportCount wek wei wes wez ab ax ab_length ac cfi clk clt ac_length cop cva cpt cel ac_labelCount cla ax cax gax cva ccva gcva cpt ccpt gcpt)) [0, 1, 2, 3, 4, 5, 6] (by decide) rfl
      exact W.vret hx hb hr (fun t ht hW => ⟨⟨(gcpt, gcva, h0_at, j83_s0), rfl, ⟨b_j83_s0, ⟨by (try dsimp only) <;> (first | (apply Int.le_antisymm <;> omega) | omega), fun z => absurd z (by (first | (apply Int.le_antisymm <;> omega) | omega)), fun _ => ⟨rfl, rfl, rfl⟩⟩⟩, va_P.he ht.symm hP9, va_K.moved hW.alike hK, hD9⟩, hS.F ht⟩) hS.2.2 d_RE_readOther_86
    · skip
      refine w_cut (pc2 := 78) (σ := Unit) (fun u H locs ls => match u with | _ => va_P (dC, dI) cls (wz_236 h0 aw ac h0_at h0_limit h0_sound h0_codeCount ob h0_openCount aw ab ac aw_typeCount wat wap wag aw_functionCount waf aw_hasMemory aw_pagesLeast aw_pagesMost aw_globalCount wgt wft wfv wgc aw_exportCount wek wei wes wez ab ax ab_length ac cfi clk clt ac_length cop cva cpt cel ac_labelCount cla ax cax gax cva ccva gcva cpt ccpt gcpt) H ∧ va_D A (wz_236 h0 aw ac h0_at h0_limit h0_sound h0_codeCount ob h0_openCount aw ab ac aw_typeCount wat wap wag aw_functionCount waf aw_hasMemory aw_pagesLeast aw_pagesMost aw_globalCount wgt wft wfv wgc aw_exportCount wek wei wes wez ab ax ab_length ac cfi clk clt ac_length cop cva cpt cel ac_labelCount cla ax cax gax cva ccva gcva cpt ccpt gcpt) ∧ va_S A s.heap H locs ∧ lv_has ls 3 []) (fun u => match u with | _ => [.ref h0]) ?_ (fun jn78 => ?_)
      · intro u H locs ls hI
        obtain ⟨hP, hD, hS, hl⟩ := hI
        refine lv_iconst (v := 1) hx hb d_RE_readOther_78 (by decide) ?_
        refine lv_goto (tgt := 83) hx hb d_RE_readOther_79 (by decide) ?_
        exact jn83 1 _ _ _ ⟨Or.inr rfl, by decide, hP, hD, hS, lv_sub hl [] rfl⟩
      · skip
        refine lv_if_ne (tgt := 78) hx hb d_RE_readOther_48 (by decide) (fun c48 => ?_) (fun c48 => ?_)
        · have q48 := neI c48
          exact jn78 () _ _ _ ⟨hP, hD, hS, lv_sub hl [] rfl⟩
        · have q48 := eqI c48
          refine lv_iload_n hx hb d_RE_readOther_51 rfl (lv_at hl 2 rfl) ?_
          refine lv_if_eq (tgt := 78) hx hb d_RE_readOther_52 (by decide) (fun c52 => ?_) (fun c52 => ?_)
          · have q52 := eqI c52
            exact jn78 () _ _ _ ⟨hP, hD, hS, lv_sub hl [] rfl⟩
          · have q52 := neI c52
            refine lv_iload_n hx hb d_RE_readOther_55 rfl (lv_at hl 2 rfl) ?_
            refine lv_iconst (v := 1) hx hb d_RE_readOther_56 (by decide) ?_
            refine lv_icmp_eq (tgt := 78) hx hb d_RE_readOther_57 (by decide) (fun c57 => ?_) (fun c57 => ?_)
            · have q57 := eqI c57
              exact jn78 () _ _ _ ⟨hP, hD, hS, lv_sub hl [] rfl⟩
            · have q57 := neI c57
              refine lv_iload_n hx hb d_RE_readOther_60 rfl (lv_at hl 2 rfl) ?_
              refine lv_bipush (v := 15) hx hb d_RE_readOther_61 (by decide) ?_
              refine lv_icmp_eq (tgt := 78) hx hb d_RE_readOther_63 (by decide) (fun c63 => ?_) (fun c63 => ?_)
              · have q63 := eqI c63
                exact jn78 () _ _ _ ⟨hP, hD, hS, lv_sub hl [] rfl⟩
              · have q63 := neI c63
                refine lv_iload_n hx hb d_RE_readOther_66 rfl (lv_at hl 2 rfl) ?_
                refine lv_bipush (v := 26) hx hb d_RE_readOther_67 (by decide) ?_
                refine lv_icmp_eq (tgt := 78) hx hb d_RE_readOther_69 (by decide) (fun c69 => ?_) (fun c69 => ?_)
                · have q69 := eqI c69
                  exact jn78 () _ _ _ ⟨hP, hD, hS, lv_sub hl [] rfl⟩
                · have q69 := neI c69
                  refine lv_iload_n hx hb d_RE_readOther_72 rfl (lv_at hl 2 rfl) ?_
                  refine lv_bipush (v := 27) hx hb d_RE_readOther_73 (by decide) ?_
                  refine lv_icmp_ne (tgt := 82) hx hb d_RE_readOther_75 (by decide) (fun c75 => ?_) (fun c75 => ?_)
                  · have q75 := neI c75
                    refine lv_iconst (v := 0) hx hb d_RE_readOther_82 (by decide) ?_
                    exact jn83 0 _ _ _ ⟨Or.inl rfl, by exfalso; (first | (apply Int.le_antisymm <;> omega) | omega), hP, hD, hS, lv_sub hl [] rfl⟩
                  · have q75 := eqI c75
                    exact jn78 () _ _ _ ⟨hP, hD, hS, lv_sub hl [] rfl⟩
  · have q4 := neI c4
    have k7 := ba.out (by (first | (apply Int.le_antisymm <;> omega) | omega))
    refine lv_aload_n hx hb d_RE_readOther_7 rfl (lv_at hl 0 rfl) ?_
    refine va_get (D := (dC, dI)) (ci := 7) (v := .ref ac) (C := R_RE) (T := F_RE) (N := 8) hx hb hts i_RE hown hK hP 0 rfl rfl 1 (by decide) (hts _ kF_RE_25) (fun _ h9 => h9) rfl d_RE_readOther_8 ?_
    refine va_get (D := (dC, dI)) (ci := 3) (v := .ref cpt) (C := R_CD) (T := F_CD) (N := 10) hx hb hts i_CD hown hK hP 3 rfl rfl 6 (by decide) (hts _ kF_RE_200) (fun _ h9 => h9) rfl d_RE_readOther_11 ?_
    refine lv_iload_n hx hb d_RE_readOther_14 rfl (lv_at hl 1 rfl) ?_
    refine lv_aload_n hx hb d_RE_readOther_15 rfl (lv_at hl 0 rfl) ?_
    refine lv_ldc2 hx hb hown (hts _ kL_RE_82) d_RE_readOther_16 ?_
    refine lv_topl (fun x3 ex3 => ?_)
    have tx3 : x3.toInt = 2147483647 := by rw [ex3]; decide
    have hPc := hP.sb (wq := (wz_46 h0 aw ac h0_at h0_limit h0_sound h0_codeCount ob h0_openCount aw ab ac aw_typeCount wat wap wag aw_functionCount waf aw_hasMemory aw_pagesLeast aw_pagesMost aw_globalCount wgt wft wfv wgc aw_exportCount wek wei wes wez ab ax ab_length ax cax gax)) [0, 1, 2, 4] rfl
    have hDc := hD.sb (wq := (wz_46 h0 aw ac h0_at h0_limit h0_sound h0_codeCount ob h0_openCount aw ab ac aw_typeCount wat wap wag aw_functionCount waf aw_hasMemory aw_pagesLeast aw_pagesMost aw_globalCount wgt wft wfv wgc aw_exportCount wek wei wes wez ab ax ab_length ax cax gax)) [0, 1, 2, 4] (by decide) rfl
    have hKc := hK.sb (tyq := [(cax, .byte)]) [0] rfl
    have hFc := va_free (wc := (wz_46 h0 aw ac h0_at h0_limit h0_sound h0_codeCount ob h0_openCount aw ab ac aw_typeCount wat wap wag aw_functionCount waf aw_hasMemory aw_pagesLeast aw_pagesMost aw_globalCount wgt wft wfv wgc aw_exportCount wek wei wes wez ab ax ab_length ax cax gax)) hD hS hA [0, 1, 2, 4] rfl
    refine va_calll (va_runV (As := [.long x3]) (rest := [.int p0, .ref cpt]) ⟨hx, hb, hml, hown, hts⟩ (c_RE_readUnsignedx l dC dI H.size h0 aw ac ob ab wat wap wag waf wgt wft wfv wgc wek wei wes wez ax cax h0_at h0_limit h0_sound h0_codeCount h0_openCount aw_typeCount aw_functionCount aw_hasMemory aw_pagesLeast aw_pagesMost aw_globalCount aw_exportCount ab_length gax gv (b_h0_sound) x3 (by (first | (apply Int.le_antisymm <;> omega) | omega)) (by (first | (apply Int.le_antisymm <;> omega) | omega)) (by (first | (apply Int.le_antisymm <;> omega) | omega)) (k7.1) (by (first | (apply Int.le_antisymm <;> omega) | omega))) (cwV 1 hts (gV kM_RE_64 kV_RE_readUnsigned kS_RE_readUnsigned kI_RE kC_RE_readUnsigned) rfl rfl rfl (by decide +kernel) ⟨Nat.le_of_ble_eq_true rfl, Nat.le_of_ble_eq_true rfl⟩) ⟨fun a U g mk z => by obtain ⟨z0, z1, zP, zK, zD⟩ := z; exact ⟨z0, z1, zP, va_K.moved (u := U) (U := U.calling g mk a) (Vm.Alike.refl U.vm) zK, zD⟩, va_recv hKc hPc (ci := 7) (q0 := 0) rfl rfl, fun U hU hW => ⟨rfl, by rw [hU], va_P.he hU.symm hPc, va_K.moved hW.alike hKc, hDc.weaken (fun _ _ _ _ => trivial)⟩⟩ rfl rfl hl.1 rfl (lv_room (Nat.le_of_ble_eq_true rfl)) d_RE_readOther_19 ⟨(Nat.zero_le _), (Nat.zero_le _)⟩) hS (fun q _ h => hFc q h) hFc (fun r4 u t H1 locs ht hvm hw hB hz1 hk1 hS => ?_)
    obtain ⟨n5, n6⟩ := u
    try dsimp only at hw
    obtain ⟨bn6, xr4⟩ := hw
    try clear hw
    have tn6 := b01 bn6
    have z19 := i32_clamp (x := n5) (by (first | (apply Int.le_antisymm <;> omega) | omega))
    obtain ⟨hP1, hK1, hD1⟩ := hB
    replace hP1 := va_P.he ht hP1
    obtain ⟨hP, hD⟩ := va_join (wr := (wz_8 ac cfi clk clt ac_length cop cva cpt cel ac_labelCount cla cva ccva gcva cpt ccpt gcpt)) (w1 := (wz_46 h0 aw ac n5 h0_limit n6 h0_codeCount ob h0_openCount aw ab ac aw_typeCount wat wap wag aw_functionCount waf aw_hasMemory aw_pagesLeast aw_pagesMost aw_globalCount wgt wft wfv wgc aw_exportCount wek wei wes wez ab ax ab_length ax cax gax)) hP hD [0, 1, 2, 4] [3, 5, 6] rfl rfl (by decide) (by decide) hk1 hFc hP1 hD1
    clear hPc hDc hKc hFc hz1 hk1 hP1 hK1 hD1
    rename Heap => H
    have hP : va_P (dC, dI) cls (wz_237 ac cfi clk clt ac_length cop cva cpt cel ac_labelCount cla cva ccva gcva cpt ccpt gcpt h0 aw ac n5 h0_limit n6 h0_codeCount ob h0_openCount aw ab ac aw_typeCount wat wap wag aw_functionCount waf aw_hasMemory aw_pagesLeast aw_pagesMost aw_globalCount wgt wft wfv wgc aw_exportCount wek wei wes wez ab ax ab_length ax cax gax) H := hP
    have hD : va_D A (wz_237 ac cfi clk clt ac_length cop cva cpt cel ac_labelCount cla cva ccva gcva cpt ccpt gcpt h0 aw ac n5 h0_limit n6 h0_codeCount ob h0_openCount aw ab ac aw_typeCount wat wap wag aw_functionCount waf aw_hasMemory aw_pagesLeast aw_pagesMost aw_globalCount wgt wft wfv wgc aw_exportCount wek wei wes wez ab ax ab_length ax cax gax) := hD
    refine lv_l2i hx hb d_RE_readOther_22 rfl ?_
    refine lv_topi (fun x7 ex7 => ?_)
    have tx7 := l2i_t ex7 (by (first | (apply Int.le_antisymm <;> omega) | omega)) (by (first | (apply Int.le_antisymm <;> omega) | omega))
    have g23 : vp_in p0 5000 := vp_in_iff.mpr ⟨by (first | (apply Int.le_antisymm <;> omega) | omega), by (first | (apply Int.le_antisymm <;> omega) | omega)⟩
    refine va_iast hx hb hK hP hD hS 2 2 rfl rfl g23 d_RE_readOther_23 (fun H locs hP hD hS => ?_)
    generalize ef8 : upd gcpt p0.toNatClampNeg x7 = f8 at hP hD
    refine lv_aload_n hx hb d_RE_readOther_24 rfl (lv_at hl 0 rfl) ?_
    refine va_get (D := (dC, dI)) (ci := 7) (v := .ref ac) (C := R_RE) (T := F_RE) (N := 8) hx hb hts i_RE hown hK hP 3 rfl rfl 1 (by decide) (hts _ kF_RE_25) (fun _ h9 => h9) rfl d_RE_readOther_25 ?_
    refine va_get (D := (dC, dI)) (ci := 3) (v := .ref cva) (C := R_CD) (T := F_CD) (N := 10) hx hb hts i_CD hown hK hP 0 rfl rfl 5 (by decide) (hts _ kF_RE_197) (fun _ h9 => h9) rfl d_RE_readOther_28 ?_
    refine lv_iload_n hx hb d_RE_readOther_31 rfl (lv_at hl 1 rfl) ?_
    refine lv_aload_n hx hb d_RE_readOther_32 rfl (lv_at hl 0 rfl) ?_
    refine lv_ldc2 hx hb hown (hts _ kL_RE_121) d_RE_readOther_33 ?_
    refine lv_topl (fun x9 ex9 => ?_)
    have tx9 : x9.toInt = 4294967295 := by rw [ex9]; decide
    have hPc := hP.sb (wq := (wz_46 h0 aw ac n5 h0_limit n6 h0_codeCount ob h0_openCount aw ab ac aw_typeCount wat wap wag aw_functionCount waf aw_hasMemory aw_pagesLeast aw_pagesMost aw_globalCount wgt wft wfv wgc aw_exportCount wek wei wes wez ab ax ab_length ax cax gax)) [3, 4, 5, 6] rfl
    have hDc := hD.sb (wq := (wz_46 h0 aw ac n5 h0_limit n6 h0_codeCount ob h0_openCount aw ab ac aw_typeCount wat wap wag aw_functionCount waf aw_hasMemory aw_pagesLeast aw_pagesMost aw_globalCount wgt wft wfv wgc aw_exportCount wek wei wes wez ab ax ab_length ax cax gax)) [3, 4, 5, 6] (by decide) rfl
    have hKc := hK.sb (tyq := [(cax, .byte)]) [0] rfl
    have hFc := va_free (wc := (wz_46 h0 aw ac n5 h0_limit n6 h0_codeCount ob h0_openCount aw ab ac aw_typeCount wat wap wag aw_functionCount waf aw_hasMemory aw_pagesLeast aw_pagesMost aw_globalCount wgt wft wfv wgc aw_exportCount wek wei wes wez ab ax ab_length ax cax gax)) hD hS hA [3, 4, 5, 6] rfl
    refine va_calll (va_runV (As := [.long x9]) (rest := [.int p0, .ref cva]) ⟨hx, hb, hml, hown, hts⟩ (c_RE_readUnsignedx l dC dI H.size h0 aw ac ob ab wat wap wag waf wgt wft wfv wgc wek wei wes wez ax cax n5 h0_limit n6 h0_codeCount h0_openCount aw_typeCount aw_functionCount aw_hasMemory aw_pagesLeast aw_pagesMost aw_globalCount aw_exportCount ab_length gax 0 (bn6) x9 (by (first | (apply Int.le_antisymm <;> omega) | omega)) (by (first | (apply Int.le_antisymm <;> omega) | omega)) (by (first | (apply Int.le_antisymm <;> omega) | omega)) ((bq_at k7.2.1 (by (first | (apply Int.le_antisymm <;> omega) | omega)))) (by (first | (apply Int.le_antisymm <;> omega) | omega))) (cwV 1 hts (gV kM_RE_64 kV_RE_readUnsigned kS_RE_readUnsigned kI_RE kC_RE_readUnsigned) rfl rfl rfl (by decide +kernel) ⟨Nat.le_of_ble_eq_true rfl, Nat.le_of_ble_eq_true rfl⟩) ⟨fun a U g mk z => by obtain ⟨z0, z1, zP, zK, zD⟩ := z; exact ⟨z0, z1, zP, va_K.moved (u := U) (U := U.calling g mk a) (Vm.Alike.refl U.vm) zK, zD⟩, va_recv hKc hPc (ci := 7) (q0 := 0) rfl rfl, fun U hU hW => ⟨rfl, by rw [hU], va_P.he hU.symm hPc, va_K.moved hW.alike hKc, hDc.weaken (fun _ _ _ _ => trivial)⟩⟩ rfl rfl hl.1 rfl (lv_room (Nat.le_of_ble_eq_true rfl)) d_RE_readOther_36 ⟨(Nat.zero_le _), (Nat.zero_le _)⟩) hS (fun q _ h => hFc q h) hFc (fun r10 u t H1 locs ht hvm hw hB hz1 hk1 hS => ?_)
    obtain ⟨n11, n12⟩ := u
    try dsimp only at hw
    obtain ⟨bn12, xr10⟩ := hw
    try clear hw
    have tn12 := b01 bn12
    obtain ⟨hP1, hK1, hD1⟩ := hB
    replace hP1 := va_P.he ht hP1
    obtain ⟨hP, hD⟩ := va_join (wr := (wz_8 ac cfi clk clt ac_length cop cva cpt cel ac_labelCount cla cva ccva gcva cpt ccpt f8)) (w1 := (wz_46 h0 aw ac n11 h0_limit n12 h0_codeCount ob h0_openCount aw ab ac aw_typeCount wat wap wag aw_functionCount waf aw_hasMemory aw_pagesLeast aw_pagesMost aw_globalCount wgt wft wfv wgc aw_exportCount wek wei wes wez ab ax ab_length ax cax gax)) hP hD [3, 4, 5, 6] [0, 1, 2] rfl rfl (by decide) (by decide) hk1 hFc hP1 hD1
    clear hPc hDc hKc hFc hz1 hk1 hP1 hK1 hD1
    rename Heap => H
    have hP : va_P (dC, dI) cls (wz_237 ac cfi clk clt ac_length cop cva cpt cel ac_labelCount cla cva ccva gcva cpt ccpt f8 h0 aw ac n11 h0_limit n12 h0_codeCount ob h0_openCount aw ab ac aw_typeCount wat wap wag aw_functionCount waf aw_hasMemory aw_pagesLeast aw_pagesMost aw_globalCount wgt wft wfv wgc aw_exportCount wek wei wes wez ab ax ab_length ax cax gax) H := hP
    have hD : va_D A (wz_237 ac cfi clk clt ac_length cop cva cpt cel ac_labelCount cla cva ccva gcva cpt ccpt f8 h0 aw ac n11 h0_limit n12 h0_codeCount ob h0_openCount aw ab ac aw_typeCount wat wap wag aw_functionCount waf aw_hasMemory aw_pagesLeast aw_pagesMost aw_globalCount wgt wft wfv wgc aw_exportCount wek wei wes wez ab ax ab_length ax cax gax) := hD
    have g39 : vp_in p0 5000 := vp_in_iff.mpr ⟨by (first | (apply Int.le_antisymm <;> omega) | omega), by (first | (apply Int.le_antisymm <;> omega) | omega)⟩
    refine va_last hx hb hK hP hD hS 1 1 rfl rfl g39 d_RE_readOther_39 (fun H locs hP hD hS => ?_)
    generalize ef13 : vp_updL gcva p0.toNatClampNeg r10 = f13 at hP hD
    refine lv_goto (tgt := 86) hx hb d_RE_readOther_40 (by decide) ?_
    have hP9 := hP.sb (wq := (wz_236 h0 aw ac n11 h0_limit n12 h0_codeCount ob h0_openCount aw ab ac aw_typeCount wat wap wag aw_functionCount waf aw_hasMemory aw_pagesLeast aw_pagesMost aw_globalCount wgt wft wfv wgc aw_exportCount wek wei wes wez ab ax ab_length ac cfi clk clt ac_length cop cva cpt cel ac_labelCount cla ax cax gax cva ccva f13 cpt ccpt f8)) [3, 4, 5, 0, 6, 1, 2] rfl
    have hD9 := hD.sb (wq := (wz_236 h0 aw ac n11 h0_limit n12 h0_codeCount ob h0_openCount aw ab ac aw_typeCount wat wap wag aw_functionCount waf aw_hasMemory aw_pagesLeast aw_pagesMost aw_globalCount wgt wft wfv wgc aw_exportCount wek wei wes wez ab ax ab_length ac cfi clk clt ac_length cop cva cpt cel ac_labelCount cla ax cax gax cva ccva f13 cpt ccpt f8)) [3, 4, 5, 0, 6, 1, 2] (by decide) rfl
    exact W.vret hx hb hr (fun t ht hW => ⟨⟨(f8, f13, n11, n12), rfl, ⟨bn12, ⟨by (try dsimp only) <;> (first | (apply Int.le_antisymm <;> omega) | omega), fun _ => ⟨by (first | (apply Int.le_antisymm <;> omega) | omega), x7, r10, by (first | (apply Int.le_antisymm <;> omega) | omega), by (first | (apply Int.le_antisymm <;> omega) | omega), by rw [← ef8], by rw [← ef13]⟩, fun z => absurd z (by (first | (apply Int.le_antisymm <;> omega) | omega))⟩⟩, va_P.he ht.symm hP9, va_K.moved hW.alike hK, hD9⟩, hS.F ht⟩) hS.2.2 d_RE_readOther_86
end q_88
section q_89
/-! Reader: an instruction as it was put -/
def et (x : ci) : List Nat := (en x).tail
theorem en_hd (x : ci) : en x = x.1.toNat :: et x := by
  unfold et en
  split
  · rfl
  · split
    · rfl
    · split
      · rfl
      · split
        · rfl
        · split <;> rfl
theorem iok_b {o v : Int} (h : iok (o, v)) : 0 ≤ o ∧ o ≤ 172 := by
  unfold iok two at h
  dsimp only at h
  (first | (apply Int.le_antisymm <;> omega) | omega)
theorem et_blk {o v : Int} (h : o = 2 ∨ o = 3 ∨ o = 4) : et (o, v) = [v.toNat] := by
  unfold et en
  rw [if_pos h]
  rfl
theorem et_c {o v : Int} (h : o = 65 ∨ o = 66) : et (o, v) = sleb 10 v := by
  unfold et
  rw [en_c h]
  rfl
theorem et_u {o v : Int} (h : o = 12 ∨ o = 13 ∨ o = 16 ∨ o = 32 ∨ o = 33 ∨ o = 35 ∨ o = 36) : et (o, v) = leb 5 v.toNat := by
  unfold et en
  rw [if_neg (by dsimp only; (first | (apply Int.le_antisymm <;> omega) | omega)), if_neg (by dsimp only; (first | (apply Int.le_antisymm <;> omega) | omega)), if_pos (by dsimp only; (first | (apply Int.le_antisymm <;> omega) | omega))]
  rfl
theorem et_a {o v : Int} (h : o = 40 ∨ o = 41 ∨ o = 44 ∨ o = 45 ∨ o = 54 ∨ o = 55 ∨ o = 58) : et (o, v) = leb 5 v.toNat ++ [0] := by
  unfold et en
  rw [if_neg (by dsimp only; (first | (apply Int.le_antisymm <;> omega) | omega)), if_neg (by dsimp only; (first | (apply Int.le_antisymm <;> omega) | omega)), if_neg (by dsimp only; (first | (apply Int.le_antisymm <;> omega) | omega)), if_pos h]
  rfl
theorem et_g {o v : Int} (h : o = 63 ∨ o = 64) : et (o, v) = [0] := by
  unfold et en
  rw [if_neg (by dsimp only; (first | (apply Int.le_antisymm <;> omega) | omega)), if_neg (by dsimp only; (first | (apply Int.le_antisymm <;> omega) | omega)), if_neg (by dsimp only; (first | (apply Int.le_antisymm <;> omega) | omega)), if_neg (by dsimp only; (first | (apply Int.le_antisymm <;> omega) | omega)), if_pos h]
  rfl
theorem et_0 {o v : Int} (h : (69 ≤ o ∧ o ≤ 173) ∨ o = 0 ∨ o = 5 ∨ o = 11 ∨ o = 15 ∨ o = 26) : et (o, v) = [] := by
  unfold et
  rw [en_x h]
  rfl
abbrev at_RE_readInstructionx (dC : Nat → ClassId) (dI : Nat → Nat → Nat) (h0 aw ac ob ab wat wap wag waf wgt wft wfv wgc wek wei wes wez ax cfi clk clt cop cva cpt cel cla : Nat) (cax cob ccop ccva ccpt ccel : ClassId) (h0_limit : Int32) (h0_codeCount : Int32) (aw_typeCount : Int32) (aw_functionCount : Int32) (aw_hasMemory : Int32) (aw_pagesLeast : Int64) (aw_pagesMost : Int64) (aw_globalCount : Int32) (aw_exportCount : Int32) (ab_length : Int32) (ac_labelCount : Int32) (gax : Nat → Int32) (A : Nat → Prop) (u : (Nat → Int32) × (Nat → Int32) × (Nat → Int32) × (Nat → Int64) × (Nat → Int32) × Int32 × Int32 × Int32 × Int32) (t : State) : Prop := match u with | (gcel, gcop, gcpt, gcva, gob, ac_length, h0_at, h0_openCount, h0_sound) => va_P (dC, dI) cls (wz_238 h0 aw ac h0_at h0_limit h0_sound h0_codeCount ob h0_openCount aw ab ac aw_typeCount wat wap wag aw_functionCount waf aw_hasMemory aw_pagesLeast aw_pagesMost aw_globalCount wgt wft wfv wgc aw_exportCount wek wei wes wez ab ax ab_length ac cfi clk clt ac_length cop cva cpt cel ac_labelCount cla ax cax gax ob cob gob cop ccop gcop cva ccva gcva cpt ccpt gcpt cel ccel gcel) t.heap ∧ va_K (dC, dI) cls [(cax, .byte), (cob, .int), (ccop, .int), (ccva, .long), (ccpt, .int), (ccel, .int)] t ∧ va_D A (wz_238 h0 aw ac h0_at h0_limit h0_sound h0_codeCount ob h0_openCount aw ab ac aw_typeCount wat wap wag aw_functionCount waf aw_hasMemory aw_pagesLeast aw_pagesMost aw_globalCount wgt wft wfv wgc aw_exportCount wek wei wes wez ab ax ab_length ac cfi clk clt ac_length cop cva cpt cel ac_labelCount cla ax cax gax ob cob gob cop ccop gcop cva ccva gcva cpt ccpt gcpt cel ccel gcel)
set_option maxHeartbeats 4000000 in
set_option maxRecDepth 100000 in
theorem c_RE_readInstructionx (l : Launch) (dC : Nat → ClassId) (dI : Nat → Nat → Nat) (sz : Nat) (h0 aw ac ob ab wat wap wag waf wgt wft wfv wgc wek wei wes wez ax cfi clk clt cop cva cpt cel cla : Nat) (cax cob ccop ccva ccpt ccel : ClassId) (h0_at : Int32) (h0_limit : Int32) (h0_sound : Int32) (h0_codeCount : Int32) (h0_openCount : Int32) (aw_typeCount : Int32) (aw_functionCount : Int32) (aw_hasMemory : Int32) (aw_pagesLeast : Int64) (aw_pagesMost : Int64) (aw_globalCount : Int32) (aw_exportCount : Int32) (ab_length : Int32) (ac_length : Int32) (ac_labelCount : Int32) (gax : Nat → Int32) (gob : Nat → Int32) (gcop : Nat → Int32) (gcva : Nat → Int64) (gcpt : Nat → Int32) (gcel : Nat → Int32) (o9 : Int) (v9 : Int) (glb9 : Nat → Int32)  (b_h0_sound : h0_sound = 0 ∨ h0_sound = 1) (b_h0_openCount : 0 ≤ h0_openCount.toInt ∧ h0_openCount.toInt ≤ 100) (b_ac_length : 0 ≤ ac_length.toInt ∧ ac_length.toInt ≤ 5000)   (hs : h0_sound.toInt = 1) (ha : 0 ≤ h0_at.toInt ∧ h0_limit.toInt ≤ ab_length.toInt ∧ ab_length.toInt ≤ 8192) (hok : iok (o9, v9)) (hbq : bq gax h0_at.toNatClampNeg (en (o9, v9))) (hlm : h0_at.toInt + ((en (o9, v9)).length : Int) ≤ h0_limit.toInt) (hcl : ac_length.toInt < 5000) (ho1 : o9 = 2 ∨ o9 = 3 ∨ o9 = 4 → h0_openCount.toInt < 100) (hgo : bx (∀ j : Nat, (j : Int) < h0_openCount.toInt → 0 ≤ (gob j).toInt ∧ (gob j).toInt < ac_length.toInt)) (hel : bx (∀ j : Nat, (gcel j).toInt < 5000)) (h5 : bx (o9 = 5 → 0 < h0_openCount.toInt ∧ (gcop (gob (h0_openCount.toNatClampNeg - 1)).toNatClampNeg).toInt = 4 ∧ (gcel (gob (h0_openCount.toNatClampNeg - 1)).toNatClampNeg).toInt < 0)) : Met l y_RE_readInstruction w_RE_readInstruction ({ frames := 3, cells := 0, slots := 0, locals := 68 }) (va_Pc [.ref h0] (fun U => U.heap.size = sz ∧ va_P (dC, dI) cls (wz_238 h0 aw ac h0_at h0_limit h0_sound h0_codeCount ob h0_openCount aw ab ac aw_typeCount wat wap wag aw_functionCount waf aw_hasMemory aw_pagesLeast aw_pagesMost aw_globalCount wgt wft wfv wgc aw_exportCount wek wei wes wez ab ax ab_length ac cfi clk clt ac_length cop cva cpt cel ac_labelCount cla ax cax gax ob cob gob cop ccop gcop cva ccva gcva cpt ccpt gcpt cel ccel gcel) U.heap ∧ va_K (dC, dI) cls [(cax, .byte), (cob, .int), (ccop, .int), (ccva, .long), (ccpt, .int), (ccel, .int)] U ∧ va_D (fun _ => True) (wz_238 h0 aw ac h0_at h0_limit h0_sound h0_codeCount ob h0_openCount aw ab ac aw_typeCount wat wap wag aw_functionCount waf aw_hasMemory aw_pagesLeast aw_pagesMost aw_globalCount wgt wft wfv wgc aw_exportCount wek wei wes wez ab ax ab_length ac cfi clk clt ac_length cop cva cpt cel ac_labelCount cla ax cax gax ob cob gob cop ccop gcop cva ccva gcva cpt ccpt gcpt cel ccel gcel))) (va_Qi (fun (r : Int32) (u : (Nat → Int32) × (Nat → Int32) × (Nat → Int32) × (Nat → Int64) × (Nat → Int32) × Int32 × Int32 × Int32 × Int32) => match u with | (gcel2, gcop2, gcpt2, gcva2, gob2, ac_length2, h0_at2, h0_openCount2, h0_sound2) => (r = 0 ∨ r = 1) ∧ (0 ≤ ac_length2.toInt ∧ ac_length2.toInt ≤ 5000) ∧ (0 ≤ h0_openCount2.toInt ∧ h0_openCount2.toInt ≤ 100) ∧ (h0_sound2 = 0 ∨ h0_sound2 = 1) ∧ (h0_at2.toInt = h0_at.toInt + ((en (o9, v9)).length : Int) ∧ h0_sound2.toInt = 1 ∧ ac_length2.toInt = ac_length.toInt + 1 ∧ (r.toInt = 0 ↔ o9 = 11 ∧ h0_openCount.toInt = 0) ∧ ∃ o : Int32, o.toInt = o9 ∧ rstep ac_length o h0_openCount ac_labelCount r h0_openCount2 ac_labelCount gcop gcpt gcel glb9 gob gcop2 gcpt2 gcel2 glb9 gob2 gcva gcva2 ∧ (o9 ≠ 65 → o9 ≠ 66 → ¬ (o9 = 40 ∨ o9 = 41 ∨ o9 = 44 ∨ o9 = 45 ∨ o9 = 54 ∨ o9 = 55 ∨ o9 = 58) → (gcva2 ac_length.toNatClampNeg).toInt = v9))) (at_RE_readInstructionx dC dI h0 aw ac ob ab wat wap wag waf wgt wft wfv wgc wek wei wes wez ax cfi clk clt cop cva cpt cel cla cax cob ccop ccva ccpt ccel h0_limit h0_codeCount aw_typeCount aw_functionCount aw_hasMemory aw_pagesLeast aw_pagesMost aw_globalCount aw_exportCount ab_length ac_labelCount gax (va_A (wz_238 h0 aw ac h0_at h0_limit h0_sound h0_codeCount ob h0_openCount aw ab ac aw_typeCount wat wap wag aw_functionCount waf aw_hasMemory aw_pagesLeast aw_pagesMost aw_globalCount wgt wft wfv wgc aw_exportCount wek wei wes wez ab ax ab_length ac cfi clk clt ac_length cop cva cpt cel ac_labelCount cla ax cax gax ob cob gob cop ccop gcop cva ccva gcva cpt ccpt gcpt cel ccel gcel) sz)) (va_A (wz_238 h0 aw ac h0_at h0_limit h0_sound h0_codeCount ob h0_openCount aw ab ac aw_typeCount wat wap wag aw_functionCount waf aw_hasMemory aw_pagesLeast aw_pagesMost aw_globalCount wgt wft wfv wgc aw_exportCount wek wei wes wez ab ax ab_length ac cfi clk clt ac_length cop cva cpt cel ac_labelCount cla ax cax gax ob cob gob cop ccop gcop cva ccva gcva cpt ccpt gcpt cel ccel gcel) sz)) 0 0 (va_A (wz_238 h0 aw ac h0_at h0_limit h0_sound h0_codeCount ob h0_openCount aw ab ac aw_typeCount wat wap wag aw_functionCount waf aw_hasMemory aw_pagesLeast aw_pagesMost aw_globalCount wgt wft wfv wgc aw_exportCount wek wei wes wez ab ax ab_length ac cfi clk clt ac_length cop cva cpt cel ac_labelCount cla ax cax gax ob cob gob cop ccop gcop cva ccva gcva cpt ccpt gcpt cel ccel gcel) sz) := by
  refine Met.ofW (cc := b_RE_readInstruction) (maxL := 3) (ret := (Option.some .boolean)) (by decide) rfl ?_
  intro p e s m args below meth c s₁ B hml hv
  obtain ⟨rfl, hsz, hP, hK, hD0⟩ := hv
  have hx := B.exec
  have hb := B.bytes
  have hr := B.returns
  have hts0 := atoms_spec (ws := w_RE_readInstruction) B.pre
  have hts : ∀ w ∈ lw_g, w.before _ s = true := fun w h => hts0 w (List.mem_cons_of_mem _ h)
  have hown : s.vm.findClass R_RE = some m.cls := findClass_of_methodNamed B.named
  have hlocks := B.notSynchronized
  clear hts0
  subst hsz
  have hD := hD0.self (sz := s.heap.size)
  generalize hAe : va_A (wz_238 h0 aw ac h0_at h0_limit h0_sound h0_codeCount ob h0_openCount aw ab ac aw_typeCount wat wap wag aw_functionCount waf aw_hasMemory aw_pagesLeast aw_pagesMost aw_globalCount wgt wft wfv wgc aw_exportCount wek wei wes wez ab ax ab_length ac cfi clk clt ac_length cop cva cpt cel ac_labelCount cla ax cax gax ob cob gob cop ccop gcop cva ccva gcva cpt ccpt gcpt cel ccel gcel) s.heap.size = A at hD ⊢
  have hA : ∀ q : Nat, s.heap.size ≤ q → A q := fun q h => by rw [← hAe]; exact Or.inr h
  clear hAe
  have hP : va_P (dC, dI) cls (wz_238 h0 aw ac h0_at h0_limit h0_sound h0_codeCount ob h0_openCount aw ab ac aw_typeCount wat wap wag aw_functionCount waf aw_hasMemory aw_pagesLeast aw_pagesMost aw_globalCount wgt wft wfv wgc aw_exportCount wek wei wes wez ab ax ab_length ac cfi clk clt ac_length cop cva cpt cel ac_labelCount cla ax cax gax ob cob gob cop ccop gcop cva ccva gcva cpt ccpt gcpt cel ccel gcel) s.heap := hP
  have hl := lv_entry ([.ref h0]) (n := 3) (Nat.le_of_ble_eq_true rfl)
  rw [lg_entry_eq]
  generalize (lg_sl ([.ref h0]) ++ List.replicate (3 - (lg_sl ([.ref h0])).length) Slot.unset).toArray = ls at hl ⊢
  have hl : lv_has ls 3 [(0, .ref h0)] := hl
  have k0 : (0 : Int32).toInt = 0 := by decide
  refine w_gen (A := A) hP (fun H locs hP hS => ?_)
  have km1 : (-1 : Int32).toInt = -1 := by decide
  have k1 : (1 : Int32).toInt = 1 := by decide
  have k32 : (32 : Int32).toInt = 32 := by decide
  have k64 : (64 : Int32).toInt = 64 := by decide
  have k5000 : (5000 : Int32).toInt = 5000 := by decide
  have th0_sound := b01 b_h0_sound
  have za := i32_clamp (x := h0_at) (by (first | (apply Int.le_antisymm <;> omega) | omega))
  have zn := i32_clamp (x := ac_length) (by (first | (apply Int.le_antisymm <;> omega) | omega))
  have zo := i32_clamp (x := h0_openCount) (by (first | (apply Int.le_antisymm <;> omega) | omega))
  have ob9 := iok_b hok
  rw [en_hd] at hbq hlm
  have b0 := hbq.1
  have b1 := hbq.2
  replace b1 : bx _ := b1
  clear hbq
  rw [List.length_cons] at hlm
  dsimp only at b0
  have eln : ((en (o9, v9)).length : Int) = 1 + ((et (o9, v9)).length : Int) := by rw [en_hd, List.length_cons]; (first | (apply Int.le_antisymm <;> omega) | omega)
  unfold iok two at hok
  dsimp only at hok
  have n14 : o9 ≠ 14 ∧ o9 ≠ 34 := by (first | (apply Int.le_antisymm <;> omega) | omega)
  have hok9 : bx _ := hok
  clear hok
  have hg5 : bx (∀ j : Nat, (j : Int) < h0_openCount.toInt → 0 ≤ (gob j).toInt ∧ (gob j).toInt < 5000) := fun j hj => ⟨(hgo.out j hj).1, by have := (hgo.out j hj).2; (first | (apply Int.le_antisymm <;> omega) | omega)⟩
  refine lv_aload_n hx hb d_RE_readInstruction_0 rfl (lv_at hl 0 rfl) ?_
  have hPc := hP.sb (wq := (wz_46 h0 aw ac h0_at h0_limit h0_sound h0_codeCount ob h0_openCount aw ab ac aw_typeCount wat wap wag aw_functionCount waf aw_hasMemory aw_pagesLeast aw_pagesMost aw_globalCount wgt wft wfv wgc aw_exportCount wek wei wes wez ab ax ab_length ax cax gax)) [0, 1, 2, 4] rfl
  have hDc := hD.sb (wq := (wz_46 h0 aw ac h0_at h0_limit h0_sound h0_codeCount ob h0_openCount aw ab ac aw_typeCount wat wap wag aw_functionCount waf aw_hasMemory aw_pagesLeast aw_pagesMost aw_globalCount wgt wft wfv wgc aw_exportCount wek wei wes wez ab ax ab_length ax cax gax)) [0, 1, 2, 4] (by decide) rfl
  have hKc := hK.sb (tyq := [(cax, .byte)]) [0] rfl
  have hFc := va_free (wc := (wz_46 h0 aw ac h0_at h0_limit h0_sound h0_codeCount ob h0_openCount aw ab ac aw_typeCount wat wap wag aw_functionCount waf aw_hasMemory aw_pagesLeast aw_pagesMost aw_globalCount wgt wft wfv wgc aw_exportCount wek wei wes wez ab ax ab_length ax cax gax)) hD hS hA [0, 1, 2, 4] rfl
  refine va_calli (va_runV (As := []) (rest := []) ⟨hx, hb, hml, hown, hts⟩ (c_RE_nextx l dC dI H.size h0 aw ac ob ab wat wap wag waf wgt wft wfv wgc wek wei wes wez ax cax h0_at h0_limit h0_sound h0_codeCount h0_openCount aw_typeCount aw_functionCount aw_hasMemory aw_pagesLeast aw_pagesMost aw_globalCount aw_exportCount ab_length gax (b_h0_sound) (by (first | (apply Int.le_antisymm <;> omega) | omega)) (by (first | (apply Int.le_antisymm <;> omega) | omega)) (by (first | (apply Int.le_antisymm <;> omega) | omega))) (cwV 0 hts (gV kM_RE_60 kV_RE_next kS_RE_next kI_RE kC_RE_next) rfl rfl rfl (by decide +kernel) ⟨Nat.le_of_ble_eq_true rfl, Nat.le_of_ble_eq_true rfl⟩) ⟨fun a U g mk z => by obtain ⟨z0, z1, zP, zK, zD⟩ := z; exact ⟨z0, z1, zP, va_K.moved (u := U) (U := U.calling g mk a) (Vm.Alike.refl U.vm) zK, zD⟩, va_recv hKc hPc (ci := 7) (q0 := 0) rfl rfl, fun U hU hW => ⟨rfl, by rw [hU], va_P.he hU.symm hPc, va_K.moved hW.alike hKc, hDc.weaken (fun _ _ _ _ => trivial)⟩⟩ rfl rfl hl.1 rfl (lv_room (Nat.le_of_ble_eq_true rfl)) d_RE_readInstruction_1 ⟨(Nat.zero_le _), (Nat.zero_le _)⟩) hS (fun q _ h => hFc q h) hFc (fun r1 u t H1 locs ht hvm hw hB hz1 hk1 hS => ?_)
  obtain ⟨n2, rfl⟩ : ∃ z, z = u := ⟨_, rfl⟩
  try dsimp only at hw
  have xr1 := hw
  try clear hw
  have tr1 := xr1.2
  rw [b0] at tr1
  have ar1 := xr1.1
  have o9r : r1.toInt = o9 := by (first | (apply Int.le_antisymm <;> omega) | omega)
  have zat := i32_clamp (x := n2) (by (first | (apply Int.le_antisymm <;> omega) | omega))
  have eat : h0_at.toNatClampNeg + 1 = n2.toNatClampNeg := by (first | (apply Int.le_antisymm <;> omega) | omega)
  obtain ⟨hP1, hK1, hD1⟩ := hB
  replace hP1 := va_P.he ht hP1
  obtain ⟨hP, hD⟩ := va_join (wr := (wz_239 ac cfi clk clt ac_length cop cva cpt cel ac_labelCount cla ob cob gob cop ccop gcop cva ccva gcva cpt ccpt gcpt cel ccel gcel)) (w1 := (wz_46 h0 aw ac n2 h0_limit h0_sound h0_codeCount ob h0_openCount aw ab ac aw_typeCount wat wap wag aw_functionCount waf aw_hasMemory aw_pagesLeast aw_pagesMost aw_globalCount wgt wft wfv wgc aw_exportCount wek wei wes wez ab ax ab_length ax cax gax)) hP hD [0, 1, 2, 4] [3, 5, 6, 7, 8, 9] rfl rfl (by decide) (by decide) hk1 hFc hP1 hD1
  clear hPc hDc hKc hFc hz1 hk1 hP1 hK1 hD1
  rename Heap => H
  have hP : va_P (dC, dI) cls (wz_240 ac cfi clk clt ac_length cop cva cpt cel ac_labelCount cla ob cob gob cop ccop gcop cva ccva gcva cpt ccpt gcpt cel ccel gcel h0 aw ac n2 h0_limit h0_sound h0_codeCount ob h0_openCount aw ab ac aw_typeCount wat wap wag aw_functionCount waf aw_hasMemory aw_pagesLeast aw_pagesMost aw_globalCount wgt wft wfv wgc aw_exportCount wek wei wes wez ab ax ab_length ax cax gax) H := hP
  have hD : va_D A (wz_240 ac cfi clk clt ac_length cop cva cpt cel ac_labelCount cla ob cob gob cop ccop gcop cva ccva gcva cpt ccpt gcpt cel ccel gcel h0 aw ac n2 h0_limit h0_sound h0_codeCount ob h0_openCount aw ab ac aw_typeCount wat wap wag aw_functionCount waf aw_hasMemory aw_pagesLeast aw_pagesMost aw_globalCount wgt wft wfv wgc aw_exportCount wek wei wes wez ab ax ab_length ax cax gax) := hD
  refine lv_istore_n (lv' := [(1, .int r1), (0, .ref h0)]) hx hb d_RE_readInstruction_4 rfl hl (by decide) rfl (fun ls hl => ?_)
  refine lv_aload_n hx hb d_RE_readInstruction_5 rfl (lv_at hl 1 rfl) ?_
  refine va_get (D := (dC, dI)) (ci := 7) (v := .ref ac) (C := R_RE) (T := F_RE) (N := 8) hx hb hts i_RE hown hK hP 6 rfl rfl 1 (by decide) (hts _ kF_RE_25) (fun _ h9 => h9) rfl d_RE_readInstruction_6 ?_
  refine va_get (D := (dC, dI)) (ci := 3) (v := .int ac_length) (C := R_CD) (T := F_CD) (N := 10) hx hb hts i_CD hown hK hP 0 rfl rfl 3 (by decide) (hts _ kF_RE_175) (fun _ h9 => h9) rfl d_RE_readInstruction_9 ?_
  refine lv_istore_n (lv' := [(2, .int ac_length), (1, .int r1), (0, .ref h0)]) hx hb d_RE_readInstruction_12 rfl hl (by decide) rfl (fun ls hl => ?_)
  refine lv_aload_n hx hb d_RE_readInstruction_13 rfl (lv_at hl 2 rfl) ?_
  refine lv_aload_n hx hb d_RE_readInstruction_14 rfl (lv_at hl 2 rfl) ?_
  refine va_get (D := (dC, dI)) (ci := 7) (v := .int h0_sound) (C := R_RE) (T := F_RE) (N := 8) hx hb hts i_RE hown hK hP 6 rfl rfl 4 (by decide) (hts _ kF_RE_45) (fun _ h9 => h9) rfl d_RE_readInstruction_15 ?_
  refine lv_if_eq (tgt := 32) hx hb d_RE_readInstruction_18 (by decide) (fun c18 => absurd (eqI c18) (by (first | (apply Int.le_antisymm <;> omega) | omega))) (fun c18 => ?_)
  have q18 := neI c18
  refine lv_iload_n hx hb d_RE_readInstruction_21 rfl (lv_at hl 0 rfl) ?_
  refine lv_sipush (v := 5000) hx hb d_RE_readInstruction_22 (by decide) ?_
  refine lv_icmp_ge (tgt := 32) hx hb d_RE_readInstruction_25 (by decide) (fun c25 => absurd (leI c25) (by (first | (apply Int.le_antisymm <;> omega) | omega))) (fun c25 => ?_)
  have q25 := nleI c25
  refine lv_iconst (v := 1) hx hb d_RE_readInstruction_28 (by decide) ?_
  refine lv_goto (tgt := 33) hx hb d_RE_readInstruction_29 (by decide) ?_
  refine va_put (D := (dC, dI)) (ci := 7) (v := .int 1) (ty := .boolean) (C := R_RE) (T := F_RE) (N := 8) hx hb hts i_RE t_RE t_RE_ok n_RE hown hK hP hD hS 6 rfl rfl 4 (by decide) (hts _ kF_RE_45) (fun _ h9 => h9) rfl (by decide +kernel) rfl rfl (Nat.le_of_ble_eq_true rfl) d_RE_readInstruction_33 (fun H locs hP hD hS => ?_)
  refine lv_aload_n hx hb d_RE_readInstruction_36 rfl (lv_at hl 2 rfl) ?_
  refine va_get (D := (dC, dI)) (ci := 7) (v := .int 1) (C := R_RE) (T := F_RE) (N := 8) hx hb hts i_RE hown hK hP 6 rfl rfl 4 (by decide) (hts _ kF_RE_45) (fun _ h9 => h9) rfl d_RE_readInstruction_37 ?_
  refine lv_if_ne (tgt := 45) hx hb d_RE_readInstruction_40 (by decide) (fun c40 => ?_) (fun c40 => absurd (eqI c40) (by (first | (apply Int.le_antisymm <;> omega) | omega)))
  have q40 := neI c40
  refine lv_aload_n hx hb d_RE_readInstruction_45 rfl (lv_at hl 2 rfl) ?_
  refine va_get (D := (dC, dI)) (ci := 7) (v := .ref ac) (C := R_RE) (T := F_RE) (N := 8) hx hb hts i_RE hown hK hP 6 rfl rfl 1 (by decide) (hts _ kF_RE_25) (fun _ h9 => h9) rfl d_RE_readInstruction_46 ?_
  refine lv_dup hx hb d_RE_readInstruction_49 rfl ?_
  refine va_get (D := (dC, dI)) (ci := 3) (v := .int ac_length) (C := R_CD) (T := F_CD) (N := 10) hx hb hts i_CD hown hK hP 0 rfl rfl 3 (by decide) (hts _ kF_RE_175) (fun _ h9 => h9) rfl d_RE_readInstruction_50 ?_
  refine lv_iconst (v := 1) hx hb d_RE_readInstruction_53 (by decide) ?_
  refine lv_iadd hx hb d_RE_readInstruction_54 ?_
  refine lv_topi (fun x3 ex3 => ?_)
  have tx3 : x3.toInt = ac_length.toInt + 1 := by have z := i32_add ex3 (by (first | (apply Int.le_antisymm <;> omega) | omega)) (by (first | (apply Int.le_antisymm <;> omega) | omega)); first | exact z | (first | (apply Int.le_antisymm <;> omega) | omega)
  refine va_put (D := (dC, dI)) (ci := 3) (v := .int x3) (ty := .int) (C := R_CD) (T := F_CD) (N := 10) hx hb hts i_CD t_CD t_CD_ok n_CD hown hK hP hD hS 0 rfl rfl 3 (by decide) (hts _ kF_RE_175) (fun _ h9 => h9) rfl (by decide +kernel) rfl rfl (Nat.le_of_ble_eq_true rfl) d_RE_readInstruction_55 (fun H locs hP hD hS => ?_)
  refine lv_aload_n hx hb d_RE_readInstruction_58 rfl (lv_at hl 2 rfl) ?_
  refine va_get (D := (dC, dI)) (ci := 7) (v := .ref ac) (C := R_RE) (T := F_RE) (N := 8) hx hb hts i_RE hown hK hP 6 rfl rfl 1 (by decide) (hts _ kF_RE_25) (fun _ h9 => h9) rfl d_RE_readInstruction_59 ?_
  refine va_get (D := (dC, dI)) (ci := 3) (v := .ref cop) (C := R_CD) (T := F_CD) (N := 10) hx hb hts i_CD hown hK hP 0 rfl rfl 4 (by decide) (hts _ kF_RE_194) (fun _ h9 => h9) rfl d_RE_readInstruction_62 ?_
  refine lv_iload_n hx hb d_RE_readInstruction_65 rfl (lv_at hl 0 rfl) ?_
  refine lv_iload_n hx hb d_RE_readInstruction_66 rfl (lv_at hl 1 rfl) ?_
  have g67 : vp_in ac_length 5000 := vp_in_iff.mpr ⟨by (first | (apply Int.le_antisymm <;> omega) | omega), by (first | (apply Int.le_antisymm <;> omega) | omega)⟩
  refine va_iast hx hb hK hP hD hS 2 2 rfl rfl g67 d_RE_readInstruction_67 (fun H locs hP hD hS => ?_)
  generalize ef4 : upd gcop ac_length.toNatClampNeg r1 = f4 at hP hD
  refine lv_aload_n hx hb d_RE_readInstruction_68 rfl (lv_at hl 2 rfl) ?_
  refine va_get (D := (dC, dI)) (ci := 7) (v := .ref ac) (C := R_RE) (T := F_RE) (N := 8) hx hb hts i_RE hown hK hP 6 rfl rfl 1 (by decide) (hts _ kF_RE_25) (fun _ h9 => h9) rfl d_RE_readInstruction_69 ?_
  refine va_get (D := (dC, dI)) (ci := 3) (v := .ref cva) (C := R_CD) (T := F_CD) (N := 10) hx hb hts i_CD hown hK hP 0 rfl rfl 5 (by decide) (hts _ kF_RE_197) (fun _ h9 => h9) rfl d_RE_readInstruction_72 ?_
  refine lv_iload_n hx hb d_RE_readInstruction_75 rfl (lv_at hl 0 rfl) ?_
  refine lv_lconst (v := 0) hx hb d_RE_readInstruction_76 (by decide) ?_
  have kl0 : (0 : Int64).toInt = 0 := by decide
  have g77 : vp_in ac_length 5000 := vp_in_iff.mpr ⟨by (first | (apply Int.le_antisymm <;> omega) | omega), by (first | (apply Int.le_antisymm <;> omega) | omega)⟩
  refine va_last hx hb hK hP hD hS 3 3 rfl rfl g77 d_RE_readInstruction_77 (fun H locs hP hD hS => ?_)
  generalize ef5 : vp_updL gcva ac_length.toNatClampNeg 0 = f5 at hP hD
  refine lv_aload_n hx hb d_RE_readInstruction_78 rfl (lv_at hl 2 rfl) ?_
  refine va_get (D := (dC, dI)) (ci := 7) (v := .ref ac) (C := R_RE) (T := F_RE) (N := 8) hx hb hts i_RE hown hK hP 6 rfl rfl 1 (by decide) (hts _ kF_RE_25) (fun _ h9 => h9) rfl d_RE_readInstruction_79 ?_
  refine va_get (D := (dC, dI)) (ci := 3) (v := .ref cpt) (C := R_CD) (T := F_CD) (N := 10) hx hb hts i_CD hown hK hP 0 rfl rfl 6 (by decide) (hts _ kF_RE_200) (fun _ h9 => h9) rfl d_RE_readInstruction_82 ?_
  refine lv_iload_n hx hb d_RE_readInstruction_85 rfl (lv_at hl 0 rfl) ?_
  refine lv_iconst (v := 0) hx hb d_RE_readInstruction_86 (by decide) ?_
  have g87 : vp_in ac_length 5000 := vp_in_iff.mpr ⟨by (first | (apply Int.le_antisymm <;> omega) | omega), by (first | (apply Int.le_antisymm <;> omega) | omega)⟩
  refine va_iast hx hb hK hP hD hS 4 4 rfl rfl g87 d_RE_readInstruction_87 (fun H locs hP hD hS => ?_)
  generalize ef6 : upd gcpt ac_length.toNatClampNeg 0 = f6 at hP hD
  refine lv_aload_n hx hb d_RE_readInstruction_88 rfl (lv_at hl 2 rfl) ?_
  refine va_get (D := (dC, dI)) (ci := 7) (v := .ref ac) (C := R_RE) (T := F_RE) (N := 8) hx hb hts i_RE hown hK hP 6 rfl rfl 1 (by decide) (hts _ kF_RE_25) (fun _ h9 => h9) rfl d_RE_readInstruction_89 ?_
  refine va_get (D := (dC, dI)) (ci := 3) (v := .ref cel) (C := R_CD) (T := F_CD) (N := 10) hx hb hts i_CD hown hK hP 0 rfl rfl 7 (by decide) (hts _ kF_RE_203) (fun _ h9 => h9) rfl d_RE_readInstruction_92 ?_
  refine lv_iload_n hx hb d_RE_readInstruction_95 rfl (lv_at hl 0 rfl) ?_
  refine lv_iconst (v := (-1)) hx hb d_RE_readInstruction_96 (by decide) ?_
  have g97 : vp_in ac_length 5000 := vp_in_iff.mpr ⟨by (first | (apply Int.le_antisymm <;> omega) | omega), by (first | (apply Int.le_antisymm <;> omega) | omega)⟩
  refine va_iast hx hb hK hP hD hS 5 5 rfl rfl g97 d_RE_readInstruction_97 (fun H locs hP hD hS => ?_)
  generalize ef7 : upd gcel ac_length.toNatClampNeg ((-1)) = f7 at hP hD
  refine lv_iload_n hx hb d_RE_readInstruction_98 rfl (lv_at hl 1 rfl) ?_
  by_cases g99_372 : r1.toInt = 2 ∨ r1.toInt = 3 ∨ r1.toInt = 4
  · have ho99 : tab_off 366 2 66 #[273, 273, 273, 281, 366, 366, 366, 366, 366, 289, 295, 295, 314, 366, 295, 366, 366, 366, 366, 366, 366, 366, 366, 366, 366, 366, 366, 366, 366, 366, 295, 295, 295, 295, 295, 366, 366, 366, 366, 366, 366, 366, 366, 366, 366, 366, 366, 366, 366, 366, 366, 366, 366, 366, 366, 366, 366, 366, 366, 366, 366, 322, 322, 330, 348] r1.toInt = 273 := by rcases g99_372 with z | z | z <;> (rw [z]; rfl)
    refine lv_tab (tgt := 372) hx hb d_RE_readInstruction_99 (by decide) ho99 (by decide) ?_
    clear ho99
    have kk : o9 = 2 ∨ o9 = 3 ∨ o9 = 4 := by (first | (apply Int.le_antisymm <;> omega) | omega)
    have hv9 : v9 = 64 ∨ v9 = 127 := by have h9 := hok9.out; (first | (apply Int.le_antisymm <;> omega) | omega)
    have e1 := b1.out
    rw [et_blk kk] at e1
    have e1 := e1.1
    rw [eat] at e1
    have ln : (et (o9, v9)).length = 1 := by rw [et_blk kk]; rfl
    have h100 := ho1 kk
    refine lv_aload_n hx hb d_RE_readInstruction_372 rfl (lv_at hl 2 rfl) ?_
    refine lv_iload_n hx hb d_RE_readInstruction_373 rfl (lv_at hl 0 rfl) ?_
    have hPc := hP.sb (wq := (wz_233 h0 aw ac n2 h0_limit 1 h0_codeCount ob h0_openCount aw ab ac aw_typeCount wat wap wag aw_functionCount waf aw_hasMemory aw_pagesLeast aw_pagesMost aw_globalCount wgt wft wfv wgc aw_exportCount wek wei wes wez ab ax ab_length ac cfi clk clt x3 cop cva cpt cel ac_labelCount cla ax cax gax ob cob gob cva ccva f5)) [6, 7, 8, 0, 9, 1, 3] rfl
    have hDc := hD.sb (wq := (wz_233 h0 aw ac n2 h0_limit 1 h0_codeCount ob h0_openCount aw ab ac aw_typeCount wat wap wag aw_functionCount waf aw_hasMemory aw_pagesLeast aw_pagesMost aw_globalCount wgt wft wfv wgc aw_exportCount wek wei wes wez ab ax ab_length ac cfi clk clt x3 cop cva cpt cel ac_labelCount cla ax cax gax ob cob gob cva ccva f5)) [6, 7, 8, 0, 9, 1, 3] (by decide) rfl
    have hKc := hK.sb (tyq := [(cax, .byte), (cob, .int), (ccva, .long)]) [0, 1, 3] rfl
    have hFc := va_free (wc := (wz_233 h0 aw ac n2 h0_limit 1 h0_codeCount ob h0_openCount aw ab ac aw_typeCount wat wap wag aw_functionCount waf aw_hasMemory aw_pagesLeast aw_pagesMost aw_globalCount wgt wft wfv wgc aw_exportCount wek wei wes wez ab ax ab_length ac cfi clk clt x3 cop cva cpt cel ac_labelCount cla ax cax gax ob cob gob cva ccva f5)) hD hS hA [6, 7, 8, 0, 9, 1, 3] rfl
    refine va_callv (va_runV (As := [.int ac_length]) (rest := []) ⟨hx, hb, hml, hown, hts⟩ (c_RE_openBlockx l dC dI H.size h0 aw ac ob ab wat wap wag waf wgt wft wfv wgc wek wei wes wez ax cfi clk clt cop cva cpt cel cla cax cob ccva n2 h0_limit 1 h0_codeCount h0_openCount aw_typeCount aw_functionCount aw_hasMemory aw_pagesLeast aw_pagesMost aw_globalCount aw_exportCount ab_length x3 ac_labelCount gax gob f5 (Or.inr rfl) (b_h0_openCount) ac_length (by (first | (apply Int.le_antisymm <;> omega) | omega)) (by (first | (apply Int.le_antisymm <;> omega) | omega)) (by (first | (apply Int.le_antisymm <;> omega) | omega)) (by (first | (apply Int.le_antisymm <;> omega) | omega)) (by (first | (apply Int.le_antisymm <;> omega) | omega)) (by (first | (apply Int.le_antisymm <;> omega) | omega))) (cwV 1 hts (gV kM_RE_206 kV_RE_openBlock kS_RE_openBlock kI_RE kC_RE_openBlock) rfl rfl rfl (by decide +kernel) ⟨Nat.le_of_ble_eq_true rfl, Nat.le_of_ble_eq_true rfl⟩) ⟨fun a U g mk z => by obtain ⟨z0, z1, zP, zK, zD⟩ := z; exact ⟨z0, z1, zP, va_K.moved (u := U) (U := U.calling g mk a) (Vm.Alike.refl U.vm) zK, zD⟩, va_recv hKc hPc (ci := 7) (q0 := 0) rfl rfl, fun U hU hW => ⟨rfl, by rw [hU], va_P.he hU.symm hPc, va_K.moved hW.alike hKc, hDc.weaken (fun _ _ _ _ => trivial)⟩⟩ rfl rfl hl.1 rfl (lv_room (Nat.le_of_ble_eq_true rfl)) d_RE_readInstruction_374 ⟨(Nat.zero_le _), (Nat.zero_le _)⟩) hS (fun q _ h => hFc q h) hFc (fun u t H1 locs ht hvm hw hB hz1 hk1 hS => ?_)
    obtain ⟨n9, n10, n11, n12, n13⟩ := u
    try dsimp only at hw
    obtain ⟨bn12, bn13, xr8⟩ := hw
    try clear hw
    have tn13 := b01 bn13
    obtain ⟨hP1, hK1, hD1⟩ := hB
    replace hP1 := va_P.he ht hP1
    obtain ⟨hP, hD⟩ := va_join (wr := [(cop, .inl (ccop, 5000, .inl f4)), (cpt, .inl (ccpt, 5000, .inl f6)), (cel, .inl (ccel, 5000, .inl f7))]) (w1 := (wz_233 h0 aw ac n11 h0_limit n13 h0_codeCount ob n12 aw ab ac aw_typeCount wat wap wag aw_functionCount waf aw_hasMemory aw_pagesLeast aw_pagesMost aw_globalCount wgt wft wfv wgc aw_exportCount wek wei wes wez ab ax ab_length ac cfi clk clt x3 cop cva cpt cel ac_labelCount cla ax cax gax ob cob n10 cva ccva n9)) hP hD [6, 7, 8, 0, 9, 1, 3] [2, 4, 5] rfl rfl (by decide) (by decide) hk1 hFc hP1 hD1
    clear hPc hDc hKc hFc hz1 hk1 hP1 hK1 hD1
    rename Heap => H
    have hP : va_P (dC, dI) cls [(cop, .inl (ccop, 5000, .inl f4)), (cpt, .inl (ccpt, 5000, .inl f6)), (cel, .inl (ccel, 5000, .inl f7)), (h0, .inr (7, [.ref aw, .ref ac, .int n11, .int h0_limit, .int n13, .int h0_codeCount, .ref ob, .int n12])), (aw, .inr (10, [.ref ab, .ref ac, .int aw_typeCount, .ref wat, .ref wap, .ref wag, .int aw_functionCount, .ref waf, .int aw_hasMemory, .long aw_pagesLeast, .long aw_pagesMost, .int aw_globalCount, .ref wgt, .ref wft, .ref wfv, .ref wgc, .int aw_exportCount, .ref wek, .ref wei, .ref wes, .ref wez])), (ab, .inr (1, [.ref ax, .int ab_length])), (ac, .inr (3, [.ref cfi, .ref clk, .ref clt, .int x3, .ref cop, .ref cva, .ref cpt, .ref cel, .int ac_labelCount, .ref cla])), (ax, .inl (cax, 8192, .inl gax)), (ob, .inl (cob, 100, .inl n10)), (cva, .inl (ccva, 5000, .inr (.inl n9)))] H := hP
    have hD : va_D A [(cop, .inl (ccop, 5000, .inl f4)), (cpt, .inl (ccpt, 5000, .inl f6)), (cel, .inl (ccel, 5000, .inl f7)), (h0, .inr (7, [.ref aw, .ref ac, .int n11, .int h0_limit, .int n13, .int h0_codeCount, .ref ob, .int n12])), (aw, .inr (10, [.ref ab, .ref ac, .int aw_typeCount, .ref wat, .ref wap, .ref wag, .int aw_functionCount, .ref waf, .int aw_hasMemory, .long aw_pagesLeast, .long aw_pagesMost, .int aw_globalCount, .ref wgt, .ref wft, .ref wfv, .ref wgc, .int aw_exportCount, .ref wek, .ref wei, .ref wes, .ref wez])), (ab, .inr (1, [.ref ax, .int ab_length])), (ac, .inr (3, [.ref cfi, .ref clk, .ref clt, .int x3, .ref cop, .ref cva, .ref cpt, .ref cel, .int ac_labelCount, .ref cla])), (ax, .inl (cax, 8192, .inl gax)), (ob, .inl (cob, 100, .inl n10)), (cva, .inl (ccva, 5000, .inr (.inl n9)))] := hD
    refine lv_goto (tgt := 471) hx hb d_RE_readInstruction_377 (by decide) ?_
    refine lv_iconst (v := 1) hx hb d_RE_readInstruction_471 (by decide) ?_
    have hP9 := hP.sb (wq := (wz_238 h0 aw ac n11 h0_limit n13 h0_codeCount ob n12 aw ab ac aw_typeCount wat wap wag aw_functionCount waf aw_hasMemory aw_pagesLeast aw_pagesMost aw_globalCount wgt wft wfv wgc aw_exportCount wek wei wes wez ab ax ab_length ac cfi clk clt x3 cop cva cpt cel ac_labelCount cla ax cax gax ob cob n10 cop ccop f4 cva ccva n9 cpt ccpt f6 cel ccel f7)) [3, 4, 5, 6, 7, 8, 0, 9, 1, 2] rfl
    have hD9 := hD.sb (wq := (wz_238 h0 aw ac n11 h0_limit n13 h0_codeCount ob n12 aw ab ac aw_typeCount wat wap wag aw_functionCount waf aw_hasMemory aw_pagesLeast aw_pagesMost aw_globalCount wgt wft wfv wgc aw_exportCount wek wei wes wez ab ax ab_length ac cfi clk clt x3 cop cva cpt cel ac_labelCount cla ax cax gax ob cob n10 cop ccop f4 cva ccva n9 cpt ccpt f6 cel ccel f7)) [3, 4, 5, 6, 7, 8, 0, 9, 1, 2] (by decide) rfl
    exact W.zret (v := 1) hx hb hr (zn01 (Or.inr rfl)) (fun t ht hW => ⟨⟨1, (f7, f4, f6, n9, n10, x3, n11, n12, n13), rfl, ⟨Or.inr rfl, by (try dsimp only) <;> (first | (apply Int.le_antisymm <;> omega) | omega), bn12, bn13, (by obtain ⟨y3, y4, y1, y2, v8, q8, q9⟩ := xr8; rw [← ef5] at q9; exact ⟨by (try dsimp only) <;> (first | (apply Int.le_antisymm <;> omega) | omega), y4, by (try dsimp only) <;> (first | (apply Int.le_antisymm <;> omega) | omega), ⟨fun z => absurd z (by decide), fun z => absurd z.1 (by (first | (apply Int.le_antisymm <;> omega) | omega))⟩, r1, o9r, ⟨by rw [← ef4], Or.inl ⟨by (first | (apply Int.le_antisymm <;> omega) | omega), rfl, by (first | (apply Int.le_antisymm <;> omega) | omega), y1, y2, rfl, rfl, by rw [← ef6], by rw [← ef7], v8, by (first | (apply Int.le_antisymm <;> omega) | omega), q9⟩⟩, fun _ _ _ => by rw [q9, show vp_updL (vp_updL gcva ac_length.toNatClampNeg 0) ac_length.toNatClampNeg v8 ac_length.toNatClampNeg = v8 from if_pos rfl]; (first | (apply Int.le_antisymm <;> omega) | omega)⟩)⟩, va_P.he ht.symm hP9, va_K.moved hW.alike hK, hD9⟩, hS.F ht⟩) hS.2.2 d_RE_readInstruction_472
  · skip
    by_cases g99_380 : r1.toInt = 5
    · have ho99 : tab_off 366 2 66 #[273, 273, 273, 281, 366, 366, 366, 366, 366, 289, 295, 295, 314, 366, 295, 366, 366, 366, 366, 366, 366, 366, 366, 366, 366, 366, 366, 366, 366, 366, 295, 295, 295, 295, 295, 366, 366, 366, 366, 366, 366, 366, 366, 366, 366, 366, 366, 366, 366, 366, 366, 366, 366, 366, 366, 366, 366, 366, 366, 366, 366, 322, 322, 330, 348] r1.toInt = 281 := by rw [g99_380]; rfl
      refine lv_tab (tgt := 380) hx hb d_RE_readInstruction_99 (by decide) ho99 (by decide) ?_
      clear ho99
      have kk : o9 = 5 := by (first | (apply Int.le_antisymm <;> omega) | omega)
      have hv9 : v9 = 0 := by have h9 := hok9.out; (first | (apply Int.le_antisymm <;> omega) | omega)
      have k5 := h5.out kk
      have ln : (et (o9, v9)).length = 0 := by rw [et_0 (by (first | (apply Int.le_antisymm <;> omega) | omega))]; rfl
      have tn : (gob (h0_openCount.toNatClampNeg - 1)).toNatClampNeg ≠ ac_length.toNatClampNeg := by have q := hgo.out (h0_openCount.toNatClampNeg - 1) (by (first | (apply Int.le_antisymm <;> omega) | omega)); have := i32_clamp (x := gob (h0_openCount.toNatClampNeg - 1)) q.1; (first | (apply Int.le_antisymm <;> omega) | omega)
      have hto9 : (f4 (gob (h0_openCount.toNatClampNeg - 1)).toNatClampNeg).toInt = 4 ∧ (upd gcel ac_length.toNatClampNeg (-1) (gob (h0_openCount.toNatClampNeg - 1)).toNatClampNeg).toInt < 0 := by rw [← ef4, pk_un tn, pk_un tn]; exact k5.2
      have hto8 : (f4 (gob (h0_openCount.toNatClampNeg - 1)).toNatClampNeg).toInt = 4 ∧ (f7 (gob (h0_openCount.toNatClampNeg - 1)).toNatClampNeg).toInt < 0 := by rw [← ef7]; exact hto9
      refine lv_aload_n hx hb d_RE_readInstruction_380 rfl (lv_at hl 2 rfl) ?_
      refine lv_iload_n hx hb d_RE_readInstruction_381 rfl (lv_at hl 0 rfl) ?_
      have hPc := hP.sb (wq := (wz_235 h0 aw ac n2 h0_limit 1 h0_codeCount ob h0_openCount ac cfi clk clt x3 cop cva cpt cel ac_labelCount cla ob cob gob cop ccop f4 cel ccel f7)) [6, 0, 1, 2, 5] rfl
      have hDc := hD.sb (wq := (wz_235 h0 aw ac n2 h0_limit 1 h0_codeCount ob h0_openCount ac cfi clk clt x3 cop cva cpt cel ac_labelCount cla ob cob gob cop ccop f4 cel ccel f7)) [6, 0, 1, 2, 5] (by decide) rfl
      have hKc := hK.sb (tyq := [(cob, .int), (ccop, .int), (ccel, .int)]) [1, 2, 5] rfl
      have hFc := va_free (wc := (wz_235 h0 aw ac n2 h0_limit 1 h0_codeCount ob h0_openCount ac cfi clk clt x3 cop cva cpt cel ac_labelCount cla ob cob gob cop ccop f4 cel ccel f7)) hD hS hA [6, 0, 1, 2, 5] rfl
      refine va_callv (va_runV (As := [.int ac_length]) (rest := []) ⟨hx, hb, hml, hown, hts⟩ (c_RE_turnToElsex l dC dI H.size h0 aw ac ob cfi clk clt cop cva cpt cel cla cob ccop ccel n2 h0_limit 1 h0_codeCount h0_openCount x3 ac_labelCount gob f4 f7 (Or.inr rfl) (b_h0_openCount) ac_length (by (first | (apply Int.le_antisymm <;> omega) | omega)) (by (first | (apply Int.le_antisymm <;> omega) | omega)) (hg5) (k5.1) (hto8)) (cwV 1 hts (gV kM_RE_209 kV_RE_turnToElse kS_RE_turnToElse kI_RE kC_RE_turnToElse) rfl rfl rfl (by decide +kernel) ⟨Nat.le_of_ble_eq_true rfl, Nat.le_of_ble_eq_true rfl⟩) ⟨fun a U g mk z => by obtain ⟨z0, z1, zP, zK, zD⟩ := z; exact ⟨z0, z1, zP, va_K.moved (u := U) (U := U.calling g mk a) (Vm.Alike.refl U.vm) zK, zD⟩, va_recv hKc hPc (ci := 7) (q0 := 0) rfl rfl, fun U hU hW => ⟨rfl, by rw [hU], va_P.he hU.symm hPc, va_K.moved hW.alike hKc, hDc.weaken (fun _ _ _ _ => trivial)⟩⟩ rfl rfl hl.1 rfl (lv_room (Nat.le_of_ble_eq_true rfl)) d_RE_readInstruction_382 ⟨(Nat.zero_le _), (Nat.zero_le _)⟩) hS (fun q _ h => hFc q h) hFc (fun u t H1 locs ht hvm hw hB hz1 hk1 hS => ?_)
      obtain ⟨n15, n16⟩ := u
      try dsimp only at hw
      obtain ⟨bn16, xr14⟩ := hw
      try clear hw
      have tn16 := b01 bn16
      obtain ⟨hP1, hK1, hD1⟩ := hB
      replace hP1 := va_P.he ht hP1
      obtain ⟨hP, hD⟩ := va_join (wr := [(cva, .inl (ccva, 5000, .inr (.inl f5))), (cpt, .inl (ccpt, 5000, .inl f6)), (aw, .inr (10, [.ref ab, .ref ac, .int aw_typeCount, .ref wat, .ref wap, .ref wag, .int aw_functionCount, .ref waf, .int aw_hasMemory, .long aw_pagesLeast, .long aw_pagesMost, .int aw_globalCount, .ref wgt, .ref wft, .ref wfv, .ref wgc, .int aw_exportCount, .ref wek, .ref wei, .ref wes, .ref wez])), (ab, .inr (1, [.ref ax, .int ab_length])), (ax, .inl (cax, 8192, .inl gax))]) (w1 := (wz_235 h0 aw ac n2 h0_limit n16 h0_codeCount ob h0_openCount ac cfi clk clt x3 cop cva cpt cel ac_labelCount cla ob cob gob cop ccop f4 cel ccel n15)) hP hD [6, 0, 1, 2, 5] [3, 4, 7, 8, 9] rfl rfl (by decide) (by decide) hk1 hFc hP1 hD1
      clear hPc hDc hKc hFc hz1 hk1 hP1 hK1 hD1
      rename Heap => H
      have hP : va_P (dC, dI) cls [(cva, .inl (ccva, 5000, .inr (.inl f5))), (cpt, .inl (ccpt, 5000, .inl f6)), (aw, .inr (10, [.ref ab, .ref ac, .int aw_typeCount, .ref wat, .ref wap, .ref wag, .int aw_functionCount, .ref waf, .int aw_hasMemory, .long aw_pagesLeast, .long aw_pagesMost, .int aw_globalCount, .ref wgt, .ref wft, .ref wfv, .ref wgc, .int aw_exportCount, .ref wek, .ref wei, .ref wes, .ref wez])), (ab, .inr (1, [.ref ax, .int ab_length])), (ax, .inl (cax, 8192, .inl gax)), (h0, .inr (7, [.ref aw, .ref ac, .int n2, .int h0_limit, .int n16, .int h0_codeCount, .ref ob, .int h0_openCount])), (ac, .inr (3, [.ref cfi, .ref clk, .ref clt, .int x3, .ref cop, .ref cva, .ref cpt, .ref cel, .int ac_labelCount, .ref cla])), (ob, .inl (cob, 100, .inl gob)), (cop, .inl (ccop, 5000, .inl f4)), (cel, .inl (ccel, 5000, .inl n15))] H := hP
      have hD : va_D A [(cva, .inl (ccva, 5000, .inr (.inl f5))), (cpt, .inl (ccpt, 5000, .inl f6)), (aw, .inr (10, [.ref ab, .ref ac, .int aw_typeCount, .ref wat, .ref wap, .ref wag, .int aw_functionCount, .ref waf, .int aw_hasMemory, .long aw_pagesLeast, .long aw_pagesMost, .int aw_globalCount, .ref wgt, .ref wft, .ref wfv, .ref wgc, .int aw_exportCount, .ref wek, .ref wei, .ref wes, .ref wez])), (ab, .inr (1, [.ref ax, .int ab_length])), (ax, .inl (cax, 8192, .inl gax)), (h0, .inr (7, [.ref aw, .ref ac, .int n2, .int h0_limit, .int n16, .int h0_codeCount, .ref ob, .int h0_openCount])), (ac, .inr (3, [.ref cfi, .ref clk, .ref clt, .int x3, .ref cop, .ref cva, .ref cpt, .ref cel, .int ac_labelCount, .ref cla])), (ob, .inl (cob, 100, .inl gob)), (cop, .inl (ccop, 5000, .inl f4)), (cel, .inl (ccel, 5000, .inl n15))] := hD
      refine lv_goto (tgt := 471) hx hb d_RE_readInstruction_385 (by decide) ?_
      refine lv_iconst (v := 1) hx hb d_RE_readInstruction_471 (by decide) ?_
      have hP9 := hP.sb (wq := (wz_238 h0 aw ac n2 h0_limit n16 h0_codeCount ob h0_openCount aw ab ac aw_typeCount wat wap wag aw_functionCount waf aw_hasMemory aw_pagesLeast aw_pagesMost aw_globalCount wgt wft wfv wgc aw_exportCount wek wei wes wez ab ax ab_length ac cfi clk clt x3 cop cva cpt cel ac_labelCount cla ax cax gax ob cob gob cop ccop f4 cva ccva f5 cpt ccpt f6 cel ccel n15)) [5, 2, 3, 6, 4, 7, 8, 0, 1, 9] rfl
      have hD9 := hD.sb (wq := (wz_238 h0 aw ac n2 h0_limit n16 h0_codeCount ob h0_openCount aw ab ac aw_typeCount wat wap wag aw_functionCount waf aw_hasMemory aw_pagesLeast aw_pagesMost aw_globalCount wgt wft wfv wgc aw_exportCount wek wei wes wez ab ax ab_length ac cfi clk clt x3 cop cva cpt cel ac_labelCount cla ax cax gax ob cob gob cop ccop f4 cva ccva f5 cpt ccpt f6 cel ccel n15)) [5, 2, 3, 6, 4, 7, 8, 0, 1, 9] (by decide) rfl
      exact W.zret (v := 1) hx hb hr (zn01 (Or.inr rfl)) (fun t ht hW => ⟨⟨1, (n15, f4, f6, f5, gob, x3, n2, h0_openCount, n16), rfl, ⟨Or.inr rfl, by (try dsimp only) <;> (first | (apply Int.le_antisymm <;> omega) | omega), b_h0_openCount, bn16, (by obtain ⟨y4, y5⟩ := xr14; rw [← ef7] at y5; exact ⟨by (try dsimp only) <;> (first | (apply Int.le_antisymm <;> omega) | omega), y4, by (try dsimp only) <;> (first | (apply Int.le_antisymm <;> omega) | omega), ⟨fun z => absurd z (by decide), fun z => absurd z.1 (by (first | (apply Int.le_antisymm <;> omega) | omega))⟩, r1, o9r, ⟨by rw [← ef4], Or.inr (Or.inl ⟨by (first | (apply Int.le_antisymm <;> omega) | omega), rfl, rfl, rfl, rfl, rfl, by rw [← ef6], by rw [← ef5], k5.1, hto9.1, hto9.2, y5⟩)⟩, fun _ _ _ => by rw [← ef5, show vp_updL gcva ac_length.toNatClampNeg 0 ac_length.toNatClampNeg = 0 from if_pos rfl]; show (0 : Int) = v9; (first | (apply Int.le_antisymm <;> omega) | omega)⟩)⟩, va_P.he ht.symm hP9, va_K.moved hW.alike hK, hD9⟩, hS.F ht⟩) hS.2.2 d_RE_readInstruction_472
    · skip
      by_cases g99_388 : r1.toInt = 11
      · have ho99 : tab_off 366 2 66 #[273, 273, 273, 281, 366, 366, 366, 366, 366, 289, 295, 295, 314, 366, 295, 366, 366, 366, 366, 366, 366, 366, 366, 366, 366, 366, 366, 366, 366, 366, 295, 295, 295, 295, 295, 366, 366, 366, 366, 366, 366, 366, 366, 366, 366, 366, 366, 366, 366, 366, 366, 366, 366, 366, 366, 366, 366, 366, 366, 366, 366, 322, 322, 330, 348] r1.toInt = 289 := by rw [g99_388]; rfl
        refine lv_tab (tgt := 388) hx hb d_RE_readInstruction_99 (by decide) ho99 (by decide) ?_
        clear ho99
        have kk : o9 = 11 := by (first | (apply Int.le_antisymm <;> omega) | omega)
        have hv9 : v9 = 0 := by have h9 := hok9.out; (first | (apply Int.le_antisymm <;> omega) | omega)
        have ln : (et (o9, v9)).length = 0 := by rw [et_0 (by (first | (apply Int.le_antisymm <;> omega) | omega))]; rfl
        have el8 : bx (∀ j : Nat, (f7 j).toInt < 5000) := fun j => by rw [← ef7]; exact upd_lt hel.out (by decide) j
        refine lv_aload_n hx hb d_RE_readInstruction_388 rfl (lv_at hl 2 rfl) ?_
        refine lv_iload_n hx hb d_RE_readInstruction_389 rfl (lv_at hl 0 rfl) ?_
        have hPc := hP.sb (wq := (wz_235 h0 aw ac n2 h0_limit 1 h0_codeCount ob h0_openCount ac cfi clk clt x3 cop cva cpt cel ac_labelCount cla ob cob gob cpt ccpt f6 cel ccel f7)) [6, 0, 1, 4, 5] rfl
        have hDc := hD.sb (wq := (wz_235 h0 aw ac n2 h0_limit 1 h0_codeCount ob h0_openCount ac cfi clk clt x3 cop cva cpt cel ac_labelCount cla ob cob gob cpt ccpt f6 cel ccel f7)) [6, 0, 1, 4, 5] (by decide) rfl
        have hKc := hK.sb (tyq := [(cob, .int), (ccpt, .int), (ccel, .int)]) [1, 4, 5] rfl
        have hFc := va_free (wc := (wz_235 h0 aw ac n2 h0_limit 1 h0_codeCount ob h0_openCount ac cfi clk clt x3 cop cva cpt cel ac_labelCount cla ob cob gob cpt ccpt f6 cel ccel f7)) hD hS hA [6, 0, 1, 4, 5] rfl
        refine va_calli (va_runV (As := [.int ac_length]) (rest := []) ⟨hx, hb, hml, hown, hts⟩ (c_RE_closeBlockx l dC dI H.size h0 aw ac ob cfi clk clt cop cva cpt cel cla cob ccpt ccel n2 h0_limit 1 h0_codeCount h0_openCount x3 ac_labelCount gob f6 f7 (b_h0_openCount) ac_length (by (first | (apply Int.le_antisymm <;> omega) | omega)) (hg5) (el8)) (cwV 1 hts (gV kM_RE_212 kV_RE_closeBlock kS_RE_closeBlock kI_RE kC_RE_closeBlock) rfl rfl rfl (by decide +kernel) ⟨Nat.le_of_ble_eq_true rfl, Nat.le_of_ble_eq_true rfl⟩) ⟨fun a U g mk z => by obtain ⟨z0, z1, zP, zK, zD⟩ := z; exact ⟨z0, z1, zP, va_K.moved (u := U) (U := U.calling g mk a) (Vm.Alike.refl U.vm) zK, zD⟩, va_recv hKc hPc (ci := 7) (q0 := 0) rfl rfl, fun U hU hW => ⟨rfl, by rw [hU], va_P.he hU.symm hPc, va_K.moved hW.alike hKc, hDc.weaken (fun _ _ _ _ => trivial)⟩⟩ rfl rfl hl.1 rfl (lv_room (Nat.le_of_ble_eq_true rfl)) d_RE_readInstruction_390 ⟨(Nat.zero_le _), (Nat.zero_le _)⟩) hS (fun q _ h => hFc q h) hFc (fun r17 u t H1 locs ht hvm hw hB hz1 hk1 hS => ?_)
        obtain ⟨n18, n19⟩ := u
        try dsimp only at hw
        obtain ⟨br17, bn19, xr17⟩ := hw
        try clear hw
        have tr17 := b01 br17
        obtain ⟨hP1, hK1, hD1⟩ := hB
        replace hP1 := va_P.he ht hP1
        obtain ⟨hP, hD⟩ := va_join (wr := [(cop, .inl (ccop, 5000, .inl f4)), (cva, .inl (ccva, 5000, .inr (.inl f5))), (aw, .inr (10, [.ref ab, .ref ac, .int aw_typeCount, .ref wat, .ref wap, .ref wag, .int aw_functionCount, .ref waf, .int aw_hasMemory, .long aw_pagesLeast, .long aw_pagesMost, .int aw_globalCount, .ref wgt, .ref wft, .ref wfv, .ref wgc, .int aw_exportCount, .ref wek, .ref wei, .ref wes, .ref wez])), (ab, .inr (1, [.ref ax, .int ab_length])), (ax, .inl (cax, 8192, .inl gax))]) (w1 := (wz_235 h0 aw ac n2 h0_limit 1 h0_codeCount ob n19 ac cfi clk clt x3 cop cva cpt cel ac_labelCount cla ob cob gob cpt ccpt n18 cel ccel f7)) hP hD [6, 0, 1, 4, 5] [2, 3, 7, 8, 9] rfl rfl (by decide) (by decide) hk1 hFc hP1 hD1
        clear hPc hDc hKc hFc hz1 hk1 hP1 hK1 hD1
        rename Heap => H
        have hP : va_P (dC, dI) cls [(cop, .inl (ccop, 5000, .inl f4)), (cva, .inl (ccva, 5000, .inr (.inl f5))), (aw, .inr (10, [.ref ab, .ref ac, .int aw_typeCount, .ref wat, .ref wap, .ref wag, .int aw_functionCount, .ref waf, .int aw_hasMemory, .long aw_pagesLeast, .long aw_pagesMost, .int aw_globalCount, .ref wgt, .ref wft, .ref wfv, .ref wgc, .int aw_exportCount, .ref wek, .ref wei, .ref wes, .ref wez])), (ab, .inr (1, [.ref ax, .int ab_length])), (ax, .inl (cax, 8192, .inl gax)), (h0, .inr (7, [.ref aw, .ref ac, .int n2, .int h0_limit, .int 1, .int h0_codeCount, .ref ob, .int n19])), (ac, .inr (3, [.ref cfi, .ref clk, .ref clt, .int x3, .ref cop, .ref cva, .ref cpt, .ref cel, .int ac_labelCount, .ref cla])), (ob, .inl (cob, 100, .inl gob)), (cpt, .inl (ccpt, 5000, .inl n18)), (cel, .inl (ccel, 5000, .inl f7))] H := hP
        have hD : va_D A [(cop, .inl (ccop, 5000, .inl f4)), (cva, .inl (ccva, 5000, .inr (.inl f5))), (aw, .inr (10, [.ref ab, .ref ac, .int aw_typeCount, .ref wat, .ref wap, .ref wag, .int aw_functionCount, .ref waf, .int aw_hasMemory, .long aw_pagesLeast, .long aw_pagesMost, .int aw_globalCount, .ref wgt, .ref wft, .ref wfv, .ref wgc, .int aw_exportCount, .ref wek, .ref wei, .ref wes, .ref wez])), (ab, .inr (1, [.ref ax, .int ab_length])), (ax, .inl (cax, 8192, .inl gax)), (h0, .inr (7, [.ref aw, .ref ac, .int n2, .int h0_limit, .int 1, .int h0_codeCount, .ref ob, .int n19])), (ac, .inr (3, [.ref cfi, .ref clk, .ref clt, .int x3, .ref cop, .ref cva, .ref cpt, .ref cel, .int ac_labelCount, .ref cla])), (ob, .inl (cob, 100, .inl gob)), (cpt, .inl (ccpt, 5000, .inl n18)), (cel, .inl (ccel, 5000, .inl f7))] := hD
        have hP9 := hP.sb (wq := (wz_238 h0 aw ac n2 h0_limit 1 h0_codeCount ob n19 aw ab ac aw_typeCount wat wap wag aw_functionCount waf aw_hasMemory aw_pagesLeast aw_pagesMost aw_globalCount wgt wft wfv wgc aw_exportCount wek wei wes wez ab ax ab_length ac cfi clk clt x3 cop cva cpt cel ac_labelCount cla ax cax gax ob cob gob cop ccop f4 cva ccva f5 cpt ccpt n18 cel ccel f7)) [5, 2, 3, 6, 4, 7, 0, 1, 8, 9] rfl
        have hD9 := hD.sb (wq := (wz_238 h0 aw ac n2 h0_limit 1 h0_codeCount ob n19 aw ab ac aw_typeCount wat wap wag aw_functionCount waf aw_hasMemory aw_pagesLeast aw_pagesMost aw_globalCount wgt wft wfv wgc aw_exportCount wek wei wes wez ab ax ab_length ac cfi clk clt x3 cop cva cpt cel ac_labelCount cla ax cax gax ob cob gob cop ccop f4 cva ccva f5 cpt ccpt n18 cel ccel f7)) [5, 2, 3, 6, 4, 7, 0, 1, 8, 9] (by decide) rfl
        exact W.zret (v := r17) hx hb hr (zn01 (br17)) (fun t ht hW => ⟨⟨r17, (f7, f4, n18, f5, gob, x3, n2, n19, 1), rfl, ⟨br17, by (try dsimp only) <;> (first | (apply Int.le_antisymm <;> omega) | omega), bn19, Or.inr rfl, (by obtain ⟨y1, y2⟩ := xr17; rw [← ef6, ← ef7] at y2; rw [← ef6] at y1; exact ⟨by (try dsimp only) <;> (first | (apply Int.le_antisymm <;> omega) | omega), by (try dsimp only) <;> (first | (apply Int.le_antisymm <;> omega) | omega), by (try dsimp only) <;> (first | (apply Int.le_antisymm <;> omega) | omega), ⟨fun z => ⟨by (first | (apply Int.le_antisymm <;> omega) | omega), (y1 z).1⟩, fun z => by rcases br17 with w | w; exact (by rw [w]; rfl); exact absurd (y2 (by rw [w]; rfl)).1 (by (first | (apply Int.le_antisymm <;> omega) | omega))⟩, r1, o9r, ⟨by rw [← ef4], Or.inr (Or.inr (Or.inl ⟨by (first | (apply Int.le_antisymm <;> omega) | omega), rfl, rfl, rfl, by rw [← ef7], by rw [← ef5], y1, y2⟩))⟩, fun _ _ _ => by rw [← ef5, show vp_updL gcva ac_length.toNatClampNeg 0 ac_length.toNatClampNeg = 0 from if_pos rfl]; show (0 : Int) = v9; (first | (apply Int.le_antisymm <;> omega) | omega)⟩)⟩, va_P.he ht.symm hP9, va_K.moved hW.alike hK, hD9⟩, hS.F ht⟩) hS.2.2 d_RE_readInstruction_393
      · skip
        by_cases g99_394 : r1.toInt = 12 ∨ r1.toInt = 13 ∨ r1.toInt = 16 ∨ r1.toInt = 32 ∨ r1.toInt = 33 ∨ r1.toInt = 34 ∨ r1.toInt = 35 ∨ r1.toInt = 36
        · have ho99 : tab_off 366 2 66 #[273, 273, 273, 281, 366, 366, 366, 366, 366, 289, 295, 295, 314, 366, 295, 366, 366, 366, 366, 366, 366, 366, 366, 366, 366, 366, 366, 366, 366, 366, 295, 295, 295, 295, 295, 366, 366, 366, 366, 366, 366, 366, 366, 366, 366, 366, 366, 366, 366, 366, 366, 366, 366, 366, 366, 366, 366, 366, 366, 366, 366, 322, 322, 330, 348] r1.toInt = 295 := by rcases g99_394 with z | z | z | z | z | z | z | z <;> (rw [z]; rfl)
          refine lv_tab (tgt := 394) hx hb d_RE_readInstruction_99 (by decide) ho99 (by decide) ?_
          clear ho99
          have kk : o9 = 12 ∨ o9 = 13 ∨ o9 = 16 ∨ o9 = 32 ∨ o9 = 33 ∨ o9 = 35 ∨ o9 = 36 := by (first | (apply Int.le_antisymm <;> omega) | omega)
          have hv9 : 0 ≤ v9 ∧ v9 < 128 := by have h9 := hok9.out; (first | (apply Int.le_antisymm <;> omega) | omega)
          have e1 := b1.out
          rw [et_u kk, eat] at e1
          have ln : (et (o9, v9)).length = (leb 5 v9.toNat).length := by rw [et_u kk]
          refine lv_aload_n hx hb d_RE_readInstruction_394 rfl (lv_at hl 2 rfl) ?_
          refine va_get (D := (dC, dI)) (ci := 7) (v := .ref ac) (C := R_RE) (T := F_RE) (N := 8) hx hb hts i_RE hown hK hP 6 rfl rfl 1 (by decide) (hts _ kF_RE_25) (fun _ h9 => h9) rfl d_RE_readInstruction_395 ?_
          refine va_get (D := (dC, dI)) (ci := 3) (v := .ref cva) (C := R_CD) (T := F_CD) (N := 10) hx hb hts i_CD hown hK hP 0 rfl rfl 5 (by decide) (hts _ kF_RE_197) (fun _ h9 => h9) rfl d_RE_readInstruction_398 ?_
          refine lv_iload_n hx hb d_RE_readInstruction_401 rfl (lv_at hl 0 rfl) ?_
          refine lv_aload_n hx hb d_RE_readInstruction_402 rfl (lv_at hl 2 rfl) ?_
          refine lv_ldc2 hx hb hown (hts _ kL_RE_82) d_RE_readInstruction_403 ?_
          refine lv_topl (fun x20 ex20 => ?_)
          have tx20 : x20.toInt = 2147483647 := by rw [ex20]; decide
          have hPc := hP.sb (wq := (wz_46 h0 aw ac n2 h0_limit 1 h0_codeCount ob h0_openCount aw ab ac aw_typeCount wat wap wag aw_functionCount waf aw_hasMemory aw_pagesLeast aw_pagesMost aw_globalCount wgt wft wfv wgc aw_exportCount wek wei wes wez ab ax ab_length ax cax gax)) [6, 7, 8, 9] rfl
          have hDc := hD.sb (wq := (wz_46 h0 aw ac n2 h0_limit 1 h0_codeCount ob h0_openCount aw ab ac aw_typeCount wat wap wag aw_functionCount waf aw_hasMemory aw_pagesLeast aw_pagesMost aw_globalCount wgt wft wfv wgc aw_exportCount wek wei wes wez ab ax ab_length ax cax gax)) [6, 7, 8, 9] (by decide) rfl
          have hKc := hK.sb (tyq := [(cax, .byte)]) [0] rfl
          have hFc := va_free (wc := (wz_46 h0 aw ac n2 h0_limit 1 h0_codeCount ob h0_openCount aw ab ac aw_typeCount wat wap wag aw_functionCount waf aw_hasMemory aw_pagesLeast aw_pagesMost aw_globalCount wgt wft wfv wgc aw_exportCount wek wei wes wez ab ax ab_length ax cax gax)) hD hS hA [6, 7, 8, 9] rfl
          refine va_calll (va_runV (As := [.long x20]) (rest := [.int ac_length, .ref cva]) ⟨hx, hb, hml, hown, hts⟩ (c_RE_readUnsignedx l dC dI H.size h0 aw ac ob ab wat wap wag waf wgt wft wfv wgc wek wei wes wez ax cax n2 h0_limit 1 h0_codeCount h0_openCount aw_typeCount aw_functionCount aw_hasMemory aw_pagesLeast aw_pagesMost aw_globalCount aw_exportCount ab_length gax v9.toNat (Or.inr rfl) x20 (by (first | (apply Int.le_antisymm <;> omega) | omega)) (by (first | (apply Int.le_antisymm <;> omega) | omega)) (by (first | (apply Int.le_antisymm <;> omega) | omega)) (e1) (by (first | (apply Int.le_antisymm <;> omega) | omega))) (cwV 1 hts (gV kM_RE_64 kV_RE_readUnsigned kS_RE_readUnsigned kI_RE kC_RE_readUnsigned) rfl rfl rfl (by decide +kernel) ⟨Nat.le_of_ble_eq_true rfl, Nat.le_of_ble_eq_true rfl⟩) ⟨fun a U g mk z => by obtain ⟨z0, z1, zP, zK, zD⟩ := z; exact ⟨z0, z1, zP, va_K.moved (u := U) (U := U.calling g mk a) (Vm.Alike.refl U.vm) zK, zD⟩, va_recv hKc hPc (ci := 7) (q0 := 0) rfl rfl, fun U hU hW => ⟨rfl, by rw [hU], va_P.he hU.symm hPc, va_K.moved hW.alike hKc, hDc.weaken (fun _ _ _ _ => trivial)⟩⟩ rfl rfl hl.1 rfl (lv_room (Nat.le_of_ble_eq_true rfl)) d_RE_readInstruction_406 ⟨(Nat.zero_le _), (Nat.zero_le _)⟩) hS (fun q _ h => hFc q h) hFc (fun r21 u t H1 locs ht hvm hw hB hz1 hk1 hS => ?_)
          obtain ⟨n22, n23⟩ := u
          try dsimp only at hw
          obtain ⟨bn23, xr21⟩ := hw
          try clear hw
          have tn23 := b01 bn23
          obtain ⟨hP1, hK1, hD1⟩ := hB
          replace hP1 := va_P.he ht hP1
          obtain ⟨hP, hD⟩ := va_join (wr := (wz_239 ac cfi clk clt x3 cop cva cpt cel ac_labelCount cla ob cob gob cop ccop f4 cva ccva f5 cpt ccpt f6 cel ccel f7)) (w1 := (wz_46 h0 aw ac n22 h0_limit n23 h0_codeCount ob h0_openCount aw ab ac aw_typeCount wat wap wag aw_functionCount waf aw_hasMemory aw_pagesLeast aw_pagesMost aw_globalCount wgt wft wfv wgc aw_exportCount wek wei wes wez ab ax ab_length ax cax gax)) hP hD [6, 7, 8, 9] [0, 1, 2, 3, 4, 5] rfl rfl (by decide) (by decide) hk1 hFc hP1 hD1
          clear hPc hDc hKc hFc hz1 hk1 hP1 hK1 hD1
          rename Heap => H
          have hP : va_P (dC, dI) cls (wz_240 ac cfi clk clt x3 cop cva cpt cel ac_labelCount cla ob cob gob cop ccop f4 cva ccva f5 cpt ccpt f6 cel ccel f7 h0 aw ac n22 h0_limit n23 h0_codeCount ob h0_openCount aw ab ac aw_typeCount wat wap wag aw_functionCount waf aw_hasMemory aw_pagesLeast aw_pagesMost aw_globalCount wgt wft wfv wgc aw_exportCount wek wei wes wez ab ax ab_length ax cax gax) H := hP
          have hD : va_D A (wz_240 ac cfi clk clt x3 cop cva cpt cel ac_labelCount cla ob cob gob cop ccop f4 cva ccva f5 cpt ccpt f6 cel ccel f7 h0 aw ac n22 h0_limit n23 h0_codeCount ob h0_openCount aw ab ac aw_typeCount wat wap wag aw_functionCount waf aw_hasMemory aw_pagesLeast aw_pagesMost aw_globalCount wgt wft wfv wgc aw_exportCount wek wei wes wez ab ax ab_length ax cax gax) := hD
          have g409 : vp_in ac_length 5000 := vp_in_iff.mpr ⟨by (first | (apply Int.le_antisymm <;> omega) | omega), by (first | (apply Int.le_antisymm <;> omega) | omega)⟩
          refine va_last hx hb hK hP hD hS 3 3 rfl rfl g409 d_RE_readInstruction_409 (fun H locs hP hD hS => ?_)
          generalize ef24 : vp_updL f5 ac_length.toNatClampNeg r21 = f24 at hP hD
          refine lv_goto (tgt := 471) hx hb d_RE_readInstruction_410 (by decide) ?_
          refine lv_iconst (v := 1) hx hb d_RE_readInstruction_471 (by decide) ?_
          have hP9 := hP.sb (wq := (wz_238 h0 aw ac n22 h0_limit n23 h0_codeCount ob h0_openCount aw ab ac aw_typeCount wat wap wag aw_functionCount waf aw_hasMemory aw_pagesLeast aw_pagesMost aw_globalCount wgt wft wfv wgc aw_exportCount wek wei wes wez ab ax ab_length ac cfi clk clt x3 cop cva cpt cel ac_labelCount cla ax cax gax ob cob gob cop ccop f4 cva ccva f24 cpt ccpt f6 cel ccel f7)) [6, 7, 8, 0, 9, 1, 2, 3, 4, 5] rfl
          have hD9 := hD.sb (wq := (wz_238 h0 aw ac n22 h0_limit n23 h0_codeCount ob h0_openCount aw ab ac aw_typeCount wat wap wag aw_functionCount waf aw_hasMemory aw_pagesLeast aw_pagesMost aw_globalCount wgt wft wfv wgc aw_exportCount wek wei wes wez ab ax ab_length ac cfi clk clt x3 cop cva cpt cel ac_labelCount cla ax cax gax ob cob gob cop ccop f4 cva ccva f24 cpt ccpt f6 cel ccel f7)) [6, 7, 8, 0, 9, 1, 2, 3, 4, 5] (by decide) rfl
          exact W.zret (v := 1) hx hb hr (zn01 (Or.inr rfl)) (fun t ht hW => ⟨⟨1, (f7, f4, f6, f24, gob, x3, n22, h0_openCount, n23), rfl, ⟨Or.inr rfl, by (try dsimp only) <;> (first | (apply Int.le_antisymm <;> omega) | omega), b_h0_openCount, bn23, (by exact ⟨by (try dsimp only) <;> (first | (apply Int.le_antisymm <;> omega) | omega), by (try dsimp only) <;> (first | (apply Int.le_antisymm <;> omega) | omega), by (try dsimp only) <;> (first | (apply Int.le_antisymm <;> omega) | omega), ⟨fun z => absurd z (by decide), fun z => absurd z.1 (by (first | (apply Int.le_antisymm <;> omega) | omega))⟩, r1, o9r, ⟨by rw [← ef4], Or.inr (Or.inr (Or.inr (Or.inl ⟨by (first | (apply Int.le_antisymm <;> omega) | omega), rfl, rfl, rfl, rfl, rfl, by rw [← ef6], by rw [← ef7], r21, by (first | (apply Int.le_antisymm <;> omega) | omega), by (first | (apply Int.le_antisymm <;> omega) | omega), by rw [← ef24, ← ef5]⟩)))⟩, fun _ _ _ => by rw [← ef24, show vp_updL _ ac_length.toNatClampNeg r21 ac_length.toNatClampNeg = r21 from if_pos rfl]; (first | (apply Int.le_antisymm <;> omega) | omega)⟩)⟩, va_P.he ht.symm hP9, va_K.moved hW.alike hK, hD9⟩, hS.F ht⟩) hS.2.2 d_RE_readInstruction_472
        · skip
          by_cases g99_421 : r1.toInt = 63 ∨ r1.toInt = 64
          · have ho99 : tab_off 366 2 66 #[273, 273, 273, 281, 366, 366, 366, 366, 366, 289, 295, 295, 314, 366, 295, 366, 366, 366, 366, 366, 366, 366, 366, 366, 366, 366, 366, 366, 366, 366, 295, 295, 295, 295, 295, 366, 366, 366, 366, 366, 366, 366, 366, 366, 366, 366, 366, 366, 366, 366, 366, 366, 366, 366, 366, 366, 366, 366, 366, 366, 366, 322, 322, 330, 348] r1.toInt = 322 := by rcases g99_421 with z | z <;> (rw [z]; rfl)
            refine lv_tab (tgt := 421) hx hb d_RE_readInstruction_99 (by decide) ho99 (by decide) ?_
            clear ho99
            have kk : o9 = 63 ∨ o9 = 64 := by (first | (apply Int.le_antisymm <;> omega) | omega)
            have hv9 : v9 = 0 := by have h9 := hok9.out; (first | (apply Int.le_antisymm <;> omega) | omega)
            have e1 := b1.out
            rw [et_g kk] at e1
            have e1 := e1.1
            rw [eat] at e1
            have ln : (et (o9, v9)).length = 1 := by rw [et_g kk]; rfl
            refine lv_aload_n hx hb d_RE_readInstruction_421 rfl (lv_at hl 2 rfl) ?_
            refine lv_iconst (v := 0) hx hb d_RE_readInstruction_422 (by decide) ?_
            have hPc := hP.sb (wq := (wz_46 h0 aw ac n2 h0_limit 1 h0_codeCount ob h0_openCount aw ab ac aw_typeCount wat wap wag aw_functionCount waf aw_hasMemory aw_pagesLeast aw_pagesMost aw_globalCount wgt wft wfv wgc aw_exportCount wek wei wes wez ab ax ab_length ax cax gax)) [6, 7, 8, 9] rfl
            have hDc := hD.sb (wq := (wz_46 h0 aw ac n2 h0_limit 1 h0_codeCount ob h0_openCount aw ab ac aw_typeCount wat wap wag aw_functionCount waf aw_hasMemory aw_pagesLeast aw_pagesMost aw_globalCount wgt wft wfv wgc aw_exportCount wek wei wes wez ab ax ab_length ax cax gax)) [6, 7, 8, 9] (by decide) rfl
            have hKc := hK.sb (tyq := [(cax, .byte)]) [0] rfl
            have hFc := va_free (wc := (wz_46 h0 aw ac n2 h0_limit 1 h0_codeCount ob h0_openCount aw ab ac aw_typeCount wat wap wag aw_functionCount waf aw_hasMemory aw_pagesLeast aw_pagesMost aw_globalCount wgt wft wfv wgc aw_exportCount wek wei wes wez ab ax ab_length ax cax gax)) hD hS hA [6, 7, 8, 9] rfl
            refine va_callv (va_runV (As := [.int 0]) (rest := []) ⟨hx, hb, hml, hown, hts⟩ (c_RE_expectx l dC dI H.size h0 aw ac ob ab wat wap wag waf wgt wft wfv wgc wek wei wes wez ax cax n2 h0_limit 1 h0_codeCount h0_openCount aw_typeCount aw_functionCount aw_hasMemory aw_pagesLeast aw_pagesMost aw_globalCount aw_exportCount ab_length gax (Or.inr rfl) 0 (by (first | (apply Int.le_antisymm <;> omega) | omega)) (by (first | (apply Int.le_antisymm <;> omega) | omega)) (by (first | (apply Int.le_antisymm <;> omega) | omega)) (by (try dsimp only) <;> (first | (apply Int.le_antisymm <;> omega) | omega))) (cwV 1 hts (gV kM_RE_56 kV_RE_expect kS_RE_expect kI_RE kC_RE_expect) rfl rfl rfl (by decide +kernel) ⟨Nat.le_of_ble_eq_true rfl, Nat.le_of_ble_eq_true rfl⟩) ⟨fun a U g mk z => by obtain ⟨z0, z1, zP, zK, zD⟩ := z; exact ⟨z0, z1, zP, va_K.moved (u := U) (U := U.calling g mk a) (Vm.Alike.refl U.vm) zK, zD⟩, va_recv hKc hPc (ci := 7) (q0 := 0) rfl rfl, fun U hU hW => ⟨rfl, by rw [hU], va_P.he hU.symm hPc, va_K.moved hW.alike hKc, hDc.weaken (fun _ _ _ _ => trivial)⟩⟩ rfl rfl hl.1 rfl (lv_room (Nat.le_of_ble_eq_true rfl)) d_RE_readInstruction_423 ⟨(Nat.zero_le _), (Nat.zero_le _)⟩) hS (fun q _ h => hFc q h) hFc (fun u t H1 locs ht hvm hw hB hz1 hk1 hS => ?_)
            obtain ⟨n26, n27⟩ := u
            try dsimp only at hw
            obtain ⟨bn27, xr25⟩ := hw
            try clear hw
            have tn27 := b01 bn27
            obtain ⟨hP1, hK1, hD1⟩ := hB
            replace hP1 := va_P.he ht hP1
            obtain ⟨hP, hD⟩ := va_join (wr := (wz_239 ac cfi clk clt x3 cop cva cpt cel ac_labelCount cla ob cob gob cop ccop f4 cva ccva f5 cpt ccpt f6 cel ccel f7)) (w1 := (wz_46 h0 aw ac n26 h0_limit n27 h0_codeCount ob h0_openCount aw ab ac aw_typeCount wat wap wag aw_functionCount waf aw_hasMemory aw_pagesLeast aw_pagesMost aw_globalCount wgt wft wfv wgc aw_exportCount wek wei wes wez ab ax ab_length ax cax gax)) hP hD [6, 7, 8, 9] [0, 1, 2, 3, 4, 5] rfl rfl (by decide) (by decide) hk1 hFc hP1 hD1
            clear hPc hDc hKc hFc hz1 hk1 hP1 hK1 hD1
            rename Heap => H
            have hP : va_P (dC, dI) cls (wz_240 ac cfi clk clt x3 cop cva cpt cel ac_labelCount cla ob cob gob cop ccop f4 cva ccva f5 cpt ccpt f6 cel ccel f7 h0 aw ac n26 h0_limit n27 h0_codeCount ob h0_openCount aw ab ac aw_typeCount wat wap wag aw_functionCount waf aw_hasMemory aw_pagesLeast aw_pagesMost aw_globalCount wgt wft wfv wgc aw_exportCount wek wei wes wez ab ax ab_length ax cax gax) H := hP
            have hD : va_D A (wz_240 ac cfi clk clt x3 cop cva cpt cel ac_labelCount cla ob cob gob cop ccop f4 cva ccva f5 cpt ccpt f6 cel ccel f7 h0 aw ac n26 h0_limit n27 h0_codeCount ob h0_openCount aw ab ac aw_typeCount wat wap wag aw_functionCount waf aw_hasMemory aw_pagesLeast aw_pagesMost aw_globalCount wgt wft wfv wgc aw_exportCount wek wei wes wez ab ax ab_length ax cax gax) := hD
            refine lv_goto (tgt := 471) hx hb d_RE_readInstruction_426 (by decide) ?_
            refine lv_iconst (v := 1) hx hb d_RE_readInstruction_471 (by decide) ?_
            have hP9 := hP.sb (wq := (wz_238 h0 aw ac n26 h0_limit n27 h0_codeCount ob h0_openCount aw ab ac aw_typeCount wat wap wag aw_functionCount waf aw_hasMemory aw_pagesLeast aw_pagesMost aw_globalCount wgt wft wfv wgc aw_exportCount wek wei wes wez ab ax ab_length ac cfi clk clt x3 cop cva cpt cel ac_labelCount cla ax cax gax ob cob gob cop ccop f4 cva ccva f5 cpt ccpt f6 cel ccel f7)) [6, 7, 8, 0, 9, 1, 2, 3, 4, 5] rfl
            have hD9 := hD.sb (wq := (wz_238 h0 aw ac n26 h0_limit n27 h0_codeCount ob h0_openCount aw ab ac aw_typeCount wat wap wag aw_functionCount waf aw_hasMemory aw_pagesLeast aw_pagesMost aw_globalCount wgt wft wfv wgc aw_exportCount wek wei wes wez ab ax ab_length ac cfi clk clt x3 cop cva cpt cel ac_labelCount cla ax cax gax ob cob gob cop ccop f4 cva ccva f5 cpt ccpt f6 cel ccel f7)) [6, 7, 8, 0, 9, 1, 2, 3, 4, 5] (by decide) rfl
            exact W.zret (v := 1) hx hb hr (zn01 (Or.inr rfl)) (fun t ht hW => ⟨⟨1, (f7, f4, f6, f5, gob, x3, n26, h0_openCount, n27), rfl, ⟨Or.inr rfl, by (try dsimp only) <;> (first | (apply Int.le_antisymm <;> omega) | omega), b_h0_openCount, bn27, (by exact ⟨by (try dsimp only) <;> (first | (apply Int.le_antisymm <;> omega) | omega), by (try dsimp only) <;> (first | (apply Int.le_antisymm <;> omega) | omega), by (try dsimp only) <;> (first | (apply Int.le_antisymm <;> omega) | omega), ⟨fun z => absurd z (by decide), fun z => absurd z.1 (by (first | (apply Int.le_antisymm <;> omega) | omega))⟩, r1, o9r, ⟨by rw [← ef4], Or.inr (Or.inr (Or.inr (Or.inr (Or.inr (Or.inl ⟨by (first | (apply Int.le_antisymm <;> omega) | omega), rfl, rfl, rfl, rfl, rfl, by rw [← ef6], by rw [← ef7], by rw [← ef5]⟩)))))⟩, fun _ _ _ => by rw [← ef5, show vp_updL gcva ac_length.toNatClampNeg 0 ac_length.toNatClampNeg = 0 from if_pos rfl]; show (0 : Int) = v9; (first | (apply Int.le_antisymm <;> omega) | omega)⟩)⟩, va_P.he ht.symm hP9, va_K.moved hW.alike hK, hD9⟩, hS.F ht⟩) hS.2.2 d_RE_readInstruction_472
          · skip
            by_cases g99_429 : r1.toInt = 65
            · have ho99 : tab_off 366 2 66 #[273, 273, 273, 281, 366, 366, 366, 366, 366, 289, 295, 295, 314, 366, 295, 366, 366, 366, 366, 366, 366, 366, 366, 366, 366, 366, 366, 366, 366, 366, 295, 295, 295, 295, 295, 366, 366, 366, 366, 366, 366, 366, 366, 366, 366, 366, 366, 366, 366, 366, 366, 366, 366, 366, 366, 366, 366, 366, 366, 366, 366, 322, 322, 330, 348] r1.toInt = 330 := by rw [g99_429]; rfl
              refine lv_tab (tgt := 429) hx hb d_RE_readInstruction_99 (by decide) ho99 (by decide) ?_
              clear ho99
              have kk : o9 = 65 := by (first | (apply Int.le_antisymm <;> omega) | omega)
              have hv9 : -2147483648 ≤ v9 ∧ v9 ≤ 2147483647 := by have h9 := hok9.out; (first | (apply Int.le_antisymm <;> omega) | omega)
              have e1 := b1.out
              rw [et_c (by (first | (apply Int.le_antisymm <;> omega) | omega)), eat] at e1
              have ln : (et (o9, v9)).length = (sleb 10 v9).length := by rw [et_c (by (first | (apply Int.le_antisymm <;> omega) | omega))]
              refine lv_aload_n hx hb d_RE_readInstruction_429 rfl (lv_at hl 2 rfl) ?_
              refine va_get (D := (dC, dI)) (ci := 7) (v := .ref ac) (C := R_RE) (T := F_RE) (N := 8) hx hb hts i_RE hown hK hP 6 rfl rfl 1 (by decide) (hts _ kF_RE_25) (fun _ h9 => h9) rfl d_RE_readInstruction_430 ?_
              refine va_get (D := (dC, dI)) (ci := 3) (v := .ref cva) (C := R_CD) (T := F_CD) (N := 10) hx hb hts i_CD hown hK hP 0 rfl rfl 5 (by decide) (hts _ kF_RE_197) (fun _ h9 => h9) rfl d_RE_readInstruction_433 ?_
              refine lv_iload_n hx hb d_RE_readInstruction_436 rfl (lv_at hl 0 rfl) ?_
              refine lv_aload_n hx hb d_RE_readInstruction_437 rfl (lv_at hl 2 rfl) ?_
              refine lv_bipush (v := 32) hx hb d_RE_readInstruction_438 (by decide) ?_
              have hPc := hP.sb (wq := (wz_46 h0 aw ac n2 h0_limit 1 h0_codeCount ob h0_openCount aw ab ac aw_typeCount wat wap wag aw_functionCount waf aw_hasMemory aw_pagesLeast aw_pagesMost aw_globalCount wgt wft wfv wgc aw_exportCount wek wei wes wez ab ax ab_length ax cax gax)) [6, 7, 8, 9] rfl
              have hDc := hD.sb (wq := (wz_46 h0 aw ac n2 h0_limit 1 h0_codeCount ob h0_openCount aw ab ac aw_typeCount wat wap wag aw_functionCount waf aw_hasMemory aw_pagesLeast aw_pagesMost aw_globalCount wgt wft wfv wgc aw_exportCount wek wei wes wez ab ax ab_length ax cax gax)) [6, 7, 8, 9] (by decide) rfl
              have hKc := hK.sb (tyq := [(cax, .byte)]) [0] rfl
              have hFc := va_free (wc := (wz_46 h0 aw ac n2 h0_limit 1 h0_codeCount ob h0_openCount aw ab ac aw_typeCount wat wap wag aw_functionCount waf aw_hasMemory aw_pagesLeast aw_pagesMost aw_globalCount wgt wft wfv wgc aw_exportCount wek wei wes wez ab ax ab_length ax cax gax)) hD hS hA [6, 7, 8, 9] rfl
              refine va_calll (va_runV (As := [.int 32]) (rest := [.int ac_length, .ref cva]) ⟨hx, hb, hml, hown, hts⟩ (c_RE_readSignedx l dC dI H.size h0 aw ac ob ab wat wap wag waf wgt wft wfv wgc wek wei wes wez ax cax n2 h0_limit 1 h0_codeCount h0_openCount aw_typeCount aw_functionCount aw_hasMemory aw_pagesLeast aw_pagesMost aw_globalCount aw_exportCount ab_length gax v9 (Or.inr rfl) 32 (by (first | (apply Int.le_antisymm <;> omega) | omega)) (by (first | (apply Int.le_antisymm <;> omega) | omega)) (by (first | (apply Int.le_antisymm <;> omega) | omega)) (e1) (by (first | (apply Int.le_antisymm <;> omega) | omega))) (cwV 1 hts (gV kM_RE_149 kV_RE_readSigned kS_RE_readSigned kI_RE kC_RE_readSigned) rfl rfl rfl (by decide +kernel) ⟨Nat.le_of_ble_eq_true rfl, Nat.le_of_ble_eq_true rfl⟩) ⟨fun a U g mk z => by obtain ⟨z0, z1, zP, zK, zD⟩ := z; exact ⟨z0, z1, zP, va_K.moved (u := U) (U := U.calling g mk a) (Vm.Alike.refl U.vm) zK, zD⟩, va_recv hKc hPc (ci := 7) (q0 := 0) rfl rfl, fun U hU hW => ⟨rfl, by rw [hU], va_P.he hU.symm hPc, va_K.moved hW.alike hKc, hDc.weaken (fun _ _ _ _ => trivial)⟩⟩ rfl rfl hl.1 rfl (lv_room (Nat.le_of_ble_eq_true rfl)) d_RE_readInstruction_440 ⟨(Nat.zero_le _), (Nat.zero_le _)⟩) hS (fun q _ h => hFc q h) hFc (fun r28 u t H1 locs ht hvm hw hB hz1 hk1 hS => ?_)
              obtain ⟨n29, n30⟩ := u
              try dsimp only at hw
              obtain ⟨bn30, xr28⟩ := hw
              try clear hw
              have tn30 := b01 bn30
              obtain ⟨hP1, hK1, hD1⟩ := hB
              replace hP1 := va_P.he ht hP1
              obtain ⟨hP, hD⟩ := va_join (wr := (wz_239 ac cfi clk clt x3 cop cva cpt cel ac_labelCount cla ob cob gob cop ccop f4 cva ccva f5 cpt ccpt f6 cel ccel f7)) (w1 := (wz_46 h0 aw ac n29 h0_limit n30 h0_codeCount ob h0_openCount aw ab ac aw_typeCount wat wap wag aw_functionCount waf aw_hasMemory aw_pagesLeast aw_pagesMost aw_globalCount wgt wft wfv wgc aw_exportCount wek wei wes wez ab ax ab_length ax cax gax)) hP hD [6, 7, 8, 9] [0, 1, 2, 3, 4, 5] rfl rfl (by decide) (by decide) hk1 hFc hP1 hD1
              clear hPc hDc hKc hFc hz1 hk1 hP1 hK1 hD1
              rename Heap => H
              have hP : va_P (dC, dI) cls (wz_240 ac cfi clk clt x3 cop cva cpt cel ac_labelCount cla ob cob gob cop ccop f4 cva ccva f5 cpt ccpt f6 cel ccel f7 h0 aw ac n29 h0_limit n30 h0_codeCount ob h0_openCount aw ab ac aw_typeCount wat wap wag aw_functionCount waf aw_hasMemory aw_pagesLeast aw_pagesMost aw_globalCount wgt wft wfv wgc aw_exportCount wek wei wes wez ab ax ab_length ax cax gax) H := hP
              have hD : va_D A (wz_240 ac cfi clk clt x3 cop cva cpt cel ac_labelCount cla ob cob gob cop ccop f4 cva ccva f5 cpt ccpt f6 cel ccel f7 h0 aw ac n29 h0_limit n30 h0_codeCount ob h0_openCount aw ab ac aw_typeCount wat wap wag aw_functionCount waf aw_hasMemory aw_pagesLeast aw_pagesMost aw_globalCount wgt wft wfv wgc aw_exportCount wek wei wes wez ab ax ab_length ax cax gax) := hD
              have g443 : vp_in ac_length 5000 := vp_in_iff.mpr ⟨by (first | (apply Int.le_antisymm <;> omega) | omega), by (first | (apply Int.le_antisymm <;> omega) | omega)⟩
              refine va_last hx hb hK hP hD hS 3 3 rfl rfl g443 d_RE_readInstruction_443 (fun H locs hP hD hS => ?_)
              generalize ef31 : vp_updL f5 ac_length.toNatClampNeg r28 = f31 at hP hD
              refine lv_goto (tgt := 471) hx hb d_RE_readInstruction_444 (by decide) ?_
              refine lv_iconst (v := 1) hx hb d_RE_readInstruction_471 (by decide) ?_
              have hP9 := hP.sb (wq := (wz_238 h0 aw ac n29 h0_limit n30 h0_codeCount ob h0_openCount aw ab ac aw_typeCount wat wap wag aw_functionCount waf aw_hasMemory aw_pagesLeast aw_pagesMost aw_globalCount wgt wft wfv wgc aw_exportCount wek wei wes wez ab ax ab_length ac cfi clk clt x3 cop cva cpt cel ac_labelCount cla ax cax gax ob cob gob cop ccop f4 cva ccva f31 cpt ccpt f6 cel ccel f7)) [6, 7, 8, 0, 9, 1, 2, 3, 4, 5] rfl
              have hD9 := hD.sb (wq := (wz_238 h0 aw ac n29 h0_limit n30 h0_codeCount ob h0_openCount aw ab ac aw_typeCount wat wap wag aw_functionCount waf aw_hasMemory aw_pagesLeast aw_pagesMost aw_globalCount wgt wft wfv wgc aw_exportCount wek wei wes wez ab ax ab_length ac cfi clk clt x3 cop cva cpt cel ac_labelCount cla ax cax gax ob cob gob cop ccop f4 cva ccva f31 cpt ccpt f6 cel ccel f7)) [6, 7, 8, 0, 9, 1, 2, 3, 4, 5] (by decide) rfl
              exact W.zret (v := 1) hx hb hr (zn01 (Or.inr rfl)) (fun t ht hW => ⟨⟨1, (f7, f4, f6, f31, gob, x3, n29, h0_openCount, n30), rfl, ⟨Or.inr rfl, by (try dsimp only) <;> (first | (apply Int.le_antisymm <;> omega) | omega), b_h0_openCount, bn30, (by exact ⟨by (try dsimp only) <;> (first | (apply Int.le_antisymm <;> omega) | omega), by (try dsimp only) <;> (first | (apply Int.le_antisymm <;> omega) | omega), by (try dsimp only) <;> (first | (apply Int.le_antisymm <;> omega) | omega), ⟨fun z => absurd z (by decide), fun z => absurd z.1 (by (first | (apply Int.le_antisymm <;> omega) | omega))⟩, r1, o9r, ⟨by rw [← ef4], Or.inr (Or.inr (Or.inr (Or.inr (Or.inr (Or.inr (Or.inl ⟨by (first | (apply Int.le_antisymm <;> omega) | omega), rfl, rfl, rfl, rfl, rfl, by rw [← ef6], by rw [← ef7], r28, by rw [← ef31, ← ef5]⟩))))))⟩, fun z1 z2 _ => absurd kk (by (first | (apply Int.le_antisymm <;> omega) | omega))⟩)⟩, va_P.he ht.symm hP9, va_K.moved hW.alike hK, hD9⟩, hS.F ht⟩) hS.2.2 d_RE_readInstruction_472
            · skip
              by_cases g99_447 : r1.toInt = 66
              · have ho99 : tab_off 366 2 66 #[273, 273, 273, 281, 366, 366, 366, 366, 366, 289, 295, 295, 314, 366, 295, 366, 366, 366, 366, 366, 366, 366, 366, 366, 366, 366, 366, 366, 366, 366, 295, 295, 295, 295, 295, 366, 366, 366, 366, 366, 366, 366, 366, 366, 366, 366, 366, 366, 366, 366, 366, 366, 366, 366, 366, 366, 366, 366, 366, 366, 366, 322, 322, 330, 348] r1.toInt = 348 := by rw [g99_447]; rfl
                refine lv_tab (tgt := 447) hx hb d_RE_readInstruction_99 (by decide) ho99 (by decide) ?_
                clear ho99
                have kk : o9 = 66 := by (first | (apply Int.le_antisymm <;> omega) | omega)
                have hv9 : -9223372036854775808 ≤ v9 ∧ v9 ≤ 9223372036854775807 := by have h9 := hok9.out; (first | (apply Int.le_antisymm <;> omega) | omega)
                have e1 := b1.out
                rw [et_c (by (first | (apply Int.le_antisymm <;> omega) | omega)), eat] at e1
                have ln : (et (o9, v9)).length = (sleb 10 v9).length := by rw [et_c (by (first | (apply Int.le_antisymm <;> omega) | omega))]
                refine lv_aload_n hx hb d_RE_readInstruction_447 rfl (lv_at hl 2 rfl) ?_
                refine va_get (D := (dC, dI)) (ci := 7) (v := .ref ac) (C := R_RE) (T := F_RE) (N := 8) hx hb hts i_RE hown hK hP 6 rfl rfl 1 (by decide) (hts _ kF_RE_25) (fun _ h9 => h9) rfl d_RE_readInstruction_448 ?_
                refine va_get (D := (dC, dI)) (ci := 3) (v := .ref cva) (C := R_CD) (T := F_CD) (N := 10) hx hb hts i_CD hown hK hP 0 rfl rfl 5 (by decide) (hts _ kF_RE_197) (fun _ h9 => h9) rfl d_RE_readInstruction_451 ?_
                refine lv_iload_n hx hb d_RE_readInstruction_454 rfl (lv_at hl 0 rfl) ?_
                refine lv_aload_n hx hb d_RE_readInstruction_455 rfl (lv_at hl 2 rfl) ?_
                refine lv_bipush (v := 64) hx hb d_RE_readInstruction_456 (by decide) ?_
                have hPc := hP.sb (wq := (wz_46 h0 aw ac n2 h0_limit 1 h0_codeCount ob h0_openCount aw ab ac aw_typeCount wat wap wag aw_functionCount waf aw_hasMemory aw_pagesLeast aw_pagesMost aw_globalCount wgt wft wfv wgc aw_exportCount wek wei wes wez ab ax ab_length ax cax gax)) [6, 7, 8, 9] rfl
                have hDc := hD.sb (wq := (wz_46 h0 aw ac n2 h0_limit 1 h0_codeCount ob h0_openCount aw ab ac aw_typeCount wat wap wag aw_functionCount waf aw_hasMemory aw_pagesLeast aw_pagesMost aw_globalCount wgt wft wfv wgc aw_exportCount wek wei wes wez ab ax ab_length ax cax gax)) [6, 7, 8, 9] (by decide) rfl
                have hKc := hK.sb (tyq := [(cax, .byte)]) [0] rfl
                have hFc := va_free (wc := (wz_46 h0 aw ac n2 h0_limit 1 h0_codeCount ob h0_openCount aw ab ac aw_typeCount wat wap wag aw_functionCount waf aw_hasMemory aw_pagesLeast aw_pagesMost aw_globalCount wgt wft wfv wgc aw_exportCount wek wei wes wez ab ax ab_length ax cax gax)) hD hS hA [6, 7, 8, 9] rfl
                refine va_calll (va_runV (As := [.int 64]) (rest := [.int ac_length, .ref cva]) ⟨hx, hb, hml, hown, hts⟩ (c_RE_readSignedx l dC dI H.size h0 aw ac ob ab wat wap wag waf wgt wft wfv wgc wek wei wes wez ax cax n2 h0_limit 1 h0_codeCount h0_openCount aw_typeCount aw_functionCount aw_hasMemory aw_pagesLeast aw_pagesMost aw_globalCount aw_exportCount ab_length gax v9 (Or.inr rfl) 64 (by (first | (apply Int.le_antisymm <;> omega) | omega)) (by (first | (apply Int.le_antisymm <;> omega) | omega)) (by (first | (apply Int.le_antisymm <;> omega) | omega)) (e1) (by (first | (apply Int.le_antisymm <;> omega) | omega))) (cwV 1 hts (gV kM_RE_149 kV_RE_readSigned kS_RE_readSigned kI_RE kC_RE_readSigned) rfl rfl rfl (by decide +kernel) ⟨Nat.le_of_ble_eq_true rfl, Nat.le_of_ble_eq_true rfl⟩) ⟨fun a U g mk z => by obtain ⟨z0, z1, zP, zK, zD⟩ := z; exact ⟨z0, z1, zP, va_K.moved (u := U) (U := U.calling g mk a) (Vm.Alike.refl U.vm) zK, zD⟩, va_recv hKc hPc (ci := 7) (q0 := 0) rfl rfl, fun U hU hW => ⟨rfl, by rw [hU], va_P.he hU.symm hPc, va_K.moved hW.alike hKc, hDc.weaken (fun _ _ _ _ => trivial)⟩⟩ rfl rfl hl.1 rfl (lv_room (Nat.le_of_ble_eq_true rfl)) d_RE_readInstruction_458 ⟨(Nat.zero_le _), (Nat.zero_le _)⟩) hS (fun q _ h => hFc q h) hFc (fun r32 u t H1 locs ht hvm hw hB hz1 hk1 hS => ?_)
                obtain ⟨n33, n34⟩ := u
                try dsimp only at hw
                obtain ⟨bn34, xr32⟩ := hw
                try clear hw
                have tn34 := b01 bn34
                obtain ⟨hP1, hK1, hD1⟩ := hB
                replace hP1 := va_P.he ht hP1
                obtain ⟨hP, hD⟩ := va_join (wr := (wz_239 ac cfi clk clt x3 cop cva cpt cel ac_labelCount cla ob cob gob cop ccop f4 cva ccva f5 cpt ccpt f6 cel ccel f7)) (w1 := (wz_46 h0 aw ac n33 h0_limit n34 h0_codeCount ob h0_openCount aw ab ac aw_typeCount wat wap wag aw_functionCount waf aw_hasMemory aw_pagesLeast aw_pagesMost aw_globalCount wgt wft wfv wgc aw_exportCount wek wei wes wez ab ax ab_length ax cax gax)) hP hD [6, 7, 8, 9] [0, 1, 2, 3, 4, 5] rfl rfl (by decide) (by decide) hk1 hFc hP1 hD1
                clear hPc hDc hKc hFc hz1 hk1 hP1 hK1 hD1
                rename Heap => H
                have hP : va_P (dC, dI) cls (wz_240 ac cfi clk clt x3 cop cva cpt cel ac_labelCount cla ob cob gob cop ccop f4 cva ccva f5 cpt ccpt f6 cel ccel f7 h0 aw ac n33 h0_limit n34 h0_codeCount ob h0_openCount aw ab ac aw_typeCount wat wap wag aw_functionCount waf aw_hasMemory aw_pagesLeast aw_pagesMost aw_globalCount wgt wft wfv wgc aw_exportCount wek wei wes wez ab ax ab_length ax cax gax) H := hP
                have hD : va_D A (wz_240 ac cfi clk clt x3 cop cva cpt cel ac_labelCount cla ob cob gob cop ccop f4 cva ccva f5 cpt ccpt f6 cel ccel f7 h0 aw ac n33 h0_limit n34 h0_codeCount ob h0_openCount aw ab ac aw_typeCount wat wap wag aw_functionCount waf aw_hasMemory aw_pagesLeast aw_pagesMost aw_globalCount wgt wft wfv wgc aw_exportCount wek wei wes wez ab ax ab_length ax cax gax) := hD
                have g461 : vp_in ac_length 5000 := vp_in_iff.mpr ⟨by (first | (apply Int.le_antisymm <;> omega) | omega), by (first | (apply Int.le_antisymm <;> omega) | omega)⟩
                refine va_last hx hb hK hP hD hS 3 3 rfl rfl g461 d_RE_readInstruction_461 (fun H locs hP hD hS => ?_)
                generalize ef35 : vp_updL f5 ac_length.toNatClampNeg r32 = f35 at hP hD
                refine lv_goto (tgt := 471) hx hb d_RE_readInstruction_462 (by decide) ?_
                refine lv_iconst (v := 1) hx hb d_RE_readInstruction_471 (by decide) ?_
                have hP9 := hP.sb (wq := (wz_238 h0 aw ac n33 h0_limit n34 h0_codeCount ob h0_openCount aw ab ac aw_typeCount wat wap wag aw_functionCount waf aw_hasMemory aw_pagesLeast aw_pagesMost aw_globalCount wgt wft wfv wgc aw_exportCount wek wei wes wez ab ax ab_length ac cfi clk clt x3 cop cva cpt cel ac_labelCount cla ax cax gax ob cob gob cop ccop f4 cva ccva f35 cpt ccpt f6 cel ccel f7)) [6, 7, 8, 0, 9, 1, 2, 3, 4, 5] rfl
                have hD9 := hD.sb (wq := (wz_238 h0 aw ac n33 h0_limit n34 h0_codeCount ob h0_openCount aw ab ac aw_typeCount wat wap wag aw_functionCount waf aw_hasMemory aw_pagesLeast aw_pagesMost aw_globalCount wgt wft wfv wgc aw_exportCount wek wei wes wez ab ax ab_length ac cfi clk clt x3 cop cva cpt cel ac_labelCount cla ax cax gax ob cob gob cop ccop f4 cva ccva f35 cpt ccpt f6 cel ccel f7)) [6, 7, 8, 0, 9, 1, 2, 3, 4, 5] (by decide) rfl
                exact W.zret (v := 1) hx hb hr (zn01 (Or.inr rfl)) (fun t ht hW => ⟨⟨1, (f7, f4, f6, f35, gob, x3, n33, h0_openCount, n34), rfl, ⟨Or.inr rfl, by (try dsimp only) <;> (first | (apply Int.le_antisymm <;> omega) | omega), b_h0_openCount, bn34, (by exact ⟨by (try dsimp only) <;> (first | (apply Int.le_antisymm <;> omega) | omega), by (try dsimp only) <;> (first | (apply Int.le_antisymm <;> omega) | omega), by (try dsimp only) <;> (first | (apply Int.le_antisymm <;> omega) | omega), ⟨fun z => absurd z (by decide), fun z => absurd z.1 (by (first | (apply Int.le_antisymm <;> omega) | omega))⟩, r1, o9r, ⟨by rw [← ef4], Or.inr (Or.inr (Or.inr (Or.inr (Or.inr (Or.inr (Or.inl ⟨by (first | (apply Int.le_antisymm <;> omega) | omega), rfl, rfl, rfl, rfl, rfl, by rw [← ef6], by rw [← ef7], r32, by rw [← ef35, ← ef5]⟩))))))⟩, fun z1 z2 _ => absurd kk (by (first | (apply Int.le_antisymm <;> omega) | omega))⟩)⟩, va_P.he ht.symm hP9, va_K.moved hW.alike hK, hD9⟩, hS.F ht⟩) hS.2.2 d_RE_readInstruction_472
              · skip
                have ho99 : tab_off 366 2 66 #[273, 273, 273, 281, 366, 366, 366, 366, 366, 289, 295, 295, 314, 366, 295, 366, 366, 366, 366, 366, 366, 366, 366, 366, 366, 366, 366, 366, 366, 366, 295, 295, 295, 295, 295, 366, 366, 366, 366, 366, 366, 366, 366, 366, 366, 366, 366, 366, 366, 366, 366, 366, 366, 366, 366, 366, 366, 366, 366, 366, 366, 322, 322, 330, 348] r1.toInt = 366 := by
                  unfold tab_off
                  split
                  · rfl
                  · rcases (by (first | (apply Int.le_antisymm <;> omega) | omega) : r1.toInt = 6 ∨ r1.toInt = 7 ∨ r1.toInt = 8 ∨ r1.toInt = 9 ∨ r1.toInt = 10 ∨ r1.toInt = 15 ∨ r1.toInt = 17 ∨ r1.toInt = 18 ∨ r1.toInt = 19 ∨ r1.toInt = 20 ∨ r1.toInt = 21 ∨ r1.toInt = 22 ∨ r1.toInt = 23 ∨ r1.toInt = 24 ∨ r1.toInt = 25 ∨ r1.toInt = 26 ∨ r1.toInt = 27 ∨ r1.toInt = 28 ∨ r1.toInt = 29 ∨ r1.toInt = 30 ∨ r1.toInt = 31 ∨ r1.toInt = 37 ∨ r1.toInt = 38 ∨ r1.toInt = 39 ∨ r1.toInt = 40 ∨ r1.toInt = 41 ∨ r1.toInt = 42 ∨ r1.toInt = 43 ∨ r1.toInt = 44 ∨ r1.toInt = 45 ∨ r1.toInt = 46 ∨ r1.toInt = 47 ∨ r1.toInt = 48 ∨ r1.toInt = 49 ∨ r1.toInt = 50 ∨ r1.toInt = 51 ∨ r1.toInt = 52 ∨ r1.toInt = 53 ∨ r1.toInt = 54 ∨ r1.toInt = 55 ∨ r1.toInt = 56 ∨ r1.toInt = 57 ∨ r1.toInt = 58 ∨ r1.toInt = 59 ∨ r1.toInt = 60 ∨ r1.toInt = 61 ∨ r1.toInt = 62) with z | z | z | z | z | z | z | z | z | z | z | z | z | z | z | z | z | z | z | z | z | z | z | z | z | z | z | z | z | z | z | z | z | z | z | z | z | z | z | z | z | z | z | z | z | z | z <;> (rw [z]; rfl)
                refine lv_tab (tgt := 465) hx hb d_RE_readInstruction_99 (by decide) ho99 (by decide) ?_
                clear ho99
                have v465 : v9.toNat < 128 ∧ (o9 = 0 ∨ o9 = 15 ∨ o9 = 26 ∨ (69 ≤ o9 ∧ o9 ≤ 90) ∨ (103 ≤ o9 ∧ o9 ≤ 138) ∨ o9 = 167 ∨ o9 = 172 ∨ o9 = 40 ∨ o9 = 41 ∨ o9 = 44 ∨ o9 = 45 ∨ o9 = 54 ∨ o9 = 55 ∨ o9 = 58) ∧ (¬ (o9 = 40 ∨ o9 = 41 ∨ o9 = 44 ∨ o9 = 45 ∨ o9 = 54 ∨ o9 = 55 ∨ o9 = 58) → v9 = 0) := by have h9 := hok9.out; (first | (apply Int.le_antisymm <;> omega) | omega)
                have w465 := v465.2.2
                replace w465 : bx _ := w465
                have u465 := v465.2.1
                replace v465 := v465.1
                have k465 : bx ((o9 = 40 ∨ o9 = 41 ∨ o9 = 44 ∨ o9 = 45 ∨ o9 = 54 ∨ o9 = 55 ∨ o9 = 58) → (bn (gax (h0_at.toNatClampNeg + 1)) = v9.toNat ∧ bn (gax (h0_at.toNatClampNeg + 1 + 1)) = 0) ∧ (et (o9, v9)).length = 2) := fun z => by have q := b1.out; rw [et_a z, leb_1 (by (first | (apply Int.le_antisymm <;> omega) | omega))] at q; rw [et_a z, leb_1 (by (first | (apply Int.le_antisymm <;> omega) | omega))]; exact ⟨⟨q.1, q.2.1⟩, rfl⟩
                have l465 : bx (¬ (o9 = 40 ∨ o9 = 41 ∨ o9 = 44 ∨ o9 = 45 ∨ o9 = 54 ∨ o9 = 55 ∨ o9 = 58) → et (o9, v9) = []) := fun z => et_0 (by (first | (apply Int.le_antisymm <;> omega) | omega))
                refine lv_aload_n hx hb d_RE_readInstruction_465 rfl (lv_at hl 2 rfl) ?_
                refine lv_iload_n hx hb d_RE_readInstruction_466 rfl (lv_at hl 0 rfl) ?_
                refine lv_iload_n hx hb d_RE_readInstruction_467 rfl (lv_at hl 1 rfl) ?_
                have hPc := hP.sb (wq := (wz_236 h0 aw ac n2 h0_limit 1 h0_codeCount ob h0_openCount aw ab ac aw_typeCount wat wap wag aw_functionCount waf aw_hasMemory aw_pagesLeast aw_pagesMost aw_globalCount wgt wft wfv wgc aw_exportCount wek wei wes wez ab ax ab_length ac cfi clk clt x3 cop cva cpt cel ac_labelCount cla ax cax gax cva ccva f5 cpt ccpt f6)) [6, 7, 8, 0, 9, 3, 4] rfl
                have hDc := hD.sb (wq := (wz_236 h0 aw ac n2 h0_limit 1 h0_codeCount ob h0_openCount aw ab ac aw_typeCount wat wap wag aw_functionCount waf aw_hasMemory aw_pagesLeast aw_pagesMost aw_globalCount wgt wft wfv wgc aw_exportCount wek wei wes wez ab ax ab_length ac cfi clk clt x3 cop cva cpt cel ac_labelCount cla ax cax gax cva ccva f5 cpt ccpt f6)) [6, 7, 8, 0, 9, 3, 4] (by decide) rfl
                have hKc := hK.sb (tyq := [(cax, .byte), (ccva, .long), (ccpt, .int)]) [0, 3, 4] rfl
                have hFc := va_free (wc := (wz_236 h0 aw ac n2 h0_limit 1 h0_codeCount ob h0_openCount aw ab ac aw_typeCount wat wap wag aw_functionCount waf aw_hasMemory aw_pagesLeast aw_pagesMost aw_globalCount wgt wft wfv wgc aw_exportCount wek wei wes wez ab ax ab_length ac cfi clk clt x3 cop cva cpt cel ac_labelCount cla ax cax gax cva ccva f5 cpt ccpt f6)) hD hS hA [6, 7, 8, 0, 9, 3, 4] rfl
                refine va_callv (va_runV (As := [.int ac_length, .int r1]) (rest := []) ⟨hx, hb, hml, hown, hts⟩ (c_RE_readOtherx l dC dI H.size h0 aw ac ob ab wat wap wag waf wgt wft wfv wgc wek wei wes wez ax cfi clk clt cop cva cpt cel cla cax ccva ccpt n2 h0_limit 1 h0_codeCount h0_openCount aw_typeCount aw_functionCount aw_hasMemory aw_pagesLeast aw_pagesMost aw_globalCount aw_exportCount ab_length x3 ac_labelCount gax f5 f6 v9.toNat (Or.inr rfl) ac_length r1 (by (first | (apply Int.le_antisymm <;> omega) | omega)) (by (first | (apply Int.le_antisymm <;> omega) | omega)) (by (first | (apply Int.le_antisymm <;> omega) | omega)) (by (first | (apply Int.le_antisymm <;> omega) | omega)) (v465) ((fun z => by have q := (k465.out (by (first | (apply Int.le_antisymm <;> omega) | omega))).1; rw [eat] at q; exact q)) ((fun z => by have q := (k465.out (by (first | (apply Int.le_antisymm <;> omega) | omega))).2; (first | (apply Int.le_antisymm <;> omega) | omega)))) (cwV 2 hts (gV kM_RE_219 kV_RE_readOther kS_RE_readOther kI_RE kC_RE_readOther) rfl rfl rfl (by decide +kernel) ⟨Nat.le_of_ble_eq_true rfl, Nat.le_of_ble_eq_true rfl⟩) ⟨fun a U g mk z => by obtain ⟨z0, z1, zP, zK, zD⟩ := z; exact ⟨z0, z1, zP, va_K.moved (u := U) (U := U.calling g mk a) (Vm.Alike.refl U.vm) zK, zD⟩, va_recv hKc hPc (ci := 7) (q0 := 0) rfl rfl, fun U hU hW => ⟨rfl, by rw [hU], va_P.he hU.symm hPc, va_K.moved hW.alike hKc, hDc.weaken (fun _ _ _ _ => trivial)⟩⟩ rfl rfl hl.1 rfl (lv_room (Nat.le_of_ble_eq_true rfl)) d_RE_readInstruction_468 ⟨(Nat.zero_le _), (Nat.zero_le _)⟩) hS (fun q _ h => hFc q h) hFc (fun u t H1 locs ht hvm hw hB hz1 hk1 hS => ?_)
                obtain ⟨n37, n38, n39, n40⟩ := u
                try dsimp only at hw
                obtain ⟨bn40, xr36⟩ := hw
                try clear hw
                have tn40 := b01 bn40
                obtain ⟨hP1, hK1, hD1⟩ := hB
                replace hP1 := va_P.he ht hP1
                obtain ⟨hP, hD⟩ := va_join (wr := [(ob, .inl (cob, 100, .inl gob)), (cop, .inl (ccop, 5000, .inl f4)), (cel, .inl (ccel, 5000, .inl f7))]) (w1 := (wz_236 h0 aw ac n39 h0_limit n40 h0_codeCount ob h0_openCount aw ab ac aw_typeCount wat wap wag aw_functionCount waf aw_hasMemory aw_pagesLeast aw_pagesMost aw_globalCount wgt wft wfv wgc aw_exportCount wek wei wes wez ab ax ab_length ac cfi clk clt x3 cop cva cpt cel ac_labelCount cla ax cax gax cva ccva n38 cpt ccpt n37)) hP hD [6, 7, 8, 0, 9, 3, 4] [1, 2, 5] rfl rfl (by decide) (by decide) hk1 hFc hP1 hD1
                clear hPc hDc hKc hFc hz1 hk1 hP1 hK1 hD1
                rename Heap => H
                have hP : va_P (dC, dI) cls [(ob, .inl (cob, 100, .inl gob)), (cop, .inl (ccop, 5000, .inl f4)), (cel, .inl (ccel, 5000, .inl f7)), (h0, .inr (7, [.ref aw, .ref ac, .int n39, .int h0_limit, .int n40, .int h0_codeCount, .ref ob, .int h0_openCount])), (aw, .inr (10, [.ref ab, .ref ac, .int aw_typeCount, .ref wat, .ref wap, .ref wag, .int aw_functionCount, .ref waf, .int aw_hasMemory, .long aw_pagesLeast, .long aw_pagesMost, .int aw_globalCount, .ref wgt, .ref wft, .ref wfv, .ref wgc, .int aw_exportCount, .ref wek, .ref wei, .ref wes, .ref wez])), (ab, .inr (1, [.ref ax, .int ab_length])), (ac, .inr (3, [.ref cfi, .ref clk, .ref clt, .int x3, .ref cop, .ref cva, .ref cpt, .ref cel, .int ac_labelCount, .ref cla])), (ax, .inl (cax, 8192, .inl gax)), (cva, .inl (ccva, 5000, .inr (.inl n38))), (cpt, .inl (ccpt, 5000, .inl n37))] H := hP
                have hD : va_D A [(ob, .inl (cob, 100, .inl gob)), (cop, .inl (ccop, 5000, .inl f4)), (cel, .inl (ccel, 5000, .inl f7)), (h0, .inr (7, [.ref aw, .ref ac, .int n39, .int h0_limit, .int n40, .int h0_codeCount, .ref ob, .int h0_openCount])), (aw, .inr (10, [.ref ab, .ref ac, .int aw_typeCount, .ref wat, .ref wap, .ref wag, .int aw_functionCount, .ref waf, .int aw_hasMemory, .long aw_pagesLeast, .long aw_pagesMost, .int aw_globalCount, .ref wgt, .ref wft, .ref wfv, .ref wgc, .int aw_exportCount, .ref wek, .ref wei, .ref wes, .ref wez])), (ab, .inr (1, [.ref ax, .int ab_length])), (ac, .inr (3, [.ref cfi, .ref clk, .ref clt, .int x3, .ref cop, .ref cva, .ref cpt, .ref cel, .int ac_labelCount, .ref cla])), (ax, .inl (cax, 8192, .inl gax)), (cva, .inl (ccva, 5000, .inr (.inl n38))), (cpt, .inl (ccpt, 5000, .inl n37))] := hD
                refine lv_iconst (v := 1) hx hb d_RE_readInstruction_471 (by decide) ?_
                have hP9 := hP.sb (wq := (wz_238 h0 aw ac n39 h0_limit n40 h0_codeCount ob h0_openCount aw ab ac aw_typeCount wat wap wag aw_functionCount waf aw_hasMemory aw_pagesLeast aw_pagesMost aw_globalCount wgt wft wfv wgc aw_exportCount wek wei wes wez ab ax ab_length ac cfi clk clt x3 cop cva cpt cel ac_labelCount cla ax cax gax ob cob gob cop ccop f4 cva ccva n38 cpt ccpt n37 cel ccel f7)) [3, 4, 5, 6, 7, 0, 1, 8, 9, 2] rfl
                have hD9 := hD.sb (wq := (wz_238 h0 aw ac n39 h0_limit n40 h0_codeCount ob h0_openCount aw ab ac aw_typeCount wat wap wag aw_functionCount waf aw_hasMemory aw_pagesLeast aw_pagesMost aw_globalCount wgt wft wfv wgc aw_exportCount wek wei wes wez ab ax ab_length ac cfi clk clt x3 cop cva cpt cel ac_labelCount cla ax cax gax ob cob gob cop ccop f4 cva ccva n38 cpt ccpt n37 cel ccel f7)) [3, 4, 5, 6, 7, 0, 1, 8, 9, 2] (by decide) rfl
                exact W.zret (v := 1) hx hb hr (zn01 (Or.inr rfl)) (fun t ht hW => ⟨⟨1, (f7, f4, n37, n38, gob, x3, n39, h0_openCount, n40), rfl, ⟨Or.inr rfl, by (try dsimp only) <;> (first | (apply Int.le_antisymm <;> omega) | omega), b_h0_openCount, bn40, (by by_cases q9 : (o9 = 40 ∨ o9 = 41 ∨ o9 = 44 ∨ o9 = 45 ∨ o9 = 54 ∨ o9 = 55 ∨ o9 = 58); (have k9 := k465.out q9; obtain ⟨y1, b8, x8, y2, y3, y4, y5⟩ := xr36.2.1 (by (first | (apply Int.le_antisymm <;> omega) | omega)); rw [← ef6] at y4; rw [← ef5] at y5; exact ⟨by have := k9.2; (try dsimp only) <;> (first | (apply Int.le_antisymm <;> omega) | omega), xr36.1, by (try dsimp only) <;> (first | (apply Int.le_antisymm <;> omega) | omega), ⟨fun z => absurd z (by decide), fun z => absurd z.1 (by (first | (apply Int.le_antisymm <;> omega) | omega))⟩, r1, o9r, ⟨by rw [← ef4], Or.inr (Or.inr (Or.inr (Or.inr (Or.inr (Or.inr (Or.inr ⟨by (first | (apply Int.le_antisymm <;> omega) | omega), rfl, rfl, rfl, rfl, rfl, by rw [← ef7], b8, x8, by (first | (apply Int.le_antisymm <;> omega) | omega), by (first | (apply Int.le_antisymm <;> omega) | omega), by (first | (apply Int.le_antisymm <;> omega) | omega), y4, y5⟩))))))⟩, fun _ _ z => absurd q9 z⟩); (have k8 := l465.out q9; have w0 := w465.out q9; have z9 := xr36.1; have z8 := xr36.2.2; clear xr36; obtain ⟨y1, y2, y3⟩ := z8 (by (first | (apply Int.le_antisymm <;> omega) | omega)); exact ⟨by have := congrArg List.length k8; rw [List.length_nil] at this; rw [y1]; (try dsimp only) <;> (first | (apply Int.le_antisymm <;> omega) | omega), z9, by (try dsimp only) <;> (first | (apply Int.le_antisymm <;> omega) | omega), ⟨fun z => absurd z (by decide), fun z => absurd z.1 (by (first | (apply Int.le_antisymm <;> omega) | omega))⟩, r1, o9r, ⟨by rw [← ef4], Or.inr (Or.inr (Or.inr (Or.inr (Or.inr (Or.inl ⟨by (first | (apply Int.le_antisymm <;> omega) | omega), rfl, rfl, rfl, rfl, rfl, by rw [y2, ← ef6], by rw [← ef7], by rw [y3, ← ef5]⟩)))))⟩, fun _ _ _ => by rw [y3, ← ef5, show vp_updL gcva ac_length.toNatClampNeg 0 ac_length.toNatClampNeg = 0 from if_pos rfl]; show (0 : Int) = v9; (first | (apply Int.le_antisymm <;> omega) | omega)⟩))⟩, va_P.he ht.symm hP9, va_K.moved hW.alike hK, hD9⟩, hS.F ht⟩) hS.2.2 d_RE_readInstruction_472
end q_89
section q_90
/-! Reader: locals as they were put -/
theorem rsum_take {R : List (Nat × Nat)} : ∀ {k : Nat} {x : Nat × Nat} {T : List (Nat × Nat)}, R.drop k = x :: T → rsum (R.take (k + 1)) = rsum (R.take k) + x.1 ∧ R.drop (k + 1) = T ∧ k < R.length ∧ x ∈ R := by
  intro k x T h
  have hk : k < R.length := by
    rcases Nat.lt_or_ge k R.length with w | w
    · exact w
    · rw [List.drop_of_length_le w] at h; cases h
  rw [List.drop_eq_getElem_cons hk] at h
  injection h with h1 h2
  refine ⟨?_, h2, hk, by rw [← h1]; exact List.getElem_mem hk⟩
  rw [List.take_succ, List.getElem?_eq_getElem hk, rsum_app, ← h1]
  show rsum (R.take k) + (R[k].1 + 0) = _
  (first | (apply Int.le_antisymm <;> omega) | omega)
theorem rsum_le {R : List (Nat × Nat)} (k : Nat) : rsum (R.take k) ≤ rsum R := by
  have h : R = R.take k ++ R.drop k := (List.take_append_drop k R).symm
  have e := congrArg rsum h
  rw [rsum_app] at e
  (first | (apply Int.le_antisymm <;> omega) | omega)
abbrev at_RE_readLocalsx (dC : Nat → ClassId) (dI : Nat → Nat → Nat) (h0 aw ac ob ab wat wap wag waf wgt wft wfv wgc wek wei wes wez ax cfi clk clt cop cva cpt cel cla : Nat) (cax cclk cclt : ClassId) (h0_limit : Int32) (h0_codeCount : Int32) (h0_openCount : Int32) (aw_typeCount : Int32) (aw_functionCount : Int32) (aw_hasMemory : Int32) (aw_pagesLeast : Int64) (aw_pagesMost : Int64) (aw_globalCount : Int32) (aw_exportCount : Int32) (ab_length : Int32) (ac_length : Int32) (ac_labelCount : Int32) (gax : Nat → Int32) (A : Nat → Prop) (u : (Nat → Int32) × (Nat → Int32) × Int32 × Int32) (t : State) : Prop := match u with | (gclk, gclt, h0_at, h0_sound) => va_P (dC, dI) cls (wz_241 h0 aw ac h0_at h0_limit h0_sound h0_codeCount ob h0_openCount aw ab ac aw_typeCount wat wap wag aw_functionCount waf aw_hasMemory aw_pagesLeast aw_pagesMost aw_globalCount wgt wft wfv wgc aw_exportCount wek wei wes wez ab ax ab_length ac cfi clk clt ac_length cop cva cpt cel ac_labelCount cla ax cax gax clk cclk gclk clt cclt gclt) t.heap ∧ va_K (dC, dI) cls [(cax, .byte), (cclk, .int), (cclt, .int)] t ∧ va_D A (wz_241 h0 aw ac h0_at h0_limit h0_sound h0_codeCount ob h0_openCount aw ab ac aw_typeCount wat wap wag aw_functionCount waf aw_hasMemory aw_pagesLeast aw_pagesMost aw_globalCount wgt wft wfv wgc aw_exportCount wek wei wes wez ab ax ab_length ac cfi clk clt ac_length cop cva cpt cel ac_labelCount cla ax cax gax clk cclk gclk clt cclt gclt)
set_option maxHeartbeats 4000000 in
set_option maxRecDepth 100000 in
theorem c_RE_readLocalsx (l : Launch) (dC : Nat → ClassId) (dI : Nat → Nat → Nat) (sz : Nat) (h0 aw ac ob ab wat wap wag waf wgt wft wfv wgc wek wei wes wez ax cfi clk clt cop cva cpt cel cla : Nat) (cax cclk cclt : ClassId) (h0_at : Int32) (h0_limit : Int32) (h0_sound : Int32) (h0_codeCount : Int32) (h0_openCount : Int32) (aw_typeCount : Int32) (aw_functionCount : Int32) (aw_hasMemory : Int32) (aw_pagesLeast : Int64) (aw_pagesMost : Int64) (aw_globalCount : Int32) (aw_exportCount : Int32) (ab_length : Int32) (ac_length : Int32) (ac_labelCount : Int32) (gax : Nat → Int32) (gclk : Nat → Int32) (gclt : Nat → Int32) (gR : List (Nat × Nat))  (b_h0_sound : h0_sound = 0 ∨ h0_sound = 1) (p0 : Int32)  (hs : h0_sound.toInt = 1) (ha : 0 ≤ h0_at.toInt ∧ h0_limit.toInt ≤ ab_length.toInt ∧ ab_length.toInt ≤ 8192) (hp : 0 ≤ p0.toInt ∧ p0.toInt < 30) (hrk : bx (rok gR)) (hrl : (rsum gR : Int) ≤ 50 ∧ gR.length ≤ 50) (hbq : bx (bq gax h0_at.toNatClampNeg (gR.length :: rb gR))) (hlm : h0_at.toInt + 1 + 2 * (gR.length : Int) ≤ h0_limit.toInt) : Met l y_RE_readLocals w_RE_readLocals ({ frames := 2, cells := 0, slots := 0, locals := 46 }) (va_Pc [.ref h0, .int p0] (fun U => U.heap.size = sz ∧ va_P (dC, dI) cls (wz_241 h0 aw ac h0_at h0_limit h0_sound h0_codeCount ob h0_openCount aw ab ac aw_typeCount wat wap wag aw_functionCount waf aw_hasMemory aw_pagesLeast aw_pagesMost aw_globalCount wgt wft wfv wgc aw_exportCount wek wei wes wez ab ax ab_length ac cfi clk clt ac_length cop cva cpt cel ac_labelCount cla ax cax gax clk cclk gclk clt cclt gclt) U.heap ∧ va_K (dC, dI) cls [(cax, .byte), (cclk, .int), (cclt, .int)] U ∧ va_D (fun _ => True) (wz_241 h0 aw ac h0_at h0_limit h0_sound h0_codeCount ob h0_openCount aw ab ac aw_typeCount wat wap wag aw_functionCount waf aw_hasMemory aw_pagesLeast aw_pagesMost aw_globalCount wgt wft wfv wgc aw_exportCount wek wei wes wez ab ax ab_length ac cfi clk clt ac_length cop cva cpt cel ac_labelCount cla ax cax gax clk cclk gclk clt cclt gclt))) (va_Qv (fun (u : (Nat → Int32) × (Nat → Int32) × Int32 × Int32) => match u with | (gclk2, gclt2, h0_at2, h0_sound2) => (h0_sound2 = 0 ∨ h0_sound2 = 1) ∧ (h0_at2.toInt = h0_at.toInt + 1 + 2 * (gR.length : Int) ∧ h0_sound2.toInt = 1 ∧ (∀ j : Nat, ((j : Int) < 60 * p0.toInt ∨ 60 * p0.toInt + 60 ≤ (j : Int)) → gclt2 j = gclt j) ∧ ∃ t : Int32, t.toInt = (rsum gR : Int) ∧ gclk2 = upd gclk p0.toNatClampNeg t ∧ (∀ j : Nat, (60 * p0.toInt ≤ (j : Int) ∧ (j : Int) < 60 * p0.toInt + t.toInt) → (gclt2 j).toInt = 127 ∨ (gclt2 j).toInt = 126))) (at_RE_readLocalsx dC dI h0 aw ac ob ab wat wap wag waf wgt wft wfv wgc wek wei wes wez ax cfi clk clt cop cva cpt cel cla cax cclk cclt h0_limit h0_codeCount h0_openCount aw_typeCount aw_functionCount aw_hasMemory aw_pagesLeast aw_pagesMost aw_globalCount aw_exportCount ab_length ac_length ac_labelCount gax (va_A (wz_241 h0 aw ac h0_at h0_limit h0_sound h0_codeCount ob h0_openCount aw ab ac aw_typeCount wat wap wag aw_functionCount waf aw_hasMemory aw_pagesLeast aw_pagesMost aw_globalCount wgt wft wfv wgc aw_exportCount wek wei wes wez ab ax ab_length ac cfi clk clt ac_length cop cva cpt cel ac_labelCount cla ax cax gax clk cclk gclk clt cclt gclt) sz)) (va_A (wz_241 h0 aw ac h0_at h0_limit h0_sound h0_codeCount ob h0_openCount aw ab ac aw_typeCount wat wap wag aw_functionCount waf aw_hasMemory aw_pagesLeast aw_pagesMost aw_globalCount wgt wft wfv wgc aw_exportCount wek wei wes wez ab ax ab_length ac cfi clk clt ac_length cop cva cpt cel ac_labelCount cla ax cax gax clk cclk gclk clt cclt gclt) sz)) 0 0 (va_A (wz_241 h0 aw ac h0_at h0_limit h0_sound h0_codeCount ob h0_openCount aw ab ac aw_typeCount wat wap wag aw_functionCount waf aw_hasMemory aw_pagesLeast aw_pagesMost aw_globalCount wgt wft wfv wgc aw_exportCount wek wei wes wez ab ax ab_length ac cfi clk clt ac_length cop cva cpt cel ac_labelCount cla ax cax gax clk cclk gclk clt cclt gclt) sz) := by
  refine Met.ofW (cc := b_RE_readLocals) (maxL := 8) (ret := none) (by decide) rfl ?_
  intro p e s m args below meth c s₁ B hml hv
  obtain ⟨rfl, hsz, hP, hK, hD0⟩ := hv
  have hx := B.exec
  have hb := B.bytes
  have hr := B.returns
  have hts0 := atoms_spec (ws := w_RE_readLocals) B.pre
  have hts : ∀ w ∈ lw_g, w.before _ s = true := fun w h => hts0 w (List.mem_cons_of_mem _ h)
  have hown : s.vm.findClass R_RE = some m.cls := findClass_of_methodNamed B.named
  have hlocks := B.notSynchronized
  clear hts0
  subst hsz
  have hD := hD0.self (sz := s.heap.size)
  generalize hAe : va_A (wz_241 h0 aw ac h0_at h0_limit h0_sound h0_codeCount ob h0_openCount aw ab ac aw_typeCount wat wap wag aw_functionCount waf aw_hasMemory aw_pagesLeast aw_pagesMost aw_globalCount wgt wft wfv wgc aw_exportCount wek wei wes wez ab ax ab_length ac cfi clk clt ac_length cop cva cpt cel ac_labelCount cla ax cax gax clk cclk gclk clt cclt gclt) s.heap.size = A at hD ⊢
  have hA : ∀ q : Nat, s.heap.size ≤ q → A q := fun q h => by rw [← hAe]; exact Or.inr h
  clear hAe
  have hP : va_P (dC, dI) cls (wz_241 h0 aw ac h0_at h0_limit h0_sound h0_codeCount ob h0_openCount aw ab ac aw_typeCount wat wap wag aw_functionCount waf aw_hasMemory aw_pagesLeast aw_pagesMost aw_globalCount wgt wft wfv wgc aw_exportCount wek wei wes wez ab ax ab_length ac cfi clk clt ac_length cop cva cpt cel ac_labelCount cla ax cax gax clk cclk gclk clt cclt gclt) s.heap := hP
  have hl := lv_entry ([.ref h0, .int p0]) (n := 8) (Nat.le_of_ble_eq_true rfl)
  rw [lg_entry_eq]
  generalize (lg_sl ([.ref h0, .int p0]) ++ List.replicate (8 - (lg_sl ([.ref h0, .int p0])).length) Slot.unset).toArray = ls at hl ⊢
  have hl : lv_has ls 8 [(0, .ref h0), (1, .int p0)] := hl
  have k0 : (0 : Int32).toInt = 0 := by decide
  refine w_gen (A := A) hP (fun H locs hP hS => ?_)
  have k1 : (1 : Int32).toInt = 1 := by decide
  have k60 : (60 : Int32).toInt = 60 := by decide
  have lo_p0 := i32_lo p0
  have hi_p0 := i32_hi p0
  have th0_sound := b01 b_h0_sound
  have za := i32_clamp (x := h0_at) (by (first | (apply Int.le_antisymm <;> omega) | omega))
  have lb0 : (leb 5 gR.length).length = 1 := by rw [leb_1 (by (first | (apply Int.le_antisymm <;> omega) | omega))]; rfl
  refine lv_iconst (v := 0) hx hb d_RE_readLocals_0 (by decide) ?_
  refine lv_istore_n (lv' := [(2, .int 0), (0, .ref h0), (1, .int p0)]) hx hb d_RE_readLocals_1 rfl hl (by decide) rfl (fun ls hl => ?_)
  refine lv_aload_n hx hb d_RE_readLocals_2 rfl (lv_at hl 1 rfl) ?_
  refine lv_ldc2 hx hb hown (hts _ kL_RE_186) d_RE_readLocals_3 ?_
  refine lv_topl (fun x1 ex1 => ?_)
  have tx1 : x1.toInt = 60 := by rw [ex1]; decide
  have hPc := hP.sb (wq := (wz_46 h0 aw ac h0_at h0_limit h0_sound h0_codeCount ob h0_openCount aw ab ac aw_typeCount wat wap wag aw_functionCount waf aw_hasMemory aw_pagesLeast aw_pagesMost aw_globalCount wgt wft wfv wgc aw_exportCount wek wei wes wez ab ax ab_length ax cax gax)) [0, 1, 2, 4] rfl
  have hDc := hD.sb (wq := (wz_46 h0 aw ac h0_at h0_limit h0_sound h0_codeCount ob h0_openCount aw ab ac aw_typeCount wat wap wag aw_functionCount waf aw_hasMemory aw_pagesLeast aw_pagesMost aw_globalCount wgt wft wfv wgc aw_exportCount wek wei wes wez ab ax ab_length ax cax gax)) [0, 1, 2, 4] (by decide) rfl
  have hKc := hK.sb (tyq := [(cax, .byte)]) [0] rfl
  have hFc := va_free (wc := (wz_46 h0 aw ac h0_at h0_limit h0_sound h0_codeCount ob h0_openCount aw ab ac aw_typeCount wat wap wag aw_functionCount waf aw_hasMemory aw_pagesLeast aw_pagesMost aw_globalCount wgt wft wfv wgc aw_exportCount wek wei wes wez ab ax ab_length ax cax gax)) hD hS hA [0, 1, 2, 4] rfl
  refine va_calll (va_runV (As := [.long x1]) (rest := []) ⟨hx, hb, hml, hown, hts⟩ (c_RE_readUnsignedx l dC dI H.size h0 aw ac ob ab wat wap wag waf wgt wft wfv wgc wek wei wes wez ax cax h0_at h0_limit h0_sound h0_codeCount h0_openCount aw_typeCount aw_functionCount aw_hasMemory aw_pagesLeast aw_pagesMost aw_globalCount aw_exportCount ab_length gax gR.length (b_h0_sound) x1 (by (first | (apply Int.le_antisymm <;> omega) | omega)) (by (first | (apply Int.le_antisymm <;> omega) | omega)) (by (first | (apply Int.le_antisymm <;> omega) | omega)) ((by rw [leb_1 (by (first | (apply Int.le_antisymm <;> omega) | omega))]; exact ⟨hbq.out.1, trivial⟩)) (by (first | (apply Int.le_antisymm <;> omega) | omega))) (cwV 1 hts (gV kM_RE_64 kV_RE_readUnsigned kS_RE_readUnsigned kI_RE kC_RE_readUnsigned) rfl rfl rfl (by decide +kernel) ⟨Nat.le_of_ble_eq_true rfl, Nat.le_of_ble_eq_true rfl⟩) ⟨fun a U g mk z => by obtain ⟨z0, z1, zP, zK, zD⟩ := z; exact ⟨z0, z1, zP, va_K.moved (u := U) (U := U.calling g mk a) (Vm.Alike.refl U.vm) zK, zD⟩, va_recv hKc hPc (ci := 7) (q0 := 0) rfl rfl, fun U hU hW => ⟨rfl, by rw [hU], va_P.he hU.symm hPc, va_K.moved hW.alike hKc, hDc.weaken (fun _ _ _ _ => trivial)⟩⟩ rfl rfl hl.1 rfl (lv_room (Nat.le_of_ble_eq_true rfl)) d_RE_readLocals_6 ⟨(Nat.zero_le _), (Nat.zero_le _)⟩) hS (fun q _ h => hFc q h) hFc (fun r2 u t H1 locs ht hvm hw hB hz1 hk1 hS => ?_)
  obtain ⟨n3, n4⟩ := u
  try dsimp only at hw
  obtain ⟨bn4, xr2⟩ := hw
  try clear hw
  have tn4 := b01 bn4
  have z6 := i32_clamp (x := n3) (by (first | (apply Int.le_antisymm <;> omega) | omega))
  obtain ⟨hP1, hK1, hD1⟩ := hB
  replace hP1 := va_P.he ht hP1
  obtain ⟨hP, hD⟩ := va_join (wr := (wz_242 ac cfi clk clt ac_length cop cva cpt cel ac_labelCount cla clk cclk gclk clt cclt gclt)) (w1 := (wz_46 h0 aw ac n3 h0_limit n4 h0_codeCount ob h0_openCount aw ab ac aw_typeCount wat wap wag aw_functionCount waf aw_hasMemory aw_pagesLeast aw_pagesMost aw_globalCount wgt wft wfv wgc aw_exportCount wek wei wes wez ab ax ab_length ax cax gax)) hP hD [0, 1, 2, 4] [3, 5, 6] rfl rfl (by decide) (by decide) hk1 hFc hP1 hD1
  clear hPc hDc hKc hFc hz1 hk1 hP1 hK1 hD1
  rename Heap => H
  have hP : va_P (dC, dI) cls (wz_243 ac cfi clk clt ac_length cop cva cpt cel ac_labelCount cla clk cclk gclk clt cclt gclt h0 aw ac n3 h0_limit n4 h0_codeCount ob h0_openCount aw ab ac aw_typeCount wat wap wag aw_functionCount waf aw_hasMemory aw_pagesLeast aw_pagesMost aw_globalCount wgt wft wfv wgc aw_exportCount wek wei wes wez ab ax ab_length ax cax gax) H := hP
  have hD : va_D A (wz_243 ac cfi clk clt ac_length cop cva cpt cel ac_labelCount cla clk cclk gclk clt cclt gclt h0 aw ac n3 h0_limit n4 h0_codeCount ob h0_openCount aw ab ac aw_typeCount wat wap wag aw_functionCount waf aw_hasMemory aw_pagesLeast aw_pagesMost aw_globalCount wgt wft wfv wgc aw_exportCount wek wei wes wez ab ax ab_length ax cax gax) := hD
  refine lv_l2i hx hb d_RE_readLocals_9 rfl ?_
  refine lv_topi (fun x5 ex5 => ?_)
  have tx5 := l2i_t ex5 (by (first | (apply Int.le_antisymm <;> omega) | omega)) (by (first | (apply Int.le_antisymm <;> omega) | omega))
  refine lv_istore_n (lv' := [(3, .int x5), (2, .int 0), (0, .ref h0), (1, .int p0)]) hx hb d_RE_readLocals_10 rfl hl (by decide) rfl (fun ls hl => ?_)
  refine lv_iconst (v := 0) hx hb d_RE_readLocals_11 (by decide) ?_
  refine lv_istore (lv' := [(4, .int 0), (3, .int x5), (2, .int 0), (0, .ref h0), (1, .int p0)]) hx hb d_RE_readLocals_12 hl (by decide) rfl (fun ls hl => ?_)
  refine w_loop (σ := Int32 × Int32 × (Nat → Int32) × Int32 × Int32) (fun u H locs ls => match u with | (j14_l2, j14_l4, j14_clt, j14_h0_at, j14_h0_sound) => (j14_h0_sound = 0 ∨ j14_h0_sound = 1) ∧ (0 ≤ j14_l4.toInt ∧ j14_l4.toInt ≤ (gR.length : Int) ∧ j14_l2.toInt = (rsum (gR.take j14_l4.toNatClampNeg) : Int) ∧ j14_h0_at.toInt = h0_at.toInt + 1 + 2 * j14_l4.toInt ∧ j14_h0_sound.toInt = 1 ∧ j14_l2.toInt ≤ 50) ∧ (bx (bq gax j14_h0_at.toNatClampNeg (rb (gR.drop j14_l4.toNatClampNeg)))) ∧ (∀ j : Nat, (60 * p0.toInt ≤ (j : Int) ∧ (j : Int) < 60 * p0.toInt + j14_l2.toInt) → (j14_clt j).toInt = 127 ∨ (j14_clt j).toInt = 126) ∧ (∀ j : Nat, ((j : Int) < 60 * p0.toInt ∨ 60 * p0.toInt + 60 ≤ (j : Int)) → j14_clt j = gclt j) ∧ va_P (dC, dI) cls (wz_243 ac cfi clk clt ac_length cop cva cpt cel ac_labelCount cla clk cclk gclk clt cclt j14_clt h0 aw ac j14_h0_at h0_limit j14_h0_sound h0_codeCount ob h0_openCount aw ab ac aw_typeCount wat wap wag aw_functionCount waf aw_hasMemory aw_pagesLeast aw_pagesMost aw_globalCount wgt wft wfv wgc aw_exportCount wek wei wes wez ab ax ab_length ax cax gax) H ∧ va_D A (wz_243 ac cfi clk clt ac_length cop cva cpt cel ac_labelCount cla clk cclk gclk clt cclt j14_clt h0 aw ac j14_h0_at h0_limit j14_h0_sound h0_codeCount ob h0_openCount aw ab ac aw_typeCount wat wap wag aw_functionCount waf aw_hasMemory aw_pagesLeast aw_pagesMost aw_globalCount wgt wft wfv wgc aw_exportCount wek wei wes wez ab ax ab_length ax cax gax) ∧ va_S A s.heap H locs ∧ lv_has ls 8 [(0, .ref h0), (1, .int p0), (2, .int j14_l2), (3, .int x5), (4, .int j14_l4)]) (fun u => match u with | (j14_l2, j14_l4, j14_clt, j14_h0_at, j14_h0_sound) => ((gR.length : Int) - j14_l4.toInt).toNat) ?_ (0, 0, gclt, n3, n4) ⟨bn4, (by rw [show (0 : Int32).toNatClampNeg = 0 from rfl, List.take_zero, show rsum [] = 0 from rfl]; (try dsimp only) <;> (first | (apply Int.le_antisymm <;> omega) | omega)), (by show bq gax _ (rb gR); exact bq_at hbq.out.2 (by (first | (apply Int.le_antisymm <;> omega) | omega))), fun j z => absurd z.2 (by show ¬ (j : Int) < 60 * p0.toInt + 0; (first | (apply Int.le_antisymm <;> omega) | omega)), fun j _ => rfl, hP, hD, hS, lv_sub hl [3, 4, 2, 1, 0] rfl⟩
  intro N14 ih14 u H locs ls hN14 hI
  obtain ⟨j14_l2, j14_l4, j14_clt, j14_h0_at, j14_h0_sound⟩ := u
  obtain ⟨b_j14_h0_sound, v1, hBq, v4, v5, hP, hD, hS, hl⟩ := hI
  have tj14_h0_sound := b01 b_j14_h0_sound
  have hN14 : ((gR.length : Int) - j14_l4.toInt).toNat < N14 + 1 := hN14
  refine lv_iload hx hb d_RE_readLocals_14 (lv_at hl 4 rfl) ?_
  refine lv_iload_n hx hb d_RE_readLocals_16 rfl (lv_at hl 3 rfl) ?_
  refine lv_icmp_ge (tgt := 91) hx hb d_RE_readLocals_17 (by decide) (fun c17 => ?_) (fun c17 => ?_)
  · have q17 := leI c17
    refine lv_aload_n hx hb d_RE_readLocals_91 rfl (lv_at hl 0 rfl) ?_
    refine va_get (D := (dC, dI)) (ci := 7) (v := .ref ac) (C := R_RE) (T := F_RE) (N := 8) hx hb hts i_RE hown hK hP 3 rfl rfl 1 (by decide) (hts _ kF_RE_25) (fun _ h9 => h9) rfl d_RE_readLocals_92 ?_
    refine va_get (D := (dC, dI)) (ci := 3) (v := .ref clk) (C := R_CD) (T := F_CD) (N := 10) hx hb hts i_CD hown hK hP 0 rfl rfl 1 (by decide) (hts _ kF_RE_191) (fun _ h9 => h9) rfl d_RE_readLocals_95 ?_
    refine lv_iload_n hx hb d_RE_readLocals_98 rfl (lv_at hl 1 rfl) ?_
    refine lv_iload_n hx hb d_RE_readLocals_99 rfl (lv_at hl 2 rfl) ?_
    have g100 : vp_in p0 30 := vp_in_iff.mpr ⟨by (first | (apply Int.le_antisymm <;> omega) | omega), by (first | (apply Int.le_antisymm <;> omega) | omega)⟩
    refine va_iast hx hb hK hP hD hS 1 1 rfl rfl g100 d_RE_readLocals_100 (fun H locs hP hD hS => ?_)
    generalize ef6 : upd gclk p0.toNatClampNeg j14_l2 = f6 at hP hD
    have hP9 := hP.sb (wq := (wz_241 h0 aw ac j14_h0_at h0_limit j14_h0_sound h0_codeCount ob h0_openCount aw ab ac aw_typeCount wat wap wag aw_functionCount waf aw_hasMemory aw_pagesLeast aw_pagesMost aw_globalCount wgt wft wfv wgc aw_exportCount wek wei wes wez ab ax ab_length ac cfi clk clt ac_length cop cva cpt cel ac_labelCount cla ax cax gax clk cclk f6 clt cclt j14_clt)) [3, 4, 5, 0, 6, 1, 2] rfl
    have hD9 := hD.sb (wq := (wz_241 h0 aw ac j14_h0_at h0_limit j14_h0_sound h0_codeCount ob h0_openCount aw ab ac aw_typeCount wat wap wag aw_functionCount waf aw_hasMemory aw_pagesLeast aw_pagesMost aw_globalCount wgt wft wfv wgc aw_exportCount wek wei wes wez ab ax ab_length ac cfi clk clt ac_length cop cva cpt cel ac_labelCount cla ax cax gax clk cclk f6 clt cclt j14_clt)) [3, 4, 5, 0, 6, 1, 2] (by decide) rfl
    exact W.vret hx hb hr (fun t ht hW => ⟨⟨(f6, j14_clt, j14_h0_at, j14_h0_sound), rfl, ⟨b_j14_h0_sound, ⟨by (try dsimp only) <;> (first | (apply Int.le_antisymm <;> omega) | omega), by (try dsimp only) <;> (first | (apply Int.le_antisymm <;> omega) | omega), v5, j14_l2, by have e := i32_clamp (x := j14_l4) (by (first | (apply Int.le_antisymm <;> omega) | omega)); have w := v1.2.2.1; rw [List.take_of_length_le (by (first | (apply Int.le_antisymm <;> omega) | omega))] at w; exact w, by rw [← ef6], v4⟩⟩, va_P.he ht.symm hP9, va_K.moved hW.alike hK, hD9⟩, hS.F ht⟩) hS.2.2 d_RE_readLocals_101
  · have q17 := nleI c17
    refine lv_aload_n hx hb d_RE_readLocals_20 rfl (lv_at hl 0 rfl) ?_
    refine va_get (D := (dC, dI)) (ci := 7) (v := .int j14_h0_sound) (C := R_RE) (T := F_RE) (N := 8) hx hb hts i_RE hown hK hP 3 rfl rfl 4 (by decide) (hts _ kF_RE_45) (fun _ h9 => h9) rfl d_RE_readLocals_21 ?_
    refine lv_if_eq (tgt := 91) hx hb d_RE_readLocals_24 (by decide) (fun c24 => absurd (eqI c24) (by (first | (apply Int.le_antisymm <;> omega) | omega))) (fun c24 => ?_)
    have q24 := neI c24
    have z4 := i32_clamp (x := j14_l4) (by (first | (apply Int.le_antisymm <;> omega) | omega))
    obtain ⟨rr8, tt8, ee8⟩ : ∃ x T, gR.drop j14_l4.toNatClampNeg = x :: T := by rcases h9 : gR.drop j14_l4.toNatClampNeg with _ | ⟨x, T⟩; (exfalso; have := congrArg List.length h9; rw [List.length_drop, List.length_nil] at this; (first | (apply Int.le_antisymm <;> omega) | omega)); exact ⟨x, T, rfl⟩
    obtain ⟨r1, r2, r3, r4⟩ := rsum_take ee8
    have k8 := hrk.out rr8 r4
    have r5 := rsum_le (R := gR) (j14_l4.toNatClampNeg + 1)
    have q8 := hBq.out
    rw [ee8] at q8
    have q1 := q8.1
    have q2 := q8.2.1
    have q3 := q8.2.2
    replace q3 : bx _ := q3
    clear q8
    have zat := i32_clamp (x := j14_h0_at) (by (first | (apply Int.le_antisymm <;> omega) | omega))
    have lb8 : (leb 5 rr8.1).length = 1 := by rw [leb_1 (by (first | (apply Int.le_antisymm <;> omega) | omega))]; rfl
    refine lv_aload_n hx hb d_RE_readLocals_27 rfl (lv_at hl 0 rfl) ?_
    refine lv_bipush (v := 60) hx hb d_RE_readLocals_28 (by decide) ?_
    refine lv_iload_n hx hb d_RE_readLocals_30 rfl (lv_at hl 2 rfl) ?_
    refine lv_isub hx hb d_RE_readLocals_31 ?_
    refine lv_topi (fun x7 ex7 => ?_)
    have tx7 : x7.toInt = 60 - j14_l2.toInt := by have z := i32_sub ex7 (by (first | (apply Int.le_antisymm <;> omega) | omega)) (by (first | (apply Int.le_antisymm <;> omega) | omega)); first | exact z | (first | (apply Int.le_antisymm <;> omega) | omega)
    refine lv_i2l hx hb d_RE_readLocals_32 rfl ?_
    refine lv_topl (fun x8 ex8 => ?_)
    have tx8 := i2l_t ex8
    have hPc := hP.sb (wq := (wz_46 h0 aw ac j14_h0_at h0_limit j14_h0_sound h0_codeCount ob h0_openCount aw ab ac aw_typeCount wat wap wag aw_functionCount waf aw_hasMemory aw_pagesLeast aw_pagesMost aw_globalCount wgt wft wfv wgc aw_exportCount wek wei wes wez ab ax ab_length ax cax gax)) [3, 4, 5, 6] rfl
    have hDc := hD.sb (wq := (wz_46 h0 aw ac j14_h0_at h0_limit j14_h0_sound h0_codeCount ob h0_openCount aw ab ac aw_typeCount wat wap wag aw_functionCount waf aw_hasMemory aw_pagesLeast aw_pagesMost aw_globalCount wgt wft wfv wgc aw_exportCount wek wei wes wez ab ax ab_length ax cax gax)) [3, 4, 5, 6] (by decide) rfl
    have hKc := hK.sb (tyq := [(cax, .byte)]) [0] rfl
    have hFc := va_free (wc := (wz_46 h0 aw ac j14_h0_at h0_limit j14_h0_sound h0_codeCount ob h0_openCount aw ab ac aw_typeCount wat wap wag aw_functionCount waf aw_hasMemory aw_pagesLeast aw_pagesMost aw_globalCount wgt wft wfv wgc aw_exportCount wek wei wes wez ab ax ab_length ax cax gax)) hD hS hA [3, 4, 5, 6] rfl
    refine va_calll (va_runV (As := [.long x8]) (rest := []) ⟨hx, hb, hml, hown, hts⟩ (c_RE_readUnsignedx l dC dI H.size h0 aw ac ob ab wat wap wag waf wgt wft wfv wgc wek wei wes wez ax cax j14_h0_at h0_limit j14_h0_sound h0_codeCount h0_openCount aw_typeCount aw_functionCount aw_hasMemory aw_pagesLeast aw_pagesMost aw_globalCount aw_exportCount ab_length gax rr8.1 (b_j14_h0_sound) x8 (by (first | (apply Int.le_antisymm <;> omega) | omega)) (by (first | (apply Int.le_antisymm <;> omega) | omega)) (by (first | (apply Int.le_antisymm <;> omega) | omega)) ((by rw [leb_1 (by (first | (apply Int.le_antisymm <;> omega) | omega))]; exact ⟨q1, trivial⟩)) (by (first | (apply Int.le_antisymm <;> omega) | omega))) (cwV 1 hts (gV kM_RE_64 kV_RE_readUnsigned kS_RE_readUnsigned kI_RE kC_RE_readUnsigned) rfl rfl rfl (by decide +kernel) ⟨Nat.le_of_ble_eq_true rfl, Nat.le_of_ble_eq_true rfl⟩) ⟨fun a U g mk z => by obtain ⟨z0, z1, zP, zK, zD⟩ := z; exact ⟨z0, z1, zP, va_K.moved (u := U) (U := U.calling g mk a) (Vm.Alike.refl U.vm) zK, zD⟩, va_recv hKc hPc (ci := 7) (q0 := 0) rfl rfl, fun U hU hW => ⟨rfl, by rw [hU], va_P.he hU.symm hPc, va_K.moved hW.alike hKc, hDc.weaken (fun _ _ _ _ => trivial)⟩⟩ rfl rfl hl.1 rfl (lv_room (Nat.le_of_ble_eq_true rfl)) d_RE_readLocals_33 ⟨(Nat.zero_le _), (Nat.zero_le _)⟩) hS (fun q _ h => hFc q h) hFc (fun r9 u t H1 locs ht hvm hw hB hz1 hk1 hS => ?_)
    obtain ⟨n10, n11⟩ := u
    try dsimp only at hw
    obtain ⟨bn11, xr9⟩ := hw
    try clear hw
    have tn11 := b01 bn11
    have z33 := i32_clamp (x := n10) (by (first | (apply Int.le_antisymm <;> omega) | omega))
    have e33 : j14_h0_at.toNatClampNeg + 1 = n10.toNatClampNeg := by (first | (apply Int.le_antisymm <;> omega) | omega)
    rw [e33] at q2
    obtain ⟨hP1, hK1, hD1⟩ := hB
    replace hP1 := va_P.he ht hP1
    obtain ⟨hP, hD⟩ := va_join (wr := (wz_242 ac cfi clk clt ac_length cop cva cpt cel ac_labelCount cla clk cclk gclk clt cclt j14_clt)) (w1 := (wz_46 h0 aw ac n10 h0_limit n11 h0_codeCount ob h0_openCount aw ab ac aw_typeCount wat wap wag aw_functionCount waf aw_hasMemory aw_pagesLeast aw_pagesMost aw_globalCount wgt wft wfv wgc aw_exportCount wek wei wes wez ab ax ab_length ax cax gax)) hP hD [3, 4, 5, 6] [0, 1, 2] rfl rfl (by decide) (by decide) hk1 hFc hP1 hD1
    clear hPc hDc hKc hFc hz1 hk1 hP1 hK1 hD1
    rename Heap => H
    have hP : va_P (dC, dI) cls (wz_243 ac cfi clk clt ac_length cop cva cpt cel ac_labelCount cla clk cclk gclk clt cclt j14_clt h0 aw ac n10 h0_limit n11 h0_codeCount ob h0_openCount aw ab ac aw_typeCount wat wap wag aw_functionCount waf aw_hasMemory aw_pagesLeast aw_pagesMost aw_globalCount wgt wft wfv wgc aw_exportCount wek wei wes wez ab ax ab_length ax cax gax) H := hP
    have hD : va_D A (wz_243 ac cfi clk clt ac_length cop cva cpt cel ac_labelCount cla clk cclk gclk clt cclt j14_clt h0 aw ac n10 h0_limit n11 h0_codeCount ob h0_openCount aw ab ac aw_typeCount wat wap wag aw_functionCount waf aw_hasMemory aw_pagesLeast aw_pagesMost aw_globalCount wgt wft wfv wgc aw_exportCount wek wei wes wez ab ax ab_length ax cax gax) := hD
    refine lv_l2i hx hb d_RE_readLocals_36 rfl ?_
    refine lv_topi (fun x12 ex12 => ?_)
    have tx12 := l2i_t ex12 (by (first | (apply Int.le_antisymm <;> omega) | omega)) (by (first | (apply Int.le_antisymm <;> omega) | omega))
    refine lv_istore (lv' := [(5, .int x12), (0, .ref h0), (1, .int p0), (2, .int j14_l2), (3, .int x5), (4, .int j14_l4)]) hx hb d_RE_readLocals_37 hl (by decide) rfl (fun ls hl => ?_)
    refine lv_aload_n hx hb d_RE_readLocals_39 rfl (lv_at hl 1 rfl) ?_
    have hPc := hP.sb (wq := (wz_46 h0 aw ac n10 h0_limit n11 h0_codeCount ob h0_openCount aw ab ac aw_typeCount wat wap wag aw_functionCount waf aw_hasMemory aw_pagesLeast aw_pagesMost aw_globalCount wgt wft wfv wgc aw_exportCount wek wei wes wez ab ax ab_length ax cax gax)) [3, 4, 5, 6] rfl
    have hDc := hD.sb (wq := (wz_46 h0 aw ac n10 h0_limit n11 h0_codeCount ob h0_openCount aw ab ac aw_typeCount wat wap wag aw_functionCount waf aw_hasMemory aw_pagesLeast aw_pagesMost aw_globalCount wgt wft wfv wgc aw_exportCount wek wei wes wez ab ax ab_length ax cax gax)) [3, 4, 5, 6] (by decide) rfl
    have hKc := hK.sb (tyq := [(cax, .byte)]) [0] rfl
    have hFc := va_free (wc := (wz_46 h0 aw ac n10 h0_limit n11 h0_codeCount ob h0_openCount aw ab ac aw_typeCount wat wap wag aw_functionCount waf aw_hasMemory aw_pagesLeast aw_pagesMost aw_globalCount wgt wft wfv wgc aw_exportCount wek wei wes wez ab ax ab_length ax cax gax)) hD hS hA [3, 4, 5, 6] rfl
    refine va_calli (va_runV (As := []) (rest := []) ⟨hx, hb, hml, hown, hts⟩ (c_RE_readTypex l dC dI H.size h0 aw ac ob ab wat wap wag waf wgt wft wfv wgc wek wei wes wez ax cax n10 h0_limit n11 h0_codeCount h0_openCount aw_typeCount aw_functionCount aw_hasMemory aw_pagesLeast aw_pagesMost aw_globalCount aw_exportCount ab_length gax (bn11) (by (first | (apply Int.le_antisymm <;> omega) | omega)) (by (first | (apply Int.le_antisymm <;> omega) | omega)) (by (first | (apply Int.le_antisymm <;> omega) | omega)) (by (try dsimp only) <;> (first | (apply Int.le_antisymm <;> omega) | omega))) (cwV 0 hts (gV kM_RE_109 kV_RE_readType kS_RE_readType kI_RE kC_RE_readType) rfl rfl rfl (by decide +kernel) ⟨Nat.le_of_ble_eq_true rfl, Nat.le_of_ble_eq_true rfl⟩) ⟨fun a U g mk z => by obtain ⟨z0, z1, zP, zK, zD⟩ := z; exact ⟨z0, z1, zP, va_K.moved (u := U) (U := U.calling g mk a) (Vm.Alike.refl U.vm) zK, zD⟩, va_recv hKc hPc (ci := 7) (q0 := 0) rfl rfl, fun U hU hW => ⟨rfl, by rw [hU], va_P.he hU.symm hPc, va_K.moved hW.alike hKc, hDc.weaken (fun _ _ _ _ => trivial)⟩⟩ rfl rfl hl.1 rfl (lv_room (Nat.le_of_ble_eq_true rfl)) d_RE_readLocals_40 ⟨(Nat.zero_le _), (Nat.zero_le _)⟩) hS (fun q _ h => hFc q h) hFc (fun r13 u t H1 locs ht hvm hw hB hz1 hk1 hS => ?_)
    obtain ⟨n14, n15⟩ := u
    try dsimp only at hw
    obtain ⟨bn15, xr13⟩ := hw
    try clear hw
    have tn15 := b01 bn15
    obtain ⟨hP1, hK1, hD1⟩ := hB
    replace hP1 := va_P.he ht hP1
    obtain ⟨hP, hD⟩ := va_join (wr := (wz_242 ac cfi clk clt ac_length cop cva cpt cel ac_labelCount cla clk cclk gclk clt cclt j14_clt)) (w1 := (wz_46 h0 aw ac n14 h0_limit n15 h0_codeCount ob h0_openCount aw ab ac aw_typeCount wat wap wag aw_functionCount waf aw_hasMemory aw_pagesLeast aw_pagesMost aw_globalCount wgt wft wfv wgc aw_exportCount wek wei wes wez ab ax ab_length ax cax gax)) hP hD [3, 4, 5, 6] [0, 1, 2] rfl rfl (by decide) (by decide) hk1 hFc hP1 hD1
    clear hPc hDc hKc hFc hz1 hk1 hP1 hK1 hD1
    rename Heap => H
    have hP : va_P (dC, dI) cls (wz_243 ac cfi clk clt ac_length cop cva cpt cel ac_labelCount cla clk cclk gclk clt cclt j14_clt h0 aw ac n14 h0_limit n15 h0_codeCount ob h0_openCount aw ab ac aw_typeCount wat wap wag aw_functionCount waf aw_hasMemory aw_pagesLeast aw_pagesMost aw_globalCount wgt wft wfv wgc aw_exportCount wek wei wes wez ab ax ab_length ax cax gax) H := hP
    have hD : va_D A (wz_243 ac cfi clk clt ac_length cop cva cpt cel ac_labelCount cla clk cclk gclk clt cclt j14_clt h0 aw ac n14 h0_limit n15 h0_codeCount ob h0_openCount aw ab ac aw_typeCount wat wap wag aw_functionCount waf aw_hasMemory aw_pagesLeast aw_pagesMost aw_globalCount wgt wft wfv wgc aw_exportCount wek wei wes wez ab ax ab_length ax cax gax) := hD
    refine lv_istore (lv' := [(6, .int r13), (5, .int x12), (0, .ref h0), (1, .int p0), (2, .int j14_l2), (3, .int x5), (4, .int j14_l4)]) hx hb d_RE_readLocals_43 hl (by decide) rfl (fun ls hl => ?_)
    refine lv_iconst (v := 0) hx hb d_RE_readLocals_45 (by decide) ?_
    refine lv_istore (lv' := [(7, .int 0), (6, .int r13), (5, .int x12), (0, .ref h0), (1, .int p0), (2, .int j14_l2), (3, .int x5), (4, .int j14_l4)]) hx hb d_RE_readLocals_46 hl (by decide) rfl (fun ls hl => ?_)
    refine w_loop (σ := Int32 × (Nat → Int32)) (fun u H locs ls => match u with | (j48_l7, j48_clt) => (0 ≤ j48_l7.toInt ∧ j48_l7.toInt ≤ x12.toInt) ∧ (∀ j : Nat, (60 * p0.toInt ≤ (j : Int) ∧ (j : Int) < 60 * p0.toInt + j14_l2.toInt + j48_l7.toInt) → (j48_clt j).toInt = 127 ∨ (j48_clt j).toInt = 126) ∧ (∀ j : Nat, ((j : Int) < 60 * p0.toInt ∨ 60 * p0.toInt + 60 ≤ (j : Int)) → j48_clt j = gclt j) ∧ va_P (dC, dI) cls (wz_243 ac cfi clk clt ac_length cop cva cpt cel ac_labelCount cla clk cclk gclk clt cclt j48_clt h0 aw ac n14 h0_limit n15 h0_codeCount ob h0_openCount aw ab ac aw_typeCount wat wap wag aw_functionCount waf aw_hasMemory aw_pagesLeast aw_pagesMost aw_globalCount wgt wft wfv wgc aw_exportCount wek wei wes wez ab ax ab_length ax cax gax) H ∧ va_D A (wz_243 ac cfi clk clt ac_length cop cva cpt cel ac_labelCount cla clk cclk gclk clt cclt j48_clt h0 aw ac n14 h0_limit n15 h0_codeCount ob h0_openCount aw ab ac aw_typeCount wat wap wag aw_functionCount waf aw_hasMemory aw_pagesLeast aw_pagesMost aw_globalCount wgt wft wfv wgc aw_exportCount wek wei wes wez ab ax ab_length ax cax gax) ∧ va_S A s.heap H locs ∧ lv_has ls 8 [(0, .ref h0), (1, .int p0), (2, .int j14_l2), (3, .int x5), (4, .int j14_l4), (5, .int x12), (6, .int r13), (7, .int j48_l7)]) (fun u => match u with | (j48_l7, j48_clt) => (x12.toInt - j48_l7.toInt).toNat) ?_ (0, j14_clt) ⟨by (try dsimp only) <;> (first | (apply Int.le_antisymm <;> omega) | omega), fun j z => v4 j (by have : Int32.toInt 0 = 0 := rfl; (first | (apply Int.le_antisymm <;> omega) | omega)), v5, hP, hD, hS, lv_sub hl [3, 4, 5, 6, 7, 2, 1, 0] rfl⟩
    intro N48 ih48 u H locs ls hN48 hI
    obtain ⟨j48_l7, j48_clt⟩ := u
    obtain ⟨u1, u4, u5, hP, hD, hS, hl⟩ := hI
    have hN48 : (x12.toInt - j48_l7.toInt).toNat < N48 + 1 := hN48
    refine lv_iload hx hb d_RE_readLocals_48 (lv_at hl 7 rfl) ?_
    refine lv_iload hx hb d_RE_readLocals_50 (lv_at hl 5 rfl) ?_
    refine lv_icmp_ge (tgt := 80) hx hb d_RE_readLocals_52 (by decide) (fun c52 => ?_) (fun c52 => ?_)
    · have q52 := leI c52
      refine lv_iload_n hx hb d_RE_readLocals_80 rfl (lv_at hl 2 rfl) ?_
      refine lv_iload hx hb d_RE_readLocals_81 (lv_at hl 5 rfl) ?_
      refine lv_iadd hx hb d_RE_readLocals_83 ?_
      refine lv_topi (fun x16 ex16 => ?_)
      have tx16 : x16.toInt = j14_l2.toInt + x12.toInt := by have z := i32_add ex16 (by (first | (apply Int.le_antisymm <;> omega) | omega)) (by (first | (apply Int.le_antisymm <;> omega) | omega)); first | exact z | (first | (apply Int.le_antisymm <;> omega) | omega)
      refine lv_istore_n (lv' := [(2, .int x16), (0, .ref h0), (1, .int p0), (3, .int x5), (4, .int j14_l4), (5, .int x12), (6, .int r13), (7, .int j48_l7)]) hx hb d_RE_readLocals_84 rfl hl (by decide) rfl (fun ls hl => ?_)
      obtain ⟨x17, ex17⟩ : ∃ z : Int32, z = j14_l4 + 1 := ⟨_, rfl⟩
      have tx17 : x17.toInt = j14_l4.toInt + 1 := by have z := i32_add ex17 (by (first | (apply Int.le_antisymm <;> omega) | omega)) (by (first | (apply Int.le_antisymm <;> omega) | omega)); first | exact z | (first | (apply Int.le_antisymm <;> omega) | omega)
      refine lv_iinc (v := x17) (lv' := [(4, .int x17), (2, .int x16), (0, .ref h0), (1, .int p0), (3, .int x5), (5, .int x12), (6, .int r13), (7, .int j48_l7)]) hx hb d_RE_readLocals_85 hl (k := 4) rfl (by rw [ex17]; rfl) (by decide) rfl (fun ls hl => ?_)
      refine lv_goto (tgt := 14) hx hb d_RE_readLocals_88 (by decide) ?_
      exact ih14 (x16, x17, j48_clt, n14, n15) _ _ _ (by show ((gR.length : Int) - x17.toInt).toNat < N14; (first | (apply Int.le_antisymm <;> omega) | omega)) ⟨bn15, (by rw [show x17.toNatClampNeg = j14_l4.toNatClampNeg + 1 from clampN (by (first | (apply Int.le_antisymm <;> omega) | omega)), r1]; (try dsimp only) <;> (first | (apply Int.le_antisymm <;> omega) | omega)), (by rw [show x17.toNatClampNeg = j14_l4.toNatClampNeg + 1 from clampN (by (first | (apply Int.le_antisymm <;> omega) | omega)), r2]; exact bq_at q3.out (by have := i32_clamp (x := n14) (by (first | (apply Int.le_antisymm <;> omega) | omega)); (first | (apply Int.le_antisymm <;> omega) | omega))), fun j z => u4 j (by (first | (apply Int.le_antisymm <;> omega) | omega)), u5, hP, hD, hS, lv_sub hl [2, 3, 1, 4, 0] rfl⟩
    · have q52 := nleI c52
      refine lv_aload_n hx hb d_RE_readLocals_55 rfl (lv_at hl 0 rfl) ?_
      refine va_get (D := (dC, dI)) (ci := 7) (v := .ref ac) (C := R_RE) (T := F_RE) (N := 8) hx hb hts i_RE hown hK hP 3 rfl rfl 1 (by decide) (hts _ kF_RE_25) (fun _ h9 => h9) rfl d_RE_readLocals_56 ?_
      refine va_get (D := (dC, dI)) (ci := 3) (v := .ref clt) (C := R_CD) (T := F_CD) (N := 10) hx hb hts i_CD hown hK hP 0 rfl rfl 2 (by decide) (hts _ kF_RE_188) (fun _ h9 => h9) rfl d_RE_readLocals_59 ?_
      refine lv_iload_n hx hb d_RE_readLocals_62 rfl (lv_at hl 1 rfl) ?_
      refine lv_bipush (v := 60) hx hb d_RE_readLocals_63 (by decide) ?_
      refine lv_imul hx hb d_RE_readLocals_65 ?_
      refine lv_topi (fun x18 ex18 => ?_)
      have tx18 : x18.toInt = p0.toInt * 60 := by have z := i32_mul ex18 (by rw [k60]; (first | (apply Int.le_antisymm <;> omega) | omega)) (by rw [k60]; (first | (apply Int.le_antisymm <;> omega) | omega)); rw [k60] at z; exact z
      refine lv_iload_n hx hb d_RE_readLocals_66 rfl (lv_at hl 2 rfl) ?_
      refine lv_iadd hx hb d_RE_readLocals_67 ?_
      refine lv_topi (fun x19 ex19 => ?_)
      have tx19 : x19.toInt = x18.toInt + j14_l2.toInt := by have z := i32_add ex19 (by (first | (apply Int.le_antisymm <;> omega) | omega)) (by (first | (apply Int.le_antisymm <;> omega) | omega)); first | exact z | (first | (apply Int.le_antisymm <;> omega) | omega)
      refine lv_iload hx hb d_RE_readLocals_68 (lv_at hl 7 rfl) ?_
      refine lv_iadd hx hb d_RE_readLocals_70 ?_
      refine lv_topi (fun x20 ex20 => ?_)
      have tx20 : x20.toInt = x19.toInt + j48_l7.toInt := by have z := i32_add ex20 (by (first | (apply Int.le_antisymm <;> omega) | omega)) (by (first | (apply Int.le_antisymm <;> omega) | omega)); first | exact z | (first | (apply Int.le_antisymm <;> omega) | omega)
      refine lv_iload hx hb d_RE_readLocals_71 (lv_at hl 6 rfl) ?_
      have g73 : vp_in x20 1800 := vp_in_iff.mpr ⟨by (first | (apply Int.le_antisymm <;> omega) | omega), by (first | (apply Int.le_antisymm <;> omega) | omega)⟩
      refine va_iast hx hb hK hP hD hS 2 2 rfl rfl g73 d_RE_readLocals_73 (fun H locs hP hD hS => ?_)
      generalize ef21 : upd j48_clt x20.toNatClampNeg r13 = f21 at hP hD
      obtain ⟨x22, ex22⟩ : ∃ z : Int32, z = j48_l7 + 1 := ⟨_, rfl⟩
      have tx22 : x22.toInt = j48_l7.toInt + 1 := by have z := i32_add ex22 (by (first | (apply Int.le_antisymm <;> omega) | omega)) (by (first | (apply Int.le_antisymm <;> omega) | omega)); first | exact z | (first | (apply Int.le_antisymm <;> omega) | omega)
      refine lv_iinc (v := x22) (lv' := [(7, .int x22), (0, .ref h0), (1, .int p0), (2, .int j14_l2), (3, .int x5), (4, .int j14_l4), (5, .int x12), (6, .int r13)]) hx hb d_RE_readLocals_74 hl (k := 7) rfl (by rw [ex22]; rfl) (by decide) rfl (fun ls hl => ?_)
      refine lv_goto (tgt := 48) hx hb d_RE_readLocals_77 (by decide) ?_
      have c73 := i32_clamp (x := x20) (by (first | (apply Int.le_antisymm <;> omega) | omega))
      exact ih48 (x22, f21) _ _ _ (by show (x12.toInt - x22.toInt).toNat < N48; (first | (apply Int.le_antisymm <;> omega) | omega)) ⟨by (try dsimp only) <;> (first | (apply Int.le_antisymm <;> omega) | omega), fun j z => by rw [← ef21]; by_cases q : j = x20.toNatClampNeg; (rw [q, pk_us]; (first | (apply Int.le_antisymm <;> omega) | omega)); (rw [pk_un q]; exact u4 j (by (first | (apply Int.le_antisymm <;> omega) | omega))), fun j z => by rw [← ef21, pk_un (by (first | (apply Int.le_antisymm <;> omega) | omega))]; exact u5 j z, hP, hD, hS, lv_sub hl [1, 2, 3, 4, 5, 6, 7, 0] rfl⟩
end q_90

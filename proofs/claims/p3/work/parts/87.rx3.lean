/-! Reader: signed numbers as they were put -/
theorem sp_F : ∀ b : Fin 128, ((nI b.val <<< ((25 : Int32) &&& 31)) >>> ((25 : Int32) &&& 31)).toInt = if b.val < 64 then (b.val : Int) else b.val - 128 := by decide +kernel
theorem sp_t {p x y : Int32} {v : Int} (e1 : x = p <<< ((25 : Int32) &&& 31)) (e2 : y = x >>> ((25 : Int32) &&& 31)) (hp : p.toInt = v % 128) (h0 : -64 ≤ v) (h1 : v ≤ 63) : y.toInt = v := by
  have hb : (v % 128).toNat < 128 := by omega
  have q := sp_F ⟨(v % 128).toNat, hb⟩
  dsimp only at q
  rw [e2, e1, nI_b (p := p) (b := (v % 128).toNat) (by omega) (by omega), q]
  split <;> omega
theorem ab_F : ∀ (a : Fin 128) (n : Fin 7), (a.val : Int) - 64 < 2 ^ n.val → -(2 ^ n.val : Int) ≤ (a.val : Int) - 64 → ((Int32.ofInt ((a.val : Int) - 64)) >>> (nI n.val &&& 31)).toInt = 0 ∨ ((Int32.ofInt ((a.val : Int) - 64)) >>> (nI n.val &&& 31)).toInt = -1 := by decide +kernel
theorem ab_t {p s x : Int32} {n : Nat} (e : x = p >>> (s &&& 31)) (hs : s.toInt = (n : Int)) (hn : n < 7) (h0 : -(2 ^ n : Int) ≤ p.toInt) (h1 : p.toInt < 2 ^ n) (b0 : -64 ≤ p.toInt) (b1 : p.toInt ≤ 63) : x.toInt = 0 ∨ x.toInt = -1 := by
  have q := ab_F ⟨(p.toInt + 64).toNat, by omega⟩ ⟨n, hn⟩
  dsimp only at q
  rw [show (((p.toInt + 64).toNat : Nat) : Int) - 64 = p.toInt from by omega] at q
  rw [e, nI_b (p := s) (b := n) hs (by omega)]
  have e2 : Int32.ofInt p.toInt = p := Int32.ofInt_toInt p
  rw [e2] at q
  exact q h1 h0
/-- k groups are read, v is to come: it has n + 1 bits -/
def sgI (f : Nat → Int32) (a : Nat) (k n : Nat) (v : Int) : Prop := bq f a (sleb (10 - k) v) ∧ -(2 ^ n : Int) ≤ v ∧ v < 2 ^ n ∧ k ≤ 9
theorem sg_go {f : Nat → Int32} {a k n : Nat} {v : Int} (h : sgI f a k n v) (hk : n + 7 * k ≤ 63) (q : v < -64 ∨ 63 < v) : 7 ≤ n ∧ bn (f a) = (v % 128).toNat + 128 ∧ sgI f (a + 1) (k + 1) (n - 7) (v / 128) ∧ (sleb (10 - k) v).length = 1 + (sleb (10 - (k + 1)) (v / 128)).length := by
  obtain ⟨h1, h2, h3, h4⟩ := h
  have hn : 7 ≤ n := by
    rcases Nat.lt_or_ge n 7 with w | w
    · exfalso
      have : (2 : Int) ^ n ≤ 64 := by
        have c : n = 0 ∨ n = 1 ∨ n = 2 ∨ n = 3 ∨ n = 4 ∨ n = 5 ∨ n = 6 := by omega
        rcases c with rfl | rfl | rfl | rfl | rfl | rfl | rfl <;> decide
      omega
    · exact w
  have e : (2 : Int) ^ n = 2 ^ (n - 7) * 128 := by
    have : n = n - 7 + 7 := by omega
    rw [this, Int.pow_add, show n - 7 + 7 - 7 = n - 7 by omega]
    rfl
  rw [show 10 - k = (10 - (k + 1)) + 1 by omega, sleb_go q] at h1 ⊢
  rw [e] at h2 h3
  exact ⟨hn, h1.1, ⟨h1.2, by omega, by omega, by omega⟩, by rw [List.length_cons]; omega⟩
theorem sg_end {f : Nat → Int32} {a k n : Nat} {v : Int} (h : sgI f a k n v) (q : ¬ (v < -64 ∨ 63 < v)) : bn (f a) = (v % 128).toNat ∧ (sleb (10 - k) v).length = 1 := by
  obtain ⟨h1, -⟩ := h
  rw [sleb_end (Or.inr (by omega))] at h1 ⊢
  exact ⟨h1.1, rfl⟩
abbrev at_RE_readSignedx (dC : Nat → ClassId) (dI : Nat → Nat → Nat) (h0 aw ac ob ab wat wap wag waf wgt wft wfv wgc wek wei wes wez ax : Nat) (cax : ClassId) (h0_limit : Int32) (h0_codeCount : Int32) (h0_openCount : Int32) (aw_typeCount : Int32) (aw_functionCount : Int32) (aw_hasMemory : Int32) (aw_pagesLeast : Int64) (aw_pagesMost : Int64) (aw_globalCount : Int32) (aw_exportCount : Int32) (ab_length : Int32) (gax : Nat → Int32) (A : Nat → Prop) (u : Int32 × Int32) (t : State) : Prop := match u with | (h0_at, h0_sound) => va_P (dC, dI) cls [(h0, .inr (7, [.ref aw, .ref ac, .int h0_at, .int h0_limit, .int h0_sound, .int h0_codeCount, .ref ob, .int h0_openCount])), (aw, .inr (10, [.ref ab, .ref ac, .int aw_typeCount, .ref wat, .ref wap, .ref wag, .int aw_functionCount, .ref waf, .int aw_hasMemory, .long aw_pagesLeast, .long aw_pagesMost, .int aw_globalCount, .ref wgt, .ref wft, .ref wfv, .ref wgc, .int aw_exportCount, .ref wek, .ref wei, .ref wes, .ref wez])), (ab, .inr (1, [.ref ax, .int ab_length])), (ax, .inl (cax, 8192, .inl gax))] t.heap ∧ va_K (dC, dI) cls [(cax, .byte)] t ∧ va_D A [(h0, .inr (7, [.ref aw, .ref ac, .int h0_at, .int h0_limit, .int h0_sound, .int h0_codeCount, .ref ob, .int h0_openCount])), (aw, .inr (10, [.ref ab, .ref ac, .int aw_typeCount, .ref wat, .ref wap, .ref wag, .int aw_functionCount, .ref waf, .int aw_hasMemory, .long aw_pagesLeast, .long aw_pagesMost, .int aw_globalCount, .ref wgt, .ref wft, .ref wfv, .ref wgc, .int aw_exportCount, .ref wek, .ref wei, .ref wes, .ref wez])), (ab, .inr (1, [.ref ax, .int ab_length])), (ax, .inl (cax, 8192, .inl gax))]
set_option maxHeartbeats 4000000 in
set_option maxRecDepth 100000 in
theorem c_RE_readSignedx (l : Launch) (dC : Nat → ClassId) (dI : Nat → Nat → Nat) (sz : Nat) (h0 aw ac ob ab wat wap wag waf wgt wft wfv wgc wek wei wes wez ax : Nat) (cax : ClassId) (h0_at : Int32) (h0_limit : Int32) (h0_sound : Int32) (h0_codeCount : Int32) (h0_openCount : Int32) (aw_typeCount : Int32) (aw_functionCount : Int32) (aw_hasMemory : Int32) (aw_pagesLeast : Int64) (aw_pagesMost : Int64) (aw_globalCount : Int32) (aw_exportCount : Int32) (ab_length : Int32) (gax : Nat → Int32) (gv : Int)  (b_h0_sound : h0_sound = 0 ∨ h0_sound = 1) (p0 : Int32)  (hs : h0_sound.toInt = 1) (ha : 0 ≤ h0_at.toInt ∧ h0_limit.toInt ≤ ab_length.toInt ∧ ab_length.toInt ≤ 8192) (hv : (p0.toInt = 32 ∧ -2147483648 ≤ gv ∧ gv ≤ 2147483647) ∨ (p0.toInt = 64 ∧ -9223372036854775808 ≤ gv ∧ gv ≤ 9223372036854775807)) (hbq : bq gax h0_at.toNatClampNeg (sleb 10 gv)) (hl : h0_at.toInt + ((sleb 10 gv).length : Int) ≤ h0_limit.toInt) : Met l y_RE_readSigned w_RE_readSigned ({ frames := 1, cells := 0, slots := 0, locals := 20 }) (va_Pc [.ref h0, .int p0] (fun U => U.heap.size = sz ∧ va_P (dC, dI) cls [(h0, .inr (7, [.ref aw, .ref ac, .int h0_at, .int h0_limit, .int h0_sound, .int h0_codeCount, .ref ob, .int h0_openCount])), (aw, .inr (10, [.ref ab, .ref ac, .int aw_typeCount, .ref wat, .ref wap, .ref wag, .int aw_functionCount, .ref waf, .int aw_hasMemory, .long aw_pagesLeast, .long aw_pagesMost, .int aw_globalCount, .ref wgt, .ref wft, .ref wfv, .ref wgc, .int aw_exportCount, .ref wek, .ref wei, .ref wes, .ref wez])), (ab, .inr (1, [.ref ax, .int ab_length])), (ax, .inl (cax, 8192, .inl gax))] U.heap ∧ va_K (dC, dI) cls [(cax, .byte)] U ∧ va_D (fun _ => True) [(h0, .inr (7, [.ref aw, .ref ac, .int h0_at, .int h0_limit, .int h0_sound, .int h0_codeCount, .ref ob, .int h0_openCount])), (aw, .inr (10, [.ref ab, .ref ac, .int aw_typeCount, .ref wat, .ref wap, .ref wag, .int aw_functionCount, .ref waf, .int aw_hasMemory, .long aw_pagesLeast, .long aw_pagesMost, .int aw_globalCount, .ref wgt, .ref wft, .ref wfv, .ref wgc, .int aw_exportCount, .ref wek, .ref wei, .ref wes, .ref wez])), (ab, .inr (1, [.ref ax, .int ab_length])), (ax, .inl (cax, 8192, .inl gax))])) (va_Ql (fun (r : Int64) (u : Int32 × Int32) => match u with | (h0_at2, h0_sound2) => (h0_sound2 = 0 ∨ h0_sound2 = 1) ∧ (h0_at2.toInt = h0_at.toInt + ((sleb 10 gv).length : Int) ∧ h0_sound2.toInt = 1)) (at_RE_readSignedx dC dI h0 aw ac ob ab wat wap wag waf wgt wft wfv wgc wek wei wes wez ax cax h0_limit h0_codeCount h0_openCount aw_typeCount aw_functionCount aw_hasMemory aw_pagesLeast aw_pagesMost aw_globalCount aw_exportCount ab_length gax (va_A [(h0, .inr (7, [.ref aw, .ref ac, .int h0_at, .int h0_limit, .int h0_sound, .int h0_codeCount, .ref ob, .int h0_openCount])), (aw, .inr (10, [.ref ab, .ref ac, .int aw_typeCount, .ref wat, .ref wap, .ref wag, .int aw_functionCount, .ref waf, .int aw_hasMemory, .long aw_pagesLeast, .long aw_pagesMost, .int aw_globalCount, .ref wgt, .ref wft, .ref wfv, .ref wgc, .int aw_exportCount, .ref wek, .ref wei, .ref wes, .ref wez])), (ab, .inr (1, [.ref ax, .int ab_length])), (ax, .inl (cax, 8192, .inl gax))] sz)) (va_A [(h0, .inr (7, [.ref aw, .ref ac, .int h0_at, .int h0_limit, .int h0_sound, .int h0_codeCount, .ref ob, .int h0_openCount])), (aw, .inr (10, [.ref ab, .ref ac, .int aw_typeCount, .ref wat, .ref wap, .ref wag, .int aw_functionCount, .ref waf, .int aw_hasMemory, .long aw_pagesLeast, .long aw_pagesMost, .int aw_globalCount, .ref wgt, .ref wft, .ref wfv, .ref wgc, .int aw_exportCount, .ref wek, .ref wei, .ref wes, .ref wez])), (ab, .inr (1, [.ref ax, .int ab_length])), (ax, .inl (cax, 8192, .inl gax))] sz)) 0 0 (va_A [(h0, .inr (7, [.ref aw, .ref ac, .int h0_at, .int h0_limit, .int h0_sound, .int h0_codeCount, .ref ob, .int h0_openCount])), (aw, .inr (10, [.ref ab, .ref ac, .int aw_typeCount, .ref wat, .ref wap, .ref wag, .int aw_functionCount, .ref waf, .int aw_hasMemory, .long aw_pagesLeast, .long aw_pagesMost, .int aw_globalCount, .ref wgt, .ref wft, .ref wfv, .ref wgc, .int aw_exportCount, .ref wek, .ref wei, .ref wes, .ref wez])), (ab, .inr (1, [.ref ax, .int ab_length])), (ax, .inl (cax, 8192, .inl gax))] sz) := by
  refine Met.ofW (cc := b_RE_readSigned) (maxL := 8) (ret := (Option.some .long)) (by decide) rfl ?_
  intro p e s m args below meth c s₁ B hml hv
  obtain ⟨rfl, hsz, hP, hK, hD0⟩ := hv
  have hx := B.exec
  have hb := B.bytes
  have hr := B.returns
  have hts0 := atoms_spec (ws := w_RE_readSigned) B.pre
  have hts : ∀ w ∈ lw_g, w.before _ s = true := fun w h => hts0 w (List.mem_cons_of_mem _ h)
  have hown : s.vm.findClass R_RE = some m.cls := findClass_of_methodNamed B.named
  have hlocks := B.notSynchronized
  clear hts0
  subst hsz
  have hD := hD0.self (sz := s.heap.size)
  generalize hAe : va_A [(h0, .inr (7, [.ref aw, .ref ac, .int h0_at, .int h0_limit, .int h0_sound, .int h0_codeCount, .ref ob, .int h0_openCount])), (aw, .inr (10, [.ref ab, .ref ac, .int aw_typeCount, .ref wat, .ref wap, .ref wag, .int aw_functionCount, .ref waf, .int aw_hasMemory, .long aw_pagesLeast, .long aw_pagesMost, .int aw_globalCount, .ref wgt, .ref wft, .ref wfv, .ref wgc, .int aw_exportCount, .ref wek, .ref wei, .ref wes, .ref wez])), (ab, .inr (1, [.ref ax, .int ab_length])), (ax, .inl (cax, 8192, .inl gax))] s.heap.size = A at hD ⊢
  have hA : ∀ q : Nat, s.heap.size ≤ q → A q := fun q h => by rw [← hAe]; exact Or.inr h
  clear hAe
  have hP : va_P (dC, dI) cls [(h0, .inr (7, [.ref aw, .ref ac, .int h0_at, .int h0_limit, .int h0_sound, .int h0_codeCount, .ref ob, .int h0_openCount])), (aw, .inr (10, [.ref ab, .ref ac, .int aw_typeCount, .ref wat, .ref wap, .ref wag, .int aw_functionCount, .ref waf, .int aw_hasMemory, .long aw_pagesLeast, .long aw_pagesMost, .int aw_globalCount, .ref wgt, .ref wft, .ref wfv, .ref wgc, .int aw_exportCount, .ref wek, .ref wei, .ref wes, .ref wez])), (ab, .inr (1, [.ref ax, .int ab_length])), (ax, .inl (cax, 8192, .inl gax))] s.heap := hP
  have hl := lv_entry ([.ref h0, .int p0]) (n := 8) (Nat.le_of_ble_eq_true rfl)
  rw [lg_entry_eq]
  generalize (lg_sl ([.ref h0, .int p0]) ++ List.replicate (8 - (lg_sl ([.ref h0, .int p0])).length) Slot.unset).toArray = ls at hl ⊢
  have hl : lv_has ls 8 [(0, .ref h0), (1, .int p0)] := hl
  have k0 : (0 : Int32).toInt = 0 := by decide
  refine w_gen (A := A) hP (fun H locs hP hS => ?_)
  have km1 : (-1 : Int32).toInt = -1 := by decide
  have k1 : (1 : Int32).toInt = 1 := by decide
  have k7 : (7 : Int32).toInt = 7 := by decide
  have k25 : (25 : Int32).toInt = 25 := by decide
  have k64 : (64 : Int32).toInt = 64 := by decide
  have k127 : (127 : Int32).toInt = 127 := by decide
  have k128 : (128 : Int32).toInt = 128 := by decide
  have lo_p0 := i32_lo p0
  have hi_p0 := i32_hi p0
  have th0_sound := b01 b_h0_sound
  refine lv_lconst (v := 0) hx hb d_RE_readSigned_0 (by decide) ?_
  have kl0 : (0 : Int64).toInt = 0 := by decide
  refine lv_lstore_n (lv' := [(2, .long 0), (0, .ref h0), (1, .int p0)]) hx hb d_RE_readSigned_1 rfl hl (by decide) rfl (fun ls hl => ?_)
  refine lv_iconst (v := 0) hx hb d_RE_readSigned_2 (by decide) ?_
  refine lv_istore (lv' := [(4, .int 0), (2, .long 0), (0, .ref h0), (1, .int p0)]) hx hb d_RE_readSigned_3 hl (by decide) rfl (fun ls hl => ?_)
  refine w_loop (σ := Int64 × Int32 × Int32) (fun u H locs ls => match u with | (j5_l2, j5_l4, j5_h0_at) => (0 ≤ j5_l4.toInt ∧ j5_l4.toInt < p0.toInt ∧ h0_at.toInt ≤ j5_h0_at.toInt) ∧ (bx (∃ (k n : Nat) (v : Int), sgI gax j5_h0_at.toNatClampNeg k n v ∧ j5_l4.toInt = 7 * (k : Int) ∧ p0.toInt = 7 * (k : Int) + n + 1 ∧ j5_h0_at.toInt + ((sleb (10 - k) v).length : Int) = h0_at.toInt + ((sleb 10 gv).length : Int))) ∧ va_P (dC, dI) cls [(h0, .inr (7, [.ref aw, .ref ac, .int j5_h0_at, .int h0_limit, .int h0_sound, .int h0_codeCount, .ref ob, .int h0_openCount])), (aw, .inr (10, [.ref ab, .ref ac, .int aw_typeCount, .ref wat, .ref wap, .ref wag, .int aw_functionCount, .ref waf, .int aw_hasMemory, .long aw_pagesLeast, .long aw_pagesMost, .int aw_globalCount, .ref wgt, .ref wft, .ref wfv, .ref wgc, .int aw_exportCount, .ref wek, .ref wei, .ref wes, .ref wez])), (ab, .inr (1, [.ref ax, .int ab_length])), (ax, .inl (cax, 8192, .inl gax))] H ∧ va_D A [(h0, .inr (7, [.ref aw, .ref ac, .int j5_h0_at, .int h0_limit, .int h0_sound, .int h0_codeCount, .ref ob, .int h0_openCount])), (aw, .inr (10, [.ref ab, .ref ac, .int aw_typeCount, .ref wat, .ref wap, .ref wag, .int aw_functionCount, .ref waf, .int aw_hasMemory, .long aw_pagesLeast, .long aw_pagesMost, .int aw_globalCount, .ref wgt, .ref wft, .ref wfv, .ref wgc, .int aw_exportCount, .ref wek, .ref wei, .ref wes, .ref wez])), (ab, .inr (1, [.ref ax, .int ab_length])), (ax, .inl (cax, 8192, .inl gax))] ∧ va_S A s.heap H locs ∧ lv_has ls 8 [(0, .ref h0), (1, .int p0), (2, .long j5_l2), (4, .int j5_l4)]) (fun u => match u with | (j5_l2, j5_l4, j5_h0_at) => (p0.toInt - j5_l4.toInt).toNat) ?_ (0, 0, h0_at) ⟨by (try dsimp only) <;> omega, (by rcases hv with ⟨a1, a2, a3⟩ | ⟨a1, a2, a3⟩; (exact ⟨0, 31, gv, ⟨hbq, by show -(2147483648 : Int) ≤ gv; omega, by show gv < 2147483648; omega, by omega⟩, by decide, by omega, rfl⟩); (exact ⟨0, 63, gv, ⟨hbq, by show -(9223372036854775808 : Int) ≤ gv; omega, by show gv < 9223372036854775808; omega, by omega⟩, by decide, by omega, rfl⟩)), hP, hD, hS, lv_sub hl [2, 3, 1, 0] rfl⟩
  intro N5 ih5 u H locs ls hN5 hI
  obtain ⟨j5_l2, j5_l4, j5_h0_at⟩ := u
  obtain ⟨v1, hSg, hP, hD, hS, hl⟩ := hI
  have hN5 : (p0.toInt - j5_l4.toInt).toNat < N5 + 1 := hN5
  refine lv_iload hx hb d_RE_readSigned_5 (lv_at hl 3 rfl) ?_
  refine lv_iload_n hx hb d_RE_readSigned_7 rfl (lv_at hl 1 rfl) ?_
  refine lv_icmp_ge (tgt := 135) hx hb d_RE_readSigned_8 (by decide) (fun c8 => absurd (leI c8) (by omega)) (fun c8 => ?_)
  have q8 := nleI c8
  obtain ⟨k9, n9, v9, s9, s1, s2, s3⟩ := hSg.out
  have l9 := (sleb_len (10 - k9) v9).1
  refine lv_aload_n hx hb d_RE_readSigned_11 rfl (lv_at hl 0 rfl) ?_
  have hPc := hP.sub (ws' := [(h0, .inr (7, [.ref aw, .ref ac, .int j5_h0_at, .int h0_limit, .int h0_sound, .int h0_codeCount, .ref ob, .int h0_openCount])), (aw, .inr (10, [.ref ab, .ref ac, .int aw_typeCount, .ref wat, .ref wap, .ref wag, .int aw_functionCount, .ref waf, .int aw_hasMemory, .long aw_pagesLeast, .long aw_pagesMost, .int aw_globalCount, .ref wgt, .ref wft, .ref wfv, .ref wgc, .int aw_exportCount, .ref wek, .ref wei, .ref wes, .ref wez])), (ab, .inr (1, [.ref ax, .int ab_length])), (ax, .inl (cax, 8192, .inl gax))]) [0, 1, 2, 3] rfl
  have hDc := hD.sub (ws' := [(h0, .inr (7, [.ref aw, .ref ac, .int j5_h0_at, .int h0_limit, .int h0_sound, .int h0_codeCount, .ref ob, .int h0_openCount])), (aw, .inr (10, [.ref ab, .ref ac, .int aw_typeCount, .ref wat, .ref wap, .ref wag, .int aw_functionCount, .ref waf, .int aw_hasMemory, .long aw_pagesLeast, .long aw_pagesMost, .int aw_globalCount, .ref wgt, .ref wft, .ref wfv, .ref wgc, .int aw_exportCount, .ref wek, .ref wei, .ref wes, .ref wez])), (ab, .inr (1, [.ref ax, .int ab_length])), (ax, .inl (cax, 8192, .inl gax))]) [0, 1, 2, 3] (by decide) rfl
  have hKc := hK.sub (tys' := [(cax, .byte)]) [0] rfl
  have hFc := va_free (wc := [(h0, .inr (7, [.ref aw, .ref ac, .int j5_h0_at, .int h0_limit, .int h0_sound, .int h0_codeCount, .ref ob, .int h0_openCount])), (aw, .inr (10, [.ref ab, .ref ac, .int aw_typeCount, .ref wat, .ref wap, .ref wag, .int aw_functionCount, .ref waf, .int aw_hasMemory, .long aw_pagesLeast, .long aw_pagesMost, .int aw_globalCount, .ref wgt, .ref wft, .ref wfv, .ref wgc, .int aw_exportCount, .ref wek, .ref wei, .ref wes, .ref wez])), (ab, .inr (1, [.ref ax, .int ab_length])), (ax, .inl (cax, 8192, .inl gax))]) hD hS hA [0, 1, 2, 3] rfl
  refine va_calli (va_runV (As := []) (rest := []) ⟨hx, hb, hml, hown, hts⟩ (c_RE_nextx l dC dI H.size h0 aw ac ob ab wat wap wag waf wgt wft wfv wgc wek wei wes wez ax cax j5_h0_at h0_limit h0_sound h0_codeCount h0_openCount aw_typeCount aw_functionCount aw_hasMemory aw_pagesLeast aw_pagesMost aw_globalCount aw_exportCount ab_length gax (b_h0_sound) (hs) (by omega) (by omega)) (cwV 0 hts (gV kM_RE_60 kV_RE_next kS_RE_next kI_RE kC_RE_next) rfl rfl rfl (by decide +kernel) ⟨Nat.le_of_ble_eq_true rfl, Nat.le_of_ble_eq_true rfl⟩) ⟨fun a U g mk z => by obtain ⟨z0, z1, zP, zK, zD⟩ := z; exact ⟨z0, z1, zP, va_K.moved (u := U) (U := U.calling g mk a) (Vm.Alike.refl U.vm) zK, zD⟩, va_recv hKc hPc (ci := 7) (q0 := 0) rfl rfl, fun U hU hW => ⟨rfl, by rw [hU], by rw [hU]; exact hPc, va_K.moved hW.alike hKc, hDc.weaken (fun _ _ _ _ => trivial)⟩⟩ rfl rfl hl.1 rfl (lv_room (Nat.le_of_ble_eq_true rfl)) d_RE_readSigned_12 ⟨(Nat.zero_le _), (Nat.zero_le _)⟩) hS (fun q _ h => hFc q h) hFc (fun r1 u t H1 locs ht hvm hw hB hz1 hk1 hS => ?_)
  obtain ⟨n2, rfl⟩ : ∃ z, z = u := ⟨_, rfl⟩
  try dsimp only at hw
  have xr1 := hw
  try clear hw
  have z12 := i32_clamp (x := j5_h0_at) (by omega)
  have b12 : (∃ v : Int, -64 ≤ v ∧ v ≤ 63 ∧ r1.toInt = v % 128 ∧ j5_h0_at.toInt + 1 = h0_at.toInt + ((sleb 10 gv).length : Int) ∧ (p0.toInt - j5_l4.toInt ≤ 7 → -(2 ^ (p0.toInt - j5_l4.toInt - 1).toNat : Int) ≤ v ∧ v < 2 ^ (p0.toInt - j5_l4.toInt - 1).toNat)) ∨ (128 ≤ r1.toInt ∧ ∃ (k n : Nat) (v : Int), sgI gax (j5_h0_at.toNatClampNeg + 1) k n v ∧ j5_l4.toInt + 7 = 7 * (k : Int) ∧ p0.toInt = 7 * (k : Int) + n + 1 ∧ j5_h0_at.toInt + 1 + ((sleb (10 - k) v).length : Int) = h0_at.toInt + ((sleb 10 gv).length : Int)) := by
    have x9 := xr1.2
    by_cases q : v9 < -64 ∨ 63 < v9
    · obtain ⟨w1, w2, w3, w4⟩ := sg_go s9 (by omega) q
      rw [w2] at x9
      exact Or.inr ⟨by omega, k9 + 1, n9 - 7, v9 / 128, w3, by omega, by omega, by omega⟩
    · obtain ⟨w1, w2⟩ := sg_end s9 q
      rw [w1] at x9
      refine Or.inl ⟨v9, by omega, by omega, by omega, by omega, fun _ => ?_⟩
      rw [show (p0.toInt - j5_l4.toInt - 1).toNat = n9 from by omega]
      exact ⟨s9.2.1, s9.2.2.1⟩
  replace b12 : bx _ := b12
  have c12 : r1.toInt < 128 ∨ 128 ≤ r1.toInt := by omega
  obtain ⟨hP1, hK1, hD1⟩ := hB
  rw [ht] at hP1
  obtain ⟨hP, hD⟩ := va_join (wr := []) (w1 := [(h0, .inr (7, [.ref aw, .ref ac, .int n2, .int h0_limit, .int h0_sound, .int h0_codeCount, .ref ob, .int h0_openCount])), (aw, .inr (10, [.ref ab, .ref ac, .int aw_typeCount, .ref wat, .ref wap, .ref wag, .int aw_functionCount, .ref waf, .int aw_hasMemory, .long aw_pagesLeast, .long aw_pagesMost, .int aw_globalCount, .ref wgt, .ref wft, .ref wfv, .ref wgc, .int aw_exportCount, .ref wek, .ref wei, .ref wes, .ref wez])), (ab, .inr (1, [.ref ax, .int ab_length])), (ax, .inl (cax, 8192, .inl gax))]) hP hD [0, 1, 2, 3] [] rfl rfl (by decide) (by decide) hk1 hFc hP1 hD1
  clear hPc hDc hKc hFc hz1 hk1 hP1 hK1 hD1
  generalize H1 = H at hP hS ⊢
  have hP : va_P (dC, dI) cls [(h0, .inr (7, [.ref aw, .ref ac, .int n2, .int h0_limit, .int h0_sound, .int h0_codeCount, .ref ob, .int h0_openCount])), (aw, .inr (10, [.ref ab, .ref ac, .int aw_typeCount, .ref wat, .ref wap, .ref wag, .int aw_functionCount, .ref waf, .int aw_hasMemory, .long aw_pagesLeast, .long aw_pagesMost, .int aw_globalCount, .ref wgt, .ref wft, .ref wfv, .ref wgc, .int aw_exportCount, .ref wek, .ref wei, .ref wes, .ref wez])), (ab, .inr (1, [.ref ax, .int ab_length])), (ax, .inl (cax, 8192, .inl gax))] H := hP
  have hD : va_D A [(h0, .inr (7, [.ref aw, .ref ac, .int n2, .int h0_limit, .int h0_sound, .int h0_codeCount, .ref ob, .int h0_openCount])), (aw, .inr (10, [.ref ab, .ref ac, .int aw_typeCount, .ref wat, .ref wap, .ref wag, .int aw_functionCount, .ref waf, .int aw_hasMemory, .long aw_pagesLeast, .long aw_pagesMost, .int aw_globalCount, .ref wgt, .ref wft, .ref wfv, .ref wgc, .int aw_exportCount, .ref wek, .ref wei, .ref wes, .ref wez])), (ab, .inr (1, [.ref ax, .int ab_length])), (ax, .inl (cax, 8192, .inl gax))] := hD
  refine lv_istore (lv' := [(5, .int r1), (0, .ref h0), (1, .int p0), (2, .long j5_l2), (4, .int j5_l4)]) hx hb d_RE_readSigned_15 hl (by decide) rfl (fun ls hl => ?_)
  refine lv_lload_n hx hb d_RE_readSigned_17 rfl (lv_at hl 3 rfl) ?_
  refine lv_iload hx hb d_RE_readSigned_18 (lv_at hl 0 rfl) ?_
  refine lv_bipush (v := 127) hx hb d_RE_readSigned_20 (by decide) ?_
  refine lv_iand hx hb d_RE_readSigned_22 ?_
  refine lv_topi (fun x3 ex3 => ?_)
  refine lv_i2l hx hb d_RE_readSigned_23 rfl ?_
  refine lv_topl (fun x4 ex4 => ?_)
  have tx4 := i2l_t ex4
  refine lv_iload hx hb d_RE_readSigned_24 (lv_at hl 4 rfl) ?_
  refine lv_lshl hx hb d_RE_readSigned_26 rfl ?_
  refine lv_topl (fun x5 ex5 => ?_)
  refine lv_lor hx hb d_RE_readSigned_27 ?_
  refine lv_topl (fun x6 ex6 => ?_)
  refine lv_lstore_n (lv' := [(2, .long x6), (5, .int r1), (0, .ref h0), (1, .int p0), (4, .int j5_l4)]) hx hb d_RE_readSigned_28 rfl hl (by decide) rfl (fun ls hl => ?_)
  refine lv_iload hx hb d_RE_readSigned_29 (lv_at hl 1 rfl) ?_
  refine lv_sipush (v := 128) hx hb d_RE_readSigned_31 (by decide) ?_
  refine lv_icmp_ge (tgt := 129) hx hb d_RE_readSigned_34 (by decide) (fun c34 => ?_) (fun c34 => ?_)
  · have q34 := leI c34
    obtain ⟨x7, ex7⟩ : ∃ z : Int32, z = j5_l4 + 7 := ⟨_, rfl⟩
    have tx7 : x7.toInt = j5_l4.toInt + 7 := by have z := i32_add ex7 (by omega) (by omega); omega
    refine lv_iinc (v := x7) (lv' := [(4, .int x7), (2, .long x6), (5, .int r1), (0, .ref h0), (1, .int p0)]) hx hb d_RE_readSigned_129 hl (k := 4) rfl (by rw [ex7]; rfl) (by decide) rfl (fun ls hl => ?_)
    refine lv_goto (tgt := 5) hx hb d_RE_readSigned_132 (by decide) ?_
    have q9 : ∃ (k n : Nat) (v : Int), sgI gax (j5_h0_at.toNatClampNeg + 1) k n v ∧ j5_l4.toInt + 7 = 7 * (k : Int) ∧ p0.toInt = 7 * (k : Int) + n + 1 ∧ j5_h0_at.toInt + 1 + ((sleb (10 - k) v).length : Int) = h0_at.toInt + ((sleb 10 gv).length : Int) := by rcases b12.out with w | w; (exfalso; obtain ⟨v8, y1, y2, y3, -⟩ := w; clear b12 hSg; omega); exact w.2
    obtain ⟨k8, n8, v8, u1, u2, u3, u4⟩ := q9
    exact ih5 (x6, x7, n2) _ _ _ (by show (p0.toInt - x7.toInt).toNat < N5; omega) ⟨by have := xr1.1; have := u1.2.2.2; (try dsimp only) <;> omega, ⟨k8, n8, v8, (by rw [show n2.toNatClampNeg = j5_h0_at.toNatClampNeg + 1 from clampN (by have := xr1.1; omega)]; exact u1), by omega, by omega, by have := xr1.1; omega⟩, hP, hD, hS, lv_sub hl [3, 4, 1, 0] rfl⟩
  · have q34 := nleI c34
    obtain ⟨v8, y1, y2, y3, y4, y9⟩ : ∃ v : Int, -64 ≤ v ∧ v ≤ 63 ∧ r1.toInt = v % 128 ∧ j5_h0_at.toInt + 1 = h0_at.toInt + ((sleb 10 gv).length : Int) ∧ (p0.toInt - j5_l4.toInt ≤ 7 → -(2 ^ (p0.toInt - j5_l4.toInt - 1).toNat : Int) ≤ v ∧ v < 2 ^ (p0.toInt - j5_l4.toInt - 1).toNat) := by rcases b12.out with w | w; exact w; (exfalso; have w1 := w.1; clear w b12; omega)
    replace y9 : bx _ := y9
    refine lv_iload hx hb d_RE_readSigned_37 (lv_at hl 1 rfl) ?_
    refine lv_bipush (v := 25) hx hb d_RE_readSigned_39 (by decide) ?_
    refine lv_ishl hx hb d_RE_readSigned_41 ?_
    refine lv_topi (fun x8 ex8 => ?_)
    refine lv_bipush (v := 25) hx hb d_RE_readSigned_42 (by decide) ?_
    refine lv_ishr hx hb d_RE_readSigned_44 ?_
    refine lv_topi (fun x9 ex9 => ?_)
    have t45 : x9.toInt = v8 := sp_t ex8 ex9 y3 y1 y2
    refine lv_istore (lv' := [(6, .int x9), (2, .long x6), (5, .int r1), (0, .ref h0), (1, .int p0), (4, .int j5_l4)]) hx hb d_RE_readSigned_45 hl (by decide) rfl (fun ls hl => ?_)
    refine lv_iload_n hx hb d_RE_readSigned_47 rfl (lv_at hl 4 rfl) ?_
    refine lv_iload hx hb d_RE_readSigned_48 (lv_at hl 5 rfl) ?_
    refine lv_isub hx hb d_RE_readSigned_50 ?_
    refine lv_topi (fun x10 ex10 => ?_)
    have tx10 : x10.toInt = p0.toInt - j5_l4.toInt := by have z := i32_sub ex10 (by omega) (by omega); omega
    refine lv_bipush (v := 7) hx hb d_RE_readSigned_51 (by decide) ?_
    refine w_cut (pc2 := 69) (σ := Int32) (fun u H locs ls => match u with | j69_s0 => (j69_s0.toInt = 0 ∨ j69_s0.toInt = -1) ∧ va_P (dC, dI) cls [(h0, .inr (7, [.ref aw, .ref ac, .int n2, .int h0_limit, .int h0_sound, .int h0_codeCount, .ref ob, .int h0_openCount])), (aw, .inr (10, [.ref ab, .ref ac, .int aw_typeCount, .ref wat, .ref wap, .ref wag, .int aw_functionCount, .ref waf, .int aw_hasMemory, .long aw_pagesLeast, .long aw_pagesMost, .int aw_globalCount, .ref wgt, .ref wft, .ref wfv, .ref wgc, .int aw_exportCount, .ref wek, .ref wei, .ref wes, .ref wez])), (ab, .inr (1, [.ref ax, .int ab_length])), (ax, .inl (cax, 8192, .inl gax))] H ∧ va_D A [(h0, .inr (7, [.ref aw, .ref ac, .int n2, .int h0_limit, .int h0_sound, .int h0_codeCount, .ref ob, .int h0_openCount])), (aw, .inr (10, [.ref ab, .ref ac, .int aw_typeCount, .ref wat, .ref wap, .ref wag, .int aw_functionCount, .ref waf, .int aw_hasMemory, .long aw_pagesLeast, .long aw_pagesMost, .int aw_globalCount, .ref wgt, .ref wft, .ref wfv, .ref wgc, .int aw_exportCount, .ref wek, .ref wei, .ref wes, .ref wez])), (ab, .inr (1, [.ref ax, .int ab_length])), (ax, .inl (cax, 8192, .inl gax))] ∧ va_S A s.heap H locs ∧ lv_has ls 8 [(0, .ref h0), (2, .long x6), (4, .int j5_l4), (6, .int x9)]) (fun u => match u with | j69_s0 => [.int j69_s0]) ?_ (fun jn69 => ?_)
    · intro u H locs ls hI
      obtain ⟨j69_s0, rfl⟩ : ∃ z, z = u := ⟨_, rfl⟩
      obtain ⟨y69, hP, hD, hS, hl⟩ := hI
      refine lv_istore (lv' := [(7, .int j69_s0), (0, .ref h0), (2, .long x6), (4, .int j5_l4), (6, .int x9)]) hx hb d_RE_readSigned_69 hl (by decide) rfl (fun ls hl => ?_)
      refine lv_aload_n hx hb d_RE_readSigned_71 rfl (lv_at hl 1 rfl) ?_
      refine lv_aload_n hx hb d_RE_readSigned_72 rfl (lv_at hl 1 rfl) ?_
      refine va_get (D := (dC, dI)) (ci := 7) (v := .int h0_sound) (C := R_RE) (T := F_RE) (N := 8) hx hb hts i_RE hown hK hP 0 rfl rfl 4 (by decide) (hts _ kF_RE_45) (fun _ h9 => h9) rfl d_RE_readSigned_73 ?_
      refine lv_if_eq (tgt := 94) hx hb d_RE_readSigned_76 (by decide) (fun c76 => absurd (eqI c76) (by omega)) (fun c76 => ?_)
      have q76 := neI c76
      refine lv_iload hx hb d_RE_readSigned_79 (lv_at hl 0 rfl) ?_
      refine w_cut (pc2 := 90) (σ := Unit) (fun u H locs ls => match u with | _ => va_P (dC, dI) cls [(h0, .inr (7, [.ref aw, .ref ac, .int n2, .int h0_limit, .int h0_sound, .int h0_codeCount, .ref ob, .int h0_openCount])), (aw, .inr (10, [.ref ab, .ref ac, .int aw_typeCount, .ref wat, .ref wap, .ref wag, .int aw_functionCount, .ref waf, .int aw_hasMemory, .long aw_pagesLeast, .long aw_pagesMost, .int aw_globalCount, .ref wgt, .ref wft, .ref wfv, .ref wgc, .int aw_exportCount, .ref wek, .ref wei, .ref wes, .ref wez])), (ab, .inr (1, [.ref ax, .int ab_length])), (ax, .inl (cax, 8192, .inl gax))] H ∧ va_D A [(h0, .inr (7, [.ref aw, .ref ac, .int n2, .int h0_limit, .int h0_sound, .int h0_codeCount, .ref ob, .int h0_openCount])), (aw, .inr (10, [.ref ab, .ref ac, .int aw_typeCount, .ref wat, .ref wap, .ref wag, .int aw_functionCount, .ref waf, .int aw_hasMemory, .long aw_pagesLeast, .long aw_pagesMost, .int aw_globalCount, .ref wgt, .ref wft, .ref wfv, .ref wgc, .int aw_exportCount, .ref wek, .ref wei, .ref wes, .ref wez])), (ab, .inr (1, [.ref ax, .int ab_length])), (ax, .inl (cax, 8192, .inl gax))] ∧ va_S A s.heap H locs ∧ lv_has ls 8 [(2, .long x6), (4, .int j5_l4), (6, .int x9)]) (fun u => match u with | _ => [.ref h0]) ?_ (fun jn90 => ?_)
      · intro u H locs ls hI
        obtain ⟨hP, hD, hS, hl⟩ := hI
        refine lv_iconst (v := 1) hx hb d_RE_readSigned_90 (by decide) ?_
        refine lv_goto (tgt := 95) hx hb d_RE_readSigned_91 (by decide) ?_
        refine va_put (D := (dC, dI)) (ci := 7) (v := .int 1) (ty := .boolean) (C := R_RE) (T := F_RE) (N := 8) hx hb hts i_RE t_RE t_RE_ok n_RE hown hK hP hD hS 0 rfl rfl 4 (by decide) (hts _ kF_RE_45) (fun _ h9 => h9) rfl (by decide +kernel) rfl rfl (Nat.le_of_ble_eq_true rfl) d_RE_readSigned_95 (fun H locs hP hD hS => ?_)
        refine lv_iload hx hb d_RE_readSigned_98 (lv_at hl 1 rfl) ?_
        refine lv_bipush (v := 7) hx hb d_RE_readSigned_100 (by decide) ?_
        refine lv_iadd hx hb d_RE_readSigned_102 ?_
        refine lv_topi (fun x11 ex11 => ?_)
        have tx11 : x11.toInt = j5_l4.toInt + 7 := by have z := i32_add ex11 (by omega) (by omega); omega
        refine lv_bipush (v := 64) hx hb d_RE_readSigned_103 (by decide) ?_
        refine lv_icmp_ge (tgt := 127) hx hb d_RE_readSigned_105 (by decide) (fun c105 => ?_) (fun c105 => ?_)
        · have q105 := leI c105
          refine lv_lload_n hx hb d_RE_readSigned_127 rfl (lv_at hl 0 rfl) ?_
          have hP9 := hP.sub (ws' := [(h0, .inr (7, [.ref aw, .ref ac, .int n2, .int h0_limit, .int 1, .int h0_codeCount, .ref ob, .int h0_openCount])), (aw, .inr (10, [.ref ab, .ref ac, .int aw_typeCount, .ref wat, .ref wap, .ref wag, .int aw_functionCount, .ref waf, .int aw_hasMemory, .long aw_pagesLeast, .long aw_pagesMost, .int aw_globalCount, .ref wgt, .ref wft, .ref wfv, .ref wgc, .int aw_exportCount, .ref wek, .ref wei, .ref wes, .ref wez])), (ab, .inr (1, [.ref ax, .int ab_length])), (ax, .inl (cax, 8192, .inl gax))]) [0, 1, 2, 3] rfl
          have hD9 := hD.sub (ws' := [(h0, .inr (7, [.ref aw, .ref ac, .int n2, .int h0_limit, .int 1, .int h0_codeCount, .ref ob, .int h0_openCount])), (aw, .inr (10, [.ref ab, .ref ac, .int aw_typeCount, .ref wat, .ref wap, .ref wag, .int aw_functionCount, .ref waf, .int aw_hasMemory, .long aw_pagesLeast, .long aw_pagesMost, .int aw_globalCount, .ref wgt, .ref wft, .ref wfv, .ref wgc, .int aw_exportCount, .ref wek, .ref wei, .ref wes, .ref wez])), (ab, .inr (1, [.ref ax, .int ab_length])), (ax, .inl (cax, 8192, .inl gax))]) [0, 1, 2, 3] (by decide) rfl
          exact W.lret (v := x6) hx hb hr (fun t ht hW => ⟨⟨x6, (n2, 1), rfl, ⟨Or.inr rfl, ⟨by have := xr1.1; (try dsimp only) <;> omega, by (try dsimp only) <;> omega⟩⟩, by rw [ht]; exact hP9, va_K.moved hW.alike hK, hD9⟩, hS.F ht⟩) hS.2.2 d_RE_readSigned_128
        · have q105 := nleI c105
          refine lv_iload hx hb d_RE_readSigned_108 (lv_at hl 2 rfl) ?_
          refine lv_if_ge (tgt := 127) hx hb d_RE_readSigned_110 (by decide) (fun c110 => ?_) (fun c110 => ?_)
          · have q110 := leI c110
            refine lv_lload_n hx hb d_RE_readSigned_127 rfl (lv_at hl 0 rfl) ?_
            have hP9 := hP.sub (ws' := [(h0, .inr (7, [.ref aw, .ref ac, .int n2, .int h0_limit, .int 1, .int h0_codeCount, .ref ob, .int h0_openCount])), (aw, .inr (10, [.ref ab, .ref ac, .int aw_typeCount, .ref wat, .ref wap, .ref wag, .int aw_functionCount, .ref waf, .int aw_hasMemory, .long aw_pagesLeast, .long aw_pagesMost, .int aw_globalCount, .ref wgt, .ref wft, .ref wfv, .ref wgc, .int aw_exportCount, .ref wek, .ref wei, .ref wes, .ref wez])), (ab, .inr (1, [.ref ax, .int ab_length])), (ax, .inl (cax, 8192, .inl gax))]) [0, 1, 2, 3] rfl
            have hD9 := hD.sub (ws' := [(h0, .inr (7, [.ref aw, .ref ac, .int n2, .int h0_limit, .int 1, .int h0_codeCount, .ref ob, .int h0_openCount])), (aw, .inr (10, [.ref ab, .ref ac, .int aw_typeCount, .ref wat, .ref wap, .ref wag, .int aw_functionCount, .ref waf, .int aw_hasMemory, .long aw_pagesLeast, .long aw_pagesMost, .int aw_globalCount, .ref wgt, .ref wft, .ref wfv, .ref wgc, .int aw_exportCount, .ref wek, .ref wei, .ref wes, .ref wez])), (ab, .inr (1, [.ref ax, .int ab_length])), (ax, .inl (cax, 8192, .inl gax))]) [0, 1, 2, 3] (by decide) rfl
            exact W.lret (v := x6) hx hb hr (fun t ht hW => ⟨⟨x6, (n2, 1), rfl, ⟨Or.inr rfl, ⟨by have := xr1.1; (try dsimp only) <;> omega, by (try dsimp only) <;> omega⟩⟩, by rw [ht]; exact hP9, va_K.moved hW.alike hK, hD9⟩, hS.F ht⟩) hS.2.2 d_RE_readSigned_128
          · have q110 := nleI c110
            refine lv_lload_n hx hb d_RE_readSigned_113 rfl (lv_at hl 0 rfl) ?_
            refine lv_ldc2 hx hb hown (hts _ kL_RE_127) d_RE_readSigned_114 ?_
            refine lv_topl (fun x12 ex12 => ?_)
            have tx12 : x12.toInt = -1 := by rw [ex12]; decide
            refine lv_iload hx hb d_RE_readSigned_117 (lv_at hl 1 rfl) ?_
            refine lv_bipush (v := 7) hx hb d_RE_readSigned_119 (by decide) ?_
            refine lv_iadd hx hb d_RE_readSigned_121 ?_
            refine lv_topi (fun x13 ex13 => ?_)
            have tx13 : x13.toInt = j5_l4.toInt + 7 := by have z := i32_add ex13 (by omega) (by omega); omega
            refine lv_lshl hx hb d_RE_readSigned_122 rfl ?_
            refine lv_topl (fun x14 ex14 => ?_)
            refine lv_lor hx hb d_RE_readSigned_123 ?_
            refine lv_topl (fun x15 ex15 => ?_)
            refine lv_goto (tgt := 128) hx hb d_RE_readSigned_124 (by decide) ?_
            have hP9 := hP.sub (ws' := [(h0, .inr (7, [.ref aw, .ref ac, .int n2, .int h0_limit, .int 1, .int h0_codeCount, .ref ob, .int h0_openCount])), (aw, .inr (10, [.ref ab, .ref ac, .int aw_typeCount, .ref wat, .ref wap, .ref wag, .int aw_functionCount, .ref waf, .int aw_hasMemory, .long aw_pagesLeast, .long aw_pagesMost, .int aw_globalCount, .ref wgt, .ref wft, .ref wfv, .ref wgc, .int aw_exportCount, .ref wek, .ref wei, .ref wes, .ref wez])), (ab, .inr (1, [.ref ax, .int ab_length])), (ax, .inl (cax, 8192, .inl gax))]) [0, 1, 2, 3] rfl
            have hD9 := hD.sub (ws' := [(h0, .inr (7, [.ref aw, .ref ac, .int n2, .int h0_limit, .int 1, .int h0_codeCount, .ref ob, .int h0_openCount])), (aw, .inr (10, [.ref ab, .ref ac, .int aw_typeCount, .ref wat, .ref wap, .ref wag, .int aw_functionCount, .ref waf, .int aw_hasMemory, .long aw_pagesLeast, .long aw_pagesMost, .int aw_globalCount, .ref wgt, .ref wft, .ref wfv, .ref wgc, .int aw_exportCount, .ref wek, .ref wei, .ref wes, .ref wez])), (ab, .inr (1, [.ref ax, .int ab_length])), (ax, .inl (cax, 8192, .inl gax))]) [0, 1, 2, 3] (by decide) rfl
            exact W.lret (v := x15) hx hb hr (fun t ht hW => ⟨⟨x15, (n2, 1), rfl, ⟨Or.inr rfl, ⟨by have := xr1.1; (try dsimp only) <;> omega, by (try dsimp only) <;> omega⟩⟩, by rw [ht]; exact hP9, va_K.moved hW.alike hK, hD9⟩, hS.F ht⟩) hS.2.2 d_RE_readSigned_128
      · skip
        refine lv_if_eq (tgt := 90) hx hb d_RE_readSigned_81 (by decide) (fun c81 => ?_) (fun c81 => ?_)
        · have q81 := eqI c81
          exact jn90 () _ _ _ ⟨hP, hD, hS, lv_sub hl [2, 3, 4] rfl⟩
        · have q81 := neI c81
          refine lv_iload hx hb d_RE_readSigned_84 (lv_at hl 0 rfl) ?_
          refine lv_iconst (v := (-1)) hx hb d_RE_readSigned_86 (by decide) ?_
          refine lv_icmp_ne (tgt := 94) hx hb d_RE_readSigned_87 (by decide) (fun c87 => absurd (neI c87) (by omega)) (fun c87 => ?_)
          have q87 := eqI c87
          exact jn90 () _ _ _ ⟨hP, hD, hS, lv_sub hl [2, 3, 4] rfl⟩
    · skip
      refine lv_icmp_le (tgt := 60) hx hb d_RE_readSigned_53 (by decide) (fun c53 => ?_) (fun c53 => ?_)
      · have q53 := leI c53
        refine lv_iload hx hb d_RE_readSigned_60 (lv_at hl 0 rfl) ?_
        refine lv_iload_n hx hb d_RE_readSigned_62 rfl (lv_at hl 4 rfl) ?_
        refine lv_iload hx hb d_RE_readSigned_63 (lv_at hl 5 rfl) ?_
        refine lv_isub hx hb d_RE_readSigned_65 ?_
        refine lv_topi (fun x16 ex16 => ?_)
        have tx16 : x16.toInt = p0.toInt - j5_l4.toInt := by have z := i32_sub ex16 (by omega) (by omega); omega
        refine lv_iconst (v := 1) hx hb d_RE_readSigned_66 (by decide) ?_
        refine lv_isub hx hb d_RE_readSigned_67 ?_
        refine lv_topi (fun x17 ex17 => ?_)
        have tx17 : x17.toInt = x16.toInt - 1 := by have z := i32_sub ex17 (by omega) (by omega); omega
        refine lv_ishr hx hb d_RE_readSigned_68 ?_
        refine lv_topi (fun x18 ex18 => ?_)
        exact jn69 x18 _ _ _ ⟨(ab_t (n := (p0.toInt - j5_l4.toInt - 1).toNat) ex18 (by omega) (by omega) (by rw [t45]; exact (y9.out (by omega)).1) (by rw [t45]; exact (y9.out (by omega)).2) (by omega) (by omega)), hP, hD, hS, lv_sub hl [3, 1, 5, 0] rfl⟩
      · have q53 := nleI c53
        refine lv_iconst (v := 0) hx hb d_RE_readSigned_56 (by decide) ?_
        refine lv_goto (tgt := 69) hx hb d_RE_readSigned_57 (by decide) ?_
        exact jn69 0 _ _ _ ⟨Or.inl (by decide), hP, hD, hS, lv_sub hl [3, 1, 5, 0] rfl⟩

/-! Names; texts against a row of bytes -/
theorem br_get_lt {f : Nat → Int32} {len i r : Int32} (h : r = br_get f len i) (h0 : 0 ≤ r.toInt) : 0 ≤ i.toInt ∧ i.toInt < len.toInt := by
  unfold br_get at h
  split at h
  · assumption
  · rw [h] at h0
    exact absurd h0 (by decide)
abbrev b_NA_add : ByteArray := prog_7_method_2_code
def y_NA_add : MethodName := ⟨R_NA, "add", "(IIIJ)V"⟩
abbrev w_NA_add : List Cond := .code y_NA_add b_NA_add 6 none :: lw_g
theorem kC_NA_add : Cond.code y_NA_add b_NA_add 6 none ∈ lw_g := in_g 947 (by decide +kernel) rfl
theorem d_NA_add_0 : decode b_NA_add 0 = .ok (.aload_n 0, 1) := by decide +kernel
theorem d_NA_add_1 : decode b_NA_add 1 = .ok (.getfield 27, 3) := by decide +kernel
theorem d_NA_add_4 : decode b_NA_add 4 = .ok (.aload_n 0, 1) := by decide +kernel
theorem d_NA_add_5 : decode b_NA_add 5 = .ok (.getfield 13, 3) := by decide +kernel
theorem d_NA_add_8 : decode b_NA_add 8 = .ok (.arraylength, 1) := by decide +kernel
theorem d_NA_add_9 : decode b_NA_add 9 = .ok (.if_icmp .ge 54, 3) := by decide +kernel
theorem d_NA_add_12 : decode b_NA_add 12 = .ok (.aload_n 0, 1) := by decide +kernel
theorem d_NA_add_13 : decode b_NA_add 13 = .ok (.getfield 13, 3) := by decide +kernel
theorem d_NA_add_16 : decode b_NA_add 16 = .ok (.aload_n 0, 1) := by decide +kernel
theorem d_NA_add_17 : decode b_NA_add 17 = .ok (.getfield 27, 3) := by decide +kernel
theorem d_NA_add_20 : decode b_NA_add 20 = .ok (.iload_n 1, 1) := by decide +kernel
theorem d_NA_add_21 : decode b_NA_add 21 = .ok (.iastore, 1) := by decide +kernel
theorem d_NA_add_22 : decode b_NA_add 22 = .ok (.aload_n 0, 1) := by decide +kernel
theorem d_NA_add_23 : decode b_NA_add 23 = .ok (.getfield 17, 3) := by decide +kernel
theorem d_NA_add_26 : decode b_NA_add 26 = .ok (.aload_n 0, 1) := by decide +kernel
theorem d_NA_add_27 : decode b_NA_add 27 = .ok (.getfield 27, 3) := by decide +kernel
theorem d_NA_add_30 : decode b_NA_add 30 = .ok (.iload_n 2, 1) := by decide +kernel
theorem d_NA_add_31 : decode b_NA_add 31 = .ok (.iastore, 1) := by decide +kernel
theorem d_NA_add_32 : decode b_NA_add 32 = .ok (.aload_n 0, 1) := by decide +kernel
theorem d_NA_add_33 : decode b_NA_add 33 = .ok (.getfield 20, 3) := by decide +kernel
theorem d_NA_add_36 : decode b_NA_add 36 = .ok (.aload_n 0, 1) := by decide +kernel
theorem d_NA_add_37 : decode b_NA_add 37 = .ok (.getfield 27, 3) := by decide +kernel
theorem d_NA_add_40 : decode b_NA_add 40 = .ok (.iload_n 3, 1) := by decide +kernel
theorem d_NA_add_41 : decode b_NA_add 41 = .ok (.iastore, 1) := by decide +kernel
theorem d_NA_add_42 : decode b_NA_add 42 = .ok (.aload_n 0, 1) := by decide +kernel
theorem d_NA_add_43 : decode b_NA_add 43 = .ok (.getfield 23, 3) := by decide +kernel
theorem d_NA_add_46 : decode b_NA_add 46 = .ok (.aload_n 0, 1) := by decide +kernel
theorem d_NA_add_47 : decode b_NA_add 47 = .ok (.getfield 27, 3) := by decide +kernel
theorem d_NA_add_50 : decode b_NA_add 50 = .ok (.lload 4, 2) := by decide +kernel
theorem d_NA_add_52 : decode b_NA_add 52 = .ok (.lastore, 1) := by decide +kernel
theorem d_NA_add_53 : decode b_NA_add 53 = .ok (.aload_n 0, 1) := by decide +kernel
theorem d_NA_add_54 : decode b_NA_add 54 = .ok (.dup, 1) := by decide +kernel
theorem d_NA_add_55 : decode b_NA_add 55 = .ok (.getfield 27, 3) := by decide +kernel
theorem d_NA_add_58 : decode b_NA_add 58 = .ok (.iconst 1, 1) := by decide +kernel
theorem d_NA_add_59 : decode b_NA_add 59 = .ok (.iadd, 1) := by decide +kernel
theorem d_NA_add_60 : decode b_NA_add 60 = .ok (.putfield 27, 3) := by decide +kernel
theorem d_NA_add_63 : decode b_NA_add 63 = .ok (.return_, 1) := by decide +kernel
theorem kF_NA_27 : Cond.fieldLink R_NA 27 "WaferForge$Names" "length" "I" ∈ lw_g := in_g 324 (by decide +kernel) rfl
theorem kF_NA_13 : Cond.fieldLink R_NA 13 "WaferForge$Names" "starts" "[I" ∈ lw_g := in_g 316 (by decide +kernel) rfl
theorem kF_NA_17 : Cond.fieldLink R_NA 17 "WaferForge$Names" "sizes" "[I" ∈ lw_g := in_g 318 (by decide +kernel) rfl
theorem kF_NA_20 : Cond.fieldLink R_NA 20 "WaferForge$Names" "types" "[I" ∈ lw_g := in_g 320 (by decide +kernel) rfl
theorem kF_NA_23 : Cond.fieldLink R_NA 23 "WaferForge$Names" "values" "[J" ∈ lw_g := in_g 322 (by decide +kernel) rfl
abbrev at_NA_add (dC : Nat → ClassId) (dI : Nat → Nat → Nat) (h0 tr ns nz nt nv : Nat) (cns cnz cnt cnv : ClassId) (nn : Nat) (A : Nat → Prop) (u : (Nat → Int32) × (Nat → Int32) × (Nat → Int64) × (Nat → Int32) × Int32) (t : State) : Prop := match u with | (gns, gnt, gnv, gnz, h0_length) => va_P (dC, dI) cls [(h0, .inr (5, [.ref tr, .ref ns, .ref nz, .ref nt, .ref nv, .int h0_length])), (ns, .inl (cns, nn, .inl gns)), (nz, .inl (cnz, nn, .inl gnz)), (nt, .inl (cnt, nn, .inl gnt)), (nv, .inl (cnv, nn, .inr (.inl gnv)))] t.heap ∧ va_K (dC, dI) cls [(cns, .int), (cnz, .int), (cnt, .int), (cnv, .long)] t ∧ va_D A [(h0, .inr (5, [.ref tr, .ref ns, .ref nz, .ref nt, .ref nv, .int h0_length])), (ns, .inl (cns, nn, .inl gns)), (nz, .inl (cnz, nn, .inl gnz)), (nt, .inl (cnt, nn, .inl gnt)), (nv, .inl (cnv, nn, .inr (.inl gnv)))]
set_option maxHeartbeats 4000000 in
set_option maxRecDepth 100000 in
theorem c_NA_add (l : Launch) (dC : Nat → ClassId) (dI : Nat → Nat → Nat) (sz : Nat) (h0 tr ns nz nt nv : Nat) (cns cnz cnt cnv : ClassId) (h0_length : Int32) (nn : Nat) (gns : Nat → Int32) (gnz : Nat → Int32) (gnt : Nat → Int32) (gnv : Nat → Int64)   (p0 : Int32) (p1 : Int32) (p2 : Int32) (p3 : Int64)  (hnl : 0 ≤ h0_length.toInt ∧ h0_length.toInt ≤ nn ∧ nn < 2147483648) : Met l y_NA_add w_NA_add ({ frames := 0, cells := 0, slots := 0, locals := 0 }) (va_Pc [.ref h0, .int p0, .int p1, .int p2, .long p3] (fun U => U.heap.size = sz ∧ va_P (dC, dI) cls [(h0, .inr (5, [.ref tr, .ref ns, .ref nz, .ref nt, .ref nv, .int h0_length])), (ns, .inl (cns, nn, .inl gns)), (nz, .inl (cnz, nn, .inl gnz)), (nt, .inl (cnt, nn, .inl gnt)), (nv, .inl (cnv, nn, .inr (.inl gnv)))] U.heap ∧ va_K (dC, dI) cls [(cns, .int), (cnz, .int), (cnt, .int), (cnv, .long)] U ∧ va_D (fun _ => True) [(h0, .inr (5, [.ref tr, .ref ns, .ref nz, .ref nt, .ref nv, .int h0_length])), (ns, .inl (cns, nn, .inl gns)), (nz, .inl (cnz, nn, .inl gnz)), (nt, .inl (cnt, nn, .inl gnt)), (nv, .inl (cnv, nn, .inr (.inl gnv)))])) (va_Qv (fun (u : (Nat → Int32) × (Nat → Int32) × (Nat → Int64) × (Nat → Int32) × Int32) => match u with | (gns2, gnt2, gnv2, gnz2, h0_length2) => ((h0_length.toInt < nn → h0_length2.toInt = h0_length.toInt + 1 ∧ gns2 = upd gns h0_length.toNatClampNeg p0 ∧ gnz2 = upd gnz h0_length.toNatClampNeg p1 ∧ gnt2 = upd gnt h0_length.toNatClampNeg p2 ∧ gnv2 = vp_updL gnv h0_length.toNatClampNeg p3) ∧ (h0_length.toInt = nn → h0_length2 = h0_length ∧ gns2 = gns ∧ gnz2 = gnz ∧ gnt2 = gnt ∧ gnv2 = gnv))) (at_NA_add dC dI h0 tr ns nz nt nv cns cnz cnt cnv nn (va_A [(h0, .inr (5, [.ref tr, .ref ns, .ref nz, .ref nt, .ref nv, .int h0_length])), (ns, .inl (cns, nn, .inl gns)), (nz, .inl (cnz, nn, .inl gnz)), (nt, .inl (cnt, nn, .inl gnt)), (nv, .inl (cnv, nn, .inr (.inl gnv)))] sz)) (va_A [(h0, .inr (5, [.ref tr, .ref ns, .ref nz, .ref nt, .ref nv, .int h0_length])), (ns, .inl (cns, nn, .inl gns)), (nz, .inl (cnz, nn, .inl gnz)), (nt, .inl (cnt, nn, .inl gnt)), (nv, .inl (cnv, nn, .inr (.inl gnv)))] sz)) 0 0 (va_A [(h0, .inr (5, [.ref tr, .ref ns, .ref nz, .ref nt, .ref nv, .int h0_length])), (ns, .inl (cns, nn, .inl gns)), (nz, .inl (cnz, nn, .inl gnz)), (nt, .inl (cnt, nn, .inl gnt)), (nv, .inl (cnv, nn, .inr (.inl gnv)))] sz) := by
  refine Met.ofW (cc := b_NA_add) (maxL := 6) (ret := none) (by decide) rfl ?_
  intro p e s m args below meth c s₁ B hml hv
  obtain ⟨rfl, hsz, hP, hK, hD0⟩ := hv
  have hx := B.exec
  have hb := B.bytes
  have hr := B.returns
  have hts0 := atoms_spec (ws := w_NA_add) B.pre
  have hts : ∀ w ∈ lw_g, w.before _ s = true := fun w h => hts0 w (List.mem_cons_of_mem _ h)
  have hown : s.vm.findClass R_NA = some m.cls := findClass_of_methodNamed B.named
  have hlocks := B.notSynchronized
  clear hts0
  subst hsz
  have hD := hD0.self (sz := s.heap.size)
  generalize hAe : va_A [(h0, .inr (5, [.ref tr, .ref ns, .ref nz, .ref nt, .ref nv, .int h0_length])), (ns, .inl (cns, nn, .inl gns)), (nz, .inl (cnz, nn, .inl gnz)), (nt, .inl (cnt, nn, .inl gnt)), (nv, .inl (cnv, nn, .inr (.inl gnv)))] s.heap.size = A at hD ⊢
  have hA : ∀ q : Nat, s.heap.size ≤ q → A q := fun q h => by rw [← hAe]; exact Or.inr h
  clear hAe
  have hP : va_P (dC, dI) cls [(h0, .inr (5, [.ref tr, .ref ns, .ref nz, .ref nt, .ref nv, .int h0_length])), (ns, .inl (cns, nn, .inl gns)), (nz, .inl (cnz, nn, .inl gnz)), (nt, .inl (cnt, nn, .inl gnt)), (nv, .inl (cnv, nn, .inr (.inl gnv)))] s.heap := hP
  have hl := lv_entry ([.ref h0, .int p0, .int p1, .int p2, .long p3]) (n := 6) (Nat.le_of_ble_eq_true rfl)
  rw [lg_entry_eq]
  generalize (lg_sl ([.ref h0, .int p0, .int p1, .int p2, .long p3]) ++ List.replicate (6 - (lg_sl ([.ref h0, .int p0, .int p1, .int p2, .long p3])).length) Slot.unset).toArray = ls at hl ⊢
  have hl : lv_has ls 6 [(0, .ref h0), (1, .int p0), (2, .int p1), (3, .int p2), (4, .long p3)] := hl
  have k0 : (0 : Int32).toInt = 0 := by decide
  refine w_gen (A := A) hP (fun H locs hP hS => ?_)
  have k1 : (1 : Int32).toInt = 1 := by decide
  have lo_p0 := i32_lo p0
  have hi_p0 := i32_hi p0
  have lo_p1 := i32_lo p1
  have hi_p1 := i32_hi p1
  have lo_p2 := i32_lo p2
  have hi_p2 := i32_hi p2
  refine lv_aload_n hx hb d_NA_add_0 rfl (lv_at hl 0 rfl) ?_
  refine va_get (D := (dC, dI)) (ci := 5) (v := .int h0_length) (C := R_NA) (T := F_NA) (N := 6) hx hb hts i_NA hown hK hP 0 rfl rfl 5 (by decide) (hts _ kF_NA_27) (fun _ h9 => h9) rfl d_NA_add_1 ?_
  refine lv_aload_n hx hb d_NA_add_4 rfl (lv_at hl 0 rfl) ?_
  refine va_get (D := (dC, dI)) (ci := 5) (v := .ref ns) (C := R_NA) (T := F_NA) (N := 6) hx hb hts i_NA hown hK hP 0 rfl rfl 1 (by decide) (hts _ kF_NA_13) (fun _ h9 => h9) rfl d_NA_add_5 ?_
  refine va_alen hx hb hK hP 1 0 rfl rfl rfl d_NA_add_8 ?_
  refine lv_topi (fun x1 ex1 => ?_)
  have tx1 : x1.toInt = nn := by rw [ex1]; exact i32_len (by omega)
  refine lv_icmp_ge (tgt := 63) hx hb d_NA_add_9 (by decide) (fun c9 => ?_) (fun c9 => ?_)
  · have q9 := leI c9
    have hP9 := hP.sub (ws' := [(h0, .inr (5, [.ref tr, .ref ns, .ref nz, .ref nt, .ref nv, .int h0_length])), (ns, .inl (cns, nn, .inl gns)), (nz, .inl (cnz, nn, .inl gnz)), (nt, .inl (cnt, nn, .inl gnt)), (nv, .inl (cnv, nn, .inr (.inl gnv)))]) [0, 1, 2, 3, 4] rfl
    have hD9 := hD.sub (ws' := [(h0, .inr (5, [.ref tr, .ref ns, .ref nz, .ref nt, .ref nv, .int h0_length])), (ns, .inl (cns, nn, .inl gns)), (nz, .inl (cnz, nn, .inl gnz)), (nt, .inl (cnt, nn, .inl gnt)), (nv, .inl (cnv, nn, .inr (.inl gnv)))]) [0, 1, 2, 3, 4] (by decide) rfl
    exact W.vret hx hb hr (fun t ht hW => ⟨⟨(gns, gnt, gnv, gnz, h0_length), rfl, (⟨fun z => absurd z (by omega), fun _ => ⟨rfl, rfl, rfl, rfl, rfl⟩⟩), by rw [ht]; exact hP9, va_K.moved hW.alike hK, hD9⟩, hS.F ht⟩) hS.2.2 d_NA_add_63
  · have q9 := nleI c9
    refine lv_aload_n hx hb d_NA_add_12 rfl (lv_at hl 0 rfl) ?_
    refine va_get (D := (dC, dI)) (ci := 5) (v := .ref ns) (C := R_NA) (T := F_NA) (N := 6) hx hb hts i_NA hown hK hP 0 rfl rfl 1 (by decide) (hts _ kF_NA_13) (fun _ h9 => h9) rfl d_NA_add_13 ?_
    refine lv_aload_n hx hb d_NA_add_16 rfl (lv_at hl 0 rfl) ?_
    refine va_get (D := (dC, dI)) (ci := 5) (v := .int h0_length) (C := R_NA) (T := F_NA) (N := 6) hx hb hts i_NA hown hK hP 0 rfl rfl 5 (by decide) (hts _ kF_NA_27) (fun _ h9 => h9) rfl d_NA_add_17 ?_
    refine lv_iload_n hx hb d_NA_add_20 rfl (lv_at hl 1 rfl) ?_
    have g21 : vp_in h0_length nn := vp_in_iff.mpr ⟨by omega, by omega⟩
    refine va_iast hx hb hK hP hD hS 1 0 rfl rfl g21 d_NA_add_21 (fun H locs hP hD hS => ?_)
    generalize ef2 : upd gns h0_length.toNatClampNeg p0 = f2 at hP hD
    refine lv_aload_n hx hb d_NA_add_22 rfl (lv_at hl 0 rfl) ?_
    refine va_get (D := (dC, dI)) (ci := 5) (v := .ref nz) (C := R_NA) (T := F_NA) (N := 6) hx hb hts i_NA hown hK hP 0 rfl rfl 2 (by decide) (hts _ kF_NA_17) (fun _ h9 => h9) rfl d_NA_add_23 ?_
    refine lv_aload_n hx hb d_NA_add_26 rfl (lv_at hl 0 rfl) ?_
    refine va_get (D := (dC, dI)) (ci := 5) (v := .int h0_length) (C := R_NA) (T := F_NA) (N := 6) hx hb hts i_NA hown hK hP 0 rfl rfl 5 (by decide) (hts _ kF_NA_27) (fun _ h9 => h9) rfl d_NA_add_27 ?_
    refine lv_iload_n hx hb d_NA_add_30 rfl (lv_at hl 2 rfl) ?_
    have g31 : vp_in h0_length nn := vp_in_iff.mpr ⟨by omega, by omega⟩
    refine va_iast hx hb hK hP hD hS 2 1 rfl rfl g31 d_NA_add_31 (fun H locs hP hD hS => ?_)
    generalize ef3 : upd gnz h0_length.toNatClampNeg p1 = f3 at hP hD
    refine lv_aload_n hx hb d_NA_add_32 rfl (lv_at hl 0 rfl) ?_
    refine va_get (D := (dC, dI)) (ci := 5) (v := .ref nt) (C := R_NA) (T := F_NA) (N := 6) hx hb hts i_NA hown hK hP 0 rfl rfl 3 (by decide) (hts _ kF_NA_20) (fun _ h9 => h9) rfl d_NA_add_33 ?_
    refine lv_aload_n hx hb d_NA_add_36 rfl (lv_at hl 0 rfl) ?_
    refine va_get (D := (dC, dI)) (ci := 5) (v := .int h0_length) (C := R_NA) (T := F_NA) (N := 6) hx hb hts i_NA hown hK hP 0 rfl rfl 5 (by decide) (hts _ kF_NA_27) (fun _ h9 => h9) rfl d_NA_add_37 ?_
    refine lv_iload_n hx hb d_NA_add_40 rfl (lv_at hl 3 rfl) ?_
    have g41 : vp_in h0_length nn := vp_in_iff.mpr ⟨by omega, by omega⟩
    refine va_iast hx hb hK hP hD hS 3 2 rfl rfl g41 d_NA_add_41 (fun H locs hP hD hS => ?_)
    generalize ef4 : upd gnt h0_length.toNatClampNeg p2 = f4 at hP hD
    refine lv_aload_n hx hb d_NA_add_42 rfl (lv_at hl 0 rfl) ?_
    refine va_get (D := (dC, dI)) (ci := 5) (v := .ref nv) (C := R_NA) (T := F_NA) (N := 6) hx hb hts i_NA hown hK hP 0 rfl rfl 4 (by decide) (hts _ kF_NA_23) (fun _ h9 => h9) rfl d_NA_add_43 ?_
    refine lv_aload_n hx hb d_NA_add_46 rfl (lv_at hl 0 rfl) ?_
    refine va_get (D := (dC, dI)) (ci := 5) (v := .int h0_length) (C := R_NA) (T := F_NA) (N := 6) hx hb hts i_NA hown hK hP 0 rfl rfl 5 (by decide) (hts _ kF_NA_27) (fun _ h9 => h9) rfl d_NA_add_47 ?_
    refine lv_lload hx hb d_NA_add_50 (lv_at hl 4 rfl) ?_
    have g52 : vp_in h0_length nn := vp_in_iff.mpr ⟨by omega, by omega⟩
    refine va_last hx hb hK hP hD hS 4 3 rfl rfl g52 d_NA_add_52 (fun H locs hP hD hS => ?_)
    generalize ef5 : vp_updL gnv h0_length.toNatClampNeg p3 = f5 at hP hD
    refine lv_aload_n hx hb d_NA_add_53 rfl (lv_at hl 0 rfl) ?_
    refine lv_dup hx hb d_NA_add_54 rfl ?_
    refine va_get (D := (dC, dI)) (ci := 5) (v := .int h0_length) (C := R_NA) (T := F_NA) (N := 6) hx hb hts i_NA hown hK hP 0 rfl rfl 5 (by decide) (hts _ kF_NA_27) (fun _ h9 => h9) rfl d_NA_add_55 ?_
    refine lv_iconst (v := 1) hx hb d_NA_add_58 (by decide) ?_
    refine lv_iadd hx hb d_NA_add_59 ?_
    refine lv_topi (fun x6 ex6 => ?_)
    have tx6 : x6.toInt = h0_length.toInt + 1 := by have z := i32_add ex6 (by omega) (by omega); omega
    refine va_put (D := (dC, dI)) (ci := 5) (v := .int x6) (ty := .int) (C := R_NA) (T := F_NA) (N := 6) hx hb hts i_NA t_NA t_NA_ok n_NA hown hK hP hD hS 0 rfl rfl 5 (by decide) (hts _ kF_NA_27) (fun _ h9 => h9) rfl (by decide +kernel) rfl rfl (Nat.le_of_ble_eq_true rfl) d_NA_add_60 (fun H locs hP hD hS => ?_)
    have hP9 := hP.sub (ws' := [(h0, .inr (5, [.ref tr, .ref ns, .ref nz, .ref nt, .ref nv, .int x6])), (ns, .inl (cns, nn, .inl f2)), (nz, .inl (cnz, nn, .inl f3)), (nt, .inl (cnt, nn, .inl f4)), (nv, .inl (cnv, nn, .inr (.inl f5)))]) [0, 1, 2, 3, 4] rfl
    have hD9 := hD.sub (ws' := [(h0, .inr (5, [.ref tr, .ref ns, .ref nz, .ref nt, .ref nv, .int x6])), (ns, .inl (cns, nn, .inl f2)), (nz, .inl (cnz, nn, .inl f3)), (nt, .inl (cnt, nn, .inl f4)), (nv, .inl (cnv, nn, .inr (.inl f5)))]) [0, 1, 2, 3, 4] (by decide) rfl
    exact W.vret hx hb hr (fun t ht hW => ⟨⟨(f2, f4, f5, f3, x6), rfl, (⟨fun _ => ⟨by (try dsimp only); omega, by (try dsimp only) <;> exact ef2.symm, by (try dsimp only) <;> exact ef3.symm, by (try dsimp only) <;> exact ef4.symm, by (try dsimp only) <;> exact ef5.symm⟩, fun z => absurd z (by omega)⟩), by rw [ht]; exact hP9, va_K.moved hW.alike hK, hD9⟩, hS.F ht⟩) hS.2.2 d_NA_add_63
abbrev b_NA_indexOf : ByteArray := prog_7_method_3_code
def y_NA_indexOf : MethodName := ⟨R_NA, "indexOf", "(II)I"⟩
abbrev w_NA_indexOf : List Cond := .code y_NA_indexOf b_NA_indexOf 4 (Option.some .int) :: lw_g
theorem kC_NA_indexOf : Cond.code y_NA_indexOf b_NA_indexOf 4 (Option.some .int) ∈ lw_g := in_g 1089 (by decide +kernel) rfl
theorem d_NA_indexOf_0 : decode b_NA_indexOf 0 = .ok (.iconst 0, 1) := by decide +kernel
theorem d_NA_indexOf_1 : decode b_NA_indexOf 1 = .ok (.istore_n 3, 1) := by decide +kernel
theorem d_NA_indexOf_2 : decode b_NA_indexOf 2 = .ok (.iload_n 3, 1) := by decide +kernel
theorem d_NA_indexOf_3 : decode b_NA_indexOf 3 = .ok (.aload_n 0, 1) := by decide +kernel
theorem d_NA_indexOf_4 : decode b_NA_indexOf 4 = .ok (.getfield 27, 3) := by decide +kernel
theorem d_NA_indexOf_7 : decode b_NA_indexOf 7 = .ok (.if_icmp .ge 39, 3) := by decide +kernel
theorem d_NA_indexOf_10 : decode b_NA_indexOf 10 = .ok (.aload_n 0, 1) := by decide +kernel
theorem d_NA_indexOf_11 : decode b_NA_indexOf 11 = .ok (.getfield 17, 3) := by decide +kernel
theorem d_NA_indexOf_14 : decode b_NA_indexOf 14 = .ok (.iload_n 3, 1) := by decide +kernel
theorem d_NA_indexOf_15 : decode b_NA_indexOf 15 = .ok (.iaload, 1) := by decide +kernel
theorem d_NA_indexOf_16 : decode b_NA_indexOf 16 = .ok (.iload_n 2, 1) := by decide +kernel
theorem d_NA_indexOf_17 : decode b_NA_indexOf 17 = .ok (.if_icmp .ne 23, 3) := by decide +kernel
theorem d_NA_indexOf_20 : decode b_NA_indexOf 20 = .ok (.aload_n 0, 1) := by decide +kernel
theorem d_NA_indexOf_21 : decode b_NA_indexOf 21 = .ok (.getfield 7, 3) := by decide +kernel
theorem d_NA_indexOf_24 : decode b_NA_indexOf 24 = .ok (.aload_n 0, 1) := by decide +kernel
theorem d_NA_indexOf_25 : decode b_NA_indexOf 25 = .ok (.getfield 13, 3) := by decide +kernel
theorem d_NA_indexOf_28 : decode b_NA_indexOf 28 = .ok (.iload_n 3, 1) := by decide +kernel
theorem d_NA_indexOf_29 : decode b_NA_indexOf 29 = .ok (.iaload, 1) := by decide +kernel
theorem d_NA_indexOf_30 : decode b_NA_indexOf 30 = .ok (.iload_n 1, 1) := by decide +kernel
theorem d_NA_indexOf_31 : decode b_NA_indexOf 31 = .ok (.iload_n 2, 1) := by decide +kernel
theorem d_NA_indexOf_32 : decode b_NA_indexOf 32 = .ok (.invokevirtual 31, 3) := by decide +kernel
theorem d_NA_indexOf_35 : decode b_NA_indexOf 35 = .ok (.ifCond .eq 5, 3) := by decide +kernel
theorem d_NA_indexOf_38 : decode b_NA_indexOf 38 = .ok (.iload_n 3, 1) := by decide +kernel
theorem d_NA_indexOf_39 : decode b_NA_indexOf 39 = .ok (.ireturn, 1) := by decide +kernel
theorem d_NA_indexOf_40 : decode b_NA_indexOf 40 = .ok (.iinc 3 1, 3) := by decide +kernel
theorem d_NA_indexOf_43 : decode b_NA_indexOf 43 = .ok (.goto (-41), 3) := by decide +kernel
theorem d_NA_indexOf_46 : decode b_NA_indexOf 46 = .ok (.iconst (-1), 1) := by decide +kernel
theorem d_NA_indexOf_47 : decode b_NA_indexOf 47 = .ok (.ireturn, 1) := by decide +kernel
theorem kM_NA_31 : Cond.methodLink R_NA 31 y_BR_samePart ∈ lw_g := in_g 1090 (by decide +kernel) rfl
theorem kF_NA_7 : Cond.fieldLink R_NA 7 "WaferForge$Names" "text" "LWaferForge$ByteRow;" ∈ lw_g := in_g 314 (by decide +kernel) rfl
abbrev at_NA_indexOf (dC : Nat → ClassId) (dI : Nat → Nat → Nat) (h0 tr ns nz nt nv tx : Nat) (ctx cns cnz : ClassId) (h0_length : Int32) (tr_length : Int32) (gtx : Nat → Int32) (nn : Nat) (gns : Nat → Int32) (gnz : Nat → Int32) (A : Nat → Prop) (u : Unit) (t : State) : Prop := match u with | _ => va_P (dC, dI) cls [(h0, .inr (5, [.ref tr, .ref ns, .ref nz, .ref nt, .ref nv, .int h0_length])), (tr, .inr (1, [.ref tx, .int tr_length])), (tx, .inl (ctx, 2000, .inl gtx)), (ns, .inl (cns, nn, .inl gns)), (nz, .inl (cnz, nn, .inl gnz))] t.heap ∧ va_K (dC, dI) cls [(ctx, .byte), (cns, .int), (cnz, .int)] t ∧ va_D A [(h0, .inr (5, [.ref tr, .ref ns, .ref nz, .ref nt, .ref nv, .int h0_length])), (tr, .inr (1, [.ref tx, .int tr_length])), (tx, .inl (ctx, 2000, .inl gtx)), (ns, .inl (cns, nn, .inl gns)), (nz, .inl (cnz, nn, .inl gnz))]
set_option maxHeartbeats 4000000 in
set_option maxRecDepth 100000 in
theorem c_NA_indexOf (l : Launch) (dC : Nat → ClassId) (dI : Nat → Nat → Nat) (sz : Nat) (h0 tr ns nz nt nv tx : Nat) (ctx cns cnz : ClassId) (h0_length : Int32) (tr_length : Int32) (gtx : Nat → Int32) (nn : Nat) (gns : Nat → Int32) (gnz : Nat → Int32)  (b_tr_length : 0 ≤ tr_length.toInt ∧ tr_length.toInt ≤ 2000) (p0 : Int32) (p1 : Int32)  (hnl : 0 ≤ h0_length.toInt ∧ h0_length.toInt ≤ nn ∧ nn < 2147483648) (hp : 0 ≤ p1.toInt) : Met l y_NA_indexOf w_NA_indexOf ({ frames := 1, cells := 0, slots := 0, locals := 24 }) (va_Pc [.ref h0, .int p0, .int p1] (fun U => U.heap.size = sz ∧ va_P (dC, dI) cls [(h0, .inr (5, [.ref tr, .ref ns, .ref nz, .ref nt, .ref nv, .int h0_length])), (tr, .inr (1, [.ref tx, .int tr_length])), (tx, .inl (ctx, 2000, .inl gtx)), (ns, .inl (cns, nn, .inl gns)), (nz, .inl (cnz, nn, .inl gnz))] U.heap ∧ va_K (dC, dI) cls [(ctx, .byte), (cns, .int), (cnz, .int)] U ∧ va_D (fun _ => True) [(h0, .inr (5, [.ref tr, .ref ns, .ref nz, .ref nt, .ref nv, .int h0_length])), (tr, .inr (1, [.ref tx, .int tr_length])), (tx, .inl (ctx, 2000, .inl gtx)), (ns, .inl (cns, nn, .inl gns)), (nz, .inl (cnz, nn, .inl gnz))])) (va_Qi (fun (r : Int32) (u : Unit) => match u with | _ => (-1 ≤ r.toInt ∧ r.toInt < h0_length.toInt)) (at_NA_indexOf dC dI h0 tr ns nz nt nv tx ctx cns cnz h0_length tr_length gtx nn gns gnz (va_A [(h0, .inr (5, [.ref tr, .ref ns, .ref nz, .ref nt, .ref nv, .int h0_length])), (tr, .inr (1, [.ref tx, .int tr_length])), (tx, .inl (ctx, 2000, .inl gtx)), (ns, .inl (cns, nn, .inl gns)), (nz, .inl (cnz, nn, .inl gnz))] sz)) (va_A [(h0, .inr (5, [.ref tr, .ref ns, .ref nz, .ref nt, .ref nv, .int h0_length])), (tr, .inr (1, [.ref tx, .int tr_length])), (tx, .inl (ctx, 2000, .inl gtx)), (ns, .inl (cns, nn, .inl gns)), (nz, .inl (cnz, nn, .inl gnz))] sz)) 0 0 (va_A [(h0, .inr (5, [.ref tr, .ref ns, .ref nz, .ref nt, .ref nv, .int h0_length])), (tr, .inr (1, [.ref tx, .int tr_length])), (tx, .inl (ctx, 2000, .inl gtx)), (ns, .inl (cns, nn, .inl gns)), (nz, .inl (cnz, nn, .inl gnz))] sz) := by
  refine Met.ofW (cc := b_NA_indexOf) (maxL := 4) (ret := (Option.some .int)) (by decide) rfl ?_
  intro p e s m args below meth c s₁ B hml hv
  obtain ⟨rfl, hsz, hP, hK, hD0⟩ := hv
  have hx := B.exec
  have hb := B.bytes
  have hr := B.returns
  have hts0 := atoms_spec (ws := w_NA_indexOf) B.pre
  have hts : ∀ w ∈ lw_g, w.before _ s = true := fun w h => hts0 w (List.mem_cons_of_mem _ h)
  have hown : s.vm.findClass R_NA = some m.cls := findClass_of_methodNamed B.named
  have hlocks := B.notSynchronized
  clear hts0
  subst hsz
  have hD := hD0.self (sz := s.heap.size)
  generalize hAe : va_A [(h0, .inr (5, [.ref tr, .ref ns, .ref nz, .ref nt, .ref nv, .int h0_length])), (tr, .inr (1, [.ref tx, .int tr_length])), (tx, .inl (ctx, 2000, .inl gtx)), (ns, .inl (cns, nn, .inl gns)), (nz, .inl (cnz, nn, .inl gnz))] s.heap.size = A at hD ⊢
  have hA : ∀ q : Nat, s.heap.size ≤ q → A q := fun q h => by rw [← hAe]; exact Or.inr h
  clear hAe
  have hP : va_P (dC, dI) cls [(h0, .inr (5, [.ref tr, .ref ns, .ref nz, .ref nt, .ref nv, .int h0_length])), (tr, .inr (1, [.ref tx, .int tr_length])), (tx, .inl (ctx, 2000, .inl gtx)), (ns, .inl (cns, nn, .inl gns)), (nz, .inl (cnz, nn, .inl gnz))] s.heap := hP
  have hl := lv_entry ([.ref h0, .int p0, .int p1]) (n := 4) (Nat.le_of_ble_eq_true rfl)
  rw [lg_entry_eq]
  generalize (lg_sl ([.ref h0, .int p0, .int p1]) ++ List.replicate (4 - (lg_sl ([.ref h0, .int p0, .int p1])).length) Slot.unset).toArray = ls at hl ⊢
  have hl : lv_has ls 4 [(0, .ref h0), (1, .int p0), (2, .int p1)] := hl
  have k0 : (0 : Int32).toInt = 0 := by decide
  refine w_gen (A := A) hP (fun H locs hP hS => ?_)
  have km1 : (-1 : Int32).toInt = -1 := by decide
  have k1 : (1 : Int32).toInt = 1 := by decide
  have lo_p0 := i32_lo p0
  have hi_p0 := i32_hi p0
  have lo_p1 := i32_lo p1
  have hi_p1 := i32_hi p1
  refine lv_iconst (v := 0) hx hb d_NA_indexOf_0 (by decide) ?_
  refine lv_istore_n (lv' := [(3, .int 0), (0, .ref h0), (1, .int p0), (2, .int p1)]) hx hb d_NA_indexOf_1 rfl hl (by decide) rfl (fun ls hl => ?_)
  refine w_loop (σ := Int32) (fun u H locs ls => match u with | j2_l3 => (0 ≤ j2_l3.toInt ∧ j2_l3.toInt ≤ h0_length.toInt) ∧ va_P (dC, dI) cls [(h0, .inr (5, [.ref tr, .ref ns, .ref nz, .ref nt, .ref nv, .int h0_length])), (tr, .inr (1, [.ref tx, .int tr_length])), (tx, .inl (ctx, 2000, .inl gtx)), (ns, .inl (cns, nn, .inl gns)), (nz, .inl (cnz, nn, .inl gnz))] H ∧ va_D A [(h0, .inr (5, [.ref tr, .ref ns, .ref nz, .ref nt, .ref nv, .int h0_length])), (tr, .inr (1, [.ref tx, .int tr_length])), (tx, .inl (ctx, 2000, .inl gtx)), (ns, .inl (cns, nn, .inl gns)), (nz, .inl (cnz, nn, .inl gnz))] ∧ va_S A s.heap H locs ∧ lv_has ls 4 [(0, .ref h0), (1, .int p0), (2, .int p1), (3, .int j2_l3)]) (fun u => match u with | j2_l3 => (h0_length.toInt - j2_l3.toInt).toNat) ?_ 0 ⟨by (try dsimp only) <;> omega, hP, hD, hS, lv_sub hl [1, 2, 3, 0] rfl⟩
  intro N2 ih2 u H locs ls hN2 hI
  obtain ⟨j2_l3, rfl⟩ : ∃ z, z = u := ⟨_, rfl⟩
  obtain ⟨v1, hP, hD, hS, hl⟩ := hI
  have hN2 : (h0_length.toInt - j2_l3.toInt).toNat < N2 + 1 := hN2
  refine lv_iload_n hx hb d_NA_indexOf_2 rfl (lv_at hl 3 rfl) ?_
  refine lv_aload_n hx hb d_NA_indexOf_3 rfl (lv_at hl 0 rfl) ?_
  refine va_get (D := (dC, dI)) (ci := 5) (v := .int h0_length) (C := R_NA) (T := F_NA) (N := 6) hx hb hts i_NA hown hK hP 0 rfl rfl 5 (by decide) (hts _ kF_NA_27) (fun _ h9 => h9) rfl d_NA_indexOf_4 ?_
  refine lv_icmp_ge (tgt := 46) hx hb d_NA_indexOf_7 (by decide) (fun c7 => ?_) (fun c7 => ?_)
  · have q7 := leI c7
    refine lv_iconst (v := (-1)) hx hb d_NA_indexOf_46 (by decide) ?_
    have hP9 := hP.sub (ws' := [(h0, .inr (5, [.ref tr, .ref ns, .ref nz, .ref nt, .ref nv, .int h0_length])), (tr, .inr (1, [.ref tx, .int tr_length])), (tx, .inl (ctx, 2000, .inl gtx)), (ns, .inl (cns, nn, .inl gns)), (nz, .inl (cnz, nn, .inl gnz))]) [0, 1, 2, 3, 4] rfl
    have hD9 := hD.sub (ws' := [(h0, .inr (5, [.ref tr, .ref ns, .ref nz, .ref nt, .ref nv, .int h0_length])), (tr, .inr (1, [.ref tx, .int tr_length])), (tx, .inl (ctx, 2000, .inl gtx)), (ns, .inl (cns, nn, .inl gns)), (nz, .inl (cnz, nn, .inl gnz))]) [0, 1, 2, 3, 4] (by decide) rfl
    exact W.iret (v := ((-1))) hx hb hr (fun t ht hW => ⟨⟨(-1), (), rfl, (by (try dsimp only) <;> omega), by rw [ht]; exact hP9, va_K.moved hW.alike hK, hD9⟩, hS.F ht⟩) hS.2.2 d_NA_indexOf_47
  · have q7 := nleI c7
    refine lv_aload_n hx hb d_NA_indexOf_10 rfl (lv_at hl 0 rfl) ?_
    refine va_get (D := (dC, dI)) (ci := 5) (v := .ref nz) (C := R_NA) (T := F_NA) (N := 6) hx hb hts i_NA hown hK hP 0 rfl rfl 2 (by decide) (hts _ kF_NA_17) (fun _ h9 => h9) rfl d_NA_indexOf_11 ?_
    refine lv_iload_n hx hb d_NA_indexOf_14 rfl (lv_at hl 3 rfl) ?_
    have g15 : vp_in j2_l3 nn := vp_in_iff.mpr ⟨by omega, by omega⟩
    refine va_iald hx hb hK hP 4 2 rfl rfl g15 d_NA_indexOf_15 ?_
    refine lv_topi (fun x1 ex1 => ?_)
    refine lv_iload_n hx hb d_NA_indexOf_16 rfl (lv_at hl 2 rfl) ?_
    refine w_cut (pc2 := 40) (σ := Unit) (fun u H locs ls => match u with | _ => va_P (dC, dI) cls [(h0, .inr (5, [.ref tr, .ref ns, .ref nz, .ref nt, .ref nv, .int h0_length])), (tr, .inr (1, [.ref tx, .int tr_length])), (tx, .inl (ctx, 2000, .inl gtx)), (ns, .inl (cns, nn, .inl gns)), (nz, .inl (cnz, nn, .inl gnz))] H ∧ va_D A [(h0, .inr (5, [.ref tr, .ref ns, .ref nz, .ref nt, .ref nv, .int h0_length])), (tr, .inr (1, [.ref tx, .int tr_length])), (tx, .inl (ctx, 2000, .inl gtx)), (ns, .inl (cns, nn, .inl gns)), (nz, .inl (cnz, nn, .inl gnz))] ∧ va_S A s.heap H locs ∧ lv_has ls 4 [(0, .ref h0), (1, .int p0), (2, .int p1), (3, .int j2_l3)]) (fun u => match u with | _ => []) ?_ (fun jn40 => ?_)
    · intro u H locs ls hI
      obtain ⟨hP, hD, hS, hl⟩ := hI
      obtain ⟨x2, ex2⟩ : ∃ z : Int32, z = j2_l3 + 1 := ⟨_, rfl⟩
      have tx2 : x2.toInt = j2_l3.toInt + 1 := by have z := i32_add ex2 (by omega) (by omega); omega
      refine lv_iinc (v := x2) (lv' := [(3, .int x2), (0, .ref h0), (1, .int p0), (2, .int p1)]) hx hb d_NA_indexOf_40 hl (k := 3) rfl (by rw [ex2]; rfl) (by decide) rfl (fun ls hl => ?_)
      refine lv_goto (tgt := 2) hx hb d_NA_indexOf_43 (by decide) ?_
      exact ih2 x2 _ _ _ (by show (h0_length.toInt - x2.toInt).toNat < N2; omega) ⟨by (try dsimp only) <;> omega, hP, hD, hS, lv_sub hl [1, 2, 3, 0] rfl⟩
    · skip
      refine lv_icmp_ne (tgt := 40) hx hb d_NA_indexOf_17 (by decide) (fun c17 => ?_) (fun c17 => ?_)
      · have q17 := neI c17
        exact jn40 () _ _ _ ⟨hP, hD, hS, lv_sub hl [0, 1, 2, 3] rfl⟩
      · have q17 := eqI c17
        refine lv_aload_n hx hb d_NA_indexOf_20 rfl (lv_at hl 0 rfl) ?_
        refine va_get (D := (dC, dI)) (ci := 5) (v := .ref tr) (C := R_NA) (T := F_NA) (N := 6) hx hb hts i_NA hown hK hP 0 rfl rfl 0 (by decide) (hts _ kF_NA_7) (fun _ h9 => h9) rfl d_NA_indexOf_21 ?_
        refine lv_aload_n hx hb d_NA_indexOf_24 rfl (lv_at hl 0 rfl) ?_
        refine va_get (D := (dC, dI)) (ci := 5) (v := .ref ns) (C := R_NA) (T := F_NA) (N := 6) hx hb hts i_NA hown hK hP 0 rfl rfl 1 (by decide) (hts _ kF_NA_13) (fun _ h9 => h9) rfl d_NA_indexOf_25 ?_
        refine lv_iload_n hx hb d_NA_indexOf_28 rfl (lv_at hl 3 rfl) ?_
        have g29 : vp_in j2_l3 nn := vp_in_iff.mpr ⟨by omega, by omega⟩
        refine va_iald hx hb hK hP 3 1 rfl rfl g29 d_NA_indexOf_29 ?_
        refine lv_topi (fun x3 ex3 => ?_)
        refine lv_iload_n hx hb d_NA_indexOf_30 rfl (lv_at hl 1 rfl) ?_
        refine lv_iload_n hx hb d_NA_indexOf_31 rfl (lv_at hl 2 rfl) ?_
        have hPc := hP.sub (ws' := [(tr, .inr (1, [.ref tx, .int tr_length])), (tx, .inl (ctx, 2000, .inl gtx))]) [1, 2] rfl
        have hDc := hD.sub (ws' := [(tr, .inr (1, [.ref tx, .int tr_length])), (tx, .inl (ctx, 2000, .inl gtx))]) [1, 2] (by decide) rfl
        have hKc := hK.sub (tys' := [(ctx, .byte)]) [0] rfl
        have hFc := va_free (wc := [(tr, .inr (1, [.ref tx, .int tr_length])), (tx, .inl (ctx, 2000, .inl gtx))]) hD hS hA [1, 2] rfl
        refine va_calli (va_runV (As := [.int x3, .int p0, .int p1]) (rest := []) ⟨hx, hb, hml, hown, hts⟩ (c_BR_samePart l dC dI tr tx H.size ctx 2000 tr_length gtx (by omega) (by omega) (by omega) x3 p0 p1 (by omega)) (cwV 3 hts (gV kM_NA_31 kV_BR_samePart kS_BR_samePart kI_BR kC_BR_samePart) rfl rfl rfl (by decide +kernel) ⟨Nat.le_of_ble_eq_true rfl, Nat.le_of_ble_eq_true rfl⟩) ⟨fun a U g mk z => by obtain ⟨z0, z1, zP, zK, zD⟩ := z; exact ⟨z0, z1, zP, va_K.moved (u := U) (U := U.calling g mk a) (Vm.Alike.refl U.vm) zK, zD⟩, va_recv hKc hPc (ci := 1) (q0 := 0) rfl rfl, fun U hU hW => ⟨rfl, by rw [hU], by rw [hU]; exact hPc, va_K.moved hW.alike hKc, hDc.weaken (fun _ _ _ _ => trivial)⟩⟩ rfl rfl hl.1 rfl (lv_room (Nat.le_of_ble_eq_true rfl)) d_NA_indexOf_32 ⟨(Nat.zero_le _), (Nat.zero_le _)⟩) hS (fun q _ h => hFc q h) hFc (fun r4 u t H1 locs ht hvm hw hB hz1 hk1 hS => ?_)
        obtain ⟨er4, rfl⟩ := hw
        obtain ⟨hP1, hK1, hD1⟩ := hB
        rw [ht] at hP1
        obtain ⟨hP, hD⟩ := va_join (wr := [(h0, .inr (5, [.ref tr, .ref ns, .ref nz, .ref nt, .ref nv, .int h0_length])), (ns, .inl (cns, nn, .inl gns)), (nz, .inl (cnz, nn, .inl gnz))]) (w1 := [(tr, .inr (1, [.ref tx, .int tr_length])), (tx, .inl (ctx, 2000, .inl gtx))]) hP hD [1, 2] [0, 3, 4] rfl rfl (by decide) (by decide) hk1 hFc hP1 hD1
        clear hPc hDc hKc hFc hz1 hk1 hP1 hK1 hD1
        generalize H1 = H at hP hS ⊢
        have hP : va_P (dC, dI) cls [(h0, .inr (5, [.ref tr, .ref ns, .ref nz, .ref nt, .ref nv, .int h0_length])), (ns, .inl (cns, nn, .inl gns)), (nz, .inl (cnz, nn, .inl gnz)), (tr, .inr (1, [.ref tx, .int tr_length])), (tx, .inl (ctx, 2000, .inl gtx))] H := hP
        have hD : va_D A [(h0, .inr (5, [.ref tr, .ref ns, .ref nz, .ref nt, .ref nv, .int h0_length])), (ns, .inl (cns, nn, .inl gns)), (nz, .inl (cnz, nn, .inl gnz)), (tr, .inr (1, [.ref tx, .int tr_length])), (tx, .inl (ctx, 2000, .inl gtx))] := hD
        refine lv_if_eq (tgt := 40) hx hb d_NA_indexOf_35 (by decide) (fun c35 => ?_) (fun c35 => ?_)
        · have q35 := eqI c35
          exact jn40 () _ _ _ ⟨hP.sub [0, 3, 4, 1, 2] rfl, hD.sub [0, 3, 4, 1, 2] (by decide) rfl, hS, lv_sub hl [0, 1, 2, 3] rfl⟩
        · have q35 := neI c35
          refine lv_iload_n hx hb d_NA_indexOf_38 rfl (lv_at hl 3 rfl) ?_
          have hP9 := hP.sub (ws' := [(h0, .inr (5, [.ref tr, .ref ns, .ref nz, .ref nt, .ref nv, .int h0_length])), (tr, .inr (1, [.ref tx, .int tr_length])), (tx, .inl (ctx, 2000, .inl gtx)), (ns, .inl (cns, nn, .inl gns)), (nz, .inl (cnz, nn, .inl gnz))]) [0, 3, 4, 1, 2] rfl
          have hD9 := hD.sub (ws' := [(h0, .inr (5, [.ref tr, .ref ns, .ref nz, .ref nt, .ref nv, .int h0_length])), (tr, .inr (1, [.ref tx, .int tr_length])), (tx, .inl (ctx, 2000, .inl gtx)), (ns, .inl (cns, nn, .inl gns)), (nz, .inl (cnz, nn, .inl gnz))]) [0, 3, 4, 1, 2] (by decide) rfl
          exact W.iret (v := j2_l3) hx hb hr (fun t ht hW => ⟨⟨j2_l3, (), rfl, (by (try dsimp only) <;> omega), by rw [ht]; exact hP9, va_K.moved hW.alike hK, hD9⟩, hS.F ht⟩) hS.2.2 d_NA_indexOf_39
abbrev b_NA_firstRepeated : ByteArray := prog_7_method_4_code
def y_NA_firstRepeated : MethodName := ⟨R_NA, "firstRepeated", "()I"⟩
abbrev w_NA_firstRepeated : List Cond := .code y_NA_firstRepeated b_NA_firstRepeated 2 (Option.some .int) :: lw_g
theorem kC_NA_firstRepeated : Cond.code y_NA_firstRepeated b_NA_firstRepeated 2 (Option.some .int) ∈ lw_g := in_g 1085 (by decide +kernel) rfl
theorem d_NA_firstRepeated_0 : decode b_NA_firstRepeated 0 = .ok (.iconst 0, 1) := by decide +kernel
theorem d_NA_firstRepeated_1 : decode b_NA_firstRepeated 1 = .ok (.istore_n 1, 1) := by decide +kernel
theorem d_NA_firstRepeated_2 : decode b_NA_firstRepeated 2 = .ok (.iload_n 1, 1) := by decide +kernel
theorem d_NA_firstRepeated_3 : decode b_NA_firstRepeated 3 = .ok (.aload_n 0, 1) := by decide +kernel
theorem d_NA_firstRepeated_4 : decode b_NA_firstRepeated 4 = .ok (.getfield 27, 3) := by decide +kernel
theorem d_NA_firstRepeated_7 : decode b_NA_firstRepeated 7 = .ok (.if_icmp .ge 31, 3) := by decide +kernel
theorem d_NA_firstRepeated_10 : decode b_NA_firstRepeated 10 = .ok (.aload_n 0, 1) := by decide +kernel
theorem d_NA_firstRepeated_11 : decode b_NA_firstRepeated 11 = .ok (.aload_n 0, 1) := by decide +kernel
theorem d_NA_firstRepeated_12 : decode b_NA_firstRepeated 12 = .ok (.getfield 13, 3) := by decide +kernel
theorem d_NA_firstRepeated_15 : decode b_NA_firstRepeated 15 = .ok (.iload_n 1, 1) := by decide +kernel
theorem d_NA_firstRepeated_16 : decode b_NA_firstRepeated 16 = .ok (.iaload, 1) := by decide +kernel
theorem d_NA_firstRepeated_17 : decode b_NA_firstRepeated 17 = .ok (.aload_n 0, 1) := by decide +kernel
theorem d_NA_firstRepeated_18 : decode b_NA_firstRepeated 18 = .ok (.getfield 17, 3) := by decide +kernel
theorem d_NA_firstRepeated_21 : decode b_NA_firstRepeated 21 = .ok (.iload_n 1, 1) := by decide +kernel
theorem d_NA_firstRepeated_22 : decode b_NA_firstRepeated 22 = .ok (.iaload, 1) := by decide +kernel
theorem d_NA_firstRepeated_23 : decode b_NA_firstRepeated 23 = .ok (.invokevirtual 37, 3) := by decide +kernel
theorem d_NA_firstRepeated_26 : decode b_NA_firstRepeated 26 = .ok (.iload_n 1, 1) := by decide +kernel
theorem d_NA_firstRepeated_27 : decode b_NA_firstRepeated 27 = .ok (.if_icmp .ge 5, 3) := by decide +kernel
theorem d_NA_firstRepeated_30 : decode b_NA_firstRepeated 30 = .ok (.iload_n 1, 1) := by decide +kernel
theorem d_NA_firstRepeated_31 : decode b_NA_firstRepeated 31 = .ok (.ireturn, 1) := by decide +kernel
theorem d_NA_firstRepeated_32 : decode b_NA_firstRepeated 32 = .ok (.iinc 1 1, 3) := by decide +kernel
theorem d_NA_firstRepeated_35 : decode b_NA_firstRepeated 35 = .ok (.goto (-33), 3) := by decide +kernel
theorem d_NA_firstRepeated_38 : decode b_NA_firstRepeated 38 = .ok (.iconst (-1), 1) := by decide +kernel
theorem d_NA_firstRepeated_39 : decode b_NA_firstRepeated 39 = .ok (.ireturn, 1) := by decide +kernel
theorem kM_NA_37 : Cond.methodLink R_NA 37 y_NA_indexOf ∈ lw_g := in_g 1086 (by decide +kernel) rfl
theorem kV_NA_indexOf : Cond.instanceMethod y_NA_indexOf ∈ lw_g := in_g 1087 (by decide +kernel) rfl
theorem kS_NA_indexOf : Cond.selects R_NA y_NA_indexOf y_NA_indexOf ∈ lw_g := in_g 1088 (by decide +kernel) rfl
abbrev at_NA_firstRepeated (dC : Nat → ClassId) (dI : Nat → Nat → Nat) (h0 tr ns nz nt nv tx : Nat) (ctx cns cnz : ClassId) (h0_length : Int32) (tr_length : Int32) (gtx : Nat → Int32) (nn : Nat) (gns : Nat → Int32) (gnz : Nat → Int32) (A : Nat → Prop) (u : Unit) (t : State) : Prop := match u with | _ => va_P (dC, dI) cls [(h0, .inr (5, [.ref tr, .ref ns, .ref nz, .ref nt, .ref nv, .int h0_length])), (tr, .inr (1, [.ref tx, .int tr_length])), (tx, .inl (ctx, 2000, .inl gtx)), (ns, .inl (cns, nn, .inl gns)), (nz, .inl (cnz, nn, .inl gnz))] t.heap ∧ va_K (dC, dI) cls [(ctx, .byte), (cns, .int), (cnz, .int)] t ∧ va_D A [(h0, .inr (5, [.ref tr, .ref ns, .ref nz, .ref nt, .ref nv, .int h0_length])), (tr, .inr (1, [.ref tx, .int tr_length])), (tx, .inl (ctx, 2000, .inl gtx)), (ns, .inl (cns, nn, .inl gns)), (nz, .inl (cnz, nn, .inl gnz))]
set_option maxHeartbeats 4000000 in
set_option maxRecDepth 100000 in
theorem c_NA_firstRepeated (l : Launch) (dC : Nat → ClassId) (dI : Nat → Nat → Nat) (sz : Nat) (h0 tr ns nz nt nv tx : Nat) (ctx cns cnz : ClassId) (h0_length : Int32) (tr_length : Int32) (gtx : Nat → Int32) (nn : Nat) (gns : Nat → Int32) (gnz : Nat → Int32)  (b_tr_length : 0 ≤ tr_length.toInt ∧ tr_length.toInt ≤ 2000)   (hnl : 0 ≤ h0_length.toInt ∧ h0_length.toInt ≤ nn ∧ nn < 2147483648) (hz : ∀ j : Nat, (j : Int) < h0_length.toInt → 0 ≤ (gnz j).toInt) : Met l y_NA_firstRepeated w_NA_firstRepeated ({ frames := 2, cells := 0, slots := 0, locals := 47 }) (va_Pc [.ref h0] (fun U => U.heap.size = sz ∧ va_P (dC, dI) cls [(h0, .inr (5, [.ref tr, .ref ns, .ref nz, .ref nt, .ref nv, .int h0_length])), (tr, .inr (1, [.ref tx, .int tr_length])), (tx, .inl (ctx, 2000, .inl gtx)), (ns, .inl (cns, nn, .inl gns)), (nz, .inl (cnz, nn, .inl gnz))] U.heap ∧ va_K (dC, dI) cls [(ctx, .byte), (cns, .int), (cnz, .int)] U ∧ va_D (fun _ => True) [(h0, .inr (5, [.ref tr, .ref ns, .ref nz, .ref nt, .ref nv, .int h0_length])), (tr, .inr (1, [.ref tx, .int tr_length])), (tx, .inl (ctx, 2000, .inl gtx)), (ns, .inl (cns, nn, .inl gns)), (nz, .inl (cnz, nn, .inl gnz))])) (va_Qi (fun (r : Int32) (u : Unit) => match u with | _ => (-1 ≤ r.toInt ∧ r.toInt < h0_length.toInt)) (at_NA_firstRepeated dC dI h0 tr ns nz nt nv tx ctx cns cnz h0_length tr_length gtx nn gns gnz (va_A [(h0, .inr (5, [.ref tr, .ref ns, .ref nz, .ref nt, .ref nv, .int h0_length])), (tr, .inr (1, [.ref tx, .int tr_length])), (tx, .inl (ctx, 2000, .inl gtx)), (ns, .inl (cns, nn, .inl gns)), (nz, .inl (cnz, nn, .inl gnz))] sz)) (va_A [(h0, .inr (5, [.ref tr, .ref ns, .ref nz, .ref nt, .ref nv, .int h0_length])), (tr, .inr (1, [.ref tx, .int tr_length])), (tx, .inl (ctx, 2000, .inl gtx)), (ns, .inl (cns, nn, .inl gns)), (nz, .inl (cnz, nn, .inl gnz))] sz)) 0 0 (va_A [(h0, .inr (5, [.ref tr, .ref ns, .ref nz, .ref nt, .ref nv, .int h0_length])), (tr, .inr (1, [.ref tx, .int tr_length])), (tx, .inl (ctx, 2000, .inl gtx)), (ns, .inl (cns, nn, .inl gns)), (nz, .inl (cnz, nn, .inl gnz))] sz) := by
  refine Met.ofW (cc := b_NA_firstRepeated) (maxL := 2) (ret := (Option.some .int)) (by decide) rfl ?_
  intro p e s m args below meth c s₁ B hml hv
  obtain ⟨rfl, hsz, hP, hK, hD0⟩ := hv
  have hx := B.exec
  have hb := B.bytes
  have hr := B.returns
  have hts0 := atoms_spec (ws := w_NA_firstRepeated) B.pre
  have hts : ∀ w ∈ lw_g, w.before _ s = true := fun w h => hts0 w (List.mem_cons_of_mem _ h)
  have hown : s.vm.findClass R_NA = some m.cls := findClass_of_methodNamed B.named
  have hlocks := B.notSynchronized
  clear hts0
  subst hsz
  have hD := hD0.self (sz := s.heap.size)
  generalize hAe : va_A [(h0, .inr (5, [.ref tr, .ref ns, .ref nz, .ref nt, .ref nv, .int h0_length])), (tr, .inr (1, [.ref tx, .int tr_length])), (tx, .inl (ctx, 2000, .inl gtx)), (ns, .inl (cns, nn, .inl gns)), (nz, .inl (cnz, nn, .inl gnz))] s.heap.size = A at hD ⊢
  have hA : ∀ q : Nat, s.heap.size ≤ q → A q := fun q h => by rw [← hAe]; exact Or.inr h
  clear hAe
  have hP : va_P (dC, dI) cls [(h0, .inr (5, [.ref tr, .ref ns, .ref nz, .ref nt, .ref nv, .int h0_length])), (tr, .inr (1, [.ref tx, .int tr_length])), (tx, .inl (ctx, 2000, .inl gtx)), (ns, .inl (cns, nn, .inl gns)), (nz, .inl (cnz, nn, .inl gnz))] s.heap := hP
  have hl := lv_entry ([.ref h0]) (n := 2) (Nat.le_of_ble_eq_true rfl)
  rw [lg_entry_eq]
  generalize (lg_sl ([.ref h0]) ++ List.replicate (2 - (lg_sl ([.ref h0])).length) Slot.unset).toArray = ls at hl ⊢
  have hl : lv_has ls 2 [(0, .ref h0)] := hl
  have k0 : (0 : Int32).toInt = 0 := by decide
  refine w_gen (A := A) hP (fun H locs hP hS => ?_)
  have km1 : (-1 : Int32).toInt = -1 := by decide
  have k1 : (1 : Int32).toInt = 1 := by decide
  refine lv_iconst (v := 0) hx hb d_NA_firstRepeated_0 (by decide) ?_
  refine lv_istore_n (lv' := [(1, .int 0), (0, .ref h0)]) hx hb d_NA_firstRepeated_1 rfl hl (by decide) rfl (fun ls hl => ?_)
  refine w_loop (σ := Int32) (fun u H locs ls => match u with | j2_l1 => (0 ≤ j2_l1.toInt ∧ j2_l1.toInt ≤ h0_length.toInt) ∧ va_P (dC, dI) cls [(h0, .inr (5, [.ref tr, .ref ns, .ref nz, .ref nt, .ref nv, .int h0_length])), (tr, .inr (1, [.ref tx, .int tr_length])), (tx, .inl (ctx, 2000, .inl gtx)), (ns, .inl (cns, nn, .inl gns)), (nz, .inl (cnz, nn, .inl gnz))] H ∧ va_D A [(h0, .inr (5, [.ref tr, .ref ns, .ref nz, .ref nt, .ref nv, .int h0_length])), (tr, .inr (1, [.ref tx, .int tr_length])), (tx, .inl (ctx, 2000, .inl gtx)), (ns, .inl (cns, nn, .inl gns)), (nz, .inl (cnz, nn, .inl gnz))] ∧ va_S A s.heap H locs ∧ lv_has ls 2 [(0, .ref h0), (1, .int j2_l1)]) (fun u => match u with | j2_l1 => (h0_length.toInt - j2_l1.toInt).toNat) ?_ 0 ⟨by (try dsimp only) <;> omega, hP, hD, hS, lv_sub hl [1, 0] rfl⟩
  intro N2 ih2 u H locs ls hN2 hI
  obtain ⟨j2_l1, rfl⟩ : ∃ z, z = u := ⟨_, rfl⟩
  obtain ⟨v1, hP, hD, hS, hl⟩ := hI
  have hN2 : (h0_length.toInt - j2_l1.toInt).toNat < N2 + 1 := hN2
  refine lv_iload_n hx hb d_NA_firstRepeated_2 rfl (lv_at hl 1 rfl) ?_
  refine lv_aload_n hx hb d_NA_firstRepeated_3 rfl (lv_at hl 0 rfl) ?_
  refine va_get (D := (dC, dI)) (ci := 5) (v := .int h0_length) (C := R_NA) (T := F_NA) (N := 6) hx hb hts i_NA hown hK hP 0 rfl rfl 5 (by decide) (hts _ kF_NA_27) (fun _ h9 => h9) rfl d_NA_firstRepeated_4 ?_
  refine lv_icmp_ge (tgt := 38) hx hb d_NA_firstRepeated_7 (by decide) (fun c7 => ?_) (fun c7 => ?_)
  · have q7 := leI c7
    refine lv_iconst (v := (-1)) hx hb d_NA_firstRepeated_38 (by decide) ?_
    have hP9 := hP.sub (ws' := [(h0, .inr (5, [.ref tr, .ref ns, .ref nz, .ref nt, .ref nv, .int h0_length])), (tr, .inr (1, [.ref tx, .int tr_length])), (tx, .inl (ctx, 2000, .inl gtx)), (ns, .inl (cns, nn, .inl gns)), (nz, .inl (cnz, nn, .inl gnz))]) [0, 1, 2, 3, 4] rfl
    have hD9 := hD.sub (ws' := [(h0, .inr (5, [.ref tr, .ref ns, .ref nz, .ref nt, .ref nv, .int h0_length])), (tr, .inr (1, [.ref tx, .int tr_length])), (tx, .inl (ctx, 2000, .inl gtx)), (ns, .inl (cns, nn, .inl gns)), (nz, .inl (cnz, nn, .inl gnz))]) [0, 1, 2, 3, 4] (by decide) rfl
    exact W.iret (v := ((-1))) hx hb hr (fun t ht hW => ⟨⟨(-1), (), rfl, (by (try dsimp only) <;> omega), by rw [ht]; exact hP9, va_K.moved hW.alike hK, hD9⟩, hS.F ht⟩) hS.2.2 d_NA_firstRepeated_39
  · have q7 := nleI c7
    refine lv_aload_n hx hb d_NA_firstRepeated_10 rfl (lv_at hl 0 rfl) ?_
    refine lv_aload_n hx hb d_NA_firstRepeated_11 rfl (lv_at hl 0 rfl) ?_
    refine va_get (D := (dC, dI)) (ci := 5) (v := .ref ns) (C := R_NA) (T := F_NA) (N := 6) hx hb hts i_NA hown hK hP 0 rfl rfl 1 (by decide) (hts _ kF_NA_13) (fun _ h9 => h9) rfl d_NA_firstRepeated_12 ?_
    refine lv_iload_n hx hb d_NA_firstRepeated_15 rfl (lv_at hl 1 rfl) ?_
    have g16 : vp_in j2_l1 nn := vp_in_iff.mpr ⟨by omega, by omega⟩
    refine va_iald hx hb hK hP 3 1 rfl rfl g16 d_NA_firstRepeated_16 ?_
    refine lv_topi (fun x1 ex1 => ?_)
    refine lv_aload_n hx hb d_NA_firstRepeated_17 rfl (lv_at hl 0 rfl) ?_
    refine va_get (D := (dC, dI)) (ci := 5) (v := .ref nz) (C := R_NA) (T := F_NA) (N := 6) hx hb hts i_NA hown hK hP 0 rfl rfl 2 (by decide) (hts _ kF_NA_17) (fun _ h9 => h9) rfl d_NA_firstRepeated_18 ?_
    refine lv_iload_n hx hb d_NA_firstRepeated_21 rfl (lv_at hl 1 rfl) ?_
    have g22 : vp_in j2_l1 nn := vp_in_iff.mpr ⟨by omega, by omega⟩
    refine va_iald hx hb hK hP 4 2 rfl rfl g22 d_NA_firstRepeated_22 ?_
    refine lv_topi (fun x2 ex2 => ?_)
    have tx2 := hz j2_l1.toNatClampNeg (by have := i32_clamp (x := j2_l1) (by omega); omega)
    rw [← ex2] at tx2
    have hPc := hP.sub (ws' := [(h0, .inr (5, [.ref tr, .ref ns, .ref nz, .ref nt, .ref nv, .int h0_length])), (tr, .inr (1, [.ref tx, .int tr_length])), (tx, .inl (ctx, 2000, .inl gtx)), (ns, .inl (cns, nn, .inl gns)), (nz, .inl (cnz, nn, .inl gnz))]) [0, 1, 2, 3, 4] rfl
    have hDc := hD.sub (ws' := [(h0, .inr (5, [.ref tr, .ref ns, .ref nz, .ref nt, .ref nv, .int h0_length])), (tr, .inr (1, [.ref tx, .int tr_length])), (tx, .inl (ctx, 2000, .inl gtx)), (ns, .inl (cns, nn, .inl gns)), (nz, .inl (cnz, nn, .inl gnz))]) [0, 1, 2, 3, 4] (by decide) rfl
    have hKc := hK.sub (tys' := [(ctx, .byte), (cns, .int), (cnz, .int)]) [0, 1, 2] rfl
    have hFc := va_free (wc := [(h0, .inr (5, [.ref tr, .ref ns, .ref nz, .ref nt, .ref nv, .int h0_length])), (tr, .inr (1, [.ref tx, .int tr_length])), (tx, .inl (ctx, 2000, .inl gtx)), (ns, .inl (cns, nn, .inl gns)), (nz, .inl (cnz, nn, .inl gnz))]) hD hS hA [0, 1, 2, 3, 4] rfl
    refine va_calli (va_runV (As := [.int x1, .int x2]) (rest := []) ⟨hx, hb, hml, hown, hts⟩ (c_NA_indexOf l dC dI H.size h0 tr ns nz nt nv tx ctx cns cnz h0_length tr_length gtx nn gns gnz (b_tr_length) x1 x2 (by (try dsimp only) <;> omega) (by (try dsimp only) <;> omega)) (cwV 2 hts (gV kM_NA_37 kV_NA_indexOf kS_NA_indexOf kI_NA kC_NA_indexOf) rfl rfl rfl (by decide +kernel) ⟨Nat.le_of_ble_eq_true rfl, Nat.le_of_ble_eq_true rfl⟩) ⟨fun a U g mk z => by obtain ⟨z0, z1, zP, zK, zD⟩ := z; exact ⟨z0, z1, zP, va_K.moved (u := U) (U := U.calling g mk a) (Vm.Alike.refl U.vm) zK, zD⟩, va_recv hKc hPc (ci := 5) (q0 := 0) rfl rfl, fun U hU hW => ⟨rfl, by rw [hU], by rw [hU]; exact hPc, va_K.moved hW.alike hKc, hDc.weaken (fun _ _ _ _ => trivial)⟩⟩ rfl rfl hl.1 rfl (lv_room (Nat.le_of_ble_eq_true rfl)) d_NA_firstRepeated_23 ⟨(Nat.zero_le _), (Nat.zero_le _)⟩) hS (fun q _ h => hFc q h) hFc (fun r3 u t H1 locs ht hvm hw hB hz1 hk1 hS => ?_)
    try dsimp only at hw
    have xr3 := hw
    try clear hw
    obtain ⟨hP1, hK1, hD1⟩ := hB
    rw [ht] at hP1
    obtain ⟨hP, hD⟩ := va_join (wr := []) (w1 := [(h0, .inr (5, [.ref tr, .ref ns, .ref nz, .ref nt, .ref nv, .int h0_length])), (tr, .inr (1, [.ref tx, .int tr_length])), (tx, .inl (ctx, 2000, .inl gtx)), (ns, .inl (cns, nn, .inl gns)), (nz, .inl (cnz, nn, .inl gnz))]) hP hD [0, 1, 2, 3, 4] [] rfl rfl (by decide) (by decide) hk1 hFc hP1 hD1
    clear hPc hDc hKc hFc hz1 hk1 hP1 hK1 hD1
    generalize H1 = H at hP hS ⊢
    have hP : va_P (dC, dI) cls [(h0, .inr (5, [.ref tr, .ref ns, .ref nz, .ref nt, .ref nv, .int h0_length])), (tr, .inr (1, [.ref tx, .int tr_length])), (tx, .inl (ctx, 2000, .inl gtx)), (ns, .inl (cns, nn, .inl gns)), (nz, .inl (cnz, nn, .inl gnz))] H := hP
    have hD : va_D A [(h0, .inr (5, [.ref tr, .ref ns, .ref nz, .ref nt, .ref nv, .int h0_length])), (tr, .inr (1, [.ref tx, .int tr_length])), (tx, .inl (ctx, 2000, .inl gtx)), (ns, .inl (cns, nn, .inl gns)), (nz, .inl (cnz, nn, .inl gnz))] := hD
    refine lv_iload_n hx hb d_NA_firstRepeated_26 rfl (lv_at hl 1 rfl) ?_
    refine lv_icmp_ge (tgt := 32) hx hb d_NA_firstRepeated_27 (by decide) (fun c27 => ?_) (fun c27 => ?_)
    · have q27 := leI c27
      obtain ⟨x4, ex4⟩ : ∃ z : Int32, z = j2_l1 + 1 := ⟨_, rfl⟩
      have tx4 : x4.toInt = j2_l1.toInt + 1 := by have z := i32_add ex4 (by omega) (by omega); omega
      refine lv_iinc (v := x4) (lv' := [(1, .int x4), (0, .ref h0)]) hx hb d_NA_firstRepeated_32 hl (k := 1) rfl (by rw [ex4]; rfl) (by decide) rfl (fun ls hl => ?_)
      refine lv_goto (tgt := 2) hx hb d_NA_firstRepeated_35 (by decide) ?_
      exact ih2 x4 _ _ _ (by show (h0_length.toInt - x4.toInt).toNat < N2; omega) ⟨by (try dsimp only) <;> omega, hP, hD, hS, lv_sub hl [1, 0] rfl⟩
    · have q27 := nleI c27
      refine lv_iload_n hx hb d_NA_firstRepeated_30 rfl (lv_at hl 1 rfl) ?_
      have hP9 := hP.sub (ws' := [(h0, .inr (5, [.ref tr, .ref ns, .ref nz, .ref nt, .ref nv, .int h0_length])), (tr, .inr (1, [.ref tx, .int tr_length])), (tx, .inl (ctx, 2000, .inl gtx)), (ns, .inl (cns, nn, .inl gns)), (nz, .inl (cnz, nn, .inl gnz))]) [0, 1, 2, 3, 4] rfl
      have hD9 := hD.sub (ws' := [(h0, .inr (5, [.ref tr, .ref ns, .ref nz, .ref nt, .ref nv, .int h0_length])), (tr, .inr (1, [.ref tx, .int tr_length])), (tx, .inl (ctx, 2000, .inl gtx)), (ns, .inl (cns, nn, .inl gns)), (nz, .inl (cnz, nn, .inl gnz))]) [0, 1, 2, 3, 4] (by decide) rfl
      exact W.iret (v := j2_l1) hx hb hr (fun t ht hW => ⟨⟨j2_l1, (), rfl, (by (try dsimp only) <;> omega), by rw [ht]; exact hP9, va_K.moved hW.alike hK, hD9⟩, hS.F ht⟩) hS.2.2 d_NA_firstRepeated_31
abbrev b_BR_holds : ByteArray := prog_3_method_11_code
def y_BR_holds : MethodName := ⟨R_BR, "holds", "(ILjava/lang/String;)Z"⟩
abbrev w_BR_holds : List Cond := .code y_BR_holds b_BR_holds 4 (Option.some .boolean) :: lw_g
theorem kC_BR_holds : Cond.code y_BR_holds b_BR_holds 4 (Option.some .boolean) ∈ lw_g := in_g 819 (by decide +kernel) rfl
theorem d_BR_holds_0 : decode b_BR_holds 0 = .ok (.iconst 0, 1) := by decide +kernel
theorem d_BR_holds_1 : decode b_BR_holds 1 = .ok (.istore_n 3, 1) := by decide +kernel
theorem d_BR_holds_2 : decode b_BR_holds 2 = .ok (.iload_n 3, 1) := by decide +kernel
theorem d_BR_holds_3 : decode b_BR_holds 3 = .ok (.aload_n 2, 1) := by decide +kernel
theorem d_BR_holds_4 : decode b_BR_holds 4 = .ok (.invokevirtual 27, 3) := by decide +kernel
theorem d_BR_holds_7 : decode b_BR_holds 7 = .ok (.if_icmp .ge 26, 3) := by decide +kernel
theorem d_BR_holds_10 : decode b_BR_holds 10 = .ok (.aload_n 0, 1) := by decide +kernel
theorem d_BR_holds_11 : decode b_BR_holds 11 = .ok (.iload_n 1, 1) := by decide +kernel
theorem d_BR_holds_12 : decode b_BR_holds 12 = .ok (.iload_n 3, 1) := by decide +kernel
theorem d_BR_holds_13 : decode b_BR_holds 13 = .ok (.iadd, 1) := by decide +kernel
theorem d_BR_holds_14 : decode b_BR_holds 14 = .ok (.invokevirtual 36, 3) := by decide +kernel
theorem d_BR_holds_17 : decode b_BR_holds 17 = .ok (.aload_n 2, 1) := by decide +kernel
theorem d_BR_holds_18 : decode b_BR_holds 18 = .ok (.iload_n 3, 1) := by decide +kernel
theorem d_BR_holds_19 : decode b_BR_holds 19 = .ok (.invokevirtual 32, 3) := by decide +kernel
theorem d_BR_holds_22 : decode b_BR_holds 22 = .ok (.if_icmp .eq 5, 3) := by decide +kernel
theorem d_BR_holds_25 : decode b_BR_holds 25 = .ok (.iconst 0, 1) := by decide +kernel
theorem d_BR_holds_26 : decode b_BR_holds 26 = .ok (.ireturn, 1) := by decide +kernel
theorem d_BR_holds_27 : decode b_BR_holds 27 = .ok (.iinc 3 1, 3) := by decide +kernel
theorem d_BR_holds_30 : decode b_BR_holds 30 = .ok (.goto (-28), 3) := by decide +kernel
theorem d_BR_holds_33 : decode b_BR_holds 33 = .ok (.iconst 1, 1) := by decide +kernel
theorem d_BR_holds_34 : decode b_BR_holds 34 = .ok (.ireturn, 1) := by decide +kernel
theorem kM_BR_27 : Cond.methodLink R_BR 27 y_JS_length ∈ lw_g := in_g 820 (by decide +kernel) rfl
theorem kV_JS_length : Cond.instanceMethod y_JS_length ∈ lw_g := in_g 807 (by decide +kernel) rfl
theorem kS_JS_length : Cond.selects R_JS y_JS_length y_JS_length ∈ lw_g := in_g 808 (by decide +kernel) rfl
theorem kM_BR_32 : Cond.methodLink R_BR 32 y_JS_charAt ∈ lw_g := in_g 822 (by decide +kernel) rfl
theorem kV_JS_charAt : Cond.instanceMethod y_JS_charAt ∈ lw_g := in_g 823 (by decide +kernel) rfl
theorem kS_JS_charAt : Cond.selects R_JS y_JS_charAt y_JS_charAt ∈ lw_g := in_g 824 (by decide +kernel) rfl
abbrev at_BR_holds (dC : Nat → ClassId) (dI : Nat → Nat → Nat) (h0 ax : Nat) (cax : ClassId) (h0_length : Int32) (nax : Nat) (gax : Nat → Int32) (A : Nat → Prop) (u : Unit) (t : State) : Prop := match u with | _ => va_P (dC, dI) cls [(h0, .inr (1, [.ref ax, .int h0_length])), (ax, .inl (cax, nax, .inl gax))] t.heap ∧ va_K (dC, dI) cls [(cax, .byte)] t ∧ va_D A [(h0, .inr (1, [.ref ax, .int h0_length])), (ax, .inl (cax, nax, .inl gax))]
set_option maxHeartbeats 4000000 in
set_option maxRecDepth 100000 in
theorem c_BR_holds (l : Launch) (dC : Nat → ClassId) (dI : Nat → Nat → Nat) (sz : Nat) (sa : Nat → Nat) (wt wv : Nat) (wb : List Int32) (h0 ax : Nat) (cax : ClassId) (h0_length : Int32) (nax : Nat) (gax : Nat → Int32)   (p0 : Int32)  (hbr : 0 ≤ h0_length.toInt ∧ h0_length.toInt ≤ nax ∧ nax < 2147483648) (hbl : (wb.length : Int) < 65536) (hp : 0 ≤ p0.toInt ∧ p0.toInt ≤ 65536) : Met l y_BR_holds w_BR_holds ({ frames := 4, cells := 0, slots := 0, locals := 85 }) (va_Pc [.ref h0, .int p0, .ref wt] (fun U => U.heap.size = sz ∧ va_P (dC, dI) cls [(h0, .inr (1, [.ref ax, .int h0_length])), (ax, .inl (cax, nax, .inl gax))] U.heap ∧ va_K (dC, dI) cls [(cax, .byte)] U ∧ va_D (fun _ => True) [(h0, .inr (1, [.ref ax, .int h0_length])), (ax, .inl (cax, nax, .inl gax))] ∧ sw sa (va_A [(h0, .inr (1, [.ref ax, .int h0_length])), (ax, .inl (cax, nax, .inl gax))] sz) U U.heap ∧ sw_str wt wv wb (va_A [(h0, .inr (1, [.ref ax, .int h0_length])), (ax, .inl (cax, nax, .inl gax))] sz) U U.heap)) (va_Qi (fun (r : Int32) (u : Unit) => match u with | _ => (r = 0 ∨ r = 1) ∧ (r = 1 → wb.length = 0 ∨ p0.toInt + wb.length ≤ h0_length.toInt)) (at_BR_holds dC dI h0 ax cax h0_length nax gax (va_A [(h0, .inr (1, [.ref ax, .int h0_length])), (ax, .inl (cax, nax, .inl gax))] sz)) (va_A [(h0, .inr (1, [.ref ax, .int h0_length])), (ax, .inl (cax, nax, .inl gax))] sz)) 0 0 (va_A [(h0, .inr (1, [.ref ax, .int h0_length])), (ax, .inl (cax, nax, .inl gax))] sz) := by
  refine Met.ofW (cc := b_BR_holds) (maxL := 4) (ret := (Option.some .boolean)) (by decide) rfl ?_
  intro p e s m args below meth c s₁ B hml hv
  obtain ⟨rfl, hsz, hP, hK, hD0, hSW, hR0⟩ := hv
  have hx := B.exec
  have hb := B.bytes
  have hr := B.returns
  have hts0 := atoms_spec (ws := w_BR_holds) B.pre
  have hts : ∀ w ∈ lw_g, w.before _ s = true := fun w h => hts0 w (List.mem_cons_of_mem _ h)
  have hown : s.vm.findClass R_BR = some m.cls := findClass_of_methodNamed B.named
  have hlocks := B.notSynchronized
  clear hts0
  subst hsz
  have hD := hD0.self (sz := s.heap.size)
  generalize hAe : va_A [(h0, .inr (1, [.ref ax, .int h0_length])), (ax, .inl (cax, nax, .inl gax))] s.heap.size = A at hD hSW hR0 ⊢
  have hA : ∀ q : Nat, s.heap.size ≤ q → A q := fun q h => by rw [← hAe]; exact Or.inr h
  clear hAe
  have hP : va_P (dC, dI) cls [(h0, .inr (1, [.ref ax, .int h0_length])), (ax, .inl (cax, nax, .inl gax))] s.heap := hP
  have hl := lv_entry ([.ref h0, .int p0, .ref wt]) (n := 4) (Nat.le_of_ble_eq_true rfl)
  rw [lg_entry_eq]
  generalize (lg_sl ([.ref h0, .int p0, .ref wt]) ++ List.replicate (4 - (lg_sl ([.ref h0, .int p0, .ref wt])).length) Slot.unset).toArray = ls at hl ⊢
  have hl : lv_has ls 4 [(0, .ref h0), (1, .int p0), (2, .ref wt)] := hl
  have k0 : (0 : Int32).toInt = 0 := by decide
  refine w_gen (A := A) hP (fun H locs hP hS => ?_)
  have k1 : (1 : Int32).toInt = 1 := by decide
  have lo_p0 := i32_lo p0
  have hi_p0 := i32_hi p0
  refine lv_iconst (v := 0) hx hb d_BR_holds_0 (by decide) ?_
  refine lv_istore_n (lv' := [(3, .int 0), (0, .ref h0), (1, .int p0), (2, .ref wt)]) hx hb d_BR_holds_1 rfl hl (by decide) rfl (fun ls hl => ?_)
  refine w_loop (σ := Int32) (fun u H locs ls => match u with | j2_l3 => (0 ≤ j2_l3.toInt ∧ j2_l3.toInt ≤ 65536) ∧ (j2_l3.toInt ≤ wb.length) ∧ (j2_l3.toInt = 0 ∨ p0.toInt + j2_l3.toInt ≤ h0_length.toInt) ∧ va_P (dC, dI) cls [(h0, .inr (1, [.ref ax, .int h0_length])), (ax, .inl (cax, nax, .inl gax))] H ∧ va_D A [(h0, .inr (1, [.ref ax, .int h0_length])), (ax, .inl (cax, nax, .inl gax))] ∧ va_S A s.heap H locs ∧ lv_has ls 4 [(0, .ref h0), (1, .int p0), (2, .ref wt), (3, .int j2_l3)]) (fun u => match u with | j2_l3 => ((wb.length : Int) - j2_l3.toInt).toNat) ?_ 0 ⟨by (try dsimp only) <;> omega, by (try dsimp only) <;> omega, by (try dsimp only) <;> omega, hP, hD, hS, lv_sub hl [1, 2, 3, 0] rfl⟩
  intro N2 ih2 u H locs ls hN2 hI
  obtain ⟨j2_l3, rfl⟩ : ∃ z, z = u := ⟨_, rfl⟩
  obtain ⟨b_j2_l3, v1, v2, hP, hD, hS, hl⟩ := hI
  have hN2 : ((wb.length : Int) - j2_l3.toInt).toNat < N2 + 1 := hN2
  refine lv_iload_n hx hb d_BR_holds_2 rfl (lv_at hl 3 rfl) ?_
  refine lv_aload_n hx hb d_BR_holds_3 rfl (lv_at hl 2 rfl) ?_
  have hPc := hP.sub (ws' := []) [] rfl
  have hDc := hD.sub (ws' := []) [] (by decide) rfl
  have hKc := hK.sub (tys' := []) [] rfl
  have hFc := va_free (wc := []) hD hS hA [] rfl
  refine va_calli (va_runV (As := []) (rest := [.int j2_l3]) ⟨hx, hb, hml, hown, hts⟩ (c_JS_length l dC dI H.size sa wt wv wb (by omega)) (cwV 0 hts (gV kM_BR_27 kV_JS_length kS_JS_length kI_JS kC_JS_length) rfl rfl rfl (by decide +kernel) ⟨Nat.le_of_ble_eq_true rfl, Nat.le_of_ble_eq_true rfl⟩) ⟨fun a U g mk z => by obtain ⟨z0, z1, zP, zK, zD, zS, zR0⟩ := z; exact ⟨z0, z1, zP, va_K.moved (u := U) (U := U.calling g mk a) (Vm.Alike.refl U.vm) zK, zD, sw.same (u := U) (U := U.calling g mk a) rfl zS, zR0.moved (u := U) (U := U.calling g mk a) (Vm.Alike.refl U.vm)⟩, so_recv (hR0.1) hS, fun U hU hW => ⟨rfl, by rw [hU], by rw [hU]; exact hPc, va_K.moved hW.alike hKc, hDc.weaken (fun _ _ _ _ => trivial), hSW.call hS hFc hW hU, (hR0).call hS hFc hW hU⟩⟩ rfl rfl hl.1 rfl (lv_room (Nat.le_of_ble_eq_true rfl)) d_BR_holds_4 ⟨(Nat.zero_le _), (Nat.zero_le _)⟩) hS (fun q _ h => hFc q h) hFc (fun r1 u t H1 locs ht hvm hw hB hz1 hk1 hS => ?_)
  try dsimp only at hw
  have xr1 := hw
  try clear hw
  obtain ⟨hP1, hK1, hD1⟩ := hB
  rw [ht] at hP1
  obtain ⟨hP, hD⟩ := va_join (wr := [(h0, .inr (1, [.ref ax, .int h0_length])), (ax, .inl (cax, nax, .inl gax))]) (w1 := []) hP hD [] [0, 1] rfl rfl (by decide) (by decide) hk1 hFc hP1 hD1
  clear hPc hDc hKc hFc hz1 hk1 hP1 hK1 hD1
  generalize H1 = H at hP hS ⊢
  have hP : va_P (dC, dI) cls [(h0, .inr (1, [.ref ax, .int h0_length])), (ax, .inl (cax, nax, .inl gax))] H := hP
  have hD : va_D A [(h0, .inr (1, [.ref ax, .int h0_length])), (ax, .inl (cax, nax, .inl gax))] := hD
  refine lv_icmp_ge (tgt := 33) hx hb d_BR_holds_7 (by decide) (fun c7 => ?_) (fun c7 => ?_)
  · have q7 := leI c7
    refine lv_iconst (v := 1) hx hb d_BR_holds_33 (by decide) ?_
    have hP9 := hP.sub (ws' := [(h0, .inr (1, [.ref ax, .int h0_length])), (ax, .inl (cax, nax, .inl gax))]) [0, 1] rfl
    have hD9 := hD.sub (ws' := [(h0, .inr (1, [.ref ax, .int h0_length])), (ax, .inl (cax, nax, .inl gax))]) [0, 1] (by decide) rfl
    exact W.zret (v := 1) hx hb hr (zn01 (Or.inr rfl)) (fun t ht hW => ⟨⟨1, (), rfl, ⟨Or.inr rfl, fun _ => by omega⟩, by rw [ht]; exact hP9, va_K.moved hW.alike hK, hD9⟩, hS.F ht⟩) hS.2.2 d_BR_holds_34
  · have q7 := nleI c7
    refine lv_aload_n hx hb d_BR_holds_10 rfl (lv_at hl 0 rfl) ?_
    refine lv_iload_n hx hb d_BR_holds_11 rfl (lv_at hl 1 rfl) ?_
    refine lv_iload_n hx hb d_BR_holds_12 rfl (lv_at hl 3 rfl) ?_
    refine lv_iadd hx hb d_BR_holds_13 ?_
    refine lv_topi (fun x2 ex2 => ?_)
    have tx2 : x2.toInt = p0.toInt + j2_l3.toInt := by have z := i32_add ex2 (by omega) (by omega); omega
    have hPc := hP.sub (ws' := [(h0, .inr (1, [.ref ax, .int h0_length])), (ax, .inl (cax, nax, .inl gax))]) [0, 1] rfl
    have hDc := hD.sub (ws' := [(h0, .inr (1, [.ref ax, .int h0_length])), (ax, .inl (cax, nax, .inl gax))]) [0, 1] (by decide) rfl
    have hKc := hK.sub (tys' := [(cax, .byte)]) [0] rfl
    have hFc := va_free (wc := [(h0, .inr (1, [.ref ax, .int h0_length])), (ax, .inl (cax, nax, .inl gax))]) hD hS hA [0, 1] rfl
    refine va_calli (va_runV (As := [.int x2]) (rest := []) ⟨hx, hb, hml, hown, hts⟩ (c_BR_at l dC dI h0 ax H.size cax nax h0_length gax (by omega) (by omega) (by omega) x2) (cwV 1 hts (gV kM_BR_36 kV_BR_at kS_BR_at kI_BR kC_BR_at) rfl rfl rfl (by decide +kernel) ⟨Nat.le_of_ble_eq_true rfl, Nat.le_of_ble_eq_true rfl⟩) ⟨fun a U g mk z => by obtain ⟨z0, z1, zP, zK, zD⟩ := z; exact ⟨z0, z1, zP, va_K.moved (u := U) (U := U.calling g mk a) (Vm.Alike.refl U.vm) zK, zD⟩, va_recv hKc hPc (ci := 1) (q0 := 0) rfl rfl, fun U hU hW => ⟨rfl, by rw [hU], by rw [hU]; exact hPc, va_K.moved hW.alike hKc, hDc.weaken (fun _ _ _ _ => trivial)⟩⟩ rfl rfl hl.1 rfl (lv_room (Nat.le_of_ble_eq_true rfl)) d_BR_holds_14 ⟨(Nat.zero_le _), (Nat.zero_le _)⟩) hS (fun q _ h => hFc q h) hFc (fun r3 u t H1 locs ht hvm hw hB hz1 hk1 hS => ?_)
    obtain ⟨er3, rfl⟩ := hw
    have tr3 := br_get_in gax h0_length x2
    rw [← er3] at tr3
    obtain ⟨hP1, hK1, hD1⟩ := hB
    rw [ht] at hP1
    obtain ⟨hP, hD⟩ := va_join (wr := []) (w1 := [(h0, .inr (1, [.ref ax, .int h0_length])), (ax, .inl (cax, nax, .inl gax))]) hP hD [0, 1] [] rfl rfl (by decide) (by decide) hk1 hFc hP1 hD1
    clear hPc hDc hKc hFc hz1 hk1 hP1 hK1 hD1
    generalize H1 = H at hP hS ⊢
    have hP : va_P (dC, dI) cls [(h0, .inr (1, [.ref ax, .int h0_length])), (ax, .inl (cax, nax, .inl gax))] H := hP
    have hD : va_D A [(h0, .inr (1, [.ref ax, .int h0_length])), (ax, .inl (cax, nax, .inl gax))] := hD
    refine lv_aload_n hx hb d_BR_holds_17 rfl (lv_at hl 2 rfl) ?_
    refine lv_iload_n hx hb d_BR_holds_18 rfl (lv_at hl 3 rfl) ?_
    have hPc := hP.sub (ws' := []) [] rfl
    have hDc := hD.sub (ws' := []) [] (by decide) rfl
    have hKc := hK.sub (tys' := []) [] rfl
    have hFc := va_free (wc := []) hD hS hA [] rfl
    refine va_calli (va_runV (As := [.int j2_l3]) (rest := [.int r3]) ⟨hx, hb, hml, hown, hts⟩ (c_JS_charAt l dC dI H.size sa wt wv wb j2_l3 (by omega) (by omega)) (cwV 1 hts (gV kM_BR_32 kV_JS_charAt kS_JS_charAt kI_JS kC_JS_charAt) rfl rfl rfl (by decide +kernel) ⟨Nat.le_of_ble_eq_true rfl, Nat.le_of_ble_eq_true rfl⟩) ⟨fun a U g mk z => by obtain ⟨z0, z1, zP, zK, zD, zS, zR0⟩ := z; exact ⟨z0, z1, zP, va_K.moved (u := U) (U := U.calling g mk a) (Vm.Alike.refl U.vm) zK, zD, sw.same (u := U) (U := U.calling g mk a) rfl zS, zR0.moved (u := U) (U := U.calling g mk a) (Vm.Alike.refl U.vm)⟩, so_recv (hR0.1) hS, fun U hU hW => ⟨rfl, by rw [hU], by rw [hU]; exact hPc, va_K.moved hW.alike hKc, hDc.weaken (fun _ _ _ _ => trivial), hSW.call hS hFc hW hU, (hR0).call hS hFc hW hU⟩⟩ rfl rfl hl.1 rfl (lv_room (Nat.le_of_ble_eq_true rfl)) d_BR_holds_19 ⟨(Nat.zero_le _), (Nat.zero_le _)⟩) hS (fun q _ h => hFc q h) hFc (fun r4 u t H1 locs ht hvm hw hB hz1 hk1 hS => ?_)
    try dsimp only at hw
    have xr4 := hw
    try clear hw
    have y19 : 0 ≤ r4.toInt := by rw [xr4]; exact (i32_and255 _).1
    obtain ⟨hP1, hK1, hD1⟩ := hB
    rw [ht] at hP1
    obtain ⟨hP, hD⟩ := va_join (wr := [(h0, .inr (1, [.ref ax, .int h0_length])), (ax, .inl (cax, nax, .inl gax))]) (w1 := []) hP hD [] [0, 1] rfl rfl (by decide) (by decide) hk1 hFc hP1 hD1
    clear hPc hDc hKc hFc hz1 hk1 hP1 hK1 hD1
    generalize H1 = H at hP hS ⊢
    have hP : va_P (dC, dI) cls [(h0, .inr (1, [.ref ax, .int h0_length])), (ax, .inl (cax, nax, .inl gax))] H := hP
    have hD : va_D A [(h0, .inr (1, [.ref ax, .int h0_length])), (ax, .inl (cax, nax, .inl gax))] := hD
    refine lv_icmp_eq (tgt := 27) hx hb d_BR_holds_22 (by decide) (fun c22 => ?_) (fun c22 => ?_)
    · have q22 := eqI c22
      have z27 := br_get_lt er3 (by omega)
      obtain ⟨x5, ex5⟩ : ∃ z : Int32, z = j2_l3 + 1 := ⟨_, rfl⟩
      have tx5 : x5.toInt = j2_l3.toInt + 1 := by have z := i32_add ex5 (by omega) (by omega); omega
      refine lv_iinc (v := x5) (lv' := [(3, .int x5), (0, .ref h0), (1, .int p0), (2, .ref wt)]) hx hb d_BR_holds_27 hl (k := 3) rfl (by rw [ex5]; rfl) (by decide) rfl (fun ls hl => ?_)
      refine lv_goto (tgt := 2) hx hb d_BR_holds_30 (by decide) ?_
      exact ih2 x5 _ _ _ (by show ((wb.length : Int) - x5.toInt).toNat < N2; omega) ⟨by (try dsimp only) <;> omega, by (try dsimp only) <;> omega, by (try dsimp only) <;> omega, hP, hD, hS, lv_sub hl [1, 2, 3, 0] rfl⟩
    · have q22 := neI c22
      refine lv_iconst (v := 0) hx hb d_BR_holds_25 (by decide) ?_
      have hP9 := hP.sub (ws' := [(h0, .inr (1, [.ref ax, .int h0_length])), (ax, .inl (cax, nax, .inl gax))]) [0, 1] rfl
      have hD9 := hD.sub (ws' := [(h0, .inr (1, [.ref ax, .int h0_length])), (ax, .inl (cax, nax, .inl gax))]) [0, 1] (by decide) rfl
      exact W.zret (v := 0) hx hb hr (zn01 (Or.inl rfl)) (fun t ht hW => ⟨⟨0, (), rfl, ⟨Or.inl rfl, fun z => absurd z (by decide)⟩, by rw [ht]; exact hP9, va_K.moved hW.alike hK, hD9⟩, hS.F ht⟩) hS.2.2 d_BR_holds_26

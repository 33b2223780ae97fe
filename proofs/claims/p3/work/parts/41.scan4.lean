/-! Scanner: begin -/
theorem tkP_next {L : Int} {len k : Nat} {p z : Int32} {v : Int64} {ss : Nat → Option Nat} {sp sz : Nat → Int32} {sv : Nat → Int64} (h : tkP L len ss sp sz sv) (hc : len = 0 ∨ ∃ k0, ss (len - 1) = some k0 ∧ k0 ≠ 0 ∧ k0 ≠ 1 ∧ (sp (len - 1)).toInt + (sz (len - 1)).toInt ≤ p.toInt) (hk : k < 55) (hp : 0 ≤ p.toInt ∧ 0 ≤ z.toInt ∧ p.toInt + z.toInt ≤ L) (ht : tkT k z.toInt v.toInt) :
    tkP L ((len : Int) + 1) (va_up ss len (some k)) (upd sp len p) (upd sz len z) (vp_updL sv len v) := by
  intro i hi
  by_cases e : i = len
  · subst e
    refine ⟨k, hk, va_us, ?_⟩
    rw [pk_us, pk_us, pk_uLs]
    exact ⟨hp.1, hp.2.1, hp.2.2, ht, fun q => by omega⟩
  · obtain ⟨k1, a1, a2, a3, a4, a5, a6, a7⟩ := h i (by omega)
    refine ⟨k1, a1, by rw [va_un e]; exact a2, ?_⟩
    rw [pk_un e, pk_un e, pk_uLn e]
    refine ⟨a3, a4, a5, a6, fun q => ?_⟩
    by_cases e2 : i + 1 = len
    · rw [e2, pk_us]
      rcases hc with c | ⟨k0, c1, c2, c3, c4⟩
      · omega
      · have e3 : len - 1 = i := by omega
        rw [e3] at c1 c4
        rw [a2] at c1
        have e4 := Option.some.inj c1
        rw [e4]
        exact ⟨c2, c3, c4⟩
    · rw [pk_un e2]
      exact a7 (by omega)
abbrev b_SC_begin : ByteArray := prog_10_method_2_code
def y_SC_begin : MethodName := ⟨R_SC, "begin", "()V"⟩
abbrev w_SC_begin : List Cond := .code y_SC_begin b_SC_begin 2 none :: lw_g
theorem kC_SC_begin : Cond.code y_SC_begin b_SC_begin 2 none ∈ lw_g := in_g 777 (by decide +kernel) rfl
theorem d_SC_begin_0 : decode b_SC_begin 0 = .ok (.aload_n 0, 1) := by decide +kernel
theorem d_SC_begin_1 : decode b_SC_begin 1 = .ok (.iconst 0, 1) := by decide +kernel
theorem d_SC_begin_2 : decode b_SC_begin 2 = .ok (.putfield 39, 3) := by decide +kernel
theorem d_SC_begin_5 : decode b_SC_begin 5 = .ok (.aload_n 0, 1) := by decide +kernel
theorem d_SC_begin_6 : decode b_SC_begin 6 = .ok (.iconst 0, 1) := by decide +kernel
theorem d_SC_begin_7 : decode b_SC_begin 7 = .ok (.putfield 43, 3) := by decide +kernel
theorem d_SC_begin_10 : decode b_SC_begin 10 = .ok (.aload_n 0, 1) := by decide +kernel
theorem d_SC_begin_11 : decode b_SC_begin 11 = .ok (.getstatic 46, 3) := by decide +kernel
theorem d_SC_begin_14 : decode b_SC_begin 14 = .ok (.putfield 15, 3) := by decide +kernel
theorem d_SC_begin_17 : decode b_SC_begin 17 = .ok (.aload_n 0, 1) := by decide +kernel
theorem d_SC_begin_18 : decode b_SC_begin 18 = .ok (.iconst 0, 1) := by decide +kernel
theorem d_SC_begin_19 : decode b_SC_begin 19 = .ok (.putfield 49, 3) := by decide +kernel
theorem d_SC_begin_22 : decode b_SC_begin 22 = .ok (.iconst 0, 1) := by decide +kernel
theorem d_SC_begin_23 : decode b_SC_begin 23 = .ok (.istore_n 1, 1) := by decide +kernel
theorem d_SC_begin_24 : decode b_SC_begin 24 = .ok (.iload_n 1, 1) := by decide +kernel
theorem d_SC_begin_25 : decode b_SC_begin 25 = .ok (.sipush 2000, 3) := by decide +kernel
theorem d_SC_begin_28 : decode b_SC_begin 28 = .ok (.if_icmp .gt 41, 3) := by decide +kernel
theorem d_SC_begin_31 : decode b_SC_begin 31 = .ok (.aload_n 0, 1) := by decide +kernel
theorem d_SC_begin_32 : decode b_SC_begin 32 = .ok (.getfield 15, 3) := by decide +kernel
theorem d_SC_begin_35 : decode b_SC_begin 35 = .ok (.getstatic 9, 3) := by decide +kernel
theorem d_SC_begin_38 : decode b_SC_begin 38 = .ok (.if_acmp .eq 31, 3) := by decide +kernel
theorem d_SC_begin_41 : decode b_SC_begin 41 = .ok (.aload_n 0, 1) := by decide +kernel
theorem d_SC_begin_42 : decode b_SC_begin 42 = .ok (.getfield 15, 3) := by decide +kernel
theorem d_SC_begin_45 : decode b_SC_begin 45 = .ok (.getstatic 52, 3) := by decide +kernel
theorem d_SC_begin_48 : decode b_SC_begin 48 = .ok (.if_acmp .eq 21, 3) := by decide +kernel
theorem d_SC_begin_51 : decode b_SC_begin 51 = .ok (.aload_n 0, 1) := by decide +kernel
theorem d_SC_begin_52 : decode b_SC_begin 52 = .ok (.invokevirtual 55, 3) := by decide +kernel
theorem d_SC_begin_55 : decode b_SC_begin 55 = .ok (.aload_n 0, 1) := by decide +kernel
theorem d_SC_begin_56 : decode b_SC_begin 56 = .ok (.invokevirtual 58, 3) := by decide +kernel
theorem d_SC_begin_59 : decode b_SC_begin 59 = .ok (.aload_n 0, 1) := by decide +kernel
theorem d_SC_begin_60 : decode b_SC_begin 60 = .ok (.invokevirtual 61, 3) := by decide +kernel
theorem d_SC_begin_63 : decode b_SC_begin 63 = .ok (.iinc 1 1, 3) := by decide +kernel
theorem d_SC_begin_66 : decode b_SC_begin 66 = .ok (.goto (-42), 3) := by decide +kernel
theorem d_SC_begin_69 : decode b_SC_begin 69 = .ok (.aload_n 0, 1) := by decide +kernel
theorem d_SC_begin_70 : decode b_SC_begin 70 = .ok (.iconst (-1), 1) := by decide +kernel
theorem d_SC_begin_71 : decode b_SC_begin 71 = .ok (.putfield 64, 3) := by decide +kernel
theorem d_SC_begin_74 : decode b_SC_begin 74 = .ok (.aload_n 0, 1) := by decide +kernel
theorem d_SC_begin_75 : decode b_SC_begin 75 = .ok (.invokevirtual 67, 3) := by decide +kernel
theorem d_SC_begin_78 : decode b_SC_begin 78 = .ok (.return_, 1) := by decide +kernel
theorem kM_SC_55 : Cond.methodLink R_SC 55 y_SC_skipBlanks ∈ lw_g := in_g 782 (by decide +kernel) rfl
theorem kV_SC_skipBlanks : Cond.instanceMethod y_SC_skipBlanks ∈ lw_g := in_g 784 (by decide +kernel) rfl
theorem kS_SC_skipBlanks : Cond.selects R_SC y_SC_skipBlanks y_SC_skipBlanks ∈ lw_g := in_s 2 (by decide +kernel) rfl
theorem kM_SC_58 : Cond.methodLink R_SC 58 y_SC_readSign ∈ lw_g := in_g 787 (by decide +kernel) rfl
theorem kV_SC_readSign : Cond.instanceMethod y_SC_readSign ∈ lw_g := in_g 789 (by decide +kernel) rfl
theorem kS_SC_readSign : Cond.selects R_SC y_SC_readSign y_SC_readSign ∈ lw_g := in_s 3 (by decide +kernel) rfl
theorem kM_SC_61 : Cond.methodLink R_SC 61 y_SC_keep ∈ lw_g := in_g 875 (by decide +kernel) rfl
theorem kV_SC_keep : Cond.instanceMethod y_SC_keep ∈ lw_g := in_g 877 (by decide +kernel) rfl
theorem kS_SC_keep : Cond.selects R_SC y_SC_keep y_SC_keep ∈ lw_g := in_s 7 (by decide +kernel) rfl
theorem kM_SC_67 : Cond.methodLink R_SC 67 y_SC_next ∈ lw_g := in_g 879 (by decide +kernel) rfl
theorem kV_SC_next : Cond.instanceMethod y_SC_next ∈ lw_g := in_g 880 (by decide +kernel) rfl
theorem kS_SC_next : Cond.selects R_SC y_SC_next y_SC_next ∈ lw_g := in_g 881 (by decide +kernel) rfl
abbrev at_SC_begin (dC : Nat → ClassId) (dI : Nat → Nat → Nat) (sa : Nat → Nat) (h0 tr ss sp szs sv tx : Nat) (ctx css csp cszs csv : ClassId) (tr_length : Int32) (gtx : Nat → Int32) (A : Nat → Prop) (u : (Nat → Int32) × (Nat → Option Nat) × (Nat → Int64) × (Nat → Int32) × Int32 × Int32 × Int32 × Nat × Int32 × Int64) (t : State) : Prop := match u with | (gsp, gss, gsv, gszs, h0_at, h0_length, h0_place, h0_sign, h0_size, h0_value) => va_P (dC, dI) cls [(h0, .inr (8, [.ref tr, .ref (sg sa h0_sign), .int h0_place, .int h0_size, .long h0_value, .ref ss, .ref sp, .ref szs, .ref sv, .int h0_length, .int h0_at])), (tr, .inr (1, [.ref tx, .int tr_length])), (tx, .inl (ctx, 2000, .inl gtx)), (ss, .inl (css, 2001, .inr (.inr (.inr (.inr (fun j => (gss j).map (sg sa))))))), (sp, .inl (csp, 2001, .inl gsp)), (szs, .inl (cszs, 2001, .inl gszs)), (sv, .inl (csv, 2001, .inr (.inl gsv)))] t.heap ∧ va_K (dC, dI) cls [(ctx, .byte), (css, .object "WaferForge$Sign"), (csp, .int), (cszs, .int), (csv, .long)] t ∧ va_D A [(h0, .inr (8, [.ref tr, .ref (sg sa h0_sign), .int h0_place, .int h0_size, .long h0_value, .ref ss, .ref sp, .ref szs, .ref sv, .int h0_length, .int h0_at])), (tr, .inr (1, [.ref tx, .int tr_length])), (tx, .inl (ctx, 2000, .inl gtx)), (ss, .inl (css, 2001, .inr (.inr (.inr (.inr (fun j => (gss j).map (sg sa))))))), (sp, .inl (csp, 2001, .inl gsp)), (szs, .inl (cszs, 2001, .inl gszs)), (sv, .inl (csv, 2001, .inr (.inl gsv)))]
set_option maxHeartbeats 4000000 in
set_option maxRecDepth 100000 in
theorem c_SC_begin (l : Launch) (dC : Nat → ClassId) (dI : Nat → Nat → Nat) (sz : Nat) (sa : Nat → Nat) (h0 tr ss sp szs sv tx : Nat) (ctx css csp cszs csv : ClassId) (h0_sign : Nat) (h0_place : Int32) (h0_size : Int32) (h0_value : Int64) (h0_length : Int32) (h0_at : Int32) (tr_length : Int32) (gtx : Nat → Int32) (gss : Nat → Option Nat) (gsp : Nat → Int32) (gszs : Nat → Int32) (gsv : Nat → Int64)  (b_h0_sign : h0_sign < 55) (b_h0_place : 0 ≤ h0_place.toInt ∧ h0_place.toInt ≤ 2000) (b_h0_size : 0 ≤ h0_size.toInt ∧ h0_size.toInt ≤ 2000) (b_h0_length : 0 ≤ h0_length.toInt ∧ h0_length.toInt ≤ 2001) (b_h0_at : -1 ≤ h0_at.toInt ∧ h0_at.toInt ≤ 2000) (b_tr_length : 0 ≤ tr_length.toInt ∧ tr_length.toInt ≤ 2000)    : Met l y_SC_begin w_SC_begin ({ frames := 7, cells := 0, slots := 0, locals := 150 }) (va_Pc [.ref h0] (fun U => U.heap.size = sz ∧ va_P (dC, dI) cls [(h0, .inr (8, [.ref tr, .ref (sg sa h0_sign), .int h0_place, .int h0_size, .long h0_value, .ref ss, .ref sp, .ref szs, .ref sv, .int h0_length, .int h0_at])), (tr, .inr (1, [.ref tx, .int tr_length])), (tx, .inl (ctx, 2000, .inl gtx)), (ss, .inl (css, 2001, .inr (.inr (.inr (.inr (fun j => (gss j).map (sg sa))))))), (sp, .inl (csp, 2001, .inl gsp)), (szs, .inl (cszs, 2001, .inl gszs)), (sv, .inl (csv, 2001, .inr (.inl gsv)))] U.heap ∧ va_K (dC, dI) cls [(ctx, .byte), (css, .object "WaferForge$Sign"), (csp, .int), (cszs, .int), (csv, .long)] U ∧ va_D (fun _ => True) [(h0, .inr (8, [.ref tr, .ref (sg sa h0_sign), .int h0_place, .int h0_size, .long h0_value, .ref ss, .ref sp, .ref szs, .ref sv, .int h0_length, .int h0_at])), (tr, .inr (1, [.ref tx, .int tr_length])), (tx, .inl (ctx, 2000, .inl gtx)), (ss, .inl (css, 2001, .inr (.inr (.inr (.inr (fun j => (gss j).map (sg sa))))))), (sp, .inl (csp, 2001, .inl gsp)), (szs, .inl (cszs, 2001, .inl gszs)), (sv, .inl (csv, 2001, .inr (.inl gsv)))] ∧ sw sa (va_A [(h0, .inr (8, [.ref tr, .ref (sg sa h0_sign), .int h0_place, .int h0_size, .long h0_value, .ref ss, .ref sp, .ref szs, .ref sv, .int h0_length, .int h0_at])), (tr, .inr (1, [.ref tx, .int tr_length])), (tx, .inl (ctx, 2000, .inl gtx)), (ss, .inl (css, 2001, .inr (.inr (.inr (.inr (fun j => (gss j).map (sg sa))))))), (sp, .inl (csp, 2001, .inl gsp)), (szs, .inl (cszs, 2001, .inl gszs)), (sv, .inl (csv, 2001, .inr (.inl gsv)))] sz) U U.heap)) (va_Qv (fun (u : (Nat → Int32) × (Nat → Option Nat) × (Nat → Int64) × (Nat → Int32) × Int32 × Int32 × Int32 × Nat × Int32 × Int64) => match u with | (gsp2, gss2, gsv2, gszs2, h0_at2, h0_length2, h0_place2, h0_sign2, h0_size2, h0_value2) => (-1 ≤ h0_at2.toInt ∧ h0_at2.toInt ≤ 2000) ∧ (0 ≤ h0_length2.toInt ∧ h0_length2.toInt ≤ 2001) ∧ (0 ≤ h0_place2.toInt ∧ h0_place2.toInt ≤ 2000) ∧ (h0_sign2 < 55) ∧ (0 ≤ h0_size2.toInt ∧ h0_size2.toInt ≤ 2000) ∧ (h0_at2.toInt = 0 ∧ tkOK tr_length.toInt h0_length2.toInt gss2 gsp2 gszs2 gsv2 ∧ gss2 h0_at2.toNatClampNeg = some h0_sign2 ∧ h0_place2 = gsp2 h0_at2.toNatClampNeg ∧ h0_size2 = gszs2 h0_at2.toNatClampNeg ∧ h0_value2 = gsv2 h0_at2.toNatClampNeg)) (at_SC_begin dC dI sa h0 tr ss sp szs sv tx ctx css csp cszs csv tr_length gtx (va_A [(h0, .inr (8, [.ref tr, .ref (sg sa h0_sign), .int h0_place, .int h0_size, .long h0_value, .ref ss, .ref sp, .ref szs, .ref sv, .int h0_length, .int h0_at])), (tr, .inr (1, [.ref tx, .int tr_length])), (tx, .inl (ctx, 2000, .inl gtx)), (ss, .inl (css, 2001, .inr (.inr (.inr (.inr (fun j => (gss j).map (sg sa))))))), (sp, .inl (csp, 2001, .inl gsp)), (szs, .inl (cszs, 2001, .inl gszs)), (sv, .inl (csv, 2001, .inr (.inl gsv)))] sz)) (va_A [(h0, .inr (8, [.ref tr, .ref (sg sa h0_sign), .int h0_place, .int h0_size, .long h0_value, .ref ss, .ref sp, .ref szs, .ref sv, .int h0_length, .int h0_at])), (tr, .inr (1, [.ref tx, .int tr_length])), (tx, .inl (ctx, 2000, .inl gtx)), (ss, .inl (css, 2001, .inr (.inr (.inr (.inr (fun j => (gss j).map (sg sa))))))), (sp, .inl (csp, 2001, .inl gsp)), (szs, .inl (cszs, 2001, .inl gszs)), (sv, .inl (csv, 2001, .inr (.inl gsv)))] sz)) 0 0 (va_A [(h0, .inr (8, [.ref tr, .ref (sg sa h0_sign), .int h0_place, .int h0_size, .long h0_value, .ref ss, .ref sp, .ref szs, .ref sv, .int h0_length, .int h0_at])), (tr, .inr (1, [.ref tx, .int tr_length])), (tx, .inl (ctx, 2000, .inl gtx)), (ss, .inl (css, 2001, .inr (.inr (.inr (.inr (fun j => (gss j).map (sg sa))))))), (sp, .inl (csp, 2001, .inl gsp)), (szs, .inl (cszs, 2001, .inl gszs)), (sv, .inl (csv, 2001, .inr (.inl gsv)))] sz) := by
  refine Met.ofW (cc := b_SC_begin) (maxL := 2) (ret := none) (by decide) rfl ?_
  intro p e s m args below meth c s₁ B hml hv
  obtain ⟨rfl, hsz, hP, hK, hD0, hSW⟩ := hv
  have hx := B.exec
  have hb := B.bytes
  have hr := B.returns
  have hts0 := atoms_spec (ws := w_SC_begin) B.pre
  have hts : ∀ w ∈ lw_g, w.before _ s = true := fun w h => hts0 w (List.mem_cons_of_mem _ h)
  have hown : s.vm.findClass R_SC = some m.cls := findClass_of_methodNamed B.named
  have hlocks := B.notSynchronized
  clear hts0
  subst hsz
  have hD := hD0.self (sz := s.heap.size)
  generalize hAe : va_A [(h0, .inr (8, [.ref tr, .ref (sg sa h0_sign), .int h0_place, .int h0_size, .long h0_value, .ref ss, .ref sp, .ref szs, .ref sv, .int h0_length, .int h0_at])), (tr, .inr (1, [.ref tx, .int tr_length])), (tx, .inl (ctx, 2000, .inl gtx)), (ss, .inl (css, 2001, .inr (.inr (.inr (.inr (fun j => (gss j).map (sg sa))))))), (sp, .inl (csp, 2001, .inl gsp)), (szs, .inl (cszs, 2001, .inl gszs)), (sv, .inl (csv, 2001, .inr (.inl gsv)))] s.heap.size = A at hD hSW ⊢
  have hA : ∀ q : Nat, s.heap.size ≤ q → A q := fun q h => by rw [← hAe]; exact Or.inr h
  clear hAe
  have hP : va_P (dC, dI) cls [(h0, .inr (8, [.ref tr, .ref (sg sa h0_sign), .int h0_place, .int h0_size, .long h0_value, .ref ss, .ref sp, .ref szs, .ref sv, .int h0_length, .int h0_at])), (tr, .inr (1, [.ref tx, .int tr_length])), (tx, .inl (ctx, 2000, .inl gtx)), (ss, .inl (css, 2001, .inr (.inr (.inr (.inr (fun j => (gss j).map (sg sa))))))), (sp, .inl (csp, 2001, .inl gsp)), (szs, .inl (cszs, 2001, .inl gszs)), (sv, .inl (csv, 2001, .inr (.inl gsv)))] s.heap := hP
  have hl := lv_entry ([.ref h0]) (n := 2) (Nat.le_of_ble_eq_true rfl)
  rw [lg_entry_eq]
  generalize (lg_sl ([.ref h0]) ++ List.replicate (2 - (lg_sl ([.ref h0])).length) Slot.unset).toArray = ls at hl ⊢
  have hl : lv_has ls 2 [(0, .ref h0)] := hl
  have k0 : (0 : Int32).toInt = 0 := by decide
  refine w_gen (A := A) hP (fun H locs hP hS => ?_)
  have km1 : (-1 : Int32).toInt = -1 := by decide
  have k1 : (1 : Int32).toInt = 1 := by decide
  have k2000 : (2000 : Int32).toInt = 2000 := by decide
  refine lv_aload_n hx hb d_SC_begin_0 rfl (lv_at hl 0 rfl) ?_
  refine lv_iconst (v := 0) hx hb d_SC_begin_1 (by decide) ?_
  refine va_put (D := (dC, dI)) (ci := 8) (v := .int 0) (ty := .int) (C := R_SC) (T := F_SC) (N := 11) hx hb hts i_SC t_SC t_SC_ok n_SC hown hK hP hD hS 0 rfl rfl 2 (by decide) (hts _ kF_SC_39) (fun _ h9 => h9) rfl (by decide +kernel) rfl rfl (Nat.le_of_ble_eq_true rfl) d_SC_begin_2 (fun H locs hP hD hS => ?_)
  refine lv_aload_n hx hb d_SC_begin_5 rfl (lv_at hl 0 rfl) ?_
  refine lv_iconst (v := 0) hx hb d_SC_begin_6 (by decide) ?_
  refine va_put (D := (dC, dI)) (ci := 8) (v := .int 0) (ty := .int) (C := R_SC) (T := F_SC) (N := 11) hx hb hts i_SC t_SC t_SC_ok n_SC hown hK hP hD hS 0 rfl rfl 3 (by decide) (hts _ kF_SC_43) (fun _ h9 => h9) rfl (by decide +kernel) rfl rfl (Nat.le_of_ble_eq_true rfl) d_SC_begin_7 (fun H locs hP hD hS => ?_)
  refine lv_aload_n hx hb d_SC_begin_10 rfl (lv_at hl 0 rfl) ?_
  refine va_gets (C := "WaferForge$Sign") (n := "NAME") (d := "LWaferForge$Sign;") (v := .ref (sg sa 2)) hx hb ((hSW.2.2.2.1.1 2 (by decide)).1) hS hown (hts _ kF_SC_46) (fun _ h9 => h9) d_SC_begin_11 ?_
  refine va_put (D := (dC, dI)) (ci := 8) (v := .ref (sg sa 2)) (ty := .object "WaferForge$Sign") (C := R_SC) (T := F_SC) (N := 11) hx hb hts i_SC t_SC t_SC_ok n_SC hown hK hP hD hS 0 rfl rfl 1 (by decide) (hts _ kF_SC_15) (fun _ h9 => h9) rfl (by decide +kernel) rfl rfl (Nat.le_of_ble_eq_true rfl) d_SC_begin_14 (fun H locs hP hD hS => ?_)
  refine lv_aload_n hx hb d_SC_begin_17 rfl (lv_at hl 0 rfl) ?_
  refine lv_iconst (v := 0) hx hb d_SC_begin_18 (by decide) ?_
  refine va_put (D := (dC, dI)) (ci := 8) (v := .int 0) (ty := .int) (C := R_SC) (T := F_SC) (N := 11) hx hb hts i_SC t_SC t_SC_ok n_SC hown hK hP hD hS 0 rfl rfl 9 (by decide) (hts _ kF_SC_49) (fun _ h9 => h9) rfl (by decide +kernel) rfl rfl (Nat.le_of_ble_eq_true rfl) d_SC_begin_19 (fun H locs hP hD hS => ?_)
  refine lv_iconst (v := 0) hx hb d_SC_begin_22 (by decide) ?_
  refine lv_istore_n (lv' := [(1, .int 0), (0, .ref h0)]) hx hb d_SC_begin_23 rfl hl (by decide) rfl (fun ls hl => ?_)
  refine w_loop (σ := Int32 × (Nat → Int32) × (Nat → Option Nat) × (Nat → Int64) × (Nat → Int32) × Int32 × Int32 × Nat × Int32 × Int64) (fun u H locs ls => match u with | (j24_l1, j24_sp, j24_ss, j24_sv, j24_szs, j24_h0_length, j24_h0_place, j24_h0_sign, j24_h0_size, j24_h0_value) => (0 ≤ j24_l1.toInt ∧ j24_l1.toInt ≤ 2001) ∧ (0 ≤ j24_h0_length.toInt ∧ j24_h0_length.toInt ≤ 2001) ∧ (0 ≤ j24_h0_place.toInt ∧ j24_h0_place.toInt ≤ 2000) ∧ (j24_h0_sign < 55) ∧ (0 ≤ j24_h0_size.toInt ∧ j24_h0_size.toInt ≤ 2000) ∧ (j24_h0_length.toInt = j24_l1.toInt) ∧ (j24_h0_place.toInt + j24_h0_size.toInt ≤ tr_length.toInt) ∧ (tkP tr_length.toInt j24_h0_length.toInt j24_ss j24_sp j24_szs j24_sv) ∧ ((j24_l1.toInt = 0 → j24_h0_sign = 2) ∧ (1 ≤ j24_l1.toInt → j24_ss (j24_l1.toInt - 1).toNat = some j24_h0_sign ∧ j24_sp (j24_l1.toInt - 1).toNat = j24_h0_place ∧ j24_szs (j24_l1.toInt - 1).toNat = j24_h0_size)) ∧ (j24_h0_sign ≠ 0 → j24_h0_sign ≠ 1 → j24_l1.toInt ≤ j24_h0_place.toInt + j24_h0_size.toInt) ∧ va_P (dC, dI) cls [(h0, .inr (8, [.ref tr, .ref (sg sa j24_h0_sign), .int j24_h0_place, .int j24_h0_size, .long j24_h0_value, .ref ss, .ref sp, .ref szs, .ref sv, .int j24_h0_length, .int h0_at])), (tr, .inr (1, [.ref tx, .int tr_length])), (tx, .inl (ctx, 2000, .inl gtx)), (ss, .inl (css, 2001, .inr (.inr (.inr (.inr (fun j => (j24_ss j).map (sg sa))))))), (sp, .inl (csp, 2001, .inl j24_sp)), (szs, .inl (cszs, 2001, .inl j24_szs)), (sv, .inl (csv, 2001, .inr (.inl j24_sv)))] H ∧ va_D A [(h0, .inr (8, [.ref tr, .ref (sg sa j24_h0_sign), .int j24_h0_place, .int j24_h0_size, .long j24_h0_value, .ref ss, .ref sp, .ref szs, .ref sv, .int j24_h0_length, .int h0_at])), (tr, .inr (1, [.ref tx, .int tr_length])), (tx, .inl (ctx, 2000, .inl gtx)), (ss, .inl (css, 2001, .inr (.inr (.inr (.inr (fun j => (j24_ss j).map (sg sa))))))), (sp, .inl (csp, 2001, .inl j24_sp)), (szs, .inl (cszs, 2001, .inl j24_szs)), (sv, .inl (csv, 2001, .inr (.inl j24_sv)))] ∧ va_S A s.heap H locs ∧ lv_has ls 2 [(0, .ref h0), (1, .int j24_l1)]) (fun u => match u with | (j24_l1, j24_sp, j24_ss, j24_sv, j24_szs, j24_h0_length, j24_h0_place, j24_h0_sign, j24_h0_size, j24_h0_value) => (2001 - j24_l1.toInt).toNat) ?_ (0, gsp, gss, gsv, gszs, 0, 0, 2, 0, h0_value) ⟨by (try dsimp only) <;> omega, by (try dsimp only) <;> omega, by (try dsimp only) <;> omega, (by decide : 2 < 55), by (try dsimp only) <;> omega, by (try dsimp only) <;> omega, by (try dsimp only) <;> omega, fun i q => absurd q (by (try dsimp only); omega), ⟨fun _ => rfl, fun z => absurd z (by (try dsimp only); omega)⟩, fun _ _ => by (try dsimp only); omega, hP, hD, hS, lv_sub hl [1, 0] rfl⟩
  intro N24 ih24 u H locs ls hN24 hI
  obtain ⟨j24_l1, j24_sp, j24_ss, j24_sv, j24_szs, j24_h0_length, j24_h0_place, j24_h0_sign, j24_h0_size, j24_h0_value⟩ := u
  obtain ⟨b_j24_l1, b_j24_h0_length, b_j24_h0_place, b_j24_h0_sign, b_j24_h0_size, v0, v1, v2, v3, v4, hP, hD, hS, hl⟩ := hI
  have hN24 : (2001 - j24_l1.toInt).toNat < N24 + 1 := hN24
  refine lv_iload_n hx hb d_SC_begin_24 rfl (lv_at hl 1 rfl) ?_
  refine lv_sipush (v := 2000) hx hb d_SC_begin_25 (by decide) ?_
  refine w_cut (pc2 := 69) (σ := Unit) (fun u H locs ls => match u with | _ => (j24_h0_sign = 0 ∨ j24_h0_sign = 1) ∧ va_P (dC, dI) cls [(h0, .inr (8, [.ref tr, .ref (sg sa j24_h0_sign), .int j24_h0_place, .int j24_h0_size, .long j24_h0_value, .ref ss, .ref sp, .ref szs, .ref sv, .int j24_h0_length, .int h0_at])), (tr, .inr (1, [.ref tx, .int tr_length])), (tx, .inl (ctx, 2000, .inl gtx)), (ss, .inl (css, 2001, .inr (.inr (.inr (.inr (fun j => (j24_ss j).map (sg sa))))))), (sp, .inl (csp, 2001, .inl j24_sp)), (szs, .inl (cszs, 2001, .inl j24_szs)), (sv, .inl (csv, 2001, .inr (.inl j24_sv)))] H ∧ va_D A [(h0, .inr (8, [.ref tr, .ref (sg sa j24_h0_sign), .int j24_h0_place, .int j24_h0_size, .long j24_h0_value, .ref ss, .ref sp, .ref szs, .ref sv, .int j24_h0_length, .int h0_at])), (tr, .inr (1, [.ref tx, .int tr_length])), (tx, .inl (ctx, 2000, .inl gtx)), (ss, .inl (css, 2001, .inr (.inr (.inr (.inr (fun j => (j24_ss j).map (sg sa))))))), (sp, .inl (csp, 2001, .inl j24_sp)), (szs, .inl (cszs, 2001, .inl j24_szs)), (sv, .inl (csv, 2001, .inr (.inl j24_sv)))] ∧ va_S A s.heap H locs ∧ lv_has ls 2 [(0, .ref h0)]) (fun u => match u with | _ => []) ?_ (fun jn69 => ?_)
  · intro u H locs ls hI
    obtain ⟨z69, hP, hD, hS, hl⟩ := hI
    refine lv_aload_n hx hb d_SC_begin_69 rfl (lv_at hl 0 rfl) ?_
    refine lv_iconst (v := (-1)) hx hb d_SC_begin_70 (by decide) ?_
    refine va_put (D := (dC, dI)) (ci := 8) (v := .int ((-1))) (ty := .int) (C := R_SC) (T := F_SC) (N := 11) hx hb hts i_SC t_SC t_SC_ok n_SC hown hK hP hD hS 0 rfl rfl 10 (by decide) (hts _ kF_SC_64) (fun _ h9 => h9) rfl (by decide +kernel) rfl rfl (Nat.le_of_ble_eq_true rfl) d_SC_begin_71 (fun H locs hP hD hS => ?_)
    refine lv_aload_n hx hb d_SC_begin_74 rfl (lv_at hl 0 rfl) ?_
    have hPc := hP.sub (ws' := [(h0, .inr (8, [.ref tr, .ref (sg sa j24_h0_sign), .int j24_h0_place, .int j24_h0_size, .long j24_h0_value, .ref ss, .ref sp, .ref szs, .ref sv, .int j24_h0_length, .int ((-1))])), (tr, .inr (1, [.ref tx, .int tr_length])), (ss, .inl (css, 2001, .inr (.inr (.inr (.inr (fun j => (j24_ss j).map (sg sa))))))), (sp, .inl (csp, 2001, .inl j24_sp)), (szs, .inl (cszs, 2001, .inl j24_szs)), (sv, .inl (csv, 2001, .inr (.inl j24_sv)))]) [0, 1, 3, 4, 5, 6] rfl
    have hDc := hD.sub (ws' := [(h0, .inr (8, [.ref tr, .ref (sg sa j24_h0_sign), .int j24_h0_place, .int j24_h0_size, .long j24_h0_value, .ref ss, .ref sp, .ref szs, .ref sv, .int j24_h0_length, .int ((-1))])), (tr, .inr (1, [.ref tx, .int tr_length])), (ss, .inl (css, 2001, .inr (.inr (.inr (.inr (fun j => (j24_ss j).map (sg sa))))))), (sp, .inl (csp, 2001, .inl j24_sp)), (szs, .inl (cszs, 2001, .inl j24_szs)), (sv, .inl (csv, 2001, .inr (.inl j24_sv)))]) [0, 1, 3, 4, 5, 6] (by decide) rfl
    have hKc := hK.sub (tys' := [(css, .object "WaferForge$Sign"), (csp, .int), (cszs, .int), (csv, .long)]) [1, 2, 3, 4] rfl
    have hFc := va_free (wc := [(h0, .inr (8, [.ref tr, .ref (sg sa j24_h0_sign), .int j24_h0_place, .int j24_h0_size, .long j24_h0_value, .ref ss, .ref sp, .ref szs, .ref sv, .int j24_h0_length, .int ((-1))])), (tr, .inr (1, [.ref tx, .int tr_length])), (ss, .inl (css, 2001, .inr (.inr (.inr (.inr (fun j => (j24_ss j).map (sg sa))))))), (sp, .inl (csp, 2001, .inl j24_sp)), (szs, .inl (cszs, 2001, .inl j24_szs)), (sv, .inl (csv, 2001, .inr (.inl j24_sv)))]) hD hS hA [0, 1, 3, 4, 5, 6] rfl
    refine va_callv (va_runV (As := []) (rest := []) ⟨hx, hb, hml, hown, hts⟩ (c_SC_next l dC dI H.size sa h0 tr ss sp szs sv tx css csp cszs csv j24_h0_sign j24_h0_place j24_h0_size j24_h0_value j24_h0_length ((-1)) tr_length j24_ss j24_sp j24_szs j24_sv (b_j24_h0_sign) (b_j24_h0_place) (b_j24_h0_size) (b_j24_h0_length) (by (try dsimp only) <;> omega) (b_tr_length) (v2)) (cwV 0 hts (gV kM_SC_67 kV_SC_next kS_SC_next kI_SC kC_SC_next) rfl rfl rfl (by decide +kernel) ⟨Nat.le_of_ble_eq_true rfl, Nat.le_of_ble_eq_true rfl⟩) ⟨fun a U g mk z => by obtain ⟨z0, z1, zP, zK, zD, zS⟩ := z; exact ⟨z0, z1, zP, va_K.moved (u := U) (U := U.calling g mk a) (Vm.Alike.refl U.vm) zK, zD, sw.same (u := U) (U := U.calling g mk a) rfl zS⟩, va_recv hKc hPc (ci := 8) (q0 := 0) rfl rfl, fun U hU hW => ⟨rfl, by rw [hU], by rw [hU]; exact hPc, va_K.moved hW.alike hKc, hDc.weaken (fun _ _ _ _ => trivial), hSW.call hS hFc hW hU⟩⟩ rfl rfl hl.1 rfl (lv_room (Nat.le_of_ble_eq_true rfl)) d_SC_begin_75 ⟨(Nat.zero_le _), (Nat.zero_le _)⟩) hS (fun q _ h => hFc q h) hFc (fun u t H1 locs ht hvm hw hB hz1 hk1 hS => ?_)
    obtain ⟨n2, n3, n4, n5, n6⟩ := u
    try dsimp only at hw
    obtain ⟨bn2, bn3, bn4, bn5, xr1⟩ := hw
    try clear hw
    obtain ⟨hP1, hK1, hD1⟩ := hB
    rw [ht] at hP1
    obtain ⟨hP, hD⟩ := va_join (wr := [(tx, .inl (ctx, 2000, .inl gtx))]) (w1 := [(h0, .inr (8, [.ref tr, .ref (sg sa n4), .int n3, .int n5, .long n6, .ref ss, .ref sp, .ref szs, .ref sv, .int j24_h0_length, .int n2])), (tr, .inr (1, [.ref tx, .int tr_length])), (ss, .inl (css, 2001, .inr (.inr (.inr (.inr (fun j => (j24_ss j).map (sg sa))))))), (sp, .inl (csp, 2001, .inl j24_sp)), (szs, .inl (cszs, 2001, .inl j24_szs)), (sv, .inl (csv, 2001, .inr (.inl j24_sv)))]) hP hD [0, 1, 3, 4, 5, 6] [2] rfl rfl (by decide) (by decide) hk1 hFc hP1 hD1
    clear hPc hDc hKc hFc hz1 hk1 hP1 hK1 hD1
    generalize H1 = H at hP hS ⊢
    have hP : va_P (dC, dI) cls [(tx, .inl (ctx, 2000, .inl gtx)), (h0, .inr (8, [.ref tr, .ref (sg sa n4), .int n3, .int n5, .long n6, .ref ss, .ref sp, .ref szs, .ref sv, .int j24_h0_length, .int n2])), (tr, .inr (1, [.ref tx, .int tr_length])), (ss, .inl (css, 2001, .inr (.inr (.inr (.inr (fun j => (j24_ss j).map (sg sa))))))), (sp, .inl (csp, 2001, .inl j24_sp)), (szs, .inl (cszs, 2001, .inl j24_szs)), (sv, .inl (csv, 2001, .inr (.inl j24_sv)))] H := hP
    have hD : va_D A [(tx, .inl (ctx, 2000, .inl gtx)), (h0, .inr (8, [.ref tr, .ref (sg sa n4), .int n3, .int n5, .long n6, .ref ss, .ref sp, .ref szs, .ref sv, .int j24_h0_length, .int n2])), (tr, .inr (1, [.ref tx, .int tr_length])), (ss, .inl (css, 2001, .inr (.inr (.inr (.inr (fun j => (j24_ss j).map (sg sa))))))), (sp, .inl (csp, 2001, .inl j24_sp)), (szs, .inl (cszs, 2001, .inl j24_szs)), (sv, .inl (csv, 2001, .inr (.inl j24_sv)))] := hD
    have hP9 := hP.sub (ws' := [(h0, .inr (8, [.ref tr, .ref (sg sa n4), .int n3, .int n5, .long n6, .ref ss, .ref sp, .ref szs, .ref sv, .int j24_h0_length, .int n2])), (tr, .inr (1, [.ref tx, .int tr_length])), (tx, .inl (ctx, 2000, .inl gtx)), (ss, .inl (css, 2001, .inr (.inr (.inr (.inr (fun j => (j24_ss j).map (sg sa))))))), (sp, .inl (csp, 2001, .inl j24_sp)), (szs, .inl (cszs, 2001, .inl j24_szs)), (sv, .inl (csv, 2001, .inr (.inl j24_sv)))]) [1, 2, 0, 3, 4, 5, 6] rfl
    have hD9 := hD.sub (ws' := [(h0, .inr (8, [.ref tr, .ref (sg sa n4), .int n3, .int n5, .long n6, .ref ss, .ref sp, .ref szs, .ref sv, .int j24_h0_length, .int n2])), (tr, .inr (1, [.ref tx, .int tr_length])), (tx, .inl (ctx, 2000, .inl gtx)), (ss, .inl (css, 2001, .inr (.inr (.inr (.inr (fun j => (j24_ss j).map (sg sa))))))), (sp, .inl (csp, 2001, .inl j24_sp)), (szs, .inl (cszs, 2001, .inl j24_szs)), (sv, .inl (csv, 2001, .inr (.inl j24_sv)))]) [1, 2, 0, 3, 4, 5, 6] (by decide) rfl
    exact W.vret hx hb hr (fun t ht hW => ⟨⟨(j24_sp, j24_ss, j24_sv, j24_szs, n2, j24_h0_length, n3, n4, n5, n6), rfl, ⟨bn2, b_j24_h0_length, bn3, bn4, bn5, by have z1 := xr1.1 (by omega); exact ⟨by (try dsimp only); omega, ⟨by (try dsimp only); omega, v2, fun i q => by rw [show i = (j24_l1.toInt - 1).toNat from by omega, (v3.2 (by omega)).1]; rcases z69 with z | z; (rw [z]; exact Or.inl rfl); (rw [z]; exact Or.inr rfl)⟩, z1.2⟩⟩, by rw [ht]; exact hP9, va_K.moved hW.alike hK, hD9⟩, hS.F ht⟩) hS.2.2 d_SC_begin_78
  · skip
    refine lv_icmp_gt (tgt := 69) hx hb d_SC_begin_28 (by decide) (fun c28 => ?_) (fun c28 => ?_)
    · have q28 := ltI c28
      exact jn69 () _ _ _ ⟨by (try dsimp only) <;> omega, hP, hD, hS, lv_sub hl [0] rfl⟩
    · have q28 := nltI c28
      refine lv_aload_n hx hb d_SC_begin_31 rfl (lv_at hl 0 rfl) ?_
      refine va_get (D := (dC, dI)) (ci := 8) (v := .ref (sg sa j24_h0_sign)) (C := R_SC) (T := F_SC) (N := 11) hx hb hts i_SC hown hK hP 0 rfl rfl 1 (by decide) (hts _ kF_SC_15) (fun _ h9 => h9) rfl d_SC_begin_32 ?_
      refine va_gets (C := "WaferForge$Sign") (n := "END") (d := "LWaferForge$Sign;") (v := .ref (sg sa 0)) hx hb ((hSW.2.2.2.1.1 0 (by decide)).1) hS hown (hts _ kF_SC_9) (fun _ h9 => h9) d_SC_begin_35 ?_
      refine lv_acmp_eq (rx := some (sg sa j24_h0_sign)) (ry := some (sg sa 0)) (tgt := 69) hx hb d_SC_begin_38 (by decide) (fun c38 => ?_) (fun c38 => ?_)
      · have q38 : j24_h0_sign = 0 := hSW.2.2.2.1.2 j24_h0_sign 0 b_j24_h0_sign (by decide : 0 < 55) (Option.some.inj c38)
        exact jn69 () _ _ _ ⟨by (try dsimp only) <;> omega, hP, hD, hS, lv_sub hl [0] rfl⟩
      · have q38 : j24_h0_sign ≠ 0 := fun z => c38 (by rw [z])
        refine lv_aload_n hx hb d_SC_begin_41 rfl (lv_at hl 0 rfl) ?_
        refine va_get (D := (dC, dI)) (ci := 8) (v := .ref (sg sa j24_h0_sign)) (C := R_SC) (T := F_SC) (N := 11) hx hb hts i_SC hown hK hP 0 rfl rfl 1 (by decide) (hts _ kF_SC_15) (fun _ h9 => h9) rfl d_SC_begin_42 ?_
        refine va_gets (C := "WaferForge$Sign") (n := "WRONG") (d := "LWaferForge$Sign;") (v := .ref (sg sa 1)) hx hb ((hSW.2.2.2.1.1 1 (by decide)).1) hS hown (hts _ kF_SC_52) (fun _ h9 => h9) d_SC_begin_45 ?_
        refine lv_acmp_eq (rx := some (sg sa j24_h0_sign)) (ry := some (sg sa 1)) (tgt := 69) hx hb d_SC_begin_48 (by decide) (fun c48 => ?_) (fun c48 => ?_)
        · have q48 : j24_h0_sign = 1 := hSW.2.2.2.1.2 j24_h0_sign 1 b_j24_h0_sign (by decide : 1 < 55) (Option.some.inj c48)
          exact jn69 () _ _ _ ⟨by (try dsimp only) <;> omega, hP, hD, hS, lv_sub hl [0] rfl⟩
        · have q48 : j24_h0_sign ≠ 1 := fun z => c48 (by rw [z])
          refine lv_aload_n hx hb d_SC_begin_51 rfl (lv_at hl 0 rfl) ?_
          have hPc := hP.sub (ws' := [(h0, .inr (8, [.ref tr, .ref (sg sa j24_h0_sign), .int j24_h0_place, .int j24_h0_size, .long j24_h0_value, .ref ss, .ref sp, .ref szs, .ref sv, .int j24_h0_length, .int h0_at])), (tr, .inr (1, [.ref tx, .int tr_length])), (tx, .inl (ctx, 2000, .inl gtx))]) [0, 1, 2] rfl
          have hDc := hD.sub (ws' := [(h0, .inr (8, [.ref tr, .ref (sg sa j24_h0_sign), .int j24_h0_place, .int j24_h0_size, .long j24_h0_value, .ref ss, .ref sp, .ref szs, .ref sv, .int j24_h0_length, .int h0_at])), (tr, .inr (1, [.ref tx, .int tr_length])), (tx, .inl (ctx, 2000, .inl gtx))]) [0, 1, 2] (by decide) rfl
          have hKc := hK.sub (tys' := [(ctx, .byte)]) [0] rfl
          have hFc := va_free (wc := [(h0, .inr (8, [.ref tr, .ref (sg sa j24_h0_sign), .int j24_h0_place, .int j24_h0_size, .long j24_h0_value, .ref ss, .ref sp, .ref szs, .ref sv, .int j24_h0_length, .int h0_at])), (tr, .inr (1, [.ref tx, .int tr_length])), (tx, .inl (ctx, 2000, .inl gtx))]) hD hS hA [0, 1, 2] rfl
          refine va_callv (va_runV (As := []) (rest := []) ⟨hx, hb, hml, hown, hts⟩ (c_SC_skipBlanks l dC dI H.size sa h0 tr ss sp szs sv tx ctx j24_h0_sign j24_h0_place j24_h0_size j24_h0_value j24_h0_length h0_at tr_length gtx (b_j24_h0_place) (b_j24_h0_size) (b_tr_length) (v1)) (cwV 0 hts (gV kM_SC_55 kV_SC_skipBlanks kS_SC_skipBlanks kI_SC kC_SC_skipBlanks) rfl rfl rfl (by decide +kernel) ⟨Nat.le_of_ble_eq_true rfl, Nat.le_of_ble_eq_true rfl⟩) ⟨fun a U g mk z => by obtain ⟨z0, z1, zP, zK, zD, zS⟩ := z; exact ⟨z0, z1, zP, va_K.moved (u := U) (U := U.calling g mk a) (Vm.Alike.refl U.vm) zK, zD, sw.same (u := U) (U := U.calling g mk a) rfl zS⟩, va_recv hKc hPc (ci := 8) (q0 := 0) rfl rfl, fun U hU hW => ⟨rfl, by rw [hU], by rw [hU]; exact hPc, va_K.moved hW.alike hKc, hDc.weaken (fun _ _ _ _ => trivial), hSW.call hS hFc hW hU⟩⟩ rfl rfl hl.1 rfl (lv_room (Nat.le_of_ble_eq_true rfl)) d_SC_begin_52 ⟨(Nat.zero_le _), (Nat.zero_le _)⟩) hS (fun q _ h => hFc q h) hFc (fun u t H1 locs ht hvm hw hB hz1 hk1 hS => ?_)
          obtain ⟨n8, rfl⟩ : ∃ z, z = u := ⟨_, rfl⟩
          try dsimp only at hw
          obtain ⟨bn8, xr7⟩ := hw
          try clear hw
          obtain ⟨hP1, hK1, hD1⟩ := hB
          rw [ht] at hP1
          obtain ⟨hP, hD⟩ := va_join (wr := [(ss, .inl (css, 2001, .inr (.inr (.inr (.inr (fun j => (j24_ss j).map (sg sa))))))), (sp, .inl (csp, 2001, .inl j24_sp)), (szs, .inl (cszs, 2001, .inl j24_szs)), (sv, .inl (csv, 2001, .inr (.inl j24_sv)))]) (w1 := [(h0, .inr (8, [.ref tr, .ref (sg sa j24_h0_sign), .int n8, .int j24_h0_size, .long j24_h0_value, .ref ss, .ref sp, .ref szs, .ref sv, .int j24_h0_length, .int h0_at])), (tr, .inr (1, [.ref tx, .int tr_length])), (tx, .inl (ctx, 2000, .inl gtx))]) hP hD [0, 1, 2] [3, 4, 5, 6] rfl rfl (by decide) (by decide) hk1 hFc hP1 hD1
          clear hPc hDc hKc hFc hz1 hk1 hP1 hK1 hD1
          generalize H1 = H at hP hS ⊢
          have hP : va_P (dC, dI) cls [(ss, .inl (css, 2001, .inr (.inr (.inr (.inr (fun j => (j24_ss j).map (sg sa))))))), (sp, .inl (csp, 2001, .inl j24_sp)), (szs, .inl (cszs, 2001, .inl j24_szs)), (sv, .inl (csv, 2001, .inr (.inl j24_sv))), (h0, .inr (8, [.ref tr, .ref (sg sa j24_h0_sign), .int n8, .int j24_h0_size, .long j24_h0_value, .ref ss, .ref sp, .ref szs, .ref sv, .int j24_h0_length, .int h0_at])), (tr, .inr (1, [.ref tx, .int tr_length])), (tx, .inl (ctx, 2000, .inl gtx))] H := hP
          have hD : va_D A [(ss, .inl (css, 2001, .inr (.inr (.inr (.inr (fun j => (j24_ss j).map (sg sa))))))), (sp, .inl (csp, 2001, .inl j24_sp)), (szs, .inl (cszs, 2001, .inl j24_szs)), (sv, .inl (csv, 2001, .inr (.inl j24_sv))), (h0, .inr (8, [.ref tr, .ref (sg sa j24_h0_sign), .int n8, .int j24_h0_size, .long j24_h0_value, .ref ss, .ref sp, .ref szs, .ref sv, .int j24_h0_length, .int h0_at])), (tr, .inr (1, [.ref tx, .int tr_length])), (tx, .inl (ctx, 2000, .inl gtx))] := hD
          refine lv_aload_n hx hb d_SC_begin_55 rfl (lv_at hl 0 rfl) ?_
          have hPc := hP.sub (ws' := [(h0, .inr (8, [.ref tr, .ref (sg sa j24_h0_sign), .int n8, .int j24_h0_size, .long j24_h0_value, .ref ss, .ref sp, .ref szs, .ref sv, .int j24_h0_length, .int h0_at])), (tr, .inr (1, [.ref tx, .int tr_length])), (tx, .inl (ctx, 2000, .inl gtx))]) [4, 5, 6] rfl
          have hDc := hD.sub (ws' := [(h0, .inr (8, [.ref tr, .ref (sg sa j24_h0_sign), .int n8, .int j24_h0_size, .long j24_h0_value, .ref ss, .ref sp, .ref szs, .ref sv, .int j24_h0_length, .int h0_at])), (tr, .inr (1, [.ref tx, .int tr_length])), (tx, .inl (ctx, 2000, .inl gtx))]) [4, 5, 6] (by decide) rfl
          have hKc := hK.sub (tys' := [(ctx, .byte)]) [0] rfl
          have hFc := va_free (wc := [(h0, .inr (8, [.ref tr, .ref (sg sa j24_h0_sign), .int n8, .int j24_h0_size, .long j24_h0_value, .ref ss, .ref sp, .ref szs, .ref sv, .int j24_h0_length, .int h0_at])), (tr, .inr (1, [.ref tx, .int tr_length])), (tx, .inl (ctx, 2000, .inl gtx))]) hD hS hA [4, 5, 6] rfl
          refine va_callv (va_runV (As := []) (rest := []) ⟨hx, hb, hml, hown, hts⟩ (c_SC_readSign l dC dI H.size sa h0 tr ss sp szs sv tx ctx j24_h0_sign n8 j24_h0_size j24_h0_value j24_h0_length h0_at tr_length gtx (b_j24_h0_sign) (bn8) (b_j24_h0_size) (b_tr_length) (by omega)) (cwV 0 hts (gV kM_SC_58 kV_SC_readSign kS_SC_readSign kI_SC kC_SC_readSign) rfl rfl rfl (by decide +kernel) ⟨Nat.le_of_ble_eq_true rfl, Nat.le_of_ble_eq_true rfl⟩) ⟨fun a U g mk z => by obtain ⟨z0, z1, zP, zK, zD, zS⟩ := z; exact ⟨z0, z1, zP, va_K.moved (u := U) (U := U.calling g mk a) (Vm.Alike.refl U.vm) zK, zD, sw.same (u := U) (U := U.calling g mk a) rfl zS⟩, va_recv hKc hPc (ci := 8) (q0 := 0) rfl rfl, fun U hU hW => ⟨rfl, by rw [hU], by rw [hU]; exact hPc, va_K.moved hW.alike hKc, hDc.weaken (fun _ _ _ _ => trivial), hSW.call hS hFc hW hU⟩⟩ rfl rfl hl.1 rfl (lv_room (Nat.le_of_ble_eq_true rfl)) d_SC_begin_56 ⟨(Nat.zero_le _), (Nat.zero_le _)⟩) hS (fun q _ h => hFc q h) hFc (fun u t H1 locs ht hvm hw hB hz1 hk1 hS => ?_)
          obtain ⟨n10, n11, n12⟩ := u
          try dsimp only at hw
          obtain ⟨bn10, bn11, xr9⟩ := hw
          try clear hw
          obtain ⟨hP1, hK1, hD1⟩ := hB
          rw [ht] at hP1
          obtain ⟨hP, hD⟩ := va_join (wr := [(ss, .inl (css, 2001, .inr (.inr (.inr (.inr (fun j => (j24_ss j).map (sg sa))))))), (sp, .inl (csp, 2001, .inl j24_sp)), (szs, .inl (cszs, 2001, .inl j24_szs)), (sv, .inl (csv, 2001, .inr (.inl j24_sv)))]) (w1 := [(h0, .inr (8, [.ref tr, .ref (sg sa n10), .int n8, .int n11, .long n12, .ref ss, .ref sp, .ref szs, .ref sv, .int j24_h0_length, .int h0_at])), (tr, .inr (1, [.ref tx, .int tr_length])), (tx, .inl (ctx, 2000, .inl gtx))]) hP hD [4, 5, 6] [0, 1, 2, 3] rfl rfl (by decide) (by decide) hk1 hFc hP1 hD1
          clear hPc hDc hKc hFc hz1 hk1 hP1 hK1 hD1
          generalize H1 = H at hP hS ⊢
          have hP : va_P (dC, dI) cls [(ss, .inl (css, 2001, .inr (.inr (.inr (.inr (fun j => (j24_ss j).map (sg sa))))))), (sp, .inl (csp, 2001, .inl j24_sp)), (szs, .inl (cszs, 2001, .inl j24_szs)), (sv, .inl (csv, 2001, .inr (.inl j24_sv))), (h0, .inr (8, [.ref tr, .ref (sg sa n10), .int n8, .int n11, .long n12, .ref ss, .ref sp, .ref szs, .ref sv, .int j24_h0_length, .int h0_at])), (tr, .inr (1, [.ref tx, .int tr_length])), (tx, .inl (ctx, 2000, .inl gtx))] H := hP
          have hD : va_D A [(ss, .inl (css, 2001, .inr (.inr (.inr (.inr (fun j => (j24_ss j).map (sg sa))))))), (sp, .inl (csp, 2001, .inl j24_sp)), (szs, .inl (cszs, 2001, .inl j24_szs)), (sv, .inl (csv, 2001, .inr (.inl j24_sv))), (h0, .inr (8, [.ref tr, .ref (sg sa n10), .int n8, .int n11, .long n12, .ref ss, .ref sp, .ref szs, .ref sv, .int j24_h0_length, .int h0_at])), (tr, .inr (1, [.ref tx, .int tr_length])), (tx, .inl (ctx, 2000, .inl gtx))] := hD
          refine lv_aload_n hx hb d_SC_begin_59 rfl (lv_at hl 0 rfl) ?_
          have hPc := hP.sub (ws' := [(h0, .inr (8, [.ref tr, .ref (sg sa n10), .int n8, .int n11, .long n12, .ref ss, .ref sp, .ref szs, .ref sv, .int j24_h0_length, .int h0_at])), (ss, .inl (css, 2001, .inr (.inr (.inr (.inr (fun j => (j24_ss j).map (sg sa))))))), (sp, .inl (csp, 2001, .inl j24_sp)), (szs, .inl (cszs, 2001, .inl j24_szs)), (sv, .inl (csv, 2001, .inr (.inl j24_sv)))]) [4, 0, 1, 2, 3] rfl
          have hDc := hD.sub (ws' := [(h0, .inr (8, [.ref tr, .ref (sg sa n10), .int n8, .int n11, .long n12, .ref ss, .ref sp, .ref szs, .ref sv, .int j24_h0_length, .int h0_at])), (ss, .inl (css, 2001, .inr (.inr (.inr (.inr (fun j => (j24_ss j).map (sg sa))))))), (sp, .inl (csp, 2001, .inl j24_sp)), (szs, .inl (cszs, 2001, .inl j24_szs)), (sv, .inl (csv, 2001, .inr (.inl j24_sv)))]) [4, 0, 1, 2, 3] (by decide) rfl
          have hKc := hK.sub (tys' := [(css, .object "WaferForge$Sign"), (csp, .int), (cszs, .int), (csv, .long)]) [1, 2, 3, 4] rfl
          have hFc := va_free (wc := [(h0, .inr (8, [.ref tr, .ref (sg sa n10), .int n8, .int n11, .long n12, .ref ss, .ref sp, .ref szs, .ref sv, .int j24_h0_length, .int h0_at])), (ss, .inl (css, 2001, .inr (.inr (.inr (.inr (fun j => (j24_ss j).map (sg sa))))))), (sp, .inl (csp, 2001, .inl j24_sp)), (szs, .inl (cszs, 2001, .inl j24_szs)), (sv, .inl (csv, 2001, .inr (.inl j24_sv)))]) hD hS hA [4, 0, 1, 2, 3] rfl
          refine va_callv (va_runV (As := []) (rest := []) ⟨hx, hb, hml, hown, hts⟩ (c_SC_keep l dC dI H.size sa h0 tr ss sp szs sv css csp cszs csv n10 n8 n11 n12 j24_h0_length h0_at j24_ss j24_sp j24_szs j24_sv (bn10) (bn8) (bn11) (b_j24_h0_length) (by omega)) (cwV 0 hts (gV kM_SC_61 kV_SC_keep kS_SC_keep kI_SC kC_SC_keep) rfl rfl rfl (by decide +kernel) ⟨Nat.le_of_ble_eq_true rfl, Nat.le_of_ble_eq_true rfl⟩) ⟨fun a U g mk z => by obtain ⟨z0, z1, zP, zK, zD, zS⟩ := z; exact ⟨z0, z1, zP, va_K.moved (u := U) (U := U.calling g mk a) (Vm.Alike.refl U.vm) zK, zD, sw.same (u := U) (U := U.calling g mk a) rfl zS⟩, va_recv hKc hPc (ci := 8) (q0 := 0) rfl rfl, fun U hU hW => ⟨rfl, by rw [hU], by rw [hU]; exact hPc, va_K.moved hW.alike hKc, hDc.weaken (fun _ _ _ _ => trivial), hSW.call hS hFc hW hU⟩⟩ rfl rfl hl.1 rfl (lv_room (Nat.le_of_ble_eq_true rfl)) d_SC_begin_60 ⟨(Nat.zero_le _), (Nat.zero_le _)⟩) hS (fun q _ h => hFc q h) hFc (fun u t H1 locs ht hvm hw hB hz1 hk1 hS => ?_)
          obtain ⟨n14, n15, n16, n17, n18⟩ := u
          try dsimp only at hw
          obtain ⟨bn18, xr13⟩ := hw
          try clear hw
          obtain ⟨hP1, hK1, hD1⟩ := hB
          rw [ht] at hP1
          obtain ⟨hP, hD⟩ := va_join (wr := [(tr, .inr (1, [.ref tx, .int tr_length])), (tx, .inl (ctx, 2000, .inl gtx))]) (w1 := [(h0, .inr (8, [.ref tr, .ref (sg sa n10), .int n8, .int n11, .long n12, .ref ss, .ref sp, .ref szs, .ref sv, .int n18, .int h0_at])), (ss, .inl (css, 2001, .inr (.inr (.inr (.inr (fun j => (n15 j).map (sg sa))))))), (sp, .inl (csp, 2001, .inl n14)), (szs, .inl (cszs, 2001, .inl n17)), (sv, .inl (csv, 2001, .inr (.inl n16)))]) hP hD [4, 0, 1, 2, 3] [5, 6] rfl rfl (by decide) (by decide) hk1 hFc hP1 hD1
          clear hPc hDc hKc hFc hz1 hk1 hP1 hK1 hD1
          generalize H1 = H at hP hS ⊢
          have hP : va_P (dC, dI) cls [(tr, .inr (1, [.ref tx, .int tr_length])), (tx, .inl (ctx, 2000, .inl gtx)), (h0, .inr (8, [.ref tr, .ref (sg sa n10), .int n8, .int n11, .long n12, .ref ss, .ref sp, .ref szs, .ref sv, .int n18, .int h0_at])), (ss, .inl (css, 2001, .inr (.inr (.inr (.inr (fun j => (n15 j).map (sg sa))))))), (sp, .inl (csp, 2001, .inl n14)), (szs, .inl (cszs, 2001, .inl n17)), (sv, .inl (csv, 2001, .inr (.inl n16)))] H := hP
          have hD : va_D A [(tr, .inr (1, [.ref tx, .int tr_length])), (tx, .inl (ctx, 2000, .inl gtx)), (h0, .inr (8, [.ref tr, .ref (sg sa n10), .int n8, .int n11, .long n12, .ref ss, .ref sp, .ref szs, .ref sv, .int n18, .int h0_at])), (ss, .inl (css, 2001, .inr (.inr (.inr (.inr (fun j => (n15 j).map (sg sa))))))), (sp, .inl (csp, 2001, .inl n14)), (szs, .inl (cszs, 2001, .inl n17)), (sv, .inl (csv, 2001, .inr (.inl n16)))] := hD
          obtain ⟨x19, ex19⟩ : ∃ z : Int32, z = j24_l1 + 1 := ⟨_, rfl⟩
          have tx19 : x19.toInt = j24_l1.toInt + 1 := by have z := i32_add ex19 (by omega) (by omega); omega
          refine lv_iinc (v := x19) (lv' := [(1, .int x19), (0, .ref h0)]) hx hb d_SC_begin_63 hl (k := 1) rfl (by rw [ex19]; rfl) (by decide) rfl (fun ls hl => ?_)
          refine lv_goto (tgt := 24) hx hb d_SC_begin_66 (by decide) ?_
          obtain ⟨y1, y2, y3, y4, y5⟩ := xr13
          have c9 := i32_clamp (x := j24_h0_length) (by omega)
          have N9 := tkP_next (len := j24_h0_length.toNatClampNeg) (p := n8) (z := n11) (v := n12) (by rw [c9]; exact v2) (by by_cases z : j24_l1.toInt = 0; exact Or.inl (by omega); exact Or.inr ⟨j24_h0_sign, by rw [show j24_h0_length.toNatClampNeg - 1 = (j24_l1.toInt - 1).toNat from by omega]; exact (v3.2 (by omega)).1, by omega, by omega, by rw [show j24_h0_length.toNatClampNeg - 1 = (j24_l1.toInt - 1).toNat from by omega, (v3.2 (by omega)).2.1, (v3.2 (by omega)).2.2]; omega⟩) bn10 ⟨by omega, by omega, by omega⟩ xr9.2
          rw [← y2, ← y3, ← y4, ← y5, show ((j24_h0_length.toNatClampNeg : Nat) : Int) + 1 = n18.toInt from by omega] at N9
          exact ih24 (x19, n14, n15, n16, n17, n18, n8, n10, n11, n12) _ _ _ (by show (2001 - x19.toInt).toNat < N24; omega) ⟨by (try dsimp only) <;> omega, bn18, bn8, bn10, bn11, by (try dsimp only) <;> omega, xr9.1, N9, ⟨fun z => absurd z (by (try dsimp only); omega), fun _ => by rw [show (x19.toInt - 1).toNat = j24_h0_length.toNatClampNeg from by omega, y2, y3, y4]; exact ⟨va_us, pk_us, pk_us⟩⟩, fun z1 z2 => by have z3 := xr9.2.1 z1 z2; (try dsimp only); have z4 := v4 (by omega) (by omega); omega, hP.sub [2, 0, 1, 3, 4, 5, 6] rfl, hD.sub [2, 0, 1, 3, 4, 5, 6] (by decide) rfl, hS, lv_sub hl [1, 0] rfl⟩

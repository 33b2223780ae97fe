/-! the reference: a part is added -/
theorem up_s {α : Type} {g g2 : Nat → Option α} {n : Nat} {y : α} (e : va_up g n (some y) = g2) : g2 n = some y ∧ ∀ j, j ≠ n → g2 j = g j := by
  subst e
  exact ⟨va_up_self _ _ _, fun j hj => va_up_ne _ _ hj⟩
abbrev b_MN_add : ByteArray := prog_18_method_2_code
def y_MN_add : MethodName := ⟨R_MN, "add", "(LWaferForgeModel$N;)V"⟩
abbrev w_MN_add : List Cond := .code y_MN_add b_MN_add 4 none :: lw_g
theorem kC_MN_add : Cond.code y_MN_add b_MN_add 4 none ∈ lw_g := in_g 2645 (by decide +kernel) rfl
theorem d_MN_add_0 : decode b_MN_add 0 = .ok (.aload_n 0, 1) := by decide +kernel
theorem d_MN_add_1 : decode b_MN_add 1 = .ok (.getfield 13, 3) := by decide +kernel
theorem d_MN_add_4 : decode b_MN_add 4 = .ok (.aload_n 0, 1) := by decide +kernel
theorem d_MN_add_5 : decode b_MN_add 5 = .ok (.getfield 9, 3) := by decide +kernel
theorem d_MN_add_8 : decode b_MN_add 8 = .ok (.arraylength, 1) := by decide +kernel
theorem d_MN_add_9 : decode b_MN_add 9 = .ok (.if_icmp .ne 43, 3) := by decide +kernel
theorem d_MN_add_12 : decode b_MN_add 12 = .ok (.iconst 2, 1) := by decide +kernel
theorem d_MN_add_13 : decode b_MN_add 13 = .ok (.aload_n 0, 1) := by decide +kernel
theorem d_MN_add_14 : decode b_MN_add 14 = .ok (.getfield 13, 3) := by decide +kernel
theorem d_MN_add_17 : decode b_MN_add 17 = .ok (.imul, 1) := by decide +kernel
theorem d_MN_add_18 : decode b_MN_add 18 = .ok (.anewarray 7, 3) := by decide +kernel
theorem d_MN_add_21 : decode b_MN_add 21 = .ok (.astore_n 2, 1) := by decide +kernel
theorem d_MN_add_22 : decode b_MN_add 22 = .ok (.iconst 0, 1) := by decide +kernel
theorem d_MN_add_23 : decode b_MN_add 23 = .ok (.istore_n 3, 1) := by decide +kernel
theorem d_MN_add_24 : decode b_MN_add 24 = .ok (.iload_n 3, 1) := by decide +kernel
theorem d_MN_add_25 : decode b_MN_add 25 = .ok (.aload_n 0, 1) := by decide +kernel
theorem d_MN_add_26 : decode b_MN_add 26 = .ok (.getfield 13, 3) := by decide +kernel
theorem d_MN_add_29 : decode b_MN_add 29 = .ok (.if_icmp .ge 18, 3) := by decide +kernel
theorem d_MN_add_32 : decode b_MN_add 32 = .ok (.aload_n 2, 1) := by decide +kernel
theorem d_MN_add_33 : decode b_MN_add 33 = .ok (.iload_n 3, 1) := by decide +kernel
theorem d_MN_add_34 : decode b_MN_add 34 = .ok (.aload_n 0, 1) := by decide +kernel
theorem d_MN_add_35 : decode b_MN_add 35 = .ok (.getfield 9, 3) := by decide +kernel
theorem d_MN_add_38 : decode b_MN_add 38 = .ok (.iload_n 3, 1) := by decide +kernel
theorem d_MN_add_39 : decode b_MN_add 39 = .ok (.aaload, 1) := by decide +kernel
theorem d_MN_add_40 : decode b_MN_add 40 = .ok (.aastore, 1) := by decide +kernel
theorem d_MN_add_41 : decode b_MN_add 41 = .ok (.iinc 3 1, 3) := by decide +kernel
theorem d_MN_add_44 : decode b_MN_add 44 = .ok (.goto (-20), 3) := by decide +kernel
theorem d_MN_add_47 : decode b_MN_add 47 = .ok (.aload_n 0, 1) := by decide +kernel
theorem d_MN_add_48 : decode b_MN_add 48 = .ok (.aload_n 2, 1) := by decide +kernel
theorem d_MN_add_49 : decode b_MN_add 49 = .ok (.putfield 9, 3) := by decide +kernel
theorem d_MN_add_52 : decode b_MN_add 52 = .ok (.aload_n 0, 1) := by decide +kernel
theorem d_MN_add_53 : decode b_MN_add 53 = .ok (.getfield 9, 3) := by decide +kernel
theorem d_MN_add_56 : decode b_MN_add 56 = .ok (.aload_n 0, 1) := by decide +kernel
theorem d_MN_add_57 : decode b_MN_add 57 = .ok (.getfield 13, 3) := by decide +kernel
theorem d_MN_add_60 : decode b_MN_add 60 = .ok (.aload_n 1, 1) := by decide +kernel
theorem d_MN_add_61 : decode b_MN_add 61 = .ok (.aastore, 1) := by decide +kernel
theorem d_MN_add_62 : decode b_MN_add 62 = .ok (.aload_n 0, 1) := by decide +kernel
theorem d_MN_add_63 : decode b_MN_add 63 = .ok (.dup, 1) := by decide +kernel
theorem d_MN_add_64 : decode b_MN_add 64 = .ok (.getfield 13, 3) := by decide +kernel
theorem d_MN_add_67 : decode b_MN_add 67 = .ok (.iconst 1, 1) := by decide +kernel
theorem d_MN_add_68 : decode b_MN_add 68 = .ok (.iadd, 1) := by decide +kernel
theorem d_MN_add_69 : decode b_MN_add 69 = .ok (.putfield 13, 3) := by decide +kernel
theorem d_MN_add_72 : decode b_MN_add 72 = .ok (.return_, 1) := by decide +kernel
theorem kF_MN_13 : Cond.fieldLink R_MN 13 "WaferForgeModel$N" "count" "I" ∈ lw_g := in_g 2595 (by decide +kernel) rfl
abbrev at_MN_add (dC : Nat → ClassId) (dI : Nat → Nat → Nat) (sz szl : Nat) (sa : Nat → Nat) (h0 pa : Nat) (cpn cr cpb : ClassId) (h0_op : Int32) (h0_place : Int32) (h0_name : Value) (h0_value : Int64) (h0_type : Int32) (h0_index : Int32) (h0_global : Int32) (LP : List Nat) (fP : Nat → va_E) (A : Nat → Prop) (u : (Nat → Option Nat) × Nat × Int32 × Nat × Nat × Nat) (t : State) : Prop := match u with | (gpa, pa, h0_count, kcz, knz, npa) => va_P (dC, dI) cls2 ([(h0, .inr (13, [.int h0_op, .int h0_place, h0_name, .long h0_value, .int h0_type, .ref pa, .int h0_count, .int h0_index, .int h0_global])), (pa, .inl (cpn, npa, .inr (.inr (.inr (.inr gpa)))))] ++ va_pl LP fP) t.heap ∧ va_K (dC, dI) cls2 [(cpn, .object "WaferForgeModel$N"), (cr, .int), (cpb, .byte)] t ∧ va_D A ([(h0, .inr (13, [.int h0_op, .int h0_place, h0_name, .long h0_value, .int h0_type, .ref pa, .int h0_count, .int h0_index, .int h0_global])), (pa, .inl (cpn, npa, .inr (.inr (.inr (.inr gpa)))))] ++ va_pl LP fP) ∧ t.heap.size ≤ sz + kcz ∧ hsl t.heap ≤ szl + knz
set_option maxHeartbeats 4000000 in
set_option maxRecDepth 100000 in
theorem c_MN_add (l : Launch) (hlt : l.stackTraces = false) (dC : Nat → ClassId) (dI : Nat → Nat → Nat) (sz : Nat) (szl : Nat) (sa : Nat → Nat) (h0 pa : Nat) (cpn cr cpb : ClassId) (h0_op : Int32) (h0_place : Int32) (h0_name : Value) (h0_value : Int64) (h0_type : Int32) (h0_count : Int32) (h0_index : Int32) (h0_global : Int32) (npa : Nat) (gpa : Nat → Option Nat) (LP : List Nat) (fP : Nat → va_E)  (b_h0_count : 0 ≤ h0_count.toInt ∧ h0_count.toInt ≤ 50000) (po_n : Nat)  (hn : bx (isN LP fP po_n)) (hel : bx (∀ j : Nat, (j : Int) < h0_count.toInt → ∃ y, gpa j = some y ∧ isN LP fP y)) (hc : h0_count.toInt ≤ (npa : Int) ∧ 1 ≤ npa ∧ npa ≤ 40000) : Met l y_MN_add w_MN_add ({ frames := 0, cells := 1, slots := 2 * h0_count.toInt.toNat, locals := 0 }) (va_Pc [.ref h0, .ref po_n] (fun U => U.heap.size = sz ∧ va_P (dC, dI) cls2 ([(h0, .inr (13, [.int h0_op, .int h0_place, h0_name, .long h0_value, .int h0_type, .ref pa, .int h0_count, .int h0_index, .int h0_global])), (pa, .inl (cpn, npa, .inr (.inr (.inr (.inr gpa)))))] ++ va_pl LP fP) U.heap ∧ va_K (dC, dI) cls2 [(cpn, .object "WaferForgeModel$N"), (cr, .int), (cpb, .byte)] U ∧ va_D (fun _ => True) ([(h0, .inr (13, [.int h0_op, .int h0_place, h0_name, .long h0_value, .int h0_type, .ref pa, .int h0_count, .int h0_index, .int h0_global])), (pa, .inl (cpn, npa, .inr (.inr (.inr (.inr gpa)))))] ++ va_pl LP fP) ∧ sm sa (va_A ([(h0, .inr (13, [.int h0_op, .int h0_place, h0_name, .long h0_value, .int h0_type, .ref pa, .int h0_count, .int h0_index, .int h0_global])), (pa, .inl (cpn, npa, .inr (.inr (.inr (.inr gpa)))))] ++ va_pl LP fP) sz) U U.heap ∧ hsl U.heap = szl)) (va_Qv (fun (u : (Nat → Option Nat) × Nat × Int32 × Nat × Nat × Nat) => match u with | (gpa2, pa2, h0_count2, kcz2, knz2, npa2) => (0 ≤ h0_count2.toInt ∧ h0_count2.toInt ≤ 50000) ∧ (h0_count2.toInt = h0_count.toInt + 1 ∧ gpa2 h0_count.toNatClampNeg = some po_n ∧ (∀ j : Nat, (j : Int) < h0_count.toInt → gpa2 j = gpa j) ∧ ((npa2 = npa ∧ kcz2 = 0 ∧ knz2 = 0) ∨ (h0_count.toInt = (npa : Int) ∧ npa2 = 2 * npa ∧ kcz2 = 1 ∧ knz2 = npa2)) ∧ h0_count2.toInt ≤ (npa2 : Int))) (at_MN_add dC dI sz szl sa h0 pa cpn cr cpb h0_op h0_place h0_name h0_value h0_type h0_index h0_global LP fP (va_A ([(h0, .inr (13, [.int h0_op, .int h0_place, h0_name, .long h0_value, .int h0_type, .ref pa, .int h0_count, .int h0_index, .int h0_global])), (pa, .inl (cpn, npa, .inr (.inr (.inr (.inr gpa)))))] ++ va_pl LP fP) sz)) (va_A ([(h0, .inr (13, [.int h0_op, .int h0_place, h0_name, .long h0_value, .int h0_type, .ref pa, .int h0_count, .int h0_index, .int h0_global])), (pa, .inl (cpn, npa, .inr (.inr (.inr (.inr gpa)))))] ++ va_pl LP fP) sz)) (1) (2 * h0_count.toInt.toNat) (va_A ([(h0, .inr (13, [.int h0_op, .int h0_place, h0_name, .long h0_value, .int h0_type, .ref pa, .int h0_count, .int h0_index, .int h0_global])), (pa, .inl (cpn, npa, .inr (.inr (.inr (.inr gpa)))))] ++ va_pl LP fP) sz) := by
  refine Met.ofW (cc := b_MN_add) (maxL := 4) (ret := none) (by decide) rfl ?_
  intro p e s m args below meth c s₁ B hml hv
  obtain ⟨rfl, hsz, hP, hK, hD0, hSW, hszl⟩ := hv
  have hx := B.exec
  have hb := B.bytes
  have hr := B.returns
  have hts0 := atoms_spec (ws := w_MN_add) B.pre
  have hts : ∀ w ∈ lw_g, w.before _ s = true := fun w h => hts0 w (List.mem_cons_of_mem _ h)
  have hown : s.vm.findClass R_MN = some m.cls := findClass_of_methodNamed B.named
  have hlocks := B.notSynchronized
  clear hts0
  subst hsz
  subst hszl
  have hD := hD0.self (sz := s.heap.size)
  generalize hAe : va_A ([(h0, .inr (13, [.int h0_op, .int h0_place, h0_name, .long h0_value, .int h0_type, .ref pa, .int h0_count, .int h0_index, .int h0_global])), (pa, .inl (cpn, npa, .inr (.inr (.inr (.inr gpa)))))] ++ va_pl LP fP) s.heap.size = A at hD hSW ⊢
  have hA : ∀ q : Nat, s.heap.size ≤ q → A q := fun q h => by rw [← hAe]; exact Or.inr h
  clear hAe
  have hP : va_P (dC, dI) cls2 ([(h0, .inr (13, [.int h0_op, .int h0_place, h0_name, .long h0_value, .int h0_type, .ref pa, .int h0_count, .int h0_index, .int h0_global])), (pa, .inl (cpn, npa, .inr (.inr (.inr (.inr gpa)))))] ++ va_pl LP fP) s.heap := hP
  have hl := lv_entry ([.ref h0, .ref po_n]) (n := 4) (Nat.le_of_ble_eq_true rfl)
  rw [lg_entry_eq]
  generalize (lg_sl ([.ref h0, .ref po_n]) ++ List.replicate (4 - (lg_sl ([.ref h0, .ref po_n])).length) Slot.unset).toArray = ls at hl ⊢
  have hl : lv_has ls 4 [(0, .ref h0), (1, .ref po_n)] := hl
  have k0 : (0 : Int32).toInt = 0 := by decide
  refine w_gen (A := A) hP (fun H locs hP hS => ?_)
  have k1 : (1 : Int32).toInt = 1 := by decide
  have k2 : (2 : Int32).toInt = 2 := by decide
  have hnd := vq_nd hD
  obtain ⟨hn1, vsn, hn2⟩ := hn.out
  refine lv_aload_n hx hb d_MN_add_0 rfl (lv_at hl 0 rfl) ?_
  refine va_get (D := (dC, dI)) (ci := 13) (v := .int h0_count) (C := R_MN) (T := F_MN) (N := 9) hx hb hts i_MN hown hK hP 0 rfl rfl 6 (by decide) (hts _ kF_MN_13) (fun _ h9 => h9) rfl d_MN_add_1 ?_
  refine lv_aload_n hx hb d_MN_add_4 rfl (lv_at hl 0 rfl) ?_
  refine va_get (D := (dC, dI)) (ci := 13) (v := .ref pa) (C := R_MN) (T := F_MN) (N := 9) hx hb hts i_MN hown hK hP 0 rfl rfl 5 (by decide) (hts _ kF_MN_9) (fun _ h9 => h9) rfl d_MN_add_5 ?_
  refine va_alen hx hb hK hP 1 0 rfl rfl rfl d_MN_add_8 ?_
  refine lv_topi (fun x1 ex1 => ?_)
  have tx1 : x1.toInt = npa := by rw [ex1]; exact i32_len (by omega)
  refine lv_icmp_ne (tgt := 52) hx hb d_MN_add_9 (by decide) (fun c9 => ?_) (fun c9 => ?_)
  · have q9 := neI c9
    refine lv_aload_n hx hb d_MN_add_52 rfl (lv_at hl 0 rfl) ?_
    refine va_get (D := (dC, dI)) (ci := 13) (v := .ref pa) (C := R_MN) (T := F_MN) (N := 9) hx hb hts i_MN hown hK hP 0 rfl rfl 5 (by decide) (hts _ kF_MN_9) (fun _ h9 => h9) rfl d_MN_add_53 ?_
    refine lv_aload_n hx hb d_MN_add_56 rfl (lv_at hl 0 rfl) ?_
    refine va_get (D := (dC, dI)) (ci := 13) (v := .int h0_count) (C := R_MN) (T := F_MN) (N := 9) hx hb hts i_MN hown hK hP 0 rfl rfl 6 (by decide) (hts _ kF_MN_13) (fun _ h9 => h9) rfl d_MN_add_57 ?_
    refine lv_aload_n hx hb d_MN_add_60 rfl (lv_at hl 1 rfl) ?_
    have g61 : vp_in h0_count npa := vp_in_iff.mpr ⟨by omega, by omega⟩
    obtain ⟨q2, hq2⟩ := pl_ix (X := [(h0, .inr (13, [.int h0_op, .int h0_place, h0_name, .long h0_value, .int h0_type, .ref pa, .int h0_count, .int h0_index, .int h0_global])), (pa, .inl (cpn, npa, .inr (.inr (.inr (.inr gpa)))))]) (L := LP) (f := fP) hn1 hn2
    refine va_astq hx hb hK hP hD hS 1 0 q2 13 rfl rfl hq2 rfl g61 d_MN_add_61 (fun H locs hP hD hS => ?_)
    have hP : va_P (dC, dI) cls2 ([(h0, .inr (13, [.int h0_op, .int h0_place, h0_name, .long h0_value, .int h0_type, .ref pa, .int h0_count, .int h0_index, .int h0_global])), (pa, .inl (cpn, npa, .inr (.inr (.inr (.inr ((va_up gpa h0_count.toNatClampNeg (some po_n))))))))] ++ va_pl LP fP) H := hP
    have hD : va_D A ([(h0, .inr (13, [.int h0_op, .int h0_place, h0_name, .long h0_value, .int h0_type, .ref pa, .int h0_count, .int h0_index, .int h0_global])), (pa, .inl (cpn, npa, .inr (.inr (.inr (.inr ((va_up gpa h0_count.toNatClampNeg (some po_n))))))))] ++ va_pl LP fP) := hD
    generalize ef3 : va_up gpa h0_count.toNatClampNeg (some po_n) = f3 at hP hD
    have z61 := up_s ef3
    have z60 := i32_clamp (x := h0_count) (by omega)
    refine lv_aload_n hx hb d_MN_add_62 rfl (lv_at hl 0 rfl) ?_
    refine lv_dup hx hb d_MN_add_63 rfl ?_
    refine va_get (D := (dC, dI)) (ci := 13) (v := .int h0_count) (C := R_MN) (T := F_MN) (N := 9) hx hb hts i_MN hown hK hP 0 rfl rfl 6 (by decide) (hts _ kF_MN_13) (fun _ h9 => h9) rfl d_MN_add_64 ?_
    refine lv_iconst (v := 1) hx hb d_MN_add_67 (by decide) ?_
    refine lv_iadd hx hb d_MN_add_68 ?_
    refine lv_topi (fun x4 ex4 => ?_)
    have tx4 : x4.toInt = h0_count.toInt + 1 := by have z := i32_add ex4 (by omega) (by omega); omega
    refine va_put (D := (dC, dI)) (ci := 13) (v := .int x4) (ty := .int) (C := R_MN) (T := F_MN) (N := 9) hx hb hts i_MN t_MN t_MN_ok n_MN hown hK hP hD hS 0 rfl rfl 6 (by decide) (hts _ kF_MN_13) (fun _ h9 => h9) rfl (by decide +kernel) rfl rfl (Nat.le_of_ble_eq_true rfl) d_MN_add_69 (fun H locs hP hD hS => ?_)
    have hP : va_P (dC, dI) cls2 ([(h0, .inr (13, [.int h0_op, .int h0_place, h0_name, .long h0_value, .int h0_type, .ref pa, .int x4, .int h0_index, .int h0_global])), (pa, .inl (cpn, npa, .inr (.inr (.inr (.inr f3)))))] ++ va_pl LP fP) H := hP
    have hD : va_D A ([(h0, .inr (13, [.int h0_op, .int h0_place, h0_name, .long h0_value, .int h0_type, .ref pa, .int x4, .int h0_index, .int h0_global])), (pa, .inl (cpn, npa, .inr (.inr (.inr (.inr f3)))))] ++ va_pl LP fP) := hD
    have hP9 := hP.part (cx := [(h0, .inr (13, [.int h0_op, .int h0_place, h0_name, .long h0_value, .int h0_type, .ref pa, .int x4, .int h0_index, .int h0_global])), (pa, .inl (cpn, npa, .inr (.inr (.inr (.inr f3)))))]) [0, 1] rfl
    have hD9 := hD.part (cx := [(h0, .inr (13, [.int h0_op, .int h0_place, h0_name, .long h0_value, .int h0_type, .ref pa, .int x4, .int h0_index, .int h0_global])), (pa, .inl (cpn, npa, .inr (.inr (.inr (.inr f3)))))]) [0, 1] (by decide) rfl
    refine w_known (fun hzc hzs => ?_)
    refine W.widen (k := 1) (n := 2 * h0_count.toInt.toNat) (by omega) (by omega) ?_
    exact W.vret hx hb hr (fun t ht hW => ⟨⟨(f3, pa, x4, 0, 0, npa), rfl, ⟨by (try dsimp only) <;> omega, ⟨by (try dsimp only) <;> omega, z61.1, fun j hj => by rw [z61.2 j (by omega)], by (try dsimp only) <;> omega, by (try dsimp only) <;> omega⟩⟩, by rw [ht]; exact hP9, va_K.moved hW.alike hK, hD9, by rw [ht]; exact hzc, by rw [ht]; exact hzs⟩, hS.F ht⟩) hS.2.2 d_MN_add_72
  · have q9 := eqI c9
    refine lv_iconst (v := 2) hx hb d_MN_add_12 (by decide) ?_
    refine lv_aload_n hx hb d_MN_add_13 rfl (lv_at hl 0 rfl) ?_
    refine va_get (D := (dC, dI)) (ci := 13) (v := .int h0_count) (C := R_MN) (T := F_MN) (N := 9) hx hb hts i_MN hown hK hP 0 rfl rfl 6 (by decide) (hts _ kF_MN_13) (fun _ h9 => h9) rfl d_MN_add_14 ?_
    refine lv_imul hx hb d_MN_add_17 ?_
    refine lv_topi (fun x5 ex5 => ?_)
    have tx5 : x5.toInt = 2 * h0_count.toInt := by have z := i32_mul ex5 (by rw [k2]; omega) (by rw [k2]; omega); rw [k2] at z; exact z
    obtain ⟨N6, eN6⟩ : ∃ z : Nat, x5.toNatClampNeg = z := ⟨_, rfl⟩
    have tN6 : (N6 : Int) = x5.toInt := by rw [← eN6]; exact i32_clamp (by omega)
    refine vn_newq (C := "WaferForgeModel$N") hx hb hown (hts _ kK_MN_7) (hSW.aoN) hK hP hD hS hA 0 rfl N6 (nneg9 (by omega)) eN6 (by omega) (by dsimp only [headSpec]; omega) (by dsimp only [headSpec]; omega) d_MN_add_18 (fun nq18 H hP hD hS => ?_)
    obtain ⟨hP, hD⟩ := vn_mv hP hD
    have hP : va_P (dC, dI) cls2 ([(h0, .inr (13, [.int h0_op, .int h0_place, h0_name, .long h0_value, .int h0_type, .ref pa, .int h0_count, .int h0_index, .int h0_global])), (pa, .inl (cpn, npa, .inr (.inr (.inr (.inr gpa))))), (nq18, .inl (cpn, N6, .inr (.inr (.inr (.inr (fun _ => none))))))] ++ va_pl LP fP) H := hP
    have hD : va_D A ([(h0, .inr (13, [.int h0_op, .int h0_place, h0_name, .long h0_value, .int h0_type, .ref pa, .int h0_count, .int h0_index, .int h0_global])), (pa, .inl (cpn, npa, .inr (.inr (.inr (.inr gpa))))), (nq18, .inl (cpn, N6, .inr (.inr (.inr (.inr (fun _ => none))))))] ++ va_pl LP fP) := hD
    refine lv_astore_n (lv' := [(2, .ref nq18), (0, .ref h0), (1, .ref po_n)]) hx hb d_MN_add_21 rfl hl (by decide) rfl (fun ls hl => ?_)
    refine lv_iconst (v := 0) hx hb d_MN_add_22 (by decide) ?_
    refine lv_istore_n (lv' := [(3, .int 0), (2, .ref nq18), (0, .ref h0), (1, .ref po_n)]) hx hb d_MN_add_23 rfl hl (by decide) rfl (fun ls hl => ?_)
    refine w_loop (σ := Int32 × (Nat → Option Nat)) (fun u H locs ls => match u with | (j24_l3, j24_nq18) => (0 ≤ j24_l3.toInt ∧ j24_l3.toInt ≤ 50000) ∧ (j24_l3.toInt ≤ h0_count.toInt) ∧ (bx (∀ j : Nat, (j : Int) < j24_l3.toInt → j24_nq18 j = gpa j)) ∧ va_P (dC, dI) cls2 ([(h0, .inr (13, [.int h0_op, .int h0_place, h0_name, .long h0_value, .int h0_type, .ref pa, .int h0_count, .int h0_index, .int h0_global])), (pa, .inl (cpn, npa, .inr (.inr (.inr (.inr gpa))))), (nq18, .inl (cpn, N6, .inr (.inr (.inr (.inr j24_nq18)))))] ++ va_pl LP fP) H ∧ va_D A ([(h0, .inr (13, [.int h0_op, .int h0_place, h0_name, .long h0_value, .int h0_type, .ref pa, .int h0_count, .int h0_index, .int h0_global])), (pa, .inl (cpn, npa, .inr (.inr (.inr (.inr gpa))))), (nq18, .inl (cpn, N6, .inr (.inr (.inr (.inr j24_nq18)))))] ++ va_pl LP fP) ∧ va_S A s.heap H locs ∧ lv_has ls 4 [(0, .ref h0), (1, .ref po_n), (2, .ref nq18), (3, .int j24_l3)]) (fun u => match u with | (j24_l3, j24_nq18) => (h0_count.toInt - j24_l3.toInt).toNat) ?_ (0, fun _ => none) ⟨by (try dsimp only) <;> omega, by (try dsimp only) <;> omega, (fun j hj => absurd hj (by rw [k0]; omega)), hP, hD, hS, lv_sub hl [2, 3, 1, 0] rfl⟩
    intro N24 ih24 u H locs ls hN24 hI
    obtain ⟨j24_l3, j24_nq18⟩ := u
    obtain ⟨b_j24_l3, u0, u1, hP, hD, hS, hl⟩ := hI
    have hN24 : (h0_count.toInt - j24_l3.toInt).toNat < N24 + 1 := hN24
    refine lv_iload_n hx hb d_MN_add_24 rfl (lv_at hl 3 rfl) ?_
    refine lv_aload_n hx hb d_MN_add_25 rfl (lv_at hl 0 rfl) ?_
    refine va_get (D := (dC, dI)) (ci := 13) (v := .int h0_count) (C := R_MN) (T := F_MN) (N := 9) hx hb hts i_MN hown hK hP 0 rfl rfl 6 (by decide) (hts _ kF_MN_13) (fun _ h9 => h9) rfl d_MN_add_26 ?_
    refine lv_icmp_ge (tgt := 47) hx hb d_MN_add_29 (by decide) (fun c29 => ?_) (fun c29 => ?_)
    · have q29 := leI c29
      refine lv_aload_n hx hb d_MN_add_47 rfl (lv_at hl 0 rfl) ?_
      refine lv_aload_n hx hb d_MN_add_48 rfl (lv_at hl 2 rfl) ?_
      refine va_put (D := (dC, dI)) (ci := 13) (v := .ref nq18) (ty := .array (.object "WaferForgeModel$N")) (C := R_MN) (T := F_MN) (N := 9) hx hb hts i_MN t_MN t_MN_ok n_MN hown hK hP hD hS 0 rfl rfl 5 (by decide) (hts _ kF_MN_9) (fun _ h9 => h9) rfl (by decide +kernel) rfl rfl (Nat.le_of_ble_eq_true rfl) d_MN_add_49 (fun H locs hP hD hS => ?_)
      refine lv_aload_n hx hb d_MN_add_52 rfl (lv_at hl 0 rfl) ?_
      refine va_get (D := (dC, dI)) (ci := 13) (v := .ref nq18) (C := R_MN) (T := F_MN) (N := 9) hx hb hts i_MN hown hK hP 0 rfl rfl 5 (by decide) (hts _ kF_MN_9) (fun _ h9 => h9) rfl d_MN_add_53 ?_
      refine lv_aload_n hx hb d_MN_add_56 rfl (lv_at hl 0 rfl) ?_
      refine va_get (D := (dC, dI)) (ci := 13) (v := .int h0_count) (C := R_MN) (T := F_MN) (N := 9) hx hb hts i_MN hown hK hP 0 rfl rfl 6 (by decide) (hts _ kF_MN_13) (fun _ h9 => h9) rfl d_MN_add_57 ?_
      refine lv_aload_n hx hb d_MN_add_60 rfl (lv_at hl 1 rfl) ?_
      have g61 : vp_in h0_count N6 := vp_in_iff.mpr ⟨by omega, by omega⟩
      obtain ⟨q7, hq7⟩ := pl_ix (X := [(h0, .inr (13, [.int h0_op, .int h0_place, h0_name, .long h0_value, .int h0_type, .ref nq18, .int h0_count, .int h0_index, .int h0_global])), (pa, .inl (cpn, npa, .inr (.inr (.inr (.inr gpa))))), (nq18, .inl (cpn, N6, .inr (.inr (.inr (.inr j24_nq18)))))]) (L := LP) (f := fP) hn1 hn2
      refine va_astq hx hb hK hP hD hS 2 0 q7 13 rfl rfl hq7 rfl g61 d_MN_add_61 (fun H locs hP hD hS => ?_)
      have hP : va_P (dC, dI) cls2 ([(h0, .inr (13, [.int h0_op, .int h0_place, h0_name, .long h0_value, .int h0_type, .ref nq18, .int h0_count, .int h0_index, .int h0_global])), (pa, .inl (cpn, npa, .inr (.inr (.inr (.inr gpa))))), (nq18, .inl (cpn, N6, .inr (.inr (.inr (.inr ((va_up j24_nq18 h0_count.toNatClampNeg (some po_n))))))))] ++ va_pl LP fP) H := hP
      have hD : va_D A ([(h0, .inr (13, [.int h0_op, .int h0_place, h0_name, .long h0_value, .int h0_type, .ref nq18, .int h0_count, .int h0_index, .int h0_global])), (pa, .inl (cpn, npa, .inr (.inr (.inr (.inr gpa))))), (nq18, .inl (cpn, N6, .inr (.inr (.inr (.inr ((va_up j24_nq18 h0_count.toNatClampNeg (some po_n))))))))] ++ va_pl LP fP) := hD
      generalize ef8 : va_up j24_nq18 h0_count.toNatClampNeg (some po_n) = f8 at hP hD
      have z61 := up_s ef8
      have z60 := i32_clamp (x := h0_count) (by omega)
      refine lv_aload_n hx hb d_MN_add_62 rfl (lv_at hl 0 rfl) ?_
      refine lv_dup hx hb d_MN_add_63 rfl ?_
      refine va_get (D := (dC, dI)) (ci := 13) (v := .int h0_count) (C := R_MN) (T := F_MN) (N := 9) hx hb hts i_MN hown hK hP 0 rfl rfl 6 (by decide) (hts _ kF_MN_13) (fun _ h9 => h9) rfl d_MN_add_64 ?_
      refine lv_iconst (v := 1) hx hb d_MN_add_67 (by decide) ?_
      refine lv_iadd hx hb d_MN_add_68 ?_
      refine lv_topi (fun x9 ex9 => ?_)
      have tx9 : x9.toInt = h0_count.toInt + 1 := by have z := i32_add ex9 (by omega) (by omega); omega
      refine va_put (D := (dC, dI)) (ci := 13) (v := .int x9) (ty := .int) (C := R_MN) (T := F_MN) (N := 9) hx hb hts i_MN t_MN t_MN_ok n_MN hown hK hP hD hS 0 rfl rfl 6 (by decide) (hts _ kF_MN_13) (fun _ h9 => h9) rfl (by decide +kernel) rfl rfl (Nat.le_of_ble_eq_true rfl) d_MN_add_69 (fun H locs hP hD hS => ?_)
      have hP : va_P (dC, dI) cls2 ([(h0, .inr (13, [.int h0_op, .int h0_place, h0_name, .long h0_value, .int h0_type, .ref nq18, .int x9, .int h0_index, .int h0_global])), (pa, .inl (cpn, npa, .inr (.inr (.inr (.inr gpa))))), (nq18, .inl (cpn, N6, .inr (.inr (.inr (.inr f8)))))] ++ va_pl LP fP) H := hP
      have hD : va_D A ([(h0, .inr (13, [.int h0_op, .int h0_place, h0_name, .long h0_value, .int h0_type, .ref nq18, .int x9, .int h0_index, .int h0_global])), (pa, .inl (cpn, npa, .inr (.inr (.inr (.inr gpa))))), (nq18, .inl (cpn, N6, .inr (.inr (.inr (.inr f8)))))] ++ va_pl LP fP) := hD
      have hP9 := hP.part (cx := [(h0, .inr (13, [.int h0_op, .int h0_place, h0_name, .long h0_value, .int h0_type, .ref nq18, .int x9, .int h0_index, .int h0_global])), (nq18, .inl (cpn, N6, .inr (.inr (.inr (.inr f8)))))]) [0, 2] rfl
      have hD9 := hD.part (cx := [(h0, .inr (13, [.int h0_op, .int h0_place, h0_name, .long h0_value, .int h0_type, .ref nq18, .int x9, .int h0_index, .int h0_global])), (nq18, .inl (cpn, N6, .inr (.inr (.inr (.inr f8)))))]) [0, 2] (by decide) rfl
      refine w_known (fun hzc hzs => ?_)
      refine W.widen (k := 1) (n := 2 * h0_count.toInt.toNat) (by omega) (by omega) ?_
      exact W.vret hx hb hr (fun t ht hW => ⟨⟨(f8, nq18, x9, 0 + 1, 0 + N6, N6), rfl, ⟨by (try dsimp only) <;> omega, ⟨by (try dsimp only) <;> omega, z61.1, fun j hj => by rw [z61.2 j (by omega)]; exact u1.out j (by omega), by (try dsimp only) <;> omega, by (try dsimp only) <;> omega⟩⟩, by rw [ht]; exact hP9, va_K.moved hW.alike hK, hD9, by rw [ht]; exact hzc, by rw [ht]; exact hzs⟩, hS.F ht⟩) hS.2.2 d_MN_add_72
    · have q29 := nleI c29
      refine lv_aload_n hx hb d_MN_add_32 rfl (lv_at hl 2 rfl) ?_
      refine lv_iload_n hx hb d_MN_add_33 rfl (lv_at hl 3 rfl) ?_
      refine lv_aload_n hx hb d_MN_add_34 rfl (lv_at hl 0 rfl) ?_
      refine va_get (D := (dC, dI)) (ci := 13) (v := .ref pa) (C := R_MN) (T := F_MN) (N := 9) hx hb hts i_MN hown hK hP 0 rfl rfl 5 (by decide) (hts _ kF_MN_9) (fun _ h9 => h9) rfl d_MN_add_35 ?_
      refine lv_iload_n hx hb d_MN_add_38 rfl (lv_at hl 3 rfl) ?_
      have z39 := i32_clamp (x := j24_l3) (by omega)
      obtain ⟨po_y, ey, hy1, vsy, hy2⟩ := hel.out j24_l3.toNatClampNeg (by omega)
      have g39 : vp_in j24_l3 npa := vp_in_iff.mpr ⟨by omega, by omega⟩
      refine vq_aldo hx hb hK hP 1 0 rfl rfl g39 (y := po_y) ey d_MN_add_39 ?_
      have g40 : vp_in j24_l3 N6 := vp_in_iff.mpr ⟨by omega, by omega⟩
      obtain ⟨q10, hq10⟩ := pl_ix (X := [(h0, .inr (13, [.int h0_op, .int h0_place, h0_name, .long h0_value, .int h0_type, .ref pa, .int h0_count, .int h0_index, .int h0_global])), (pa, .inl (cpn, npa, .inr (.inr (.inr (.inr gpa))))), (nq18, .inl (cpn, N6, .inr (.inr (.inr (.inr j24_nq18)))))]) (L := LP) (f := fP) hy1 hy2
      refine va_astq hx hb hK hP hD hS 2 0 q10 13 rfl rfl hq10 rfl g40 d_MN_add_40 (fun H locs hP hD hS => ?_)
      have hP : va_P (dC, dI) cls2 ([(h0, .inr (13, [.int h0_op, .int h0_place, h0_name, .long h0_value, .int h0_type, .ref pa, .int h0_count, .int h0_index, .int h0_global])), (pa, .inl (cpn, npa, .inr (.inr (.inr (.inr gpa))))), (nq18, .inl (cpn, N6, .inr (.inr (.inr (.inr ((va_up j24_nq18 j24_l3.toNatClampNeg (some po_y))))))))] ++ va_pl LP fP) H := hP
      have hD : va_D A ([(h0, .inr (13, [.int h0_op, .int h0_place, h0_name, .long h0_value, .int h0_type, .ref pa, .int h0_count, .int h0_index, .int h0_global])), (pa, .inl (cpn, npa, .inr (.inr (.inr (.inr gpa))))), (nq18, .inl (cpn, N6, .inr (.inr (.inr (.inr ((va_up j24_nq18 j24_l3.toNatClampNeg (some po_y))))))))] ++ va_pl LP fP) := hD
      generalize ef11 : va_up j24_nq18 j24_l3.toNatClampNeg (some po_y) = f11 at hP hD
      have z40 := up_s ef11
      obtain ⟨x12, ex12⟩ : ∃ z : Int32, z = j24_l3 + 1 := ⟨_, rfl⟩
      have tx12 : x12.toInt = j24_l3.toInt + 1 := by have z := i32_add ex12 (by omega) (by omega); omega
      refine lv_iinc (v := x12) (lv' := [(3, .int x12), (0, .ref h0), (1, .ref po_n), (2, .ref nq18)]) hx hb d_MN_add_41 hl (k := 3) rfl (by rw [ex12]; rfl) (by decide) rfl (fun ls hl => ?_)
      refine lv_goto (tgt := 24) hx hb d_MN_add_44 (by decide) ?_
      exact ih24 (x12, f11) _ _ _ (by show (h0_count.toInt - x12.toInt).toNat < N24; omega) ⟨by (try dsimp only) <;> omega, by (try dsimp only) <;> omega, (fun j hj => by by_cases q : j = j24_l3.toNatClampNeg; (rw [q, z40.1, ey]); (rw [z40.2 j q]; exact u1.out j (by omega))), hP, hD, hS, lv_sub hl [1, 2, 3, 0] rfl⟩

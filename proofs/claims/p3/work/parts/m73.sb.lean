/-! the makers of texts: arrays are copied -/
def R_JQ : String := "java/lang/AbstractStringBuilder"
theorem kI_JQ : Cond.initialized R_JQ ∈ lw_g := in_g 30 (by decide +kernel) rfl
def R_JU : String := "jdk/internal/util/ArraysSupport"
theorem kI_JU : Cond.initialized R_JU ∈ lw_g := in_g 32 (by decide +kernel) rfl
abbrev b_JU_newLength : ByteArray := prog_41_method_27_code
def y_JU_newLength : MethodName := ⟨R_JU, "newLength", "(III)I"⟩
abbrev w_JU_newLength : List Cond := .code y_JU_newLength b_JU_newLength 4 (Option.some .int) :: lw_g
theorem kC_JU_newLength : Cond.code y_JU_newLength b_JU_newLength 4 (Option.some .int) ∈ lw_g := in_g 2186 (by decide +kernel) rfl
theorem d_JU_newLength_0 : decode b_JU_newLength 0 = .ok (.iload_n 0, 1) := by decide +kernel
theorem d_JU_newLength_1 : decode b_JU_newLength 1 = .ok (.iload_n 1, 1) := by decide +kernel
theorem d_JU_newLength_2 : decode b_JU_newLength 2 = .ok (.iload_n 2, 1) := by decide +kernel
theorem d_JU_newLength_3 : decode b_JU_newLength 3 = .ok (.invokestatic 194, 3) := by decide +kernel
theorem d_JU_newLength_6 : decode b_JU_newLength 6 = .ok (.iadd, 1) := by decide +kernel
theorem d_JU_newLength_7 : decode b_JU_newLength 7 = .ok (.istore_n 3, 1) := by decide +kernel
theorem d_JU_newLength_8 : decode b_JU_newLength 8 = .ok (.iconst 0, 1) := by decide +kernel
theorem d_JU_newLength_9 : decode b_JU_newLength 9 = .ok (.iload_n 3, 1) := by decide +kernel
theorem d_JU_newLength_10 : decode b_JU_newLength 10 = .ok (.if_icmp .ge 11, 3) := by decide +kernel
theorem d_JU_newLength_13 : decode b_JU_newLength 13 = .ok (.iload_n 3, 1) := by decide +kernel
theorem d_JU_newLength_14 : decode b_JU_newLength 14 = .ok (.ldc 200, 2) := by decide +kernel
theorem d_JU_newLength_16 : decode b_JU_newLength 16 = .ok (.if_icmp .gt 5, 3) := by decide +kernel
theorem d_JU_newLength_19 : decode b_JU_newLength 19 = .ok (.iload_n 3, 1) := by decide +kernel
theorem d_JU_newLength_20 : decode b_JU_newLength 20 = .ok (.ireturn, 1) := by decide +kernel
theorem d_JU_newLength_21 : decode b_JU_newLength 21 = .ok (.iload_n 0, 1) := by decide +kernel
theorem d_JU_newLength_22 : decode b_JU_newLength 22 = .ok (.iload_n 1, 1) := by decide +kernel
theorem d_JU_newLength_23 : decode b_JU_newLength 23 = .ok (.invokestatic 201, 3) := by decide +kernel
theorem d_JU_newLength_26 : decode b_JU_newLength 26 = .ok (.ireturn, 1) := by decide +kernel
abbrev b_JM_max : ByteArray := prog_31_method_65_code
def y_JM_max : MethodName := ⟨R_JM, "max", "(II)I"⟩
abbrev w_JM_max : List Cond := .code y_JM_max b_JM_max 2 (Option.some .int) :: lw_g
theorem kC_JM_max : Cond.code y_JM_max b_JM_max 2 (Option.some .int) ∈ lw_g := in_g 2189 (by decide +kernel) rfl
theorem kM_JU_194 : Cond.methodLink R_JU 194 y_JM_max ∈ lw_g := in_g 2187 (by decide +kernel) rfl
theorem kT_JM_max : Cond.static y_JM_max ∈ lw_g := in_g 2188 (by decide +kernel) rfl
abbrev b_JU_hugeLength : ByteArray := prog_41_method_28_code
def y_JU_hugeLength : MethodName := ⟨R_JU, "hugeLength", "(II)I"⟩
abbrev w_JU_hugeLength : List Cond := .code y_JU_hugeLength b_JU_hugeLength 3 (Option.some .int) :: lw_g
theorem kC_JU_hugeLength : Cond.code y_JU_hugeLength b_JU_hugeLength 3 (Option.some .int) ∈ lw_g := in_g 2193 (by decide +kernel) rfl
theorem kM_JU_201 : Cond.methodLink R_JU 201 y_JU_hugeLength ∈ lw_g := in_g 2191 (by decide +kernel) rfl
theorem kT_JU_hugeLength : Cond.static y_JU_hugeLength ∈ lw_g := in_g 2192 (by decide +kernel) rfl
theorem kJ_JU_200 : Cond.constant R_JU 200 (2147483639) ∈ lw_g := in_g 2190 (by decide +kernel) rfl
abbrev at_JU_newLength (dC : Nat → ClassId) (dI : Nat → Nat → Nat)  (A : Nat → Prop) (u : Unit) (t : State) : Prop := match u with | _ => va_P (dC, dI) cls2 [] t.heap ∧ va_K (dC, dI) cls2 [] t ∧ va_D A []
set_option maxHeartbeats 4000000 in
set_option maxRecDepth 100000 in
theorem c_JU_newLength (l : Launch) (hlt : l.stackTraces = false) (dC : Nat → ClassId) (dI : Nat → Nat → Nat) (sz : Nat)    (p0 : Int32) (p1 : Int32) (p2 : Int32) (ba0 : 0 ≤ p0.toInt ∧ p0.toInt ≤ 1000000) (ba1 : -1000000 ≤ p1.toInt ∧ p1.toInt ≤ 1000000) (ba2 : 0 ≤ p2.toInt ∧ p2.toInt ≤ 1000002) (hmx : 1 ≤ p0.toInt + p2.toInt) : Met l y_JU_newLength w_JU_newLength ({ frames := 1, cells := 0, slots := 0, locals := 24 }) (va_Pc [.int p0, .int p1, .int p2] (fun U => U.heap.size = sz ∧ va_P (dC, dI) cls2 [] U.heap ∧ va_K (dC, dI) cls2 [] U ∧ va_D (fun _ => True) [])) (va_Qi (fun (r : Int32) (u : Unit) => match u with | _ => (r.toInt = p0.toInt + max p1.toInt p2.toInt)) (at_JU_newLength dC dI  (va_A [] sz)) (va_A [] sz)) 0 0 (va_A [] sz) := by
  refine Met.ofW (cc := b_JU_newLength) (maxL := 4) (ret := (Option.some .int)) (by decide) rfl ?_
  intro p e s m args below meth c s₁ B hml hv
  obtain ⟨rfl, hsz, hP, hK, hD0⟩ := hv
  have hx := B.exec
  have hb := B.bytes
  have hr := B.returns
  have hts0 := atoms_spec (ws := w_JU_newLength) B.pre
  have hts : ∀ w ∈ lw_g, w.before _ s = true := fun w h => hts0 w (List.mem_cons_of_mem _ h)
  have hown : s.vm.findClass R_JU = some m.cls := findClass_of_methodNamed B.named
  have hlocks := B.notSynchronized
  clear hts0
  subst hsz
  have hD := hD0.self (sz := s.heap.size)
  generalize hAe : va_A [] s.heap.size = A at hD ⊢
  have hA : ∀ q : Nat, s.heap.size ≤ q → A q := fun q h => by rw [← hAe]; exact Or.inr h
  clear hAe
  have hP : va_P (dC, dI) cls2 [] s.heap := hP
  have hl := lv_entry ([.int p0, .int p1, .int p2]) (n := 4) (Nat.le_of_ble_eq_true rfl)
  rw [lg_entry_eq]
  generalize (lg_sl ([.int p0, .int p1, .int p2]) ++ List.replicate (4 - (lg_sl ([.int p0, .int p1, .int p2])).length) Slot.unset).toArray = ls at hl ⊢
  have hl : lv_has ls 4 [(0, .int p0), (1, .int p1), (2, .int p2)] := hl
  have k0 : (0 : Int32).toInt = 0 := by decide
  refine w_gen (A := A) hP (fun H locs hP hS => ?_)
  have lo_p0 := i32_lo p0
  have hi_p0 := i32_hi p0
  have lo_p1 := i32_lo p1
  have hi_p1 := i32_hi p1
  have lo_p2 := i32_lo p2
  have hi_p2 := i32_hi p2
  refine lv_iload_n hx hb d_JU_newLength_0 rfl (lv_at hl 0 rfl) ?_
  refine lv_iload_n hx hb d_JU_newLength_1 rfl (lv_at hl 1 rfl) ?_
  refine lv_iload_n hx hb d_JU_newLength_2 rfl (lv_at hl 2 rfl) ?_
  refine va_mmax hx hb (hml.trans hl.1.symm) hown (hts _ kM_JU_194) (hts _ kT_JM_max) (hts _ kI_JM) (hts _ kC_JM_max) (Nat.le_of_ble_eq_true rfl) (Nat.le_of_ble_eq_true rfl) (Nat.zero_le _) (Nat.zero_le _) d_JU_newLength_3 ?_
  refine lv_topi (fun x1 ex1 => ?_)
  have tx1 := max32 ex1
  refine lv_iadd hx hb d_JU_newLength_6 ?_
  refine lv_topi (fun x2 ex2 => ?_)
  have tx2 : x2.toInt = p0.toInt + x1.toInt := by have z := i32_add ex2 (by omega) (by omega); omega
  refine lv_istore_n (lv' := [(3, .int x2), (0, .int p0), (1, .int p1), (2, .int p2)]) hx hb d_JU_newLength_7 rfl hl (by decide) rfl (fun ls hl => ?_)
  refine lv_iconst (v := 0) hx hb d_JU_newLength_8 (by decide) ?_
  refine lv_iload_n hx hb d_JU_newLength_9 rfl (lv_at hl 0 rfl) ?_
  refine lv_icmp_ge (tgt := 21) hx hb d_JU_newLength_10 (by decide) (fun c10 => absurd (leI c10) (by omega)) (fun c10 => ?_)
  have q10 := nleI c10
  refine lv_iload_n hx hb d_JU_newLength_13 rfl (lv_at hl 0 rfl) ?_
  refine lv_ldc hx hb hown (hts _ kJ_JU_200) d_JU_newLength_14 ?_
  refine lv_topi (fun x3 ex3 => ?_)
  have tx3 : x3.toInt = 2147483639 := by rw [ex3]; decide
  refine lv_icmp_gt (tgt := 21) hx hb d_JU_newLength_16 (by decide) (fun c16 => absurd (ltI c16) (by omega)) (fun c16 => ?_)
  have q16 := nltI c16
  refine lv_iload_n hx hb d_JU_newLength_19 rfl (lv_at hl 0 rfl) ?_
  have hP9 := hP.sub (ws' := []) [] rfl
  have hD9 := hD.sub (ws' := []) [] (by decide) rfl
  exact W.iret (v := x2) hx hb hr (fun t ht hW => ⟨⟨x2, (), rfl, (by (try dsimp only) <;> omega), by rw [ht]; exact hP9, va_K.moved hW.alike hK, hD9⟩, hS.F ht⟩) hS.2.2 d_JU_newLength_20
abbrev b_JA_copyOf : ByteArray := prog_40_method_121_code
def y_JA_copyOf : MethodName := ⟨R_JA, "copyOf", "([BI)[B"⟩
abbrev w_JA_copyOf : List Cond := .code y_JA_copyOf b_JA_copyOf 3 (Option.some (.array .byte)) :: lw_g
theorem kC_JA_copyOf : Cond.code y_JA_copyOf b_JA_copyOf 3 (Option.some (.array .byte)) ∈ lw_g := in_g 2197 (by decide +kernel) rfl
theorem d_JA_copyOf_0 : decode b_JA_copyOf 0 = .ok (.iload_n 1, 1) := by decide +kernel
theorem d_JA_copyOf_1 : decode b_JA_copyOf 1 = .ok (.aload_n 0, 1) := by decide +kernel
theorem d_JA_copyOf_2 : decode b_JA_copyOf 2 = .ok (.arraylength, 1) := by decide +kernel
theorem d_JA_copyOf_3 : decode b_JA_copyOf 3 = .ok (.if_icmp .ne 11, 3) := by decide +kernel
theorem d_JA_copyOf_6 : decode b_JA_copyOf 6 = .ok (.aload_n 0, 1) := by decide +kernel
theorem d_JA_copyOf_7 : decode b_JA_copyOf 7 = .ok (.invokevirtual 310, 3) := by decide +kernel
theorem d_JA_copyOf_10 : decode b_JA_copyOf 10 = .ok (.checkcast 311, 3) := by decide +kernel
theorem d_JA_copyOf_13 : decode b_JA_copyOf 13 = .ok (.areturn, 1) := by decide +kernel
theorem d_JA_copyOf_14 : decode b_JA_copyOf 14 = .ok (.iload_n 1, 1) := by decide +kernel
theorem d_JA_copyOf_15 : decode b_JA_copyOf 15 = .ok (.newarray .byte, 2) := by decide +kernel
theorem d_JA_copyOf_17 : decode b_JA_copyOf 17 = .ok (.astore_n 2, 1) := by decide +kernel
theorem d_JA_copyOf_18 : decode b_JA_copyOf 18 = .ok (.aload_n 0, 1) := by decide +kernel
theorem d_JA_copyOf_19 : decode b_JA_copyOf 19 = .ok (.iconst 0, 1) := by decide +kernel
theorem d_JA_copyOf_20 : decode b_JA_copyOf 20 = .ok (.aload_n 2, 1) := by decide +kernel
theorem d_JA_copyOf_21 : decode b_JA_copyOf 21 = .ok (.iconst 0, 1) := by decide +kernel
theorem d_JA_copyOf_22 : decode b_JA_copyOf 22 = .ok (.aload_n 0, 1) := by decide +kernel
theorem d_JA_copyOf_23 : decode b_JA_copyOf 23 = .ok (.arraylength, 1) := by decide +kernel
theorem d_JA_copyOf_24 : decode b_JA_copyOf 24 = .ok (.iload_n 1, 1) := by decide +kernel
theorem d_JA_copyOf_25 : decode b_JA_copyOf 25 = .ok (.invokestatic 304, 3) := by decide +kernel
theorem d_JA_copyOf_28 : decode b_JA_copyOf 28 = .ok (.invokestatic 150, 3) := by decide +kernel
theorem d_JA_copyOf_31 : decode b_JA_copyOf 31 = .ok (.aload_n 2, 1) := by decide +kernel
theorem d_JA_copyOf_32 : decode b_JA_copyOf 32 = .ok (.areturn, 1) := by decide +kernel
theorem kM_JA_304 : Cond.methodLink R_JA 304 y_JM_min0 ∈ lw_g := in_g 2205 (by decide +kernel) rfl
theorem kT_JM_min0 : Cond.static y_JM_min0 ∈ lw_g := in_g 2206 (by decide +kernel) rfl
theorem kM_JA_150 : Cond.methodLink R_JA 150 arraycopyName ∈ lw_g := in_g 2208 (by decide +kernel) rfl
theorem kNA_ac : Cond.native arraycopyName ∈ lw_g := in_g 2210 (by decide +kernel) rfl
theorem kT_ac : Cond.static arraycopyName ∈ lw_g := in_g 2209 (by decide +kernel) rfl
theorem kI_sys : Cond.initialized "java/lang/System" ∈ lw_g := in_g 34 (by decide +kernel) rfl
abbrev at_JA_copyOf (dC : Nat → ClassId) (dI : Nat → Nat → Nat) (sz szl : Nat) (sa : Nat → Nat) (va : Nat) (cpb : ClassId) (nva : Nat) (gva : Nat → Int32) (A : Nat → Prop) (u : (Nat → Int32) × Nat × Nat × Nat × Nat) (t : State) : Prop := match u with | (gnw, kcz, knz, nnw, nw) => va_P (dC, dI) cls2 [(va, .inl (cpb, nva, .inl gva)), (nw, .inl (cpb, nnw, .inl gnw))] t.heap ∧ va_K (dC, dI) cls2 [(cpb, .byte)] t ∧ va_D A [(va, .inl (cpb, nva, .inl gva)), (nw, .inl (cpb, nnw, .inl gnw))] ∧ t.heap.size ≤ sz + kcz ∧ hsl t.heap ≤ szl + knz
set_option maxHeartbeats 4000000 in
set_option maxRecDepth 100000 in
theorem c_JA_copyOf (l : Launch) (hlt : l.stackTraces = false) (dC : Nat → ClassId) (dI : Nat → Nat → Nat) (sz : Nat) (szl : Nat) (sa : Nat → Nat) (va : Nat) (cpb : ClassId) (nva : Nat) (gva : Nat → Int32)  (b_gva : ∀ j : Nat, -128 ≤ (gva j).toInt ∧ (gva j).toInt ≤ 127) (p1 : Int32)  (hva : (nva : Int) < 1000000) (hp : (nva : Int) < p1.toInt ∧ p1.toInt ≤ 2000000) : Met l y_JA_copyOf w_JA_copyOf ({ frames := 1, cells := 1, slots := p1.toInt.toNat, locals := 40 }) (va_Pc [.ref va, .int p1] (fun U => U.heap.size = sz ∧ va_P (dC, dI) cls2 [(va, .inl (cpb, nva, .inl gva))] U.heap ∧ va_K (dC, dI) cls2 [(cpb, .byte)] U ∧ va_D (fun _ => True) [(va, .inl (cpb, nva, .inl gva))] ∧ sm sa (va_A [(va, .inl (cpb, nva, .inl gva))] sz) U U.heap ∧ hsl U.heap = szl)) (va_Qr (fun (u : (Nat → Int32) × Nat × Nat × Nat × Nat) => match u with | (gnw2, kcz2, knz2, nnw2, nw2) => (∀ j : Nat, -128 ≤ (gnw2 j).toInt ∧ (gnw2 j).toInt ≤ 127) ∧ ((nnw2 : Int) = p1.toInt ∧ kcz2 = 1 ∧ knz2 = nnw2 ∧ ∀ j, j < nva → gnw2 j = gva j)) (fun (u : (Nat → Int32) × Nat × Nat × Nat × Nat) (ra : Nat) (t : State) => (match u with | (gnw, kcz, knz, nnw, nw) => nw) = ra ∧ (at_JA_copyOf dC dI sz szl sa va cpb nva gva (va_A [(va, .inl (cpb, nva, .inl gva))] sz)) u t) (va_A [(va, .inl (cpb, nva, .inl gva))] sz)) (1) (p1.toInt.toNat) (va_A [(va, .inl (cpb, nva, .inl gva))] sz) := by
  refine Met.ofW (cc := b_JA_copyOf) (maxL := 3) (ret := (Option.some (.array .byte))) (by decide) rfl ?_
  intro p e s m args below meth c s₁ B hml hv
  obtain ⟨rfl, hsz, hP, hK, hD0, hSW, hszl⟩ := hv
  have hx := B.exec
  have hb := B.bytes
  have hr := B.returns
  have hts0 := atoms_spec (ws := w_JA_copyOf) B.pre
  have hts : ∀ w ∈ lw_g, w.before _ s = true := fun w h => hts0 w (List.mem_cons_of_mem _ h)
  have hown : s.vm.findClass R_JA = some m.cls := findClass_of_methodNamed B.named
  have hlocks := B.notSynchronized
  clear hts0
  subst hsz
  subst hszl
  have hD := hD0.self (sz := s.heap.size)
  generalize hAe : va_A [(va, .inl (cpb, nva, .inl gva))] s.heap.size = A at hD hSW ⊢
  have hA : ∀ q : Nat, s.heap.size ≤ q → A q := fun q h => by rw [← hAe]; exact Or.inr h
  clear hAe
  have hP : va_P (dC, dI) cls2 [(va, .inl (cpb, nva, .inl gva))] s.heap := hP
  have hl := lv_entry ([.ref va, .int p1]) (n := 3) (Nat.le_of_ble_eq_true rfl)
  rw [lg_entry_eq]
  generalize (lg_sl ([.ref va, .int p1]) ++ List.replicate (3 - (lg_sl ([.ref va, .int p1])).length) Slot.unset).toArray = ls at hl ⊢
  have hl : lv_has ls 3 [(0, .ref va), (1, .int p1)] := hl
  have k0 : (0 : Int32).toInt = 0 := by decide
  refine w_gen (A := A) hP (fun H locs hP hS => ?_)
  have lo_p1 := i32_lo p1
  have hi_p1 := i32_hi p1
  refine lv_iload_n hx hb d_JA_copyOf_0 rfl (lv_at hl 1 rfl) ?_
  refine lv_aload_n hx hb d_JA_copyOf_1 rfl (lv_at hl 0 rfl) ?_
  refine va_alen hx hb hK hP 0 0 rfl rfl rfl d_JA_copyOf_2 ?_
  refine lv_topi (fun x1 ex1 => ?_)
  have tx1 : x1.toInt = nva := by rw [ex1]; exact i32_len (by omega)
  refine lv_icmp_ne (tgt := 14) hx hb d_JA_copyOf_3 (by decide) (fun c3 => ?_) (fun c3 => absurd (eqI c3) (by omega))
  have q3 := neI c3
  refine lv_iload_n hx hb d_JA_copyOf_14 rfl (lv_at hl 1 rfl) ?_
  obtain ⟨N2, eN2⟩ : ∃ z : Nat, p1.toNatClampNeg = z := ⟨_, rfl⟩
  have tN2 : (N2 : Int) = p1.toInt := by rw [← eN2]; exact i32_clamp (by omega)
  refine vn_newb hx hb (hts _ ka_byte) hK hP hD hS hA 0 rfl N2 (nneg9 (by omega)) eN2 (by omega) (by dsimp only [headSpec]; omega) (by dsimp only [headSpec]; omega) d_JA_copyOf_15 (fun nq15 H hP hD hS => ?_)
  have hP : va_P (dC, dI) cls2 [(va, .inl (cpb, nva, .inl gva)), (nq15, .inl (cpb, N2, .inl (fun _ => 0)))] H := hP
  have hD : va_D A [(va, .inl (cpb, nva, .inl gva)), (nq15, .inl (cpb, N2, .inl (fun _ => 0)))] := hD
  refine lv_astore_n (lv' := [(2, .ref nq15), (0, .ref va), (1, .int p1)]) hx hb d_JA_copyOf_17 rfl hl (by decide) rfl (fun ls hl => ?_)
  refine lv_aload_n hx hb d_JA_copyOf_18 rfl (lv_at hl 1 rfl) ?_
  refine lv_iconst (v := 0) hx hb d_JA_copyOf_19 (by decide) ?_
  refine lv_aload_n hx hb d_JA_copyOf_20 rfl (lv_at hl 0 rfl) ?_
  refine lv_iconst (v := 0) hx hb d_JA_copyOf_21 (by decide) ?_
  refine lv_aload_n hx hb d_JA_copyOf_22 rfl (lv_at hl 1 rfl) ?_
  refine va_alen hx hb hK hP 0 0 rfl rfl rfl d_JA_copyOf_23 ?_
  refine lv_topi (fun x3 ex3 => ?_)
  have tx3 : x3.toInt = nva := by rw [ex3]; exact i32_len (by omega)
  refine lv_iload_n hx hb d_JA_copyOf_24 rfl (lv_at hl 2 rfl) ?_
  refine va_mmin hx hb (hml.trans hl.1.symm) hown (hts _ kM_JA_304) (hts _ kT_JM_min0) (hts _ kI_JM) (hts _ kC_JM_min0) (Nat.le_of_ble_eq_true rfl) (Nat.le_of_ble_eq_true rfl) (by dsimp only [headSpec]; omega) (by dsimp only [headSpec]; omega) d_JA_copyOf_25 ?_
  refine lv_topi (fun x4 ex4 => ?_)
  have tx4 := min32 ex4
  have z9x4 := i32_clamp (x := x4) (by omega)
  have k00 : (0 : Int32).toNatClampNeg = 0 := rfl
  refine va_copyi (ty := .byte) hx hb (hml.trans hl.1.symm) hown (hts _ kM_JA_150) (hts _ kNA_ac) (hts _ kT_ac) (hts _ kI_sys) hK hP hD hS 0 1 0 0 rfl rfl rfl rfl rfl (by decide) (by decide) (nneg9 (by omega)) (by omega) (by omega) (fun i9 _ => fits_b (b_gva _)) (Nat.le_of_ble_eq_true rfl) (Nat.le_of_ble_eq_true rfl) d_JA_copyOf_28 (fun H locs hP hD hS => ?_)
  have hP : va_P (dC, dI) cls2 [(va, .inl (cpb, nva, .inl gva)), (nq15, .inl (cpb, N2, .inl ((va_cpy gva (fun _ => 0) (0 : Int32).toNatClampNeg (0 : Int32).toNatClampNeg x4.toNatClampNeg))))] H := hP
  have hD : va_D A [(va, .inl (cpb, nva, .inl gva)), (nq15, .inl (cpb, N2, .inl ((va_cpy gva (fun _ => 0) (0 : Int32).toNatClampNeg (0 : Int32).toNatClampNeg x4.toNatClampNeg))))] := hD
  generalize ef5 : va_cpy gva (fun _ => 0) (0 : Int32).toNatClampNeg (0 : Int32).toNatClampNeg x4.toNatClampNeg = f5 at hP hD
  have b_f5 : ∀ j : Nat, -128 ≤ (f5 j).toInt ∧ (f5 j).toInt ≤ 127 := by rw [← ef5]; exact cpy_el (b_gva) (zero_el)
  refine lv_aload_n hx hb d_JA_copyOf_31 rfl (lv_at hl 0 rfl) ?_
  have hP9 := hP.sub (ws' := [(va, .inl (cpb, nva, .inl gva)), (nq15, .inl (cpb, N2, .inl f5))]) [0, 1] rfl
  have hD9 := hD.sub (ws' := [(va, .inl (cpb, nva, .inl gva)), (nq15, .inl (cpb, N2, .inl f5))]) [0, 1] (by decide) rfl
  refine w_known (fun hzc hzs => ?_)
  refine W.widen (k := 1) (n := p1.toInt.toNat) (by omega) (by omega) ?_
  exact W.aret (v := .ref nq15) hx hb hr (Or.inr ⟨_, rfl⟩) (Or.inr ⟨_, rfl⟩) (fun t ht hW => ⟨⟨(f5, 0 + 1, 0 + N2, N2, nq15), nq15, rfl, ⟨b_f5, ⟨by omega, by omega, by omega, fun j hj => by rw [← ef5]; exact cpy0 (by omega)⟩⟩, rfl, by rw [ht]; exact hP9, va_K.moved hW.alike hK, hD9, by rw [ht]; exact hzc, by rw [ht]; exact hzs⟩, hS.F ht⟩) hS.2.2 d_JA_copyOf_32
abbrev b_JA_checkLength : ByteArray := prog_40_method_131_code
def y_JA_checkLength : MethodName := ⟨R_JA, "checkLength", "(II)V"⟩
abbrev w_JA_checkLength : List Cond := .code y_JA_checkLength b_JA_checkLength 2 none :: lw_g
theorem kC_JA_checkLength : Cond.code y_JA_checkLength b_JA_checkLength 2 none ∈ lw_g := in_g 2279 (by decide +kernel) rfl
theorem d_JA_checkLength_0 : decode b_JA_checkLength 0 = .ok (.iload_n 1, 1) := by decide +kernel
theorem d_JA_checkLength_1 : decode b_JA_checkLength 1 = .ok (.iload_n 0, 1) := by decide +kernel
theorem d_JA_checkLength_2 : decode b_JA_checkLength 2 = .ok (.if_icmp .ge 35, 3) := by decide +kernel
theorem d_JA_checkLength_5 : decode b_JA_checkLength 5 = .ok (.new 43, 3) := by decide +kernel
theorem d_JA_checkLength_8 : decode b_JA_checkLength 8 = .ok (.dup, 1) := by decide +kernel
theorem d_JA_checkLength_9 : decode b_JA_checkLength 9 = .ok (.new 45, 3) := by decide +kernel
theorem d_JA_checkLength_12 : decode b_JA_checkLength 12 = .ok (.dup, 1) := by decide +kernel
theorem d_JA_checkLength_13 : decode b_JA_checkLength 13 = .ok (.invokespecial 47, 3) := by decide +kernel
theorem d_JA_checkLength_16 : decode b_JA_checkLength 16 = .ok (.iload_n 0, 1) := by decide +kernel
theorem d_JA_checkLength_17 : decode b_JA_checkLength 17 = .ok (.invokevirtual 54, 3) := by decide +kernel
theorem d_JA_checkLength_20 : decode b_JA_checkLength 20 = .ok (.ldc_w 337, 3) := by decide +kernel
theorem d_JA_checkLength_23 : decode b_JA_checkLength 23 = .ok (.invokevirtual 50, 3) := by decide +kernel
theorem d_JA_checkLength_26 : decode b_JA_checkLength 26 = .ok (.iload_n 1, 1) := by decide +kernel
theorem d_JA_checkLength_27 : decode b_JA_checkLength 27 = .ok (.invokevirtual 54, 3) := by decide +kernel
theorem d_JA_checkLength_30 : decode b_JA_checkLength 30 = .ok (.invokevirtual 61, 3) := by decide +kernel
theorem d_JA_checkLength_33 : decode b_JA_checkLength 33 = .ok (.invokespecial 65, 3) := by decide +kernel
theorem d_JA_checkLength_36 : decode b_JA_checkLength 36 = .ok (.athrow, 1) := by decide +kernel
theorem d_JA_checkLength_37 : decode b_JA_checkLength 37 = .ok (.return_, 1) := by decide +kernel
abbrev b_JB_init : ByteArray := prog_34_method_1_code
def y_JB_init : MethodName := ⟨R_JB, "<init>", "()V"⟩
abbrev w_JB_init : List Cond := .code y_JB_init b_JB_init 1 none :: lw_g
theorem kC_JB_init : Cond.code y_JB_init b_JB_init 1 none ∈ lw_g := in_g 2140 (by decide +kernel) rfl
theorem kM_JA_47 : Cond.methodLink R_JA 47 y_JB_init ∈ lw_g := in_g 2282 (by decide +kernel) rfl
theorem kV_JB_init : Cond.instanceMethod y_JB_init ∈ lw_g := in_g 2139 (by decide +kernel) rfl
abbrev b_JB_append1 : ByteArray := prog_34_method_15_code
def y_JB_append1 : MethodName := ⟨R_JB, "append", "(I)Ljava/lang/StringBuilder;"⟩
abbrev w_JB_append1 : List Cond := .code y_JB_append1 b_JB_append1 2 (Option.some (.object "java/lang/StringBuilder")) :: lw_g
theorem kC_JB_append1 : Cond.code y_JB_append1 b_JB_append1 2 (Option.some (.object "java/lang/StringBuilder")) ∈ lw_g := in_g 2286 (by decide +kernel) rfl
theorem kM_JA_54 : Cond.methodLink R_JA 54 y_JB_append1 ∈ lw_g := in_g 2283 (by decide +kernel) rfl
theorem kV_JB_append1 : Cond.instanceMethod y_JB_append1 ∈ lw_g := in_g 2284 (by decide +kernel) rfl
theorem kS_JB_append1 : Cond.selects R_JB y_JB_append1 y_JB_append1 ∈ lw_g := in_g 2285 (by decide +kernel) rfl
abbrev b_JB_append2 : ByteArray := prog_34_method_7_code
def y_JB_append2 : MethodName := ⟨R_JB, "append", "(Ljava/lang/String;)Ljava/lang/StringBuilder;"⟩
abbrev w_JB_append2 : List Cond := .code y_JB_append2 b_JB_append2 2 (Option.some (.object "java/lang/StringBuilder")) :: lw_g
theorem kC_JB_append2 : Cond.code y_JB_append2 b_JB_append2 2 (Option.some (.object "java/lang/StringBuilder")) ∈ lw_g := in_g 2321 (by decide +kernel) rfl
theorem kM_JA_50 : Cond.methodLink R_JA 50 y_JB_append2 ∈ lw_g := in_g 2318 (by decide +kernel) rfl
theorem kV_JB_append2 : Cond.instanceMethod y_JB_append2 ∈ lw_g := in_g 2319 (by decide +kernel) rfl
theorem kS_JB_append2 : Cond.selects R_JB y_JB_append2 y_JB_append2 ∈ lw_g := in_g 2320 (by decide +kernel) rfl
abbrev b_JB_toString : ByteArray := prog_34_method_42_code
def y_JB_toString : MethodName := ⟨R_JB, "toString", "()Ljava/lang/String;"⟩
abbrev w_JB_toString : List Cond := .code y_JB_toString b_JB_toString 1 (Option.some (.object "java/lang/String")) :: lw_g
theorem kC_JB_toString : Cond.code y_JB_toString b_JB_toString 1 (Option.some (.object "java/lang/String")) ∈ lw_g := in_g 2247 (by decide +kernel) rfl
theorem kM_JA_61 : Cond.methodLink R_JA 61 y_JB_toString ∈ lw_g := in_g 2348 (by decide +kernel) rfl
theorem kV_JB_toString : Cond.instanceMethod y_JB_toString ∈ lw_g := in_g 2245 (by decide +kernel) rfl
theorem kS_JB_toString : Cond.selects R_JB y_JB_toString y_JB_toString ∈ lw_g := in_g 2246 (by decide +kernel) rfl
abbrev at_JA_checkLength (dC : Nat → ClassId) (dI : Nat → Nat → Nat)  (A : Nat → Prop) (u : Unit) (t : State) : Prop := match u with | _ => va_P (dC, dI) cls2 [] t.heap ∧ va_K (dC, dI) cls2 [] t ∧ va_D A []
set_option maxHeartbeats 4000000 in
set_option maxRecDepth 100000 in
theorem c_JA_checkLength (l : Launch) (hlt : l.stackTraces = false) (dC : Nat → ClassId) (dI : Nat → Nat → Nat) (sz : Nat)    (p0 : Int32) (p1 : Int32)  (hp : p0.toInt ≤ p1.toInt) : Met l y_JA_checkLength w_JA_checkLength ({ frames := 0, cells := 0, slots := 0, locals := 0 }) (va_Pc [.int p0, .int p1] (fun U => U.heap.size = sz ∧ va_P (dC, dI) cls2 [] U.heap ∧ va_K (dC, dI) cls2 [] U ∧ va_D (fun _ => True) [])) (va_Qv (fun (u : Unit) => match u with | _ => True) (at_JA_checkLength dC dI  (va_A [] sz)) (va_A [] sz)) 0 0 (va_A [] sz) := by
  refine Met.ofW (cc := b_JA_checkLength) (maxL := 2) (ret := none) (by decide) rfl ?_
  intro p e s m args below meth c s₁ B hml hv
  obtain ⟨rfl, hsz, hP, hK, hD0⟩ := hv
  have hx := B.exec
  have hb := B.bytes
  have hr := B.returns
  have hts0 := atoms_spec (ws := w_JA_checkLength) B.pre
  have hts : ∀ w ∈ lw_g, w.before _ s = true := fun w h => hts0 w (List.mem_cons_of_mem _ h)
  have hown : s.vm.findClass R_JA = some m.cls := findClass_of_methodNamed B.named
  have hlocks := B.notSynchronized
  clear hts0
  subst hsz
  have hD := hD0.self (sz := s.heap.size)
  generalize hAe : va_A [] s.heap.size = A at hD ⊢
  have hA : ∀ q : Nat, s.heap.size ≤ q → A q := fun q h => by rw [← hAe]; exact Or.inr h
  clear hAe
  have hP : va_P (dC, dI) cls2 [] s.heap := hP
  have hl := lv_entry ([.int p0, .int p1]) (n := 2) (Nat.le_of_ble_eq_true rfl)
  rw [lg_entry_eq]
  generalize (lg_sl ([.int p0, .int p1]) ++ List.replicate (2 - (lg_sl ([.int p0, .int p1])).length) Slot.unset).toArray = ls at hl ⊢
  have hl : lv_has ls 2 [(0, .int p0), (1, .int p1)] := hl
  have k0 : (0 : Int32).toInt = 0 := by decide
  refine w_gen (A := A) hP (fun H locs hP hS => ?_)
  have lo_p0 := i32_lo p0
  have hi_p0 := i32_hi p0
  have lo_p1 := i32_lo p1
  have hi_p1 := i32_hi p1
  refine lv_iload_n hx hb d_JA_checkLength_0 rfl (lv_at hl 1 rfl) ?_
  refine lv_iload_n hx hb d_JA_checkLength_1 rfl (lv_at hl 0 rfl) ?_
  refine lv_icmp_ge (tgt := 37) hx hb d_JA_checkLength_2 (by decide) (fun c2 => ?_) (fun c2 => absurd (nleI c2) (by omega))
  have q2 := leI c2
  have hP9 := hP.sub (ws' := []) [] rfl
  have hD9 := hD.sub (ws' := []) [] (by decide) rfl
  exact W.vret hx hb hr (fun t ht hW => ⟨⟨(), rfl, ⟨⟩, by rw [ht]; exact hP9, va_K.moved hW.alike hK, hD9⟩, hS.F ht⟩) hS.2.2 d_JA_checkLength_37
abbrev b_JA_copyOfRangeByte : ByteArray := prog_40_method_133_code
def y_JA_copyOfRangeByte : MethodName := ⟨R_JA, "copyOfRangeByte", "([BII)[B"⟩
abbrev w_JA_copyOfRangeByte : List Cond := .code y_JA_copyOfRangeByte b_JA_copyOfRangeByte 5 (Option.some (.array .byte)) :: lw_g
theorem kC_JA_copyOfRangeByte : Cond.code y_JA_copyOfRangeByte b_JA_copyOfRangeByte 5 (Option.some (.array .byte)) ∈ lw_g := in_g 2276 (by decide +kernel) rfl
theorem d_JA_copyOfRangeByte_0 : decode b_JA_copyOfRangeByte 0 = .ok (.iload_n 1, 1) := by decide +kernel
theorem d_JA_copyOfRangeByte_1 : decode b_JA_copyOfRangeByte 1 = .ok (.iload_n 2, 1) := by decide +kernel
theorem d_JA_copyOfRangeByte_2 : decode b_JA_copyOfRangeByte 2 = .ok (.invokestatic 343, 3) := by decide +kernel
theorem d_JA_copyOfRangeByte_5 : decode b_JA_copyOfRangeByte 5 = .ok (.iload_n 2, 1) := by decide +kernel
theorem d_JA_copyOfRangeByte_6 : decode b_JA_copyOfRangeByte 6 = .ok (.iload_n 1, 1) := by decide +kernel
theorem d_JA_copyOfRangeByte_7 : decode b_JA_copyOfRangeByte 7 = .ok (.isub, 1) := by decide +kernel
theorem d_JA_copyOfRangeByte_8 : decode b_JA_copyOfRangeByte 8 = .ok (.istore_n 3, 1) := by decide +kernel
theorem d_JA_copyOfRangeByte_9 : decode b_JA_copyOfRangeByte 9 = .ok (.iload_n 3, 1) := by decide +kernel
theorem d_JA_copyOfRangeByte_10 : decode b_JA_copyOfRangeByte 10 = .ok (.newarray .byte, 2) := by decide +kernel
theorem d_JA_copyOfRangeByte_12 : decode b_JA_copyOfRangeByte 12 = .ok (.astore 4, 2) := by decide +kernel
theorem d_JA_copyOfRangeByte_14 : decode b_JA_copyOfRangeByte 14 = .ok (.aload_n 0, 1) := by decide +kernel
theorem d_JA_copyOfRangeByte_15 : decode b_JA_copyOfRangeByte 15 = .ok (.iload_n 1, 1) := by decide +kernel
theorem d_JA_copyOfRangeByte_16 : decode b_JA_copyOfRangeByte 16 = .ok (.aload 4, 2) := by decide +kernel
theorem d_JA_copyOfRangeByte_18 : decode b_JA_copyOfRangeByte 18 = .ok (.iconst 0, 1) := by decide +kernel
theorem d_JA_copyOfRangeByte_19 : decode b_JA_copyOfRangeByte 19 = .ok (.aload_n 0, 1) := by decide +kernel
theorem d_JA_copyOfRangeByte_20 : decode b_JA_copyOfRangeByte 20 = .ok (.arraylength, 1) := by decide +kernel
theorem d_JA_copyOfRangeByte_21 : decode b_JA_copyOfRangeByte 21 = .ok (.iload_n 1, 1) := by decide +kernel
theorem d_JA_copyOfRangeByte_22 : decode b_JA_copyOfRangeByte 22 = .ok (.isub, 1) := by decide +kernel
theorem d_JA_copyOfRangeByte_23 : decode b_JA_copyOfRangeByte 23 = .ok (.iload_n 3, 1) := by decide +kernel
theorem d_JA_copyOfRangeByte_24 : decode b_JA_copyOfRangeByte 24 = .ok (.invokestatic 304, 3) := by decide +kernel
theorem d_JA_copyOfRangeByte_27 : decode b_JA_copyOfRangeByte 27 = .ok (.invokestatic 150, 3) := by decide +kernel
theorem d_JA_copyOfRangeByte_30 : decode b_JA_copyOfRangeByte 30 = .ok (.aload 4, 2) := by decide +kernel
theorem d_JA_copyOfRangeByte_32 : decode b_JA_copyOfRangeByte 32 = .ok (.areturn, 1) := by decide +kernel
theorem kM_JA_343 : Cond.methodLink R_JA 343 y_JA_checkLength ∈ lw_g := in_g 2277 (by decide +kernel) rfl
theorem kT_JA_checkLength : Cond.static y_JA_checkLength ∈ lw_g := in_g 2278 (by decide +kernel) rfl
abbrev at_JA_copyOfRangeByte (dC : Nat → ClassId) (dI : Nat → Nat → Nat) (sz szl : Nat) (sa : Nat → Nat) (va : Nat) (cpb : ClassId) (nva : Nat) (gva : Nat → Int32) (A : Nat → Prop) (u : (Nat → Int32) × Nat × Nat × Nat × Nat) (t : State) : Prop := match u with | (gnw, kcz, knz, nnw, nw) => va_P (dC, dI) cls2 [(va, .inl (cpb, nva, .inl gva)), (nw, .inl (cpb, nnw, .inl gnw))] t.heap ∧ va_K (dC, dI) cls2 [(cpb, .byte)] t ∧ va_D A [(va, .inl (cpb, nva, .inl gva)), (nw, .inl (cpb, nnw, .inl gnw))] ∧ t.heap.size ≤ sz + kcz ∧ hsl t.heap ≤ szl + knz
set_option maxHeartbeats 4000000 in
set_option maxRecDepth 100000 in
theorem c_JA_copyOfRangeByte (l : Launch) (hlt : l.stackTraces = false) (dC : Nat → ClassId) (dI : Nat → Nat → Nat) (sz : Nat) (szl : Nat) (sa : Nat → Nat) (va : Nat) (cpb : ClassId) (nva : Nat) (gva : Nat → Int32)  (b_gva : ∀ j : Nat, -128 ≤ (gva j).toInt ∧ (gva j).toInt ≤ 127) (p1 : Int32) (p2 : Int32)  (hva : (nva : Int) < 1000000) (hp : 0 ≤ p2.toInt ∧ p2.toInt ≤ (nva : Int)) (hp1 : p1.toInt = 0) : Met l y_JA_copyOfRangeByte w_JA_copyOfRangeByte ({ frames := 1, cells := 1, slots := p2.toInt.toNat, locals := 40 }) (va_Pc [.ref va, .int p1, .int p2] (fun U => U.heap.size = sz ∧ va_P (dC, dI) cls2 [(va, .inl (cpb, nva, .inl gva))] U.heap ∧ va_K (dC, dI) cls2 [(cpb, .byte)] U ∧ va_D (fun _ => True) [(va, .inl (cpb, nva, .inl gva))] ∧ sm sa (va_A [(va, .inl (cpb, nva, .inl gva))] sz) U U.heap ∧ hsl U.heap = szl)) (va_Qr (fun (u : (Nat → Int32) × Nat × Nat × Nat × Nat) => match u with | (gnw2, kcz2, knz2, nnw2, nw2) => (∀ j : Nat, -128 ≤ (gnw2 j).toInt ∧ (gnw2 j).toInt ≤ 127) ∧ ((nnw2 : Int) = p2.toInt ∧ kcz2 = 1 ∧ knz2 = nnw2 ∧ ∀ j, j < nnw2 → gnw2 j = gva j)) (fun (u : (Nat → Int32) × Nat × Nat × Nat × Nat) (ra : Nat) (t : State) => (match u with | (gnw, kcz, knz, nnw, nw) => nw) = ra ∧ (at_JA_copyOfRangeByte dC dI sz szl sa va cpb nva gva (va_A [(va, .inl (cpb, nva, .inl gva))] sz)) u t) (va_A [(va, .inl (cpb, nva, .inl gva))] sz)) (1) (p2.toInt.toNat) (va_A [(va, .inl (cpb, nva, .inl gva))] sz) := by
  refine Met.ofW (cc := b_JA_copyOfRangeByte) (maxL := 5) (ret := (Option.some (.array .byte))) (by decide) rfl ?_
  intro p e s m args below meth c s₁ B hml hv
  obtain ⟨rfl, hsz, hP, hK, hD0, hSW, hszl⟩ := hv
  have hx := B.exec
  have hb := B.bytes
  have hr := B.returns
  have hts0 := atoms_spec (ws := w_JA_copyOfRangeByte) B.pre
  have hts : ∀ w ∈ lw_g, w.before _ s = true := fun w h => hts0 w (List.mem_cons_of_mem _ h)
  have hown : s.vm.findClass R_JA = some m.cls := findClass_of_methodNamed B.named
  have hlocks := B.notSynchronized
  clear hts0
  subst hsz
  subst hszl
  have hD := hD0.self (sz := s.heap.size)
  generalize hAe : va_A [(va, .inl (cpb, nva, .inl gva))] s.heap.size = A at hD hSW ⊢
  have hA : ∀ q : Nat, s.heap.size ≤ q → A q := fun q h => by rw [← hAe]; exact Or.inr h
  clear hAe
  have hP : va_P (dC, dI) cls2 [(va, .inl (cpb, nva, .inl gva))] s.heap := hP
  have hl := lv_entry ([.ref va, .int p1, .int p2]) (n := 5) (Nat.le_of_ble_eq_true rfl)
  rw [lg_entry_eq]
  generalize (lg_sl ([.ref va, .int p1, .int p2]) ++ List.replicate (5 - (lg_sl ([.ref va, .int p1, .int p2])).length) Slot.unset).toArray = ls at hl ⊢
  have hl : lv_has ls 5 [(0, .ref va), (1, .int p1), (2, .int p2)] := hl
  have k0 : (0 : Int32).toInt = 0 := by decide
  refine w_gen (A := A) hP (fun H locs hP hS => ?_)
  have lo_p1 := i32_lo p1
  have hi_p1 := i32_hi p1
  have lo_p2 := i32_lo p2
  have hi_p2 := i32_hi p2
  refine lv_iload_n hx hb d_JA_copyOfRangeByte_0 rfl (lv_at hl 1 rfl) ?_
  refine lv_iload_n hx hb d_JA_copyOfRangeByte_1 rfl (lv_at hl 2 rfl) ?_
  have hPc := @vp_nil
  have hDc := hD.sub (ws' := []) [] (by decide) rfl
  have hKc := hK.sub (tys' := []) [] rfl
  have hFc := va_free (wc := []) hD hS hA [] rfl
  refine va_callv (va_runS (As := [.int p1, .int p2]) (rest := []) ⟨hx, hb, hml, hown, hts⟩ (c_JA_checkLength l hlt dC dI H.size p1 p2 (by (try dsimp only) <;> omega)) ⟨callB_of 2 hts (gW kC_JA_checkLength) rfl rfl rfl (hts _ kI_JA) (hts _ kM_JA_343) (by decide +kernel) ⟨Nat.le_of_ble_eq_true rfl, Nat.le_of_ble_eq_true rfl⟩, hts _ kT_JA_checkLength⟩ ⟨fun a U g mk z => by obtain ⟨z0, z1, zP, zK, zD⟩ := z; exact ⟨z0, z1, zP, va_K.moved (u := U) (U := U.calling g mk a) (Vm.Alike.refl U.vm) zK, zD⟩, fun U hU hW => ⟨rfl, by rw [hU], by rw [hU]; exact hPc, va_K.moved hW.alike hKc, hDc.weaken (fun _ _ _ _ => trivial)⟩⟩ rfl rfl hl.1 rfl (lv_room (Nat.le_of_ble_eq_true rfl)) d_JA_copyOfRangeByte_2 ⟨by dsimp only [headSpec]; omega, by dsimp only [headSpec]; omega⟩) hS (fun q _ h => hFc q h) hFc (fun u t H1 locs ht hvm hw hB hz1 hk1 hS => ?_)
  try dsimp only at hw
  try clear hw
  obtain ⟨hP1, hK1, hD1⟩ := hB
  rw [ht] at hP1
  replace hP1 := @vp_nil (dC, dI) cls2 H1
  obtain ⟨hP, hD⟩ := va_join (wr := [(va, .inl (cpb, nva, .inl gva))]) (w1 := []) hP hD [] [0] rfl rfl (by decide) (by decide) hk1 hFc hP1 hD1
  clear hPc hDc hKc hFc hz1 hk1 hP1 hK1 hD1
  generalize H1 = H at hP hS ⊢
  have hP : va_P (dC, dI) cls2 [(va, .inl (cpb, nva, .inl gva))] H := hP
  have hD : va_D A [(va, .inl (cpb, nva, .inl gva))] := hD
  refine lv_iload_n hx hb d_JA_copyOfRangeByte_5 rfl (lv_at hl 2 rfl) ?_
  refine lv_iload_n hx hb d_JA_copyOfRangeByte_6 rfl (lv_at hl 1 rfl) ?_
  refine lv_isub hx hb d_JA_copyOfRangeByte_7 ?_
  refine lv_topi (fun x4 ex4 => ?_)
  have tx4 : x4.toInt = p2.toInt - p1.toInt := by have z := i32_sub ex4 (by omega) (by omega); omega
  refine lv_istore_n (lv' := [(3, .int x4), (0, .ref va), (1, .int p1), (2, .int p2)]) hx hb d_JA_copyOfRangeByte_8 rfl hl (by decide) rfl (fun ls hl => ?_)
  refine lv_iload_n hx hb d_JA_copyOfRangeByte_9 rfl (lv_at hl 0 rfl) ?_
  obtain ⟨N5, eN5⟩ : ∃ z : Nat, x4.toNatClampNeg = z := ⟨_, rfl⟩
  have tN5 : (N5 : Int) = x4.toInt := by rw [← eN5]; exact i32_clamp (by omega)
  refine vn_newb hx hb (hts _ ka_byte) hK hP hD hS hA 0 rfl N5 (nneg9 (by omega)) eN5 (by omega) (by dsimp only [headSpec]; omega) (by dsimp only [headSpec]; omega) d_JA_copyOfRangeByte_10 (fun nq10 H hP hD hS => ?_)
  have hP : va_P (dC, dI) cls2 [(va, .inl (cpb, nva, .inl gva)), (nq10, .inl (cpb, N5, .inl (fun _ => 0)))] H := hP
  have hD : va_D A [(va, .inl (cpb, nva, .inl gva)), (nq10, .inl (cpb, N5, .inl (fun _ => 0)))] := hD
  refine lv_astore (lv' := [(4, .ref nq10), (3, .int x4), (0, .ref va), (1, .int p1), (2, .int p2)]) hx hb d_JA_copyOfRangeByte_12 hl (by decide) rfl (fun ls hl => ?_)
  refine lv_aload_n hx hb d_JA_copyOfRangeByte_14 rfl (lv_at hl 2 rfl) ?_
  refine lv_iload_n hx hb d_JA_copyOfRangeByte_15 rfl (lv_at hl 3 rfl) ?_
  refine lv_aload hx hb d_JA_copyOfRangeByte_16 (lv_at hl 0 rfl) ?_
  refine lv_iconst (v := 0) hx hb d_JA_copyOfRangeByte_18 (by decide) ?_
  refine lv_aload_n hx hb d_JA_copyOfRangeByte_19 rfl (lv_at hl 2 rfl) ?_
  refine va_alen hx hb hK hP 0 0 rfl rfl rfl d_JA_copyOfRangeByte_20 ?_
  refine lv_topi (fun x6 ex6 => ?_)
  have tx6 : x6.toInt = nva := by rw [ex6]; exact i32_len (by omega)
  refine lv_iload_n hx hb d_JA_copyOfRangeByte_21 rfl (lv_at hl 3 rfl) ?_
  refine lv_isub hx hb d_JA_copyOfRangeByte_22 ?_
  refine lv_topi (fun x7 ex7 => ?_)
  have tx7 : x7.toInt = x6.toInt - p1.toInt := by have z := i32_sub ex7 (by omega) (by omega); omega
  refine lv_iload_n hx hb d_JA_copyOfRangeByte_23 rfl (lv_at hl 1 rfl) ?_
  refine va_mmin hx hb (hml.trans hl.1.symm) hown (hts _ kM_JA_304) (hts _ kT_JM_min0) (hts _ kI_JM) (hts _ kC_JM_min0) (Nat.le_of_ble_eq_true rfl) (Nat.le_of_ble_eq_true rfl) (by dsimp only [headSpec]; omega) (by dsimp only [headSpec]; omega) d_JA_copyOfRangeByte_24 ?_
  refine lv_topi (fun x8 ex8 => ?_)
  have tx8 := min32 ex8
  have z9p1 := i32_clamp (x := p1) (by omega)
  have z9x8 := i32_clamp (x := x8) (by omega)
  have k00 : (0 : Int32).toNatClampNeg = 0 := rfl
  refine va_copyi (ty := .byte) hx hb (hml.trans hl.1.symm) hown (hts _ kM_JA_150) (hts _ kNA_ac) (hts _ kT_ac) (hts _ kI_sys) hK hP hD hS 0 1 0 0 rfl rfl rfl rfl rfl (nneg9 (by omega)) (by decide) (nneg9 (by omega)) (by omega) (by omega) (fun i9 _ => fits_b (b_gva _)) (Nat.le_of_ble_eq_true rfl) (Nat.le_of_ble_eq_true rfl) d_JA_copyOfRangeByte_27 (fun H locs hP hD hS => ?_)
  have hP : va_P (dC, dI) cls2 [(va, .inl (cpb, nva, .inl gva)), (nq10, .inl (cpb, N5, .inl ((va_cpy gva (fun _ => 0) p1.toNatClampNeg (0 : Int32).toNatClampNeg x8.toNatClampNeg))))] H := hP
  have hD : va_D A [(va, .inl (cpb, nva, .inl gva)), (nq10, .inl (cpb, N5, .inl ((va_cpy gva (fun _ => 0) p1.toNatClampNeg (0 : Int32).toNatClampNeg x8.toNatClampNeg))))] := hD
  generalize ef9 : va_cpy gva (fun _ => 0) p1.toNatClampNeg (0 : Int32).toNatClampNeg x8.toNatClampNeg = f9 at hP hD
  have b_f9 : ∀ j : Nat, -128 ≤ (f9 j).toInt ∧ (f9 j).toInt ≤ 127 := by rw [← ef9]; exact cpy_el (b_gva) (zero_el)
  refine lv_aload hx hb d_JA_copyOfRangeByte_30 (lv_at hl 0 rfl) ?_
  have hP9 := hP.sub (ws' := [(va, .inl (cpb, nva, .inl gva)), (nq10, .inl (cpb, N5, .inl f9))]) [0, 1] rfl
  have hD9 := hD.sub (ws' := [(va, .inl (cpb, nva, .inl gva)), (nq10, .inl (cpb, N5, .inl f9))]) [0, 1] (by decide) rfl
  refine w_known (fun hzc hzs => ?_)
  refine W.widen (k := 1) (n := p2.toInt.toNat) (by omega) (by omega) ?_
  exact W.aret (v := .ref nq10) hx hb hr (Or.inr ⟨_, rfl⟩) (Or.inr ⟨_, rfl⟩) (fun t ht hW => ⟨⟨(f9, 0 + 0 + 1, 0 + 0 + N5, N5, nq10), nq10, rfl, ⟨b_f9, ⟨by omega, by omega, by omega, fun j hj => by rw [← ef9]; exact cpy1 (by omega) rfl (by omega)⟩⟩, rfl, by rw [ht]; exact hP9, va_K.moved hW.alike hK, hD9, by rw [ht]; exact hzc, by rw [ht]; exact hzs⟩, hS.F ht⟩) hS.2.2 d_JA_copyOfRangeByte_32
abbrev b_JA_copyOfRange : ByteArray := prog_40_method_132_code
def y_JA_copyOfRange : MethodName := ⟨R_JA, "copyOfRange", "([BII)[B"⟩
abbrev w_JA_copyOfRange : List Cond := .code y_JA_copyOfRange b_JA_copyOfRange 3 (Option.some (.array .byte)) :: lw_g
theorem kC_JA_copyOfRange : Cond.code y_JA_copyOfRange b_JA_copyOfRange 3 (Option.some (.array .byte)) ∈ lw_g := in_g 2273 (by decide +kernel) rfl
theorem d_JA_copyOfRange_0 : decode b_JA_copyOfRange 0 = .ok (.iload_n 1, 1) := by decide +kernel
theorem d_JA_copyOfRange_1 : decode b_JA_copyOfRange 1 = .ok (.ifCond .ne 9, 3) := by decide +kernel
theorem d_JA_copyOfRange_4 : decode b_JA_copyOfRange 4 = .ok (.iload_n 2, 1) := by decide +kernel
theorem d_JA_copyOfRange_5 : decode b_JA_copyOfRange 5 = .ok (.aload_n 0, 1) := by decide +kernel
theorem d_JA_copyOfRange_6 : decode b_JA_copyOfRange 6 = .ok (.arraylength, 1) := by decide +kernel
theorem d_JA_copyOfRange_7 : decode b_JA_copyOfRange 7 = .ok (.if_icmp .eq 10, 3) := by decide +kernel
theorem d_JA_copyOfRange_10 : decode b_JA_copyOfRange 10 = .ok (.aload_n 0, 1) := by decide +kernel
theorem d_JA_copyOfRange_11 : decode b_JA_copyOfRange 11 = .ok (.iload_n 1, 1) := by decide +kernel
theorem d_JA_copyOfRange_12 : decode b_JA_copyOfRange 12 = .ok (.iload_n 2, 1) := by decide +kernel
theorem d_JA_copyOfRange_13 : decode b_JA_copyOfRange 13 = .ok (.invokestatic 339, 3) := by decide +kernel
theorem d_JA_copyOfRange_16 : decode b_JA_copyOfRange 16 = .ok (.areturn, 1) := by decide +kernel
theorem d_JA_copyOfRange_17 : decode b_JA_copyOfRange 17 = .ok (.aload_n 0, 1) := by decide +kernel
theorem d_JA_copyOfRange_18 : decode b_JA_copyOfRange 18 = .ok (.invokevirtual 310, 3) := by decide +kernel
theorem d_JA_copyOfRange_21 : decode b_JA_copyOfRange 21 = .ok (.checkcast 311, 3) := by decide +kernel
theorem d_JA_copyOfRange_24 : decode b_JA_copyOfRange 24 = .ok (.areturn, 1) := by decide +kernel
theorem kM_JA_339 : Cond.methodLink R_JA 339 y_JA_copyOfRangeByte ∈ lw_g := in_g 2274 (by decide +kernel) rfl
theorem kT_JA_copyOfRangeByte : Cond.static y_JA_copyOfRangeByte ∈ lw_g := in_g 2275 (by decide +kernel) rfl
theorem kM_JA_310 : Cond.methodLink R_JA 310 ⟨"[B", "clone", "()Ljava/lang/Object;"⟩ ∈ lw_g := in_g 2198 (by decide +kernel) rfl
theorem kSM_cl : Cond.sameMethod "[B" "java/lang/Object" "clone" "()Ljava/lang/Object;" ∈ lw_g := in_g 2199 (by decide +kernel) rfl
theorem kNA_cl : Cond.native ⟨"java/lang/Object", "clone", "()Ljava/lang/Object;"⟩ ∈ lw_g := in_g 2200 (by decide +kernel) rfl
theorem kV_cl : Cond.instanceMethod ⟨"java/lang/Object", "clone", "()Ljava/lang/Object;"⟩ ∈ lw_g := in_g 2201 (by decide +kernel) rfl
theorem kS_cl : Cond.selects "[B" ⟨"[B", "clone", "()Ljava/lang/Object;"⟩ ⟨"java/lang/Object", "clone", "()Ljava/lang/Object;"⟩ ∈ lw_g := in_g 2202 (by decide +kernel) rfl
theorem kK_JA_311 : Cond.classLink R_JA 311 "[B" ∈ lw_g := in_g 2204 (by decide +kernel) rfl
abbrev at_JA_copyOfRange (dC : Nat → ClassId) (dI : Nat → Nat → Nat) (sz szl : Nat) (sa : Nat → Nat) (va : Nat) (cpb : ClassId) (nva : Nat) (gva : Nat → Int32) (A : Nat → Prop) (u : (Nat → Int32) × Nat × Nat × Nat × Nat) (t : State) : Prop := match u with | (gnw, kcz, knz, nnw, nw) => va_P (dC, dI) cls2 [(va, .inl (cpb, nva, .inl gva)), (nw, .inl (cpb, nnw, .inl gnw))] t.heap ∧ va_K (dC, dI) cls2 [(cpb, .byte)] t ∧ va_D A [(va, .inl (cpb, nva, .inl gva)), (nw, .inl (cpb, nnw, .inl gnw))] ∧ t.heap.size ≤ sz + kcz ∧ hsl t.heap ≤ szl + knz
set_option maxHeartbeats 4000000 in
set_option maxRecDepth 100000 in
theorem c_JA_copyOfRange (l : Launch) (hlt : l.stackTraces = false) (dC : Nat → ClassId) (dI : Nat → Nat → Nat) (sz : Nat) (szl : Nat) (sa : Nat → Nat) (va : Nat) (cpb : ClassId) (nva : Nat) (gva : Nat → Int32)  (b_gva : ∀ j : Nat, -128 ≤ (gva j).toInt ∧ (gva j).toInt ≤ 127) (p1 : Int32) (p2 : Int32)  (hva : (nva : Int) < 1000000) (hp : 0 ≤ p2.toInt ∧ p2.toInt ≤ (nva : Int)) (hp1 : p1.toInt = 0) : Met l y_JA_copyOfRange w_JA_copyOfRange ({ frames := 2, cells := 1, slots := p2.toInt.toNat, locals := 64 }) (va_Pc [.ref va, .int p1, .int p2] (fun U => U.heap.size = sz ∧ va_P (dC, dI) cls2 [(va, .inl (cpb, nva, .inl gva))] U.heap ∧ va_K (dC, dI) cls2 [(cpb, .byte)] U ∧ va_D (fun _ => True) [(va, .inl (cpb, nva, .inl gva))] ∧ sm sa (va_A [(va, .inl (cpb, nva, .inl gva))] sz) U U.heap ∧ hsl U.heap = szl)) (va_Qr (fun (u : (Nat → Int32) × Nat × Nat × Nat × Nat) => match u with | (gnw2, kcz2, knz2, nnw2, nw2) => (∀ j : Nat, -128 ≤ (gnw2 j).toInt ∧ (gnw2 j).toInt ≤ 127) ∧ ((nnw2 : Int) = p2.toInt ∧ kcz2 = 1 ∧ knz2 = nnw2 ∧ ∀ j, j < nnw2 → gnw2 j = gva j)) (fun (u : (Nat → Int32) × Nat × Nat × Nat × Nat) (ra : Nat) (t : State) => (match u with | (gnw, kcz, knz, nnw, nw) => nw) = ra ∧ (at_JA_copyOfRange dC dI sz szl sa va cpb nva gva (va_A [(va, .inl (cpb, nva, .inl gva))] sz)) u t) (va_A [(va, .inl (cpb, nva, .inl gva))] sz)) (1) (p2.toInt.toNat) (va_A [(va, .inl (cpb, nva, .inl gva))] sz) := by
  refine Met.ofW (cc := b_JA_copyOfRange) (maxL := 3) (ret := (Option.some (.array .byte))) (by decide) rfl ?_
  intro p e s m args below meth c s₁ B hml hv
  obtain ⟨rfl, hsz, hP, hK, hD0, hSW, hszl⟩ := hv
  have hx := B.exec
  have hb := B.bytes
  have hr := B.returns
  have hts0 := atoms_spec (ws := w_JA_copyOfRange) B.pre
  have hts : ∀ w ∈ lw_g, w.before _ s = true := fun w h => hts0 w (List.mem_cons_of_mem _ h)
  have hown : s.vm.findClass R_JA = some m.cls := findClass_of_methodNamed B.named
  have hlocks := B.notSynchronized
  clear hts0
  subst hsz
  subst hszl
  have hD := hD0.self (sz := s.heap.size)
  generalize hAe : va_A [(va, .inl (cpb, nva, .inl gva))] s.heap.size = A at hD hSW ⊢
  have hA : ∀ q : Nat, s.heap.size ≤ q → A q := fun q h => by rw [← hAe]; exact Or.inr h
  clear hAe
  have hP : va_P (dC, dI) cls2 [(va, .inl (cpb, nva, .inl gva))] s.heap := hP
  have hl := lv_entry ([.ref va, .int p1, .int p2]) (n := 3) (Nat.le_of_ble_eq_true rfl)
  rw [lg_entry_eq]
  generalize (lg_sl ([.ref va, .int p1, .int p2]) ++ List.replicate (3 - (lg_sl ([.ref va, .int p1, .int p2])).length) Slot.unset).toArray = ls at hl ⊢
  have hl : lv_has ls 3 [(0, .ref va), (1, .int p1), (2, .int p2)] := hl
  have k0 : (0 : Int32).toInt = 0 := by decide
  refine w_gen (A := A) hP (fun H locs hP hS => ?_)
  have lo_p1 := i32_lo p1
  have hi_p1 := i32_hi p1
  have lo_p2 := i32_lo p2
  have hi_p2 := i32_hi p2
  refine lv_iload_n hx hb d_JA_copyOfRange_0 rfl (lv_at hl 1 rfl) ?_
  refine lv_if_ne (tgt := 10) hx hb d_JA_copyOfRange_1 (by decide) (fun c1 => absurd (neI c1) (by omega)) (fun c1 => ?_)
  have q1 := eqI c1
  refine lv_iload_n hx hb d_JA_copyOfRange_4 rfl (lv_at hl 2 rfl) ?_
  refine lv_aload_n hx hb d_JA_copyOfRange_5 rfl (lv_at hl 0 rfl) ?_
  refine va_alen hx hb hK hP 0 0 rfl rfl rfl d_JA_copyOfRange_6 ?_
  refine lv_topi (fun x1 ex1 => ?_)
  have tx1 : x1.toInt = nva := by rw [ex1]; exact i32_len (by omega)
  refine lv_icmp_eq (tgt := 17) hx hb d_JA_copyOfRange_7 (by decide) (fun c7 => ?_) (fun c7 => ?_)
  · have q7 := eqI c7
    refine lv_aload_n hx hb d_JA_copyOfRange_17 rfl (lv_at hl 0 rfl) ?_
    refine va_clone (ad := "[B") hx hb (hml.trans hl.1.symm) hown (hts _ kM_JA_310) (hts _ kSM_cl) (hts _ kNA_cl) (hts _ kV_cl) (hts _ kS_cl) hSW.cl hK hP hD hS hA 0 0 rfl rfl (va_nm_byte (hK.2 0 _ rfl).2) (fit_cell (b_gva)) (Nat.le_of_ble_eq_true rfl) (Nat.le_of_ble_eq_true rfl) (by dsimp only [headSpec]; omega) (by dsimp only [headSpec]; omega) d_JA_copyOfRange_18 (fun nq18 H hK9 hP hD hS => ?_)
    clear hK9
    have hP : va_P (dC, dI) cls2 [(va, .inl (cpb, nva, .inl gva)), (nq18, .inl (cpb, nva, .inl gva))] H := hP
    have hD : va_D A [(va, .inl (cpb, nva, .inl gva)), (nq18, .inl (cpb, nva, .inl gva))] := hD
    refine va_castA (nm := "[B") hx hb hown (hts _ kK_JA_311) hP 1 rfl (va_nm_byte (hK.2 0 _ rfl).2) d_JA_copyOfRange_21 ?_
    have hP9 := hP.sub (ws' := [(va, .inl (cpb, nva, .inl gva)), (nq18, .inl (cpb, nva, .inl gva))]) [0, 1] rfl
    have hD9 := hD.sub (ws' := [(va, .inl (cpb, nva, .inl gva)), (nq18, .inl (cpb, nva, .inl gva))]) [0, 1] (by decide) rfl
    refine w_known (fun hzc hzs => ?_)
    refine W.widen (k := 1) (n := p2.toInt.toNat) (by omega) (by omega) ?_
    exact W.aret (v := .ref nq18) hx hb hr (Or.inr ⟨_, rfl⟩) (Or.inr ⟨_, rfl⟩) (fun t ht hW => ⟨⟨(gva, 0 + 1, 0 + nva, nva, nq18), nq18, rfl, ⟨b_gva, ⟨by omega, by omega, by omega, fun j _ => rfl⟩⟩, rfl, by rw [ht]; exact hP9, va_K.moved hW.alike hK, hD9, by rw [ht]; exact hzc, by rw [ht]; exact hzs⟩, hS.F ht⟩) hS.2.2 d_JA_copyOfRange_24
  · have q7 := neI c7
    refine lv_aload_n hx hb d_JA_copyOfRange_10 rfl (lv_at hl 0 rfl) ?_
    refine lv_iload_n hx hb d_JA_copyOfRange_11 rfl (lv_at hl 1 rfl) ?_
    refine lv_iload_n hx hb d_JA_copyOfRange_12 rfl (lv_at hl 2 rfl) ?_
    refine w_known (fun hzc hzs => ?_)
    have hPc := hP.sub (ws' := [(va, .inl (cpb, nva, .inl gva))]) [0] rfl
    have hDc := hD.sub (ws' := [(va, .inl (cpb, nva, .inl gva))]) [0] (by decide) rfl
    have hKc := hK.sub (tys' := [(cpb, .byte)]) [0] rfl
    have hFc := va_free (wc := [(va, .inl (cpb, nva, .inl gva))]) hD hS hA [0] rfl
    refine va_callr (va_runS (As := [.ref va, .int p1, .int p2]) (rest := []) ⟨hx, hb, hml, hown, hts⟩ (c_JA_copyOfRangeByte l hlt dC dI H.size (hsl H) sa va cpb nva gva (b_gva) p1 p2 (by (try dsimp only) <;> omega) (by (try dsimp only) <;> omega) (hp1)) ⟨callB_of 3 hts (gW kC_JA_copyOfRangeByte) rfl rfl rfl (hts _ kI_JA) (hts _ kM_JA_339) (by decide +kernel) ⟨Nat.le_of_ble_eq_true rfl, Nat.le_of_ble_eq_true rfl⟩, hts _ kT_JA_copyOfRangeByte⟩ ⟨fun a U g mk z => by obtain ⟨z0, z1, zP, zK, zD, zS, zZ⟩ := z; exact ⟨z0, z1, zP, va_K.moved (u := U) (U := U.calling g mk a) (Vm.Alike.refl U.vm) zK, zD, sm.same (u := U) (U := U.calling g mk a) rfl zS, zZ⟩, fun U hU hW => ⟨rfl, by rw [hU], by rw [hU]; exact hPc, va_K.moved hW.alike hKc, hDc.weaken (fun _ _ _ _ => trivial), hSW.call hS hFc hW hU, by rw [hU]⟩⟩ rfl rfl hl.1 rfl (lv_room (Nat.le_of_ble_eq_true rfl)) d_JA_copyOfRange_13 ⟨by dsimp only [headSpec]; omega, by dsimp only [headSpec]; omega⟩) hS (fun q _ h => hFc q h) hFc (fun u ra t H1 locs ht hvm hw hB hz1 hk1 hS => ?_)
    obtain ⟨n3, n4, n5, n6, nq13_nw⟩ := u
    try dsimp only at hw
    obtain ⟨bn3, xr2⟩ := hw
    try clear hw
    obtain ⟨y1, y2, y3, y4⟩ := xr2
    dsimp only at hB
    obtain ⟨rfl, hB⟩ := hB
    obtain ⟨hP1, hK1, hD1, hZc, hZs⟩ := hB
    rw [ht] at hP1 hZc hZs
    obtain ⟨kc7, ekc7⟩ : ∃ z : Nat, z = 0 + n4 := ⟨_, rfl⟩
    obtain ⟨kn8, ekn8⟩ : ∃ z : Nat, z = 0 + n5 := ⟨_, rfl⟩
    refine w_refund (c2 := kc7) (n2 := kn8) (by omega) (by omega) ?_
    clear hzc hzs hZc hZs
    obtain ⟨hP, hD⟩ := va_join (wr := []) (w1 := [(va, .inl (cpb, nva, .inl gva)), (nq13_nw, .inl (cpb, n6, .inl n3))]) hP hD [0] [] rfl rfl (by decide) (by decide) hk1 hFc hP1 hD1
    clear hPc hDc hKc hFc hz1 hk1 hP1 hK1 hD1
    generalize H1 = H at hP hS ⊢
    have hP : va_P (dC, dI) cls2 [(va, .inl (cpb, nva, .inl gva)), (nq13_nw, .inl (cpb, n6, .inl n3))] H := hP
    have hD : va_D A [(va, .inl (cpb, nva, .inl gva)), (nq13_nw, .inl (cpb, n6, .inl n3))] := hD
    have hP9 := hP.sub (ws' := [(va, .inl (cpb, nva, .inl gva)), (nq13_nw, .inl (cpb, n6, .inl n3))]) [0, 1] rfl
    have hD9 := hD.sub (ws' := [(va, .inl (cpb, nva, .inl gva)), (nq13_nw, .inl (cpb, n6, .inl n3))]) [0, 1] (by decide) rfl
    refine w_known (fun hzc hzs => ?_)
    refine W.widen (k := 1) (n := p2.toInt.toNat) (by omega) (by omega) ?_
    exact W.aret (v := .ref nq13_nw) hx hb hr (Or.inr ⟨_, rfl⟩) (Or.inr ⟨_, rfl⟩) (fun t ht hW => ⟨⟨(n3, kc7, kn8, n6, nq13_nw), nq13_nw, rfl, ⟨bn3, ⟨by omega, by omega, by omega, y4⟩⟩, rfl, by rw [ht]; exact hP9, va_K.moved hW.alike hK, hD9, by rw [ht]; exact hzc, by rw [ht]; exact hzs⟩, hS.F ht⟩) hS.2.2 d_JA_copyOfRange_16
abbrev b_JQ_isLatin1 : ByteArray := prog_20_method_68_code
def y_JQ_isLatin1 : MethodName := ⟨R_JQ, "isLatin1", "()Z"⟩
abbrev w_JQ_isLatin1 : List Cond := .code y_JQ_isLatin1 b_JQ_isLatin1 1 (Option.some .boolean) :: lw_g
theorem kC_JQ_isLatin1 : Cond.code y_JQ_isLatin1 b_JQ_isLatin1 1 (Option.some .boolean) ∈ lw_g := in_g 2215 (by decide +kernel) rfl
theorem d_JQ_isLatin1_0 : decode b_JQ_isLatin1 0 = .ok (.getstatic 18, 3) := by decide +kernel
theorem d_JQ_isLatin1_3 : decode b_JQ_isLatin1 3 = .ok (.ifCond .eq 14, 3) := by decide +kernel
theorem d_JQ_isLatin1_6 : decode b_JQ_isLatin1 6 = .ok (.aload_n 0, 1) := by decide +kernel
theorem d_JQ_isLatin1_7 : decode b_JQ_isLatin1 7 = .ok (.getfield 22, 3) := by decide +kernel
theorem d_JQ_isLatin1_10 : decode b_JQ_isLatin1 10 = .ok (.ifCond .ne 7, 3) := by decide +kernel
theorem d_JQ_isLatin1_13 : decode b_JQ_isLatin1 13 = .ok (.iconst 1, 1) := by decide +kernel
theorem d_JQ_isLatin1_14 : decode b_JQ_isLatin1 14 = .ok (.goto 4, 3) := by decide +kernel
theorem d_JQ_isLatin1_17 : decode b_JQ_isLatin1 17 = .ok (.iconst 0, 1) := by decide +kernel
theorem d_JQ_isLatin1_18 : decode b_JQ_isLatin1 18 = .ok (.ireturn, 1) := by decide +kernel
theorem kF_JQ_18 : Cond.fieldLink R_JQ 18 "java/lang/String" "COMPACT_STRINGS" "Z" ∈ lw_g := in_g 2145 (by decide +kernel) rfl
theorem kF_JQ_22 : Cond.fieldLink R_JQ 22 "java/lang/AbstractStringBuilder" "coder" "B" ∈ lw_g := in_g 2154 (by decide +kernel) rfl
abbrev at_JQ_isLatin1 (dC : Nat → ClassId) (dI : Nat → Nat → Nat) (sa : Nat → Nat) (h0 va : Nat) (h0_maybeLatin1 : Int32) (h0_count : Int32) (A : Nat → Prop) (u : Unit) (t : State) : Prop := match u with | _ => va_P (dC, dI) cls2 [(h0, .inr (17, [.ref va, .int 0, .int h0_maybeLatin1, .int h0_count]))] t.heap ∧ va_K (dC, dI) cls2 [] t ∧ va_D A [(h0, .inr (17, [.ref va, .int 0, .int h0_maybeLatin1, .int h0_count]))]
set_option maxHeartbeats 4000000 in
set_option maxRecDepth 100000 in
theorem c_JQ_isLatin1 (l : Launch) (hlt : l.stackTraces = false) (dC : Nat → ClassId) (dI : Nat → Nat → Nat) (sz : Nat) (sa : Nat → Nat) (h0 va : Nat) (h0_maybeLatin1 : Int32) (h0_count : Int32)      : Met l y_JQ_isLatin1 w_JQ_isLatin1 ({ frames := 0, cells := 0, slots := 0, locals := 0 }) (va_Pc [.ref h0] (fun U => U.heap.size = sz ∧ va_P (dC, dI) cls2 [(h0, .inr (17, [.ref va, .int 0, .int h0_maybeLatin1, .int h0_count]))] U.heap ∧ va_K (dC, dI) cls2 [] U ∧ va_D (fun _ => True) [(h0, .inr (17, [.ref va, .int 0, .int h0_maybeLatin1, .int h0_count]))] ∧ sm sa (va_A [(h0, .inr (17, [.ref va, .int 0, .int h0_maybeLatin1, .int h0_count]))] sz) U U.heap)) (va_Qi (fun (r : Int32) (u : Unit) => match u with | _ => (r = 0 ∨ r = 1) ∧ (r.toInt = 1)) (at_JQ_isLatin1 dC dI sa h0 va h0_maybeLatin1 h0_count (va_A [(h0, .inr (17, [.ref va, .int 0, .int h0_maybeLatin1, .int h0_count]))] sz)) (va_A [(h0, .inr (17, [.ref va, .int 0, .int h0_maybeLatin1, .int h0_count]))] sz)) 0 0 (va_A [(h0, .inr (17, [.ref va, .int 0, .int h0_maybeLatin1, .int h0_count]))] sz) := by
  refine Met.ofW (cc := b_JQ_isLatin1) (maxL := 1) (ret := (Option.some .boolean)) (by decide) rfl ?_
  intro p e s m args below meth c s₁ B hml hv
  obtain ⟨rfl, hsz, hP, hK, hD0, hSW⟩ := hv
  have hx := B.exec
  have hb := B.bytes
  have hr := B.returns
  have hts0 := atoms_spec (ws := w_JQ_isLatin1) B.pre
  have hts : ∀ w ∈ lw_g, w.before _ s = true := fun w h => hts0 w (List.mem_cons_of_mem _ h)
  have hown : s.vm.findClass R_JQ = some m.cls := findClass_of_methodNamed B.named
  have hlocks := B.notSynchronized
  clear hts0
  subst hsz
  have hD := hD0.self (sz := s.heap.size)
  generalize hAe : va_A [(h0, .inr (17, [.ref va, .int 0, .int h0_maybeLatin1, .int h0_count]))] s.heap.size = A at hD hSW ⊢
  have hA : ∀ q : Nat, s.heap.size ≤ q → A q := fun q h => by rw [← hAe]; exact Or.inr h
  clear hAe
  have hP : va_P (dC, dI) cls2 [(h0, .inr (17, [.ref va, .int 0, .int h0_maybeLatin1, .int h0_count]))] s.heap := hP
  have hl := lv_entry ([.ref h0]) (n := 1) (Nat.le_of_ble_eq_true rfl)
  rw [lg_entry_eq]
  generalize (lg_sl ([.ref h0]) ++ List.replicate (1 - (lg_sl ([.ref h0])).length) Slot.unset).toArray = ls at hl ⊢
  have hl : lv_has ls 1 [(0, .ref h0)] := hl
  have k0 : (0 : Int32).toInt = 0 := by decide
  refine w_gen (A := A) hP (fun H locs hP hS => ?_)
  have k1 : (1 : Int32).toInt = 1 := by decide
  refine va_gets (C := "java/lang/String") (n := "COMPACT_STRINGS") (d := "Z") (v := .int 1) hx hb hSW.1.2.2.2.2.2.2.2.2.2.2.2.1 hS hown (hts _ kF_JQ_18) (fun _ h9 => h9) d_JQ_isLatin1_0 ?_
  have k19 : (1 : Int32).toInt = 1 := by decide
  refine lv_if_eq (tgt := 17) hx hb d_JQ_isLatin1_3 (by decide) (fun c3 => absurd (eqI c3) (by omega)) (fun c3 => ?_)
  have q3 := neI c3
  refine lv_aload_n hx hb d_JQ_isLatin1_6 rfl (lv_at hl 0 rfl) ?_
  refine va_get (D := (dC, dI)) (ci := 17) (v := .int 0) (C := R_JB) (T := F_JB) (N := 4) hx hb hts i_JB hown hK hP 0 rfl rfl 1 (by decide) (hts _ kF_JQ_22) (fun _ h9 => h9) rfl d_JQ_isLatin1_7 ?_
  refine lv_if_ne (tgt := 17) hx hb d_JQ_isLatin1_10 (by decide) (fun c10 => absurd (neI c10) (by omega)) (fun c10 => ?_)
  have q10 := eqI c10
  refine lv_iconst (v := 1) hx hb d_JQ_isLatin1_13 (by decide) ?_
  refine lv_goto (tgt := 18) hx hb d_JQ_isLatin1_14 (by decide) ?_
  have hP9 := hP.sub (ws' := [(h0, .inr (17, [.ref va, .int 0, .int h0_maybeLatin1, .int h0_count]))]) [0] rfl
  have hD9 := hD.sub (ws' := [(h0, .inr (17, [.ref va, .int 0, .int h0_maybeLatin1, .int h0_count]))]) [0] (by decide) rfl
  exact W.zret (v := 1) hx hb hr (zn01 (Or.inr rfl)) (fun t ht hW => ⟨⟨1, (), rfl, ⟨Or.inr rfl, by decide⟩, by rw [ht]; exact hP9, va_K.moved hW.alike hK, hD9⟩, hS.F ht⟩) hS.2.2 d_JQ_isLatin1_18
abbrev b_JT_canEncode0 : ByteArray := prog_35_method_3_code
def y_JT_canEncode0 : MethodName := ⟨R_JT, "canEncode", "(C)Z"⟩
abbrev w_JT_canEncode0 : List Cond := .code y_JT_canEncode0 b_JT_canEncode0 1 (Option.some .boolean) :: lw_g
theorem kC_JT_canEncode0 : Cond.code y_JT_canEncode0 b_JT_canEncode0 1 (Option.some .boolean) ∈ lw_g := in_g 2218 (by decide +kernel) rfl
theorem d_JT_canEncode0_0 : decode b_JT_canEncode0 0 = .ok (.iload_n 0, 1) := by decide +kernel
theorem d_JT_canEncode0_1 : decode b_JT_canEncode0 1 = .ok (.sipush 255, 3) := by decide +kernel
theorem d_JT_canEncode0_4 : decode b_JT_canEncode0 4 = .ok (.if_icmp .gt 7, 3) := by decide +kernel
theorem d_JT_canEncode0_7 : decode b_JT_canEncode0 7 = .ok (.iconst 1, 1) := by decide +kernel
theorem d_JT_canEncode0_8 : decode b_JT_canEncode0 8 = .ok (.goto 4, 3) := by decide +kernel
theorem d_JT_canEncode0_11 : decode b_JT_canEncode0 11 = .ok (.iconst 0, 1) := by decide +kernel
theorem d_JT_canEncode0_12 : decode b_JT_canEncode0 12 = .ok (.ireturn, 1) := by decide +kernel
abbrev at_JT_canEncode0 (dC : Nat → ClassId) (dI : Nat → Nat → Nat)  (A : Nat → Prop) (u : Unit) (t : State) : Prop := match u with | _ => va_P (dC, dI) cls2 [] t.heap ∧ va_K (dC, dI) cls2 [] t ∧ va_D A []
set_option maxHeartbeats 4000000 in
set_option maxRecDepth 100000 in
theorem c_JT_canEncode0 (l : Launch) (hlt : l.stackTraces = false) (dC : Nat → ClassId) (dI : Nat → Nat → Nat) (sz : Nat)    (p0 : Int32)  (hp : p0.toInt ≤ 255) : Met l y_JT_canEncode0 w_JT_canEncode0 ({ frames := 0, cells := 0, slots := 0, locals := 0 }) (va_Pc [.int p0] (fun U => U.heap.size = sz ∧ va_P (dC, dI) cls2 [] U.heap ∧ va_K (dC, dI) cls2 [] U ∧ va_D (fun _ => True) [])) (va_Qi (fun (r : Int32) (u : Unit) => match u with | _ => (r = 0 ∨ r = 1) ∧ (r.toInt = 1)) (at_JT_canEncode0 dC dI  (va_A [] sz)) (va_A [] sz)) 0 0 (va_A [] sz) := by
  refine Met.ofW (cc := b_JT_canEncode0) (maxL := 1) (ret := (Option.some .boolean)) (by decide) rfl ?_
  intro p e s m args below meth c s₁ B hml hv
  obtain ⟨rfl, hsz, hP, hK, hD0⟩ := hv
  have hx := B.exec
  have hb := B.bytes
  have hr := B.returns
  have hts0 := atoms_spec (ws := w_JT_canEncode0) B.pre
  have hts : ∀ w ∈ lw_g, w.before _ s = true := fun w h => hts0 w (List.mem_cons_of_mem _ h)
  have hown : s.vm.findClass R_JT = some m.cls := findClass_of_methodNamed B.named
  have hlocks := B.notSynchronized
  clear hts0
  subst hsz
  have hD := hD0.self (sz := s.heap.size)
  generalize hAe : va_A [] s.heap.size = A at hD ⊢
  have hA : ∀ q : Nat, s.heap.size ≤ q → A q := fun q h => by rw [← hAe]; exact Or.inr h
  clear hAe
  have hP : va_P (dC, dI) cls2 [] s.heap := hP
  have hl := lv_entry ([.int p0]) (n := 1) (Nat.le_of_ble_eq_true rfl)
  rw [lg_entry_eq]
  generalize (lg_sl ([.int p0]) ++ List.replicate (1 - (lg_sl ([.int p0])).length) Slot.unset).toArray = ls at hl ⊢
  have hl : lv_has ls 1 [(0, .int p0)] := hl
  have k0 : (0 : Int32).toInt = 0 := by decide
  refine w_gen (A := A) hP (fun H locs hP hS => ?_)
  have k1 : (1 : Int32).toInt = 1 := by decide
  have k255 : (255 : Int32).toInt = 255 := by decide
  have lo_p0 := i32_lo p0
  have hi_p0 := i32_hi p0
  refine lv_iload_n hx hb d_JT_canEncode0_0 rfl (lv_at hl 0 rfl) ?_
  refine lv_sipush (v := 255) hx hb d_JT_canEncode0_1 (by decide) ?_
  refine lv_icmp_gt (tgt := 11) hx hb d_JT_canEncode0_4 (by decide) (fun c4 => absurd (ltI c4) (by omega)) (fun c4 => ?_)
  have q4 := nltI c4
  refine lv_iconst (v := 1) hx hb d_JT_canEncode0_7 (by decide) ?_
  refine lv_goto (tgt := 12) hx hb d_JT_canEncode0_8 (by decide) ?_
  have hP9 := hP.sub (ws' := []) [] rfl
  have hD9 := hD.sub (ws' := []) [] (by decide) rfl
  exact W.zret (v := 1) hx hb hr (zn01 (Or.inr rfl)) (fun t ht hW => ⟨⟨1, (), rfl, ⟨Or.inr rfl, by decide⟩, by rw [ht]; exact hP9, va_K.moved hW.alike hK, hD9⟩, hS.F ht⟩) hS.2.2 d_JT_canEncode0_12
abbrev b_JQ_getValue : ByteArray := prog_20_method_64_code
def y_JQ_getValue : MethodName := ⟨R_JQ, "getValue", "()[B"⟩
abbrev w_JQ_getValue : List Cond := .code y_JQ_getValue b_JQ_getValue 1 (Option.some (.array .byte)) :: lw_g
theorem kC_JQ_getValue : Cond.code y_JQ_getValue b_JQ_getValue 1 (Option.some (.array .byte)) ∈ lw_g := in_g 2261 (by decide +kernel) rfl
theorem d_JQ_getValue_0 : decode b_JQ_getValue 0 = .ok (.aload_n 0, 1) := by decide +kernel
theorem d_JQ_getValue_1 : decode b_JQ_getValue 1 = .ok (.getfield 15, 3) := by decide +kernel
theorem d_JQ_getValue_4 : decode b_JQ_getValue 4 = .ok (.areturn, 1) := by decide +kernel
theorem kF_JQ_15 : Cond.fieldLink R_JQ 15 "java/lang/AbstractStringBuilder" "value" "[B" ∈ lw_g := in_g 2153 (by decide +kernel) rfl
abbrev at_JQ_getValue (dC : Nat → ClassId) (dI : Nat → Nat → Nat) (h0 va : Nat) (cpb : ClassId) (h0_maybeLatin1 : Int32) (h0_count : Int32) (nva : Nat) (gva : Nat → Int32) (A : Nat → Prop) (u : Unit) (t : State) : Prop := match u with | _ => va_P (dC, dI) cls2 [(h0, .inr (17, [.ref va, .int 0, .int h0_maybeLatin1, .int h0_count])), (va, .inl (cpb, nva, .inl gva))] t.heap ∧ va_K (dC, dI) cls2 [(cpb, .byte)] t ∧ va_D A [(h0, .inr (17, [.ref va, .int 0, .int h0_maybeLatin1, .int h0_count])), (va, .inl (cpb, nva, .inl gva))]
set_option maxHeartbeats 4000000 in
set_option maxRecDepth 100000 in
theorem c_JQ_getValue (l : Launch) (hlt : l.stackTraces = false) (dC : Nat → ClassId) (dI : Nat → Nat → Nat) (sz : Nat) (h0 va : Nat) (cpb : ClassId) (h0_maybeLatin1 : Int32) (h0_count : Int32) (nva : Nat) (gva : Nat → Int32)  (b_gva : ∀ j : Nat, -128 ≤ (gva j).toInt ∧ (gva j).toInt ≤ 127)    : Met l y_JQ_getValue w_JQ_getValue ({ frames := 0, cells := 0, slots := 0, locals := 0 }) (va_Pc [.ref h0] (fun U => U.heap.size = sz ∧ va_P (dC, dI) cls2 [(h0, .inr (17, [.ref va, .int 0, .int h0_maybeLatin1, .int h0_count])), (va, .inl (cpb, nva, .inl gva))] U.heap ∧ va_K (dC, dI) cls2 [(cpb, .byte)] U ∧ va_D (fun _ => True) [(h0, .inr (17, [.ref va, .int 0, .int h0_maybeLatin1, .int h0_count])), (va, .inl (cpb, nva, .inl gva))])) (va_Qr (fun (u : Unit) => match u with | _ => True) (fun (u : Unit) (ra : Nat) (t : State) => va = ra ∧ (at_JQ_getValue dC dI h0 va cpb h0_maybeLatin1 h0_count nva gva (va_A [(h0, .inr (17, [.ref va, .int 0, .int h0_maybeLatin1, .int h0_count])), (va, .inl (cpb, nva, .inl gva))] sz)) u t) (va_A [(h0, .inr (17, [.ref va, .int 0, .int h0_maybeLatin1, .int h0_count])), (va, .inl (cpb, nva, .inl gva))] sz)) 0 0 (va_A [(h0, .inr (17, [.ref va, .int 0, .int h0_maybeLatin1, .int h0_count])), (va, .inl (cpb, nva, .inl gva))] sz) := by
  refine Met.ofW (cc := b_JQ_getValue) (maxL := 1) (ret := (Option.some (.array .byte))) (by decide) rfl ?_
  intro p e s m args below meth c s₁ B hml hv
  obtain ⟨rfl, hsz, hP, hK, hD0⟩ := hv
  have hx := B.exec
  have hb := B.bytes
  have hr := B.returns
  have hts0 := atoms_spec (ws := w_JQ_getValue) B.pre
  have hts : ∀ w ∈ lw_g, w.before _ s = true := fun w h => hts0 w (List.mem_cons_of_mem _ h)
  have hown : s.vm.findClass R_JQ = some m.cls := findClass_of_methodNamed B.named
  have hlocks := B.notSynchronized
  clear hts0
  subst hsz
  have hD := hD0.self (sz := s.heap.size)
  generalize hAe : va_A [(h0, .inr (17, [.ref va, .int 0, .int h0_maybeLatin1, .int h0_count])), (va, .inl (cpb, nva, .inl gva))] s.heap.size = A at hD ⊢
  have hA : ∀ q : Nat, s.heap.size ≤ q → A q := fun q h => by rw [← hAe]; exact Or.inr h
  clear hAe
  have hP : va_P (dC, dI) cls2 [(h0, .inr (17, [.ref va, .int 0, .int h0_maybeLatin1, .int h0_count])), (va, .inl (cpb, nva, .inl gva))] s.heap := hP
  have hl := lv_entry ([.ref h0]) (n := 1) (Nat.le_of_ble_eq_true rfl)
  rw [lg_entry_eq]
  generalize (lg_sl ([.ref h0]) ++ List.replicate (1 - (lg_sl ([.ref h0])).length) Slot.unset).toArray = ls at hl ⊢
  have hl : lv_has ls 1 [(0, .ref h0)] := hl
  have k0 : (0 : Int32).toInt = 0 := by decide
  refine w_gen (A := A) hP (fun H locs hP hS => ?_)
  refine lv_aload_n hx hb d_JQ_getValue_0 rfl (lv_at hl 0 rfl) ?_
  refine va_get (D := (dC, dI)) (ci := 17) (v := .ref va) (C := R_JB) (T := F_JB) (N := 4) hx hb hts i_JB hown hK hP 0 rfl rfl 0 (by decide) (hts _ kF_JQ_15) (fun _ h9 => h9) rfl d_JQ_getValue_1 ?_
  have hP9 := hP.sub (ws' := [(h0, .inr (17, [.ref va, .int 0, .int h0_maybeLatin1, .int h0_count])), (va, .inl (cpb, nva, .inl gva))]) [0, 1] rfl
  have hD9 := hD.sub (ws' := [(h0, .inr (17, [.ref va, .int 0, .int h0_maybeLatin1, .int h0_count])), (va, .inl (cpb, nva, .inl gva))]) [0, 1] (by decide) rfl
  exact W.aret (v := .ref va) hx hb hr (Or.inr ⟨_, rfl⟩) (Or.inr ⟨_, rfl⟩) (fun t ht hW => ⟨⟨(), va, rfl, ⟨⟩, rfl, by rw [ht]; exact hP9, va_K.moved hW.alike hK, hD9⟩, hS.F ht⟩) hS.2.2 d_JQ_getValue_4
abbrev b_JQ_length : ByteArray := prog_20_method_6_code
def y_JQ_length : MethodName := ⟨R_JQ, "length", "()I"⟩
abbrev w_JQ_length : List Cond := .code y_JQ_length b_JQ_length 1 (Option.some .int) :: lw_g
theorem kC_JQ_length : Cond.code y_JQ_length b_JQ_length 1 (Option.some .int) ∈ lw_g := in_g 2269 (by decide +kernel) rfl
theorem d_JQ_length_0 : decode b_JQ_length 0 = .ok (.aload_n 0, 1) := by decide +kernel
theorem d_JQ_length_1 : decode b_JQ_length 1 = .ok (.getfield 79, 3) := by decide +kernel
theorem d_JQ_length_4 : decode b_JQ_length 4 = .ok (.ireturn, 1) := by decide +kernel
theorem kF_JQ_79 : Cond.fieldLink R_JQ 79 "java/lang/AbstractStringBuilder" "count" "I" ∈ lw_g := in_g 2156 (by decide +kernel) rfl
abbrev at_JQ_length (dC : Nat → ClassId) (dI : Nat → Nat → Nat) (h0 va : Nat) (h0_maybeLatin1 : Int32) (h0_count : Int32) (A : Nat → Prop) (u : Unit) (t : State) : Prop := match u with | _ => va_P (dC, dI) cls2 [(h0, .inr (17, [.ref va, .int 0, .int h0_maybeLatin1, .int h0_count]))] t.heap ∧ va_K (dC, dI) cls2 [] t ∧ va_D A [(h0, .inr (17, [.ref va, .int 0, .int h0_maybeLatin1, .int h0_count]))]
set_option maxHeartbeats 4000000 in
set_option maxRecDepth 100000 in
theorem c_JQ_length (l : Launch) (hlt : l.stackTraces = false) (dC : Nat → ClassId) (dI : Nat → Nat → Nat) (sz : Nat) (h0 va : Nat) (h0_maybeLatin1 : Int32) (h0_count : Int32)  (b_h0_count : 0 ≤ h0_count.toInt ∧ h0_count.toInt ≤ 1000000)    : Met l y_JQ_length w_JQ_length ({ frames := 0, cells := 0, slots := 0, locals := 0 }) (va_Pc [.ref h0] (fun U => U.heap.size = sz ∧ va_P (dC, dI) cls2 [(h0, .inr (17, [.ref va, .int 0, .int h0_maybeLatin1, .int h0_count]))] U.heap ∧ va_K (dC, dI) cls2 [] U ∧ va_D (fun _ => True) [(h0, .inr (17, [.ref va, .int 0, .int h0_maybeLatin1, .int h0_count]))])) (va_Qi (fun (r : Int32) (u : Unit) => match u with | _ => (r = h0_count)) (at_JQ_length dC dI h0 va h0_maybeLatin1 h0_count (va_A [(h0, .inr (17, [.ref va, .int 0, .int h0_maybeLatin1, .int h0_count]))] sz)) (va_A [(h0, .inr (17, [.ref va, .int 0, .int h0_maybeLatin1, .int h0_count]))] sz)) 0 0 (va_A [(h0, .inr (17, [.ref va, .int 0, .int h0_maybeLatin1, .int h0_count]))] sz) := by
  refine Met.ofW (cc := b_JQ_length) (maxL := 1) (ret := (Option.some .int)) (by decide) rfl ?_
  intro p e s m args below meth c s₁ B hml hv
  obtain ⟨rfl, hsz, hP, hK, hD0⟩ := hv
  have hx := B.exec
  have hb := B.bytes
  have hr := B.returns
  have hts0 := atoms_spec (ws := w_JQ_length) B.pre
  have hts : ∀ w ∈ lw_g, w.before _ s = true := fun w h => hts0 w (List.mem_cons_of_mem _ h)
  have hown : s.vm.findClass R_JQ = some m.cls := findClass_of_methodNamed B.named
  have hlocks := B.notSynchronized
  clear hts0
  subst hsz
  have hD := hD0.self (sz := s.heap.size)
  generalize hAe : va_A [(h0, .inr (17, [.ref va, .int 0, .int h0_maybeLatin1, .int h0_count]))] s.heap.size = A at hD ⊢
  have hA : ∀ q : Nat, s.heap.size ≤ q → A q := fun q h => by rw [← hAe]; exact Or.inr h
  clear hAe
  have hP : va_P (dC, dI) cls2 [(h0, .inr (17, [.ref va, .int 0, .int h0_maybeLatin1, .int h0_count]))] s.heap := hP
  have hl := lv_entry ([.ref h0]) (n := 1) (Nat.le_of_ble_eq_true rfl)
  rw [lg_entry_eq]
  generalize (lg_sl ([.ref h0]) ++ List.replicate (1 - (lg_sl ([.ref h0])).length) Slot.unset).toArray = ls at hl ⊢
  have hl : lv_has ls 1 [(0, .ref h0)] := hl
  have k0 : (0 : Int32).toInt = 0 := by decide
  refine w_gen (A := A) hP (fun H locs hP hS => ?_)
  refine lv_aload_n hx hb d_JQ_length_0 rfl (lv_at hl 0 rfl) ?_
  refine va_get (D := (dC, dI)) (ci := 17) (v := .int h0_count) (C := R_JB) (T := F_JB) (N := 4) hx hb hts i_JB hown hK hP 0 rfl rfl 3 (by decide) (hts _ kF_JQ_79) (fun _ h9 => h9) rfl d_JQ_length_1 ?_
  have hP9 := hP.sub (ws' := [(h0, .inr (17, [.ref va, .int 0, .int h0_maybeLatin1, .int h0_count]))]) [0] rfl
  have hD9 := hD.sub (ws' := [(h0, .inr (17, [.ref va, .int 0, .int h0_maybeLatin1, .int h0_count]))]) [0] (by decide) rfl
  exact W.iret (v := h0_count) hx hb hr (fun t ht hW => ⟨⟨h0_count, (), rfl, (rfl), by rw [ht]; exact hP9, va_K.moved hW.alike hK, hD9⟩, hS.F ht⟩) hS.2.2 d_JQ_length_4
abbrev b_JQ_newCapacity : ByteArray := prog_20_method_10_code
def y_JQ_newCapacity : MethodName := ⟨R_JQ, "newCapacity", "(I)I"⟩
abbrev w_JQ_newCapacity : List Cond := .code y_JQ_newCapacity b_JQ_newCapacity 6 (Option.some .int) :: lw_g
theorem kC_JQ_newCapacity : Cond.code y_JQ_newCapacity b_JQ_newCapacity 6 (Option.some .int) ∈ lw_g := in_g 2183 (by decide +kernel) rfl
theorem d_JQ_newCapacity_0 : decode b_JQ_newCapacity 0 = .ok (.aload_n 0, 1) := by decide +kernel
theorem d_JQ_newCapacity_1 : decode b_JQ_newCapacity 1 = .ok (.getfield 15, 3) := by decide +kernel
theorem d_JQ_newCapacity_4 : decode b_JQ_newCapacity 4 = .ok (.arraylength, 1) := by decide +kernel
theorem d_JQ_newCapacity_5 : decode b_JQ_newCapacity 5 = .ok (.istore_n 2, 1) := by decide +kernel
theorem d_JQ_newCapacity_6 : decode b_JQ_newCapacity 6 = .ok (.iload_n 1, 1) := by decide +kernel
theorem d_JQ_newCapacity_7 : decode b_JQ_newCapacity 7 = .ok (.aload_n 0, 1) := by decide +kernel
theorem d_JQ_newCapacity_8 : decode b_JQ_newCapacity 8 = .ok (.getfield 22, 3) := by decide +kernel
theorem d_JQ_newCapacity_11 : decode b_JQ_newCapacity 11 = .ok (.ishl, 1) := by decide +kernel
theorem d_JQ_newCapacity_12 : decode b_JQ_newCapacity 12 = .ok (.istore_n 3, 1) := by decide +kernel
theorem d_JQ_newCapacity_13 : decode b_JQ_newCapacity 13 = .ok (.iload_n 3, 1) := by decide +kernel
theorem d_JQ_newCapacity_14 : decode b_JQ_newCapacity 14 = .ok (.iload_n 2, 1) := by decide +kernel
theorem d_JQ_newCapacity_15 : decode b_JQ_newCapacity 15 = .ok (.isub, 1) := by decide +kernel
theorem d_JQ_newCapacity_16 : decode b_JQ_newCapacity 16 = .ok (.istore 4, 2) := by decide +kernel
theorem d_JQ_newCapacity_18 : decode b_JQ_newCapacity 18 = .ok (.iload_n 2, 1) := by decide +kernel
theorem d_JQ_newCapacity_19 : decode b_JQ_newCapacity 19 = .ok (.iload 4, 2) := by decide +kernel
theorem d_JQ_newCapacity_21 : decode b_JQ_newCapacity 21 = .ok (.iload_n 2, 1) := by decide +kernel
theorem d_JQ_newCapacity_22 : decode b_JQ_newCapacity 22 = .ok (.iconst 2, 1) := by decide +kernel
theorem d_JQ_newCapacity_23 : decode b_JQ_newCapacity 23 = .ok (.aload_n 0, 1) := by decide +kernel
theorem d_JQ_newCapacity_24 : decode b_JQ_newCapacity 24 = .ok (.getfield 22, 3) := by decide +kernel
theorem d_JQ_newCapacity_27 : decode b_JQ_newCapacity 27 = .ok (.ishl, 1) := by decide +kernel
theorem d_JQ_newCapacity_28 : decode b_JQ_newCapacity 28 = .ok (.iadd, 1) := by decide +kernel
theorem d_JQ_newCapacity_29 : decode b_JQ_newCapacity 29 = .ok (.invokestatic 114, 3) := by decide +kernel
theorem d_JQ_newCapacity_32 : decode b_JQ_newCapacity 32 = .ok (.istore 5, 2) := by decide +kernel
theorem d_JQ_newCapacity_34 : decode b_JQ_newCapacity 34 = .ok (.iload 5, 2) := by decide +kernel
theorem d_JQ_newCapacity_36 : decode b_JQ_newCapacity 36 = .ok (.ldc 39, 2) := by decide +kernel
theorem d_JQ_newCapacity_38 : decode b_JQ_newCapacity 38 = .ok (.if_icmp .ne 13, 3) := by decide +kernel
theorem d_JQ_newCapacity_41 : decode b_JQ_newCapacity 41 = .ok (.new 120, 3) := by decide +kernel
theorem d_JQ_newCapacity_44 : decode b_JQ_newCapacity 44 = .ok (.dup, 1) := by decide +kernel
theorem d_JQ_newCapacity_45 : decode b_JQ_newCapacity 45 = .ok (.ldc 122, 2) := by decide +kernel
theorem d_JQ_newCapacity_47 : decode b_JQ_newCapacity 47 = .ok (.invokespecial 124, 3) := by decide +kernel
theorem d_JQ_newCapacity_50 : decode b_JQ_newCapacity 50 = .ok (.athrow, 1) := by decide +kernel
theorem d_JQ_newCapacity_51 : decode b_JQ_newCapacity 51 = .ok (.iload 5, 2) := by decide +kernel
theorem d_JQ_newCapacity_53 : decode b_JQ_newCapacity 53 = .ok (.aload_n 0, 1) := by decide +kernel
theorem d_JQ_newCapacity_54 : decode b_JQ_newCapacity 54 = .ok (.getfield 22, 3) := by decide +kernel
theorem d_JQ_newCapacity_57 : decode b_JQ_newCapacity 57 = .ok (.ishr, 1) := by decide +kernel
theorem d_JQ_newCapacity_58 : decode b_JQ_newCapacity 58 = .ok (.ireturn, 1) := by decide +kernel
theorem kM_JQ_114 : Cond.methodLink R_JQ 114 y_JU_newLength ∈ lw_g := in_g 2184 (by decide +kernel) rfl
theorem kT_JU_newLength : Cond.static y_JU_newLength ∈ lw_g := in_g 2185 (by decide +kernel) rfl
theorem kJ_JQ_39 : Cond.constant R_JQ 39 (2147483647) ∈ lw_g := in_g 2194 (by decide +kernel) rfl
abbrev at_JQ_newCapacity (dC : Nat → ClassId) (dI : Nat → Nat → Nat) (h0 va : Nat) (cpb : ClassId) (h0_maybeLatin1 : Int32) (h0_count : Int32) (nva : Nat) (gva : Nat → Int32) (A : Nat → Prop) (u : Unit) (t : State) : Prop := match u with | _ => va_P (dC, dI) cls2 [(h0, .inr (17, [.ref va, .int 0, .int h0_maybeLatin1, .int h0_count])), (va, .inl (cpb, nva, .inl gva))] t.heap ∧ va_K (dC, dI) cls2 [(cpb, .byte)] t ∧ va_D A [(h0, .inr (17, [.ref va, .int 0, .int h0_maybeLatin1, .int h0_count])), (va, .inl (cpb, nva, .inl gva))]
set_option maxHeartbeats 4000000 in
set_option maxRecDepth 100000 in
theorem c_JQ_newCapacity (l : Launch) (hlt : l.stackTraces = false) (dC : Nat → ClassId) (dI : Nat → Nat → Nat) (sz : Nat) (h0 va : Nat) (cpb : ClassId) (h0_maybeLatin1 : Int32) (h0_count : Int32) (nva : Nat) (gva : Nat → Int32)  (b_gva : ∀ j : Nat, -128 ≤ (gva j).toInt ∧ (gva j).toInt ≤ 127) (p0 : Int32)  (hva : (nva : Int) < 1000000) (hp : (nva : Int) < p0.toInt ∧ p0.toInt ≤ 1000000) : Met l y_JQ_newCapacity w_JQ_newCapacity ({ frames := 2, cells := 0, slots := 0, locals := 47 }) (va_Pc [.ref h0, .int p0] (fun U => U.heap.size = sz ∧ va_P (dC, dI) cls2 [(h0, .inr (17, [.ref va, .int 0, .int h0_maybeLatin1, .int h0_count])), (va, .inl (cpb, nva, .inl gva))] U.heap ∧ va_K (dC, dI) cls2 [(cpb, .byte)] U ∧ va_D (fun _ => True) [(h0, .inr (17, [.ref va, .int 0, .int h0_maybeLatin1, .int h0_count])), (va, .inl (cpb, nva, .inl gva))])) (va_Qi (fun (r : Int32) (u : Unit) => match u with | _ => (r.toInt = (nva : Int) + max (p0.toInt - nva) (nva + 2))) (at_JQ_newCapacity dC dI h0 va cpb h0_maybeLatin1 h0_count nva gva (va_A [(h0, .inr (17, [.ref va, .int 0, .int h0_maybeLatin1, .int h0_count])), (va, .inl (cpb, nva, .inl gva))] sz)) (va_A [(h0, .inr (17, [.ref va, .int 0, .int h0_maybeLatin1, .int h0_count])), (va, .inl (cpb, nva, .inl gva))] sz)) 0 0 (va_A [(h0, .inr (17, [.ref va, .int 0, .int h0_maybeLatin1, .int h0_count])), (va, .inl (cpb, nva, .inl gva))] sz) := by
  refine Met.ofW (cc := b_JQ_newCapacity) (maxL := 6) (ret := (Option.some .int)) (by decide) rfl ?_
  intro p e s m args below meth c s₁ B hml hv
  obtain ⟨rfl, hsz, hP, hK, hD0⟩ := hv
  have hx := B.exec
  have hb := B.bytes
  have hr := B.returns
  have hts0 := atoms_spec (ws := w_JQ_newCapacity) B.pre
  have hts : ∀ w ∈ lw_g, w.before _ s = true := fun w h => hts0 w (List.mem_cons_of_mem _ h)
  have hown : s.vm.findClass R_JQ = some m.cls := findClass_of_methodNamed B.named
  have hlocks := B.notSynchronized
  clear hts0
  subst hsz
  have hD := hD0.self (sz := s.heap.size)
  generalize hAe : va_A [(h0, .inr (17, [.ref va, .int 0, .int h0_maybeLatin1, .int h0_count])), (va, .inl (cpb, nva, .inl gva))] s.heap.size = A at hD ⊢
  have hA : ∀ q : Nat, s.heap.size ≤ q → A q := fun q h => by rw [← hAe]; exact Or.inr h
  clear hAe
  have hP : va_P (dC, dI) cls2 [(h0, .inr (17, [.ref va, .int 0, .int h0_maybeLatin1, .int h0_count])), (va, .inl (cpb, nva, .inl gva))] s.heap := hP
  have hl := lv_entry ([.ref h0, .int p0]) (n := 6) (Nat.le_of_ble_eq_true rfl)
  rw [lg_entry_eq]
  generalize (lg_sl ([.ref h0, .int p0]) ++ List.replicate (6 - (lg_sl ([.ref h0, .int p0])).length) Slot.unset).toArray = ls at hl ⊢
  have hl : lv_has ls 6 [(0, .ref h0), (1, .int p0)] := hl
  have k0 : (0 : Int32).toInt = 0 := by decide
  refine w_gen (A := A) hP (fun H locs hP hS => ?_)
  have k2 : (2 : Int32).toInt = 2 := by decide
  have lo_p0 := i32_lo p0
  have hi_p0 := i32_hi p0
  refine lv_aload_n hx hb d_JQ_newCapacity_0 rfl (lv_at hl 0 rfl) ?_
  refine va_get (D := (dC, dI)) (ci := 17) (v := .ref va) (C := R_JB) (T := F_JB) (N := 4) hx hb hts i_JB hown hK hP 0 rfl rfl 0 (by decide) (hts _ kF_JQ_15) (fun _ h9 => h9) rfl d_JQ_newCapacity_1 ?_
  refine va_alen hx hb hK hP 1 0 rfl rfl rfl d_JQ_newCapacity_4 ?_
  refine lv_topi (fun x1 ex1 => ?_)
  have tx1 : x1.toInt = nva := by rw [ex1]; exact i32_len (by omega)
  refine lv_istore_n (lv' := [(2, .int x1), (0, .ref h0), (1, .int p0)]) hx hb d_JQ_newCapacity_5 rfl hl (by decide) rfl (fun ls hl => ?_)
  refine lv_iload_n hx hb d_JQ_newCapacity_6 rfl (lv_at hl 2 rfl) ?_
  refine lv_aload_n hx hb d_JQ_newCapacity_7 rfl (lv_at hl 1 rfl) ?_
  refine va_get (D := (dC, dI)) (ci := 17) (v := .int 0) (C := R_JB) (T := F_JB) (N := 4) hx hb hts i_JB hown hK hP 0 rfl rfl 1 (by decide) (hts _ kF_JQ_22) (fun _ h9 => h9) rfl d_JQ_newCapacity_8 ?_
  refine lv_ishl hx hb d_JQ_newCapacity_11 ?_
  refine lv_topi (fun x2 ex2 => ?_)
  have tx2 := sh0l ex2
  refine lv_istore_n (lv' := [(3, .int x2), (2, .int x1), (0, .ref h0), (1, .int p0)]) hx hb d_JQ_newCapacity_12 rfl hl (by decide) rfl (fun ls hl => ?_)
  refine lv_iload_n hx hb d_JQ_newCapacity_13 rfl (lv_at hl 0 rfl) ?_
  refine lv_iload_n hx hb d_JQ_newCapacity_14 rfl (lv_at hl 1 rfl) ?_
  refine lv_isub hx hb d_JQ_newCapacity_15 ?_
  refine lv_topi (fun x3 ex3 => ?_)
  have tx3 : x3.toInt = x2.toInt - x1.toInt := by have z := i32_sub ex3 (by omega) (by omega); omega
  refine lv_istore (lv' := [(4, .int x3), (3, .int x2), (2, .int x1), (0, .ref h0), (1, .int p0)]) hx hb d_JQ_newCapacity_16 hl (by decide) rfl (fun ls hl => ?_)
  refine lv_iload_n hx hb d_JQ_newCapacity_18 rfl (lv_at hl 2 rfl) ?_
  refine lv_iload hx hb d_JQ_newCapacity_19 (lv_at hl 0 rfl) ?_
  refine lv_iload_n hx hb d_JQ_newCapacity_21 rfl (lv_at hl 2 rfl) ?_
  refine lv_iconst (v := 2) hx hb d_JQ_newCapacity_22 (by decide) ?_
  refine lv_aload_n hx hb d_JQ_newCapacity_23 rfl (lv_at hl 3 rfl) ?_
  refine va_get (D := (dC, dI)) (ci := 17) (v := .int 0) (C := R_JB) (T := F_JB) (N := 4) hx hb hts i_JB hown hK hP 0 rfl rfl 1 (by decide) (hts _ kF_JQ_22) (fun _ h9 => h9) rfl d_JQ_newCapacity_24 ?_
  refine lv_ishl hx hb d_JQ_newCapacity_27 ?_
  refine lv_topi (fun x4 ex4 => ?_)
  have tx4 := sh0l ex4
  refine lv_iadd hx hb d_JQ_newCapacity_28 ?_
  refine lv_topi (fun x5 ex5 => ?_)
  have tx5 : x5.toInt = x1.toInt + x4.toInt := by have z := i32_add ex5 (by omega) (by omega); omega
  have hPc := @vp_nil
  have hDc := hD.sub (ws' := []) [] (by decide) rfl
  have hKc := hK.sub (tys' := []) [] rfl
  have hFc := va_free (wc := []) hD hS hA [] rfl
  refine va_calli (va_runS (As := [.int x1, .int x3, .int x5]) (rest := []) ⟨hx, hb, hml, hown, hts⟩ (c_JU_newLength l hlt dC dI H.size x1 x3 x5 (by (try dsimp only) <;> omega) (by (try dsimp only) <;> omega) (by (try dsimp only) <;> omega) (by (try dsimp only) <;> omega)) ⟨callB_of 3 hts (gW kC_JU_newLength) rfl rfl rfl (hts _ kI_JU) (hts _ kM_JQ_114) (by decide +kernel) ⟨Nat.le_of_ble_eq_true rfl, Nat.le_of_ble_eq_true rfl⟩, hts _ kT_JU_newLength⟩ ⟨fun a U g mk z => by obtain ⟨z0, z1, zP, zK, zD⟩ := z; exact ⟨z0, z1, zP, va_K.moved (u := U) (U := U.calling g mk a) (Vm.Alike.refl U.vm) zK, zD⟩, fun U hU hW => ⟨rfl, by rw [hU], by rw [hU]; exact hPc, va_K.moved hW.alike hKc, hDc.weaken (fun _ _ _ _ => trivial)⟩⟩ rfl rfl hl.1 rfl (lv_room (Nat.le_of_ble_eq_true rfl)) d_JQ_newCapacity_29 ⟨(Nat.zero_le _), (Nat.zero_le _)⟩) hS (fun q _ h => hFc q h) hFc (fun r6 u t H1 locs ht hvm hw hB hz1 hk1 hS => ?_)
  try dsimp only at hw
  have xr6 := hw
  try clear hw
  obtain ⟨hP1, hK1, hD1⟩ := hB
  rw [ht] at hP1
  replace hP1 := @vp_nil (dC, dI) cls2 H1
  obtain ⟨hP, hD⟩ := va_join (wr := [(h0, .inr (17, [.ref va, .int 0, .int h0_maybeLatin1, .int h0_count])), (va, .inl (cpb, nva, .inl gva))]) (w1 := []) hP hD [] [0, 1] rfl rfl (by decide) (by decide) hk1 hFc hP1 hD1
  clear hPc hDc hKc hFc hz1 hk1 hP1 hK1 hD1
  generalize H1 = H at hP hS ⊢
  have hP : va_P (dC, dI) cls2 [(h0, .inr (17, [.ref va, .int 0, .int h0_maybeLatin1, .int h0_count])), (va, .inl (cpb, nva, .inl gva))] H := hP
  have hD : va_D A [(h0, .inr (17, [.ref va, .int 0, .int h0_maybeLatin1, .int h0_count])), (va, .inl (cpb, nva, .inl gva))] := hD
  refine lv_istore (lv' := [(5, .int r6), (4, .int x3), (3, .int x2), (2, .int x1), (0, .ref h0), (1, .int p0)]) hx hb d_JQ_newCapacity_32 hl (by decide) rfl (fun ls hl => ?_)
  refine lv_iload hx hb d_JQ_newCapacity_34 (lv_at hl 0 rfl) ?_
  refine lv_ldc hx hb hown (hts _ kJ_JQ_39) d_JQ_newCapacity_36 ?_
  refine lv_topi (fun x7 ex7 => ?_)
  have tx7 : x7.toInt = 2147483647 := by rw [ex7]; decide
  refine lv_icmp_ne (tgt := 51) hx hb d_JQ_newCapacity_38 (by decide) (fun c38 => ?_) (fun c38 => absurd (eqI c38) (by omega))
  have q38 := neI c38
  refine lv_iload hx hb d_JQ_newCapacity_51 (lv_at hl 0 rfl) ?_
  refine lv_aload_n hx hb d_JQ_newCapacity_53 rfl (lv_at hl 4 rfl) ?_
  refine va_get (D := (dC, dI)) (ci := 17) (v := .int 0) (C := R_JB) (T := F_JB) (N := 4) hx hb hts i_JB hown hK hP 0 rfl rfl 1 (by decide) (hts _ kF_JQ_22) (fun _ h9 => h9) rfl d_JQ_newCapacity_54 ?_
  refine lv_ishr hx hb d_JQ_newCapacity_57 ?_
  refine lv_topi (fun x8 ex8 => ?_)
  have tx8 := sh0r ex8
  have hP9 := hP.sub (ws' := [(h0, .inr (17, [.ref va, .int 0, .int h0_maybeLatin1, .int h0_count])), (va, .inl (cpb, nva, .inl gva))]) [0, 1] rfl
  have hD9 := hD.sub (ws' := [(h0, .inr (17, [.ref va, .int 0, .int h0_maybeLatin1, .int h0_count])), (va, .inl (cpb, nva, .inl gva))]) [0, 1] (by decide) rfl
  exact W.iret (v := x8) hx hb hr (fun t ht hW => ⟨⟨x8, (), rfl, (by (try dsimp only) <;> omega), by rw [ht]; exact hP9, va_K.moved hW.alike hK, hD9⟩, hS.F ht⟩) hS.2.2 d_JQ_newCapacity_58

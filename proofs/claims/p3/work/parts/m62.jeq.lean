/-! texts: equals, hashCode, indexOf, as bytes -/
theorem lst_eq9 {b b2 : List Int32} {n : Int} (h1 : (b.length : Int) = n) (h2 : (b2.length : Int) = n) (h : ∀ j : Nat, (j : Int) < n → b.getD j 0 = b2.getD j 0) : b = b2 := by
  refine List.ext_getElem (by omega) (fun i hi hj => ?_)
  have q := h i (by omega)
  rw [List.getD_eq_getElem?_getD, List.getD_eq_getElem?_getD, List.getElem?_eq_getElem hi, List.getElem?_eq_getElem hj] at q
  exact q
/-- the text s stands at i in t -/
def sub9 (t s : List Int32) (i : Int) : Prop := 0 ≤ i ∧ i + (s.length : Int) ≤ (t.length : Int) ∧ ∀ j : Nat, j < s.length → t.getD (i.toNat + j) 0 = s.getD j 0
def hs9 : List Int32 → Nat → Int32
  | _, 0 => 0
  | b, k + 1 => 31 * hs9 b k + (b.getD k 0 &&& 255)
abbrev b_JT_equals : ByteArray := prog_35_method_13_code
def y_JT_equals : MethodName := ⟨R_JT, "equals", "([B[B)Z"⟩
abbrev w_JT_equals : List Cond := .code y_JT_equals b_JT_equals 3 (Option.some .boolean) :: lw_g
theorem kC_JT_equals : Cond.code y_JT_equals b_JT_equals 3 (Option.some .boolean) ∈ lw_g := in_g 2483 (by decide +kernel) rfl
theorem d_JT_equals_0 : decode b_JT_equals 0 = .ok (.aload_n 0, 1) := by decide +kernel
theorem d_JT_equals_1 : decode b_JT_equals 1 = .ok (.arraylength, 1) := by decide +kernel
theorem d_JT_equals_2 : decode b_JT_equals 2 = .ok (.aload_n 1, 1) := by decide +kernel
theorem d_JT_equals_3 : decode b_JT_equals 3 = .ok (.arraylength, 1) := by decide +kernel
theorem d_JT_equals_4 : decode b_JT_equals 4 = .ok (.if_icmp .ne 30, 3) := by decide +kernel
theorem d_JT_equals_7 : decode b_JT_equals 7 = .ok (.iconst 0, 1) := by decide +kernel
theorem d_JT_equals_8 : decode b_JT_equals 8 = .ok (.istore_n 2, 1) := by decide +kernel
theorem d_JT_equals_9 : decode b_JT_equals 9 = .ok (.iload_n 2, 1) := by decide +kernel
theorem d_JT_equals_10 : decode b_JT_equals 10 = .ok (.aload_n 0, 1) := by decide +kernel
theorem d_JT_equals_11 : decode b_JT_equals 11 = .ok (.arraylength, 1) := by decide +kernel
theorem d_JT_equals_12 : decode b_JT_equals 12 = .ok (.if_icmp .ge 20, 3) := by decide +kernel
theorem d_JT_equals_15 : decode b_JT_equals 15 = .ok (.aload_n 0, 1) := by decide +kernel
theorem d_JT_equals_16 : decode b_JT_equals 16 = .ok (.iload_n 2, 1) := by decide +kernel
theorem d_JT_equals_17 : decode b_JT_equals 17 = .ok (.baload, 1) := by decide +kernel
theorem d_JT_equals_18 : decode b_JT_equals 18 = .ok (.aload_n 1, 1) := by decide +kernel
theorem d_JT_equals_19 : decode b_JT_equals 19 = .ok (.iload_n 2, 1) := by decide +kernel
theorem d_JT_equals_20 : decode b_JT_equals 20 = .ok (.baload, 1) := by decide +kernel
theorem d_JT_equals_21 : decode b_JT_equals 21 = .ok (.if_icmp .eq 5, 3) := by decide +kernel
theorem d_JT_equals_24 : decode b_JT_equals 24 = .ok (.iconst 0, 1) := by decide +kernel
theorem d_JT_equals_25 : decode b_JT_equals 25 = .ok (.ireturn, 1) := by decide +kernel
theorem d_JT_equals_26 : decode b_JT_equals 26 = .ok (.iinc 2 1, 3) := by decide +kernel
theorem d_JT_equals_29 : decode b_JT_equals 29 = .ok (.goto (-20), 3) := by decide +kernel
theorem d_JT_equals_32 : decode b_JT_equals 32 = .ok (.iconst 1, 1) := by decide +kernel
theorem d_JT_equals_33 : decode b_JT_equals 33 = .ok (.ireturn, 1) := by decide +kernel
theorem d_JT_equals_34 : decode b_JT_equals 34 = .ok (.iconst 0, 1) := by decide +kernel
theorem d_JT_equals_35 : decode b_JT_equals 35 = .ok (.ireturn, 1) := by decide +kernel
abbrev at_JT_equals (dC : Nat → ClassId) (dI : Nat → Nat → Nat)  (A : Nat → Prop) (u : Unit) (t : State) : Prop := match u with | _ => va_P (dC, dI) cls [] t.heap ∧ va_K (dC, dI) cls [] t ∧ va_D A []
set_option maxHeartbeats 4000000 in
set_option maxRecDepth 100000 in
theorem c_JT_equals (l : Launch) (dC : Nat → ClassId) (dI : Nat → Nat → Nat) (sz : Nat) (v : Nat) (b : List Int32) (v2 : Nat) (b2 : List Int32)      (hbl : (b.length : Int) < 2147483648) (hbl2 : (b2.length : Int) < 2147483648) : Met l y_JT_equals w_JT_equals ({ frames := 0, cells := 0, slots := 0, locals := 0 }) (va_Pc [.ref v, .ref v2] (fun U => U.heap.size = sz ∧ va_P (dC, dI) cls [] U.heap ∧ va_K (dC, dI) cls [] U ∧ va_D (fun _ => True) [] ∧ va_T .byte v b.length (fun j => .int (b.getD j 0)) (va_A [] sz) U U.heap ∧ va_T .byte v2 b2.length (fun j => .int (b2.getD j 0)) (va_A [] sz) U U.heap)) (va_Qi (fun (r : Int32) (u : Unit) => match u with | _ => (r = 0 ∨ r = 1) ∧ ((r.toInt = 1 ∧ b = b2) ∨ (r.toInt = 0 ∧ b ≠ b2))) (at_JT_equals dC dI  (va_A [] sz)) (va_A [] sz)) 0 0 (va_A [] sz) := by
  refine Met.ofW (cc := b_JT_equals) (maxL := 3) (ret := (Option.some .boolean)) (by decide) rfl ?_
  intro p e s m args below meth c s₁ B hml hv
  obtain ⟨rfl, hsz, hP, hK, hD0, hV0, hV1⟩ := hv
  have hx := B.exec
  have hb := B.bytes
  have hr := B.returns
  have hts0 := atoms_spec (ws := w_JT_equals) B.pre
  have hts : ∀ w ∈ lw_g, w.before _ s = true := fun w h => hts0 w (List.mem_cons_of_mem _ h)
  have hown : s.vm.findClass R_JT = some m.cls := findClass_of_methodNamed B.named
  have hlocks := B.notSynchronized
  clear hts0
  subst hsz
  have hD := hD0.self (sz := s.heap.size)
  generalize hAe : va_A [] s.heap.size = A at hD hV0 hV1 ⊢
  have hA : ∀ q : Nat, s.heap.size ≤ q → A q := fun q h => by rw [← hAe]; exact Or.inr h
  clear hAe
  have hP : va_P (dC, dI) cls [] s.heap := hP
  have hl := lv_entry ([.ref v, .ref v2]) (n := 3) (Nat.le_of_ble_eq_true rfl)
  rw [lg_entry_eq]
  generalize (lg_sl ([.ref v, .ref v2]) ++ List.replicate (3 - (lg_sl ([.ref v, .ref v2])).length) Slot.unset).toArray = ls at hl ⊢
  have hl : lv_has ls 3 [(0, .ref v), (1, .ref v2)] := hl
  have k0 : (0 : Int32).toInt = 0 := by decide
  refine w_gen (A := A) hP (fun H locs hP hS => ?_)
  have k1 : (1 : Int32).toInt = 1 := by decide
  refine lv_aload_n hx hb d_JT_equals_0 rfl (lv_at hl 0 rfl) ?_
  refine va_tlen hx hb (hV0) hS rfl d_JT_equals_1 ?_
  refine lv_topi (fun x1 ex1 => ?_)
  have tx1 : x1.toInt = b.length := by rw [ex1]; exact i32_len (by omega)
  refine lv_aload_n hx hb d_JT_equals_2 rfl (lv_at hl 1 rfl) ?_
  refine va_tlen hx hb (hV1) hS rfl d_JT_equals_3 ?_
  refine lv_topi (fun x2 ex2 => ?_)
  have tx2 : x2.toInt = b2.length := by rw [ex2]; exact i32_len (by omega)
  refine lv_icmp_ne (tgt := 34) hx hb d_JT_equals_4 (by decide) (fun c4 => ?_) (fun c4 => ?_)
  · have q4 := neI c4
    refine lv_iconst (v := 0) hx hb d_JT_equals_34 (by decide) ?_
    have hP9 := hP.sub (ws' := []) [] rfl
    have hD9 := hD.sub (ws' := []) [] (by decide) rfl
    exact W.zret (v := 0) hx hb hr (zn01 (Or.inl rfl)) (fun t ht hW => ⟨⟨0, (), rfl, ⟨Or.inl rfl, Or.inr ⟨by decide, fun q => by have := congrArg List.length q; omega⟩⟩, by rw [ht]; exact hP9, va_K.moved hW.alike hK, hD9⟩, hS.F ht⟩) hS.2.2 d_JT_equals_35
  · have q4 := eqI c4
    refine lv_iconst (v := 0) hx hb d_JT_equals_7 (by decide) ?_
    refine lv_istore_n (lv' := [(2, .int 0), (0, .ref v), (1, .ref v2)]) hx hb d_JT_equals_8 rfl hl (by decide) rfl (fun ls hl => ?_)
    refine w_loop (σ := Int32) (fun u H locs ls => match u with | j9_l2 => (0 ≤ j9_l2.toInt ∧ j9_l2.toInt ≤ 2147483647) ∧ (j9_l2.toInt ≤ (b.length : Int)) ∧ (bx (∀ j : Nat, (j : Int) < j9_l2.toInt → b.getD j 0 = b2.getD j 0)) ∧ va_P (dC, dI) cls [] H ∧ va_D A [] ∧ va_S A s.heap H locs ∧ lv_has ls 3 [(0, .ref v), (1, .ref v2), (2, .int j9_l2)]) (fun u => match u with | j9_l2 => ((b.length : Int) - j9_l2.toInt).toNat) ?_ 0 ⟨by (try dsimp only) <;> omega, by (try dsimp only) <;> omega, (fun j hj => absurd hj (by rw [k0]; omega)), hP, hD, hS, lv_sub hl [1, 2, 0] rfl⟩
    intro N9 ih9 u H locs ls hN9 hI
    obtain ⟨j9_l2, rfl⟩ : ∃ z, z = u := ⟨_, rfl⟩
    obtain ⟨b_j9_l2, u1, u2, hP, hD, hS, hl⟩ := hI
    have hN9 : ((b.length : Int) - j9_l2.toInt).toNat < N9 + 1 := hN9
    refine lv_iload_n hx hb d_JT_equals_9 rfl (lv_at hl 2 rfl) ?_
    refine lv_aload_n hx hb d_JT_equals_10 rfl (lv_at hl 0 rfl) ?_
    refine va_tlen hx hb (hV0) hS rfl d_JT_equals_11 ?_
    refine lv_topi (fun x3 ex3 => ?_)
    have tx3 : x3.toInt = b.length := by rw [ex3]; exact i32_len (by omega)
    refine lv_icmp_ge (tgt := 32) hx hb d_JT_equals_12 (by decide) (fun c12 => ?_) (fun c12 => ?_)
    · have q12 := leI c12
      refine lv_iconst (v := 1) hx hb d_JT_equals_32 (by decide) ?_
      have hP9 := hP.sub (ws' := []) [] rfl
      have hD9 := hD.sub (ws' := []) [] (by decide) rfl
      exact W.zret (v := 1) hx hb hr (zn01 (Or.inr rfl)) (fun t ht hW => ⟨⟨1, (), rfl, ⟨Or.inr rfl, Or.inl ⟨by decide, lst_eq9 (n := b.length) rfl (by omega) (fun j hj => u2.out j (by omega))⟩⟩, by rw [ht]; exact hP9, va_K.moved hW.alike hK, hD9⟩, hS.F ht⟩) hS.2.2 d_JT_equals_33
    · have q12 := nleI c12
      refine lv_aload_n hx hb d_JT_equals_15 rfl (lv_at hl 0 rfl) ?_
      refine lv_iload_n hx hb d_JT_equals_16 rfl (lv_at hl 2 rfl) ?_
      have g17 : vp_in j9_l2 b.length := vp_in_iff.mpr ⟨by omega, by omega⟩
      refine va_tb hx hb (hV0) hS g17 rfl d_JT_equals_17 ?_
      refine lv_topi (fun x4 ex4 => ?_)
      refine lv_aload_n hx hb d_JT_equals_18 rfl (lv_at hl 1 rfl) ?_
      refine lv_iload_n hx hb d_JT_equals_19 rfl (lv_at hl 2 rfl) ?_
      have g20 : vp_in j9_l2 b2.length := vp_in_iff.mpr ⟨by omega, by omega⟩
      refine va_tb hx hb (hV1) hS g20 rfl d_JT_equals_20 ?_
      refine lv_topi (fun x5 ex5 => ?_)
      refine lv_icmp_eq (tgt := 26) hx hb d_JT_equals_21 (by decide) (fun c21 => ?_) (fun c21 => ?_)
      · have q21 := eqI c21
        obtain ⟨x6, ex6⟩ : ∃ z : Int32, z = j9_l2 + 1 := ⟨_, rfl⟩
        have tx6 : x6.toInt = j9_l2.toInt + 1 := by have z := i32_add ex6 (by omega) (by omega); omega
        refine lv_iinc (v := x6) (lv' := [(2, .int x6), (0, .ref v), (1, .ref v2)]) hx hb d_JT_equals_26 hl (k := 2) rfl (by rw [ex6]; rfl) (by decide) rfl (fun ls hl => ?_)
        refine lv_goto (tgt := 9) hx hb d_JT_equals_29 (by decide) ?_
        exact ih9 x6 _ _ _ (by show ((b.length : Int) - x6.toInt).toNat < N9; omega) ⟨by (try dsimp only) <;> omega, by (try dsimp only) <;> omega, (fun j hj => by have z9 := i32_clamp (x := j9_l2) (by omega); by_cases q : (j : Int) < j9_l2.toInt; (exact u2.out j q); (rw [show j = j9_l2.toNatClampNeg from by omega, ← ex4, ← ex5]; exact Int32.toInt_inj.mp (by omega))), hP, hD, hS, lv_sub hl [1, 2, 0] rfl⟩
      · have q21 := neI c21
        refine lv_iconst (v := 0) hx hb d_JT_equals_24 (by decide) ?_
        have hP9 := hP.sub (ws' := []) [] rfl
        have hD9 := hD.sub (ws' := []) [] (by decide) rfl
        exact W.zret (v := 0) hx hb hr (zn01 (Or.inl rfl)) (fun t ht hW => ⟨⟨0, (), rfl, ⟨Or.inl rfl, Or.inr ⟨by decide, fun q => (by have e9 : x4 = x5 := (by rw [ex4, ex5, q]); have := congrArg Int32.toInt e9; omega)⟩⟩, by rw [ht]; exact hP9, va_K.moved hW.alike hK, hD9⟩, hS.F ht⟩) hS.2.2 d_JT_equals_25
abbrev b_JT_indexOf1 : ByteArray := prog_35_method_25_code
def y_JT_indexOf1 : MethodName := ⟨R_JT, "indexOf", "([BI[BII)I"⟩
abbrev w_JT_indexOf1 : List Cond := .code y_JT_indexOf1 b_JT_indexOf1 11 (Option.some .int) :: lw_g
theorem kC_JT_indexOf1 : Cond.code y_JT_indexOf1 b_JT_indexOf1 11 (Option.some .int) ∈ lw_g := in_g 2395 (by decide +kernel) rfl
theorem d_JT_indexOf1_0 : decode b_JT_indexOf1 0 = .ok (.aload_n 2, 1) := by decide +kernel
theorem d_JT_indexOf1_1 : decode b_JT_indexOf1 1 = .ok (.iconst 0, 1) := by decide +kernel
theorem d_JT_indexOf1_2 : decode b_JT_indexOf1 2 = .ok (.baload, 1) := by decide +kernel
theorem d_JT_indexOf1_3 : decode b_JT_indexOf1 3 = .ok (.istore 5, 2) := by decide +kernel
theorem d_JT_indexOf1_5 : decode b_JT_indexOf1 5 = .ok (.iload_n 1, 1) := by decide +kernel
theorem d_JT_indexOf1_6 : decode b_JT_indexOf1 6 = .ok (.iload_n 3, 1) := by decide +kernel
theorem d_JT_indexOf1_7 : decode b_JT_indexOf1 7 = .ok (.isub, 1) := by decide +kernel
theorem d_JT_indexOf1_8 : decode b_JT_indexOf1 8 = .ok (.istore 6, 2) := by decide +kernel
theorem d_JT_indexOf1_10 : decode b_JT_indexOf1 10 = .ok (.iload 4, 2) := by decide +kernel
theorem d_JT_indexOf1_12 : decode b_JT_indexOf1 12 = .ok (.istore 7, 2) := by decide +kernel
theorem d_JT_indexOf1_14 : decode b_JT_indexOf1 14 = .ok (.iload 7, 2) := by decide +kernel
theorem d_JT_indexOf1_16 : decode b_JT_indexOf1 16 = .ok (.iload 6, 2) := by decide +kernel
theorem d_JT_indexOf1_18 : decode b_JT_indexOf1 18 = .ok (.if_icmp .gt 101, 3) := by decide +kernel
theorem d_JT_indexOf1_21 : decode b_JT_indexOf1 21 = .ok (.aload_n 0, 1) := by decide +kernel
theorem d_JT_indexOf1_22 : decode b_JT_indexOf1 22 = .ok (.iload 7, 2) := by decide +kernel
theorem d_JT_indexOf1_24 : decode b_JT_indexOf1 24 = .ok (.baload, 1) := by decide +kernel
theorem d_JT_indexOf1_25 : decode b_JT_indexOf1 25 = .ok (.iload 5, 2) := by decide +kernel
theorem d_JT_indexOf1_27 : decode b_JT_indexOf1 27 = .ok (.if_icmp .eq 25, 3) := by decide +kernel
theorem d_JT_indexOf1_30 : decode b_JT_indexOf1 30 = .ok (.iinc 7 1, 3) := by decide +kernel
theorem d_JT_indexOf1_33 : decode b_JT_indexOf1 33 = .ok (.iload 7, 2) := by decide +kernel
theorem d_JT_indexOf1_35 : decode b_JT_indexOf1 35 = .ok (.iload 6, 2) := by decide +kernel
theorem d_JT_indexOf1_37 : decode b_JT_indexOf1 37 = .ok (.if_icmp .gt 15, 3) := by decide +kernel
theorem d_JT_indexOf1_40 : decode b_JT_indexOf1 40 = .ok (.aload_n 0, 1) := by decide +kernel
theorem d_JT_indexOf1_41 : decode b_JT_indexOf1 41 = .ok (.iload 7, 2) := by decide +kernel
theorem d_JT_indexOf1_43 : decode b_JT_indexOf1 43 = .ok (.baload, 1) := by decide +kernel
theorem d_JT_indexOf1_44 : decode b_JT_indexOf1 44 = .ok (.iload 5, 2) := by decide +kernel
theorem d_JT_indexOf1_46 : decode b_JT_indexOf1 46 = .ok (.if_icmp .eq 6, 3) := by decide +kernel
theorem d_JT_indexOf1_49 : decode b_JT_indexOf1 49 = .ok (.goto (-19), 3) := by decide +kernel
theorem d_JT_indexOf1_52 : decode b_JT_indexOf1 52 = .ok (.iload 7, 2) := by decide +kernel
theorem d_JT_indexOf1_54 : decode b_JT_indexOf1 54 = .ok (.iload 6, 2) := by decide +kernel
theorem d_JT_indexOf1_56 : decode b_JT_indexOf1 56 = .ok (.if_icmp .gt 57, 3) := by decide +kernel
theorem d_JT_indexOf1_59 : decode b_JT_indexOf1 59 = .ok (.iload 7, 2) := by decide +kernel
theorem d_JT_indexOf1_61 : decode b_JT_indexOf1 61 = .ok (.iconst 1, 1) := by decide +kernel
theorem d_JT_indexOf1_62 : decode b_JT_indexOf1 62 = .ok (.iadd, 1) := by decide +kernel
theorem d_JT_indexOf1_63 : decode b_JT_indexOf1 63 = .ok (.istore 8, 2) := by decide +kernel
theorem d_JT_indexOf1_65 : decode b_JT_indexOf1 65 = .ok (.iload 8, 2) := by decide +kernel
theorem d_JT_indexOf1_67 : decode b_JT_indexOf1 67 = .ok (.iload_n 3, 1) := by decide +kernel
theorem d_JT_indexOf1_68 : decode b_JT_indexOf1 68 = .ok (.iadd, 1) := by decide +kernel
theorem d_JT_indexOf1_69 : decode b_JT_indexOf1 69 = .ok (.iconst 1, 1) := by decide +kernel
theorem d_JT_indexOf1_70 : decode b_JT_indexOf1 70 = .ok (.isub, 1) := by decide +kernel
theorem d_JT_indexOf1_71 : decode b_JT_indexOf1 71 = .ok (.istore 9, 2) := by decide +kernel
theorem d_JT_indexOf1_73 : decode b_JT_indexOf1 73 = .ok (.iconst 1, 1) := by decide +kernel
theorem d_JT_indexOf1_74 : decode b_JT_indexOf1 74 = .ok (.istore 10, 2) := by decide +kernel
theorem d_JT_indexOf1_76 : decode b_JT_indexOf1 76 = .ok (.iload 8, 2) := by decide +kernel
theorem d_JT_indexOf1_78 : decode b_JT_indexOf1 78 = .ok (.iload 9, 2) := by decide +kernel
theorem d_JT_indexOf1_80 : decode b_JT_indexOf1 80 = .ok (.if_icmp .ge 23, 3) := by decide +kernel
theorem d_JT_indexOf1_83 : decode b_JT_indexOf1 83 = .ok (.aload_n 0, 1) := by decide +kernel
theorem d_JT_indexOf1_84 : decode b_JT_indexOf1 84 = .ok (.iload 8, 2) := by decide +kernel
theorem d_JT_indexOf1_86 : decode b_JT_indexOf1 86 = .ok (.baload, 1) := by decide +kernel
theorem d_JT_indexOf1_87 : decode b_JT_indexOf1 87 = .ok (.aload_n 2, 1) := by decide +kernel
theorem d_JT_indexOf1_88 : decode b_JT_indexOf1 88 = .ok (.iload 10, 2) := by decide +kernel
theorem d_JT_indexOf1_90 : decode b_JT_indexOf1 90 = .ok (.baload, 1) := by decide +kernel
theorem d_JT_indexOf1_91 : decode b_JT_indexOf1 91 = .ok (.if_icmp .ne 12, 3) := by decide +kernel
theorem d_JT_indexOf1_94 : decode b_JT_indexOf1 94 = .ok (.iinc 8 1, 3) := by decide +kernel
theorem d_JT_indexOf1_97 : decode b_JT_indexOf1 97 = .ok (.iinc 10 1, 3) := by decide +kernel
theorem d_JT_indexOf1_100 : decode b_JT_indexOf1 100 = .ok (.goto (-24), 3) := by decide +kernel
theorem d_JT_indexOf1_103 : decode b_JT_indexOf1 103 = .ok (.iload 8, 2) := by decide +kernel
theorem d_JT_indexOf1_105 : decode b_JT_indexOf1 105 = .ok (.iload 9, 2) := by decide +kernel
theorem d_JT_indexOf1_107 : decode b_JT_indexOf1 107 = .ok (.if_icmp .ne 6, 3) := by decide +kernel
theorem d_JT_indexOf1_110 : decode b_JT_indexOf1 110 = .ok (.iload 7, 2) := by decide +kernel
theorem d_JT_indexOf1_112 : decode b_JT_indexOf1 112 = .ok (.ireturn, 1) := by decide +kernel
theorem d_JT_indexOf1_113 : decode b_JT_indexOf1 113 = .ok (.iinc 7 1, 3) := by decide +kernel
theorem d_JT_indexOf1_116 : decode b_JT_indexOf1 116 = .ok (.goto (-102), 3) := by decide +kernel
theorem d_JT_indexOf1_119 : decode b_JT_indexOf1 119 = .ok (.iconst (-1), 1) := by decide +kernel
theorem d_JT_indexOf1_120 : decode b_JT_indexOf1 120 = .ok (.ireturn, 1) := by decide +kernel
abbrev at_JT_indexOf1 (dC : Nat → ClassId) (dI : Nat → Nat → Nat)  (A : Nat → Prop) (u : Unit) (t : State) : Prop := match u with | _ => va_P (dC, dI) cls [] t.heap ∧ va_K (dC, dI) cls [] t ∧ va_D A []
set_option maxHeartbeats 4000000 in
set_option maxRecDepth 100000 in
theorem c_JT_indexOf1 (l : Launch) (dC : Nat → ClassId) (dI : Nat → Nat → Nat) (sz : Nat) (v : Nat) (b : List Int32) (v2 : Nat) (b2 : List Int32)    (p1 : Int32) (p3 : Int32) (p4 : Int32)  (hbl : (b.length : Int) < 2147483648) (hbl2 : (b2.length : Int) < 2147483648) (hp : p1.toInt = (b.length : Int) ∧ p3.toInt = (b2.length : Int) ∧ 1 ≤ p3.toInt ∧ p4.toInt = 0 ∧ (b.length : Int) < 1000000 ∧ (b2.length : Int) < 1000000) : Met l y_JT_indexOf1 w_JT_indexOf1 ({ frames := 0, cells := 0, slots := 0, locals := 0 }) (va_Pc [.ref v, .int p1, .ref v2, .int p3, .int p4] (fun U => U.heap.size = sz ∧ va_P (dC, dI) cls [] U.heap ∧ va_K (dC, dI) cls [] U ∧ va_D (fun _ => True) [] ∧ va_T .byte v b.length (fun j => .int (b.getD j 0)) (va_A [] sz) U U.heap ∧ va_T .byte v2 b2.length (fun j => .int (b2.getD j 0)) (va_A [] sz) U U.heap)) (va_Qi (fun (r : Int32) (u : Unit) => match u with | _ => (r.toInt = -1 ∨ sub9 b b2 r.toInt)) (at_JT_indexOf1 dC dI  (va_A [] sz)) (va_A [] sz)) 0 0 (va_A [] sz) := by
  refine Met.ofW (cc := b_JT_indexOf1) (maxL := 11) (ret := (Option.some .int)) (by decide) rfl ?_
  intro p e s m args below meth c s₁ B hml hv
  obtain ⟨rfl, hsz, hP, hK, hD0, hV0, hV1⟩ := hv
  have hx := B.exec
  have hb := B.bytes
  have hr := B.returns
  have hts0 := atoms_spec (ws := w_JT_indexOf1) B.pre
  have hts : ∀ w ∈ lw_g, w.before _ s = true := fun w h => hts0 w (List.mem_cons_of_mem _ h)
  have hown : s.vm.findClass R_JT = some m.cls := findClass_of_methodNamed B.named
  have hlocks := B.notSynchronized
  clear hts0
  subst hsz
  have hD := hD0.self (sz := s.heap.size)
  generalize hAe : va_A [] s.heap.size = A at hD hV0 hV1 ⊢
  have hA : ∀ q : Nat, s.heap.size ≤ q → A q := fun q h => by rw [← hAe]; exact Or.inr h
  clear hAe
  have hP : va_P (dC, dI) cls [] s.heap := hP
  have hl := lv_entry ([.ref v, .int p1, .ref v2, .int p3, .int p4]) (n := 11) (Nat.le_of_ble_eq_true rfl)
  rw [lg_entry_eq]
  generalize (lg_sl ([.ref v, .int p1, .ref v2, .int p3, .int p4]) ++ List.replicate (11 - (lg_sl ([.ref v, .int p1, .ref v2, .int p3, .int p4])).length) Slot.unset).toArray = ls at hl ⊢
  have hl : lv_has ls 11 [(0, .ref v), (1, .int p1), (2, .ref v2), (3, .int p3), (4, .int p4)] := hl
  have k0 : (0 : Int32).toInt = 0 := by decide
  refine w_gen (A := A) hP (fun H locs hP hS => ?_)
  have km1 : (-1 : Int32).toInt = -1 := by decide
  have k1 : (1 : Int32).toInt = 1 := by decide
  have lo_p1 := i32_lo p1
  have hi_p1 := i32_hi p1
  have lo_p3 := i32_lo p3
  have hi_p3 := i32_hi p3
  have lo_p4 := i32_lo p4
  have hi_p4 := i32_hi p4
  refine lv_aload_n hx hb d_JT_indexOf1_0 rfl (lv_at hl 2 rfl) ?_
  refine lv_iconst (v := 0) hx hb d_JT_indexOf1_1 (by decide) ?_
  have g2 : vp_in 0 b2.length := vp_in_iff.mpr ⟨by omega, by omega⟩
  refine va_tb hx hb (hV1) hS g2 rfl d_JT_indexOf1_2 ?_
  refine lv_topi (fun x1 ex1 => ?_)
  refine lv_istore (lv' := [(5, .int x1), (0, .ref v), (1, .int p1), (2, .ref v2), (3, .int p3), (4, .int p4)]) hx hb d_JT_indexOf1_3 hl (by decide) rfl (fun ls hl => ?_)
  refine lv_iload_n hx hb d_JT_indexOf1_5 rfl (lv_at hl 2 rfl) ?_
  refine lv_iload_n hx hb d_JT_indexOf1_6 rfl (lv_at hl 4 rfl) ?_
  refine lv_isub hx hb d_JT_indexOf1_7 ?_
  refine lv_topi (fun x2 ex2 => ?_)
  have tx2 : x2.toInt = p1.toInt - p3.toInt := by have z := i32_sub ex2 (by omega) (by omega); omega
  refine lv_istore (lv' := [(6, .int x2), (5, .int x1), (0, .ref v), (1, .int p1), (2, .ref v2), (3, .int p3), (4, .int p4)]) hx hb d_JT_indexOf1_8 hl (by decide) rfl (fun ls hl => ?_)
  refine lv_iload hx hb d_JT_indexOf1_10 (lv_at hl 6 rfl) ?_
  refine lv_istore (lv' := [(7, .int p4), (6, .int x2), (5, .int x1), (0, .ref v), (1, .int p1), (2, .ref v2), (3, .int p3), (4, .int p4)]) hx hb d_JT_indexOf1_12 hl (by decide) rfl (fun ls hl => ?_)
  refine w_loop (σ := Int32) (fun u H locs ls => match u with | j14_l7 => (0 ≤ j14_l7.toInt ∧ j14_l7.toInt ≤ (b.length : Int) + 1) ∧ va_P (dC, dI) cls [] H ∧ va_D A [] ∧ va_S A s.heap H locs ∧ lv_has ls 11 [(0, .ref v), (2, .ref v2), (3, .int p3), (5, .int x1), (6, .int x2), (7, .int j14_l7)]) (fun u => match u with | j14_l7 => ((b.length : Int) + 2 - j14_l7.toInt).toNat) ?_ p4 ⟨by (try dsimp only) <;> omega, hP, hD, hS, lv_sub hl [3, 5, 6, 2, 1, 0] rfl⟩
  intro N14 ih14 u H locs ls hN14 hI
  obtain ⟨j14_l7, rfl⟩ : ∃ z, z = u := ⟨_, rfl⟩
  obtain ⟨u1, hP, hD, hS, hl⟩ := hI
  have hN14 : ((b.length : Int) + 2 - j14_l7.toInt).toNat < N14 + 1 := hN14
  refine lv_iload hx hb d_JT_indexOf1_14 (lv_at hl 5 rfl) ?_
  refine lv_iload hx hb d_JT_indexOf1_16 (lv_at hl 4 rfl) ?_
  refine lv_icmp_gt (tgt := 119) hx hb d_JT_indexOf1_18 (by decide) (fun c18 => ?_) (fun c18 => ?_)
  · have q18 := ltI c18
    refine lv_iconst (v := (-1)) hx hb d_JT_indexOf1_119 (by decide) ?_
    have hP9 := hP.sub (ws' := []) [] rfl
    have hD9 := hD.sub (ws' := []) [] (by decide) rfl
    exact W.iret (v := ((-1))) hx hb hr (fun t ht hW => ⟨⟨(-1), (), rfl, (Or.inl (by decide)), by rw [ht]; exact hP9, va_K.moved hW.alike hK, hD9⟩, hS.F ht⟩) hS.2.2 d_JT_indexOf1_120
  · have q18 := nltI c18
    refine lv_aload_n hx hb d_JT_indexOf1_21 rfl (lv_at hl 0 rfl) ?_
    refine lv_iload hx hb d_JT_indexOf1_22 (lv_at hl 5 rfl) ?_
    have g24 : vp_in j14_l7 b.length := vp_in_iff.mpr ⟨by omega, by omega⟩
    refine va_tb hx hb (hV0) hS g24 rfl d_JT_indexOf1_24 ?_
    refine lv_topi (fun x3 ex3 => ?_)
    refine lv_iload hx hb d_JT_indexOf1_25 (lv_at hl 3 rfl) ?_
    refine w_cut (pc2 := 52) (σ := Int32) (fun u H locs ls => match u with | j52_l7 => ((0 ≤ j52_l7.toInt ∧ j52_l7.toInt ≤ x2.toInt + 1) ∧ j14_l7.toInt ≤ j52_l7.toInt) ∧ (bx (j52_l7.toInt ≤ x2.toInt → b.getD j52_l7.toNatClampNeg 0 = b2.getD 0 0)) ∧ va_P (dC, dI) cls [] H ∧ va_D A [] ∧ va_S A s.heap H locs ∧ lv_has ls 11 [(0, .ref v), (2, .ref v2), (3, .int p3), (5, .int x1), (6, .int x2), (7, .int j52_l7)]) (fun u => match u with | j52_l7 => []) ?_ (fun jn52 => ?_)
    · intro u H locs ls hI
      obtain ⟨j52_l7, rfl⟩ : ∃ z, z = u := ⟨_, rfl⟩
      obtain ⟨y52, y53, hP, hD, hS, hl⟩ := hI
      refine lv_iload hx hb d_JT_indexOf1_52 (lv_at hl 5 rfl) ?_
      refine lv_iload hx hb d_JT_indexOf1_54 (lv_at hl 4 rfl) ?_
      refine w_cut (pc2 := 113) (σ := Unit) (fun u H locs ls => match u with | _ => va_P (dC, dI) cls [] H ∧ va_D A [] ∧ va_S A s.heap H locs ∧ lv_has ls 11 [(0, .ref v), (2, .ref v2), (3, .int p3), (5, .int x1), (6, .int x2), (7, .int j52_l7)]) (fun u => match u with | _ => []) ?_ (fun jn113 => ?_)
      · intro u H locs ls hI
        obtain ⟨hP, hD, hS, hl⟩ := hI
        obtain ⟨x4, ex4⟩ : ∃ z : Int32, z = j52_l7 + 1 := ⟨_, rfl⟩
        have tx4 : x4.toInt = j52_l7.toInt + 1 := by have z := i32_add ex4 (by omega) (by omega); omega
        refine lv_iinc (v := x4) (lv' := [(7, .int x4), (0, .ref v), (2, .ref v2), (3, .int p3), (5, .int x1), (6, .int x2)]) hx hb d_JT_indexOf1_113 hl (k := 5) rfl (by rw [ex4]; rfl) (by decide) rfl (fun ls hl => ?_)
        refine lv_goto (tgt := 14) hx hb d_JT_indexOf1_116 (by decide) ?_
        exact ih14 x4 _ _ _ (by show ((b.length : Int) + 2 - x4.toInt).toNat < N14; omega) ⟨by (try dsimp only) <;> omega, hP, hD, hS, lv_sub hl [1, 2, 3, 4, 5, 0] rfl⟩
      · skip
        refine lv_icmp_gt (tgt := 113) hx hb d_JT_indexOf1_56 (by decide) (fun c56 => ?_) (fun c56 => ?_)
        · have q56 := ltI c56
          exact jn113 () _ _ _ ⟨hP, hD, hS, lv_sub hl [0, 1, 2, 3, 4, 5] rfl⟩
        · have q56 := nltI c56
          refine lv_iload hx hb d_JT_indexOf1_59 (lv_at hl 5 rfl) ?_
          refine lv_iconst (v := 1) hx hb d_JT_indexOf1_61 (by decide) ?_
          refine lv_iadd hx hb d_JT_indexOf1_62 ?_
          refine lv_topi (fun x5 ex5 => ?_)
          have tx5 : x5.toInt = j52_l7.toInt + 1 := by have z := i32_add ex5 (by omega) (by omega); omega
          refine lv_istore (lv' := [(8, .int x5), (0, .ref v), (2, .ref v2), (3, .int p3), (5, .int x1), (6, .int x2), (7, .int j52_l7)]) hx hb d_JT_indexOf1_63 hl (by decide) rfl (fun ls hl => ?_)
          refine lv_iload hx hb d_JT_indexOf1_65 (lv_at hl 0 rfl) ?_
          refine lv_iload_n hx hb d_JT_indexOf1_67 rfl (lv_at hl 3 rfl) ?_
          refine lv_iadd hx hb d_JT_indexOf1_68 ?_
          refine lv_topi (fun x6 ex6 => ?_)
          have tx6 : x6.toInt = x5.toInt + p3.toInt := by have z := i32_add ex6 (by omega) (by omega); omega
          refine lv_iconst (v := 1) hx hb d_JT_indexOf1_69 (by decide) ?_
          refine lv_isub hx hb d_JT_indexOf1_70 ?_
          refine lv_topi (fun x7 ex7 => ?_)
          have tx7 : x7.toInt = x6.toInt - 1 := by have z := i32_sub ex7 (by omega) (by omega); omega
          refine lv_istore (lv' := [(9, .int x7), (8, .int x5), (0, .ref v), (2, .ref v2), (3, .int p3), (5, .int x1), (6, .int x2), (7, .int j52_l7)]) hx hb d_JT_indexOf1_71 hl (by decide) rfl (fun ls hl => ?_)
          refine lv_iconst (v := 1) hx hb d_JT_indexOf1_73 (by decide) ?_
          refine lv_istore (lv' := [(10, .int 1), (9, .int x7), (8, .int x5), (0, .ref v), (2, .ref v2), (3, .int p3), (5, .int x1), (6, .int x2), (7, .int j52_l7)]) hx hb d_JT_indexOf1_74 hl (by decide) rfl (fun ls hl => ?_)
          refine w_loop (σ := Int32 × Int32) (fun u H locs ls => match u with | (j76_l8, j76_l10) => (1 ≤ j76_l10.toInt ∧ j76_l8.toInt = j52_l7.toInt + j76_l10.toInt ∧ j76_l10.toInt ≤ p3.toInt) ∧ (bx (∀ j : Nat, 1 ≤ j → (j : Int) < j76_l10.toInt → b.getD (j52_l7.toNatClampNeg + j) 0 = b2.getD j 0)) ∧ va_P (dC, dI) cls [] H ∧ va_D A [] ∧ va_S A s.heap H locs ∧ lv_has ls 11 [(0, .ref v), (2, .ref v2), (3, .int p3), (5, .int x1), (6, .int x2), (7, .int j52_l7), (8, .int j76_l8), (9, .int x7), (10, .int j76_l10)]) (fun u => match u with | (j76_l8, j76_l10) => ((b.length : Int) + 2 - j76_l8.toInt).toNat) ?_ (x5, 1) ⟨by (try dsimp only) <;> omega, (fun j h1 h2 => absurd h2 (by rw [show (1 : Int32).toInt = 1 from by decide]; omega)), hP, hD, hS, lv_sub hl [3, 4, 5, 6, 7, 8, 2, 1, 0] rfl⟩
          intro N76 ih76 u H locs ls hN76 hI
          obtain ⟨j76_l8, j76_l10⟩ := u
          obtain ⟨w1, w2, hP, hD, hS, hl⟩ := hI
          have hN76 : ((b.length : Int) + 2 - j76_l8.toInt).toNat < N76 + 1 := hN76
          refine lv_iload hx hb d_JT_indexOf1_76 (lv_at hl 6 rfl) ?_
          refine lv_iload hx hb d_JT_indexOf1_78 (lv_at hl 7 rfl) ?_
          refine w_cut (pc2 := 103) (σ := Unit) (fun u H locs ls => match u with | _ => va_P (dC, dI) cls [] H ∧ va_D A [] ∧ va_S A s.heap H locs ∧ lv_has ls 11 [(0, .ref v), (2, .ref v2), (3, .int p3), (5, .int x1), (6, .int x2), (7, .int j52_l7), (8, .int j76_l8), (9, .int x7)]) (fun u => match u with | _ => []) ?_ (fun jn103 => ?_)
          · intro u H locs ls hI
            obtain ⟨hP, hD, hS, hl⟩ := hI
            refine lv_iload hx hb d_JT_indexOf1_103 (lv_at hl 6 rfl) ?_
            refine lv_iload hx hb d_JT_indexOf1_105 (lv_at hl 7 rfl) ?_
            refine lv_icmp_ne (tgt := 113) hx hb d_JT_indexOf1_107 (by decide) (fun c107 => ?_) (fun c107 => ?_)
            · have q107 := neI c107
              exact jn113 () _ _ _ ⟨hP, hD, hS, lv_sub hl [0, 1, 2, 3, 4, 5] rfl⟩
            · have q107 := eqI c107
              refine lv_iload hx hb d_JT_indexOf1_110 (lv_at hl 5 rfl) ?_
              have hP9 := hP.sub (ws' := []) [] rfl
              have hD9 := hD.sub (ws' := []) [] (by decide) rfl
              exact W.iret (v := j52_l7) hx hb hr (fun t ht hW => ⟨⟨j52_l7, (), rfl, (Or.inr ⟨by omega, by omega, fun j hj => by have z7 := i32_clamp (x := j52_l7) (by omega); rw [show j52_l7.toInt.toNat = j52_l7.toNatClampNeg from by omega]; by_cases q : j = 0; (rw [q, Nat.add_zero]; exact y53.out (by omega)); (exact w2.out j (by omega) (by omega))⟩), by rw [ht]; exact hP9, va_K.moved hW.alike hK, hD9⟩, hS.F ht⟩) hS.2.2 d_JT_indexOf1_112
          · skip
            refine lv_icmp_ge (tgt := 103) hx hb d_JT_indexOf1_80 (by decide) (fun c80 => ?_) (fun c80 => ?_)
            · have q80 := leI c80
              exact jn103 () _ _ _ ⟨hP, hD, hS, lv_sub hl [0, 1, 2, 3, 4, 5, 6, 7] rfl⟩
            · have q80 := nleI c80
              refine lv_aload_n hx hb d_JT_indexOf1_83 rfl (lv_at hl 0 rfl) ?_
              refine lv_iload hx hb d_JT_indexOf1_84 (lv_at hl 6 rfl) ?_
              have g86 : vp_in j76_l8 b.length := vp_in_iff.mpr ⟨by omega, by omega⟩
              refine va_tb hx hb (hV0) hS g86 rfl d_JT_indexOf1_86 ?_
              refine lv_topi (fun x8 ex8 => ?_)
              refine lv_aload_n hx hb d_JT_indexOf1_87 rfl (lv_at hl 1 rfl) ?_
              refine lv_iload hx hb d_JT_indexOf1_88 (lv_at hl 8 rfl) ?_
              have g90 : vp_in j76_l10 b2.length := vp_in_iff.mpr ⟨by omega, by omega⟩
              refine va_tb hx hb (hV1) hS g90 rfl d_JT_indexOf1_90 ?_
              refine lv_topi (fun x9 ex9 => ?_)
              refine lv_icmp_ne (tgt := 103) hx hb d_JT_indexOf1_91 (by decide) (fun c91 => ?_) (fun c91 => ?_)
              · have q91 := neI c91
                exact jn103 () _ _ _ ⟨hP, hD, hS, lv_sub hl [0, 1, 2, 3, 4, 5, 6, 7] rfl⟩
              · have q91 := eqI c91
                obtain ⟨x10, ex10⟩ : ∃ z : Int32, z = j76_l8 + 1 := ⟨_, rfl⟩
                have tx10 : x10.toInt = j76_l8.toInt + 1 := by have z := i32_add ex10 (by omega) (by omega); omega
                refine lv_iinc (v := x10) (lv' := [(8, .int x10), (0, .ref v), (2, .ref v2), (3, .int p3), (5, .int x1), (6, .int x2), (7, .int j52_l7), (9, .int x7), (10, .int j76_l10)]) hx hb d_JT_indexOf1_94 hl (k := 6) rfl (by rw [ex10]; rfl) (by decide) rfl (fun ls hl => ?_)
                obtain ⟨x11, ex11⟩ : ∃ z : Int32, z = j76_l10 + 1 := ⟨_, rfl⟩
                have tx11 : x11.toInt = j76_l10.toInt + 1 := by have z := i32_add ex11 (by omega) (by omega); omega
                refine lv_iinc (v := x11) (lv' := [(10, .int x11), (8, .int x10), (0, .ref v), (2, .ref v2), (3, .int p3), (5, .int x1), (6, .int x2), (7, .int j52_l7), (9, .int x7)]) hx hb d_JT_indexOf1_97 hl (k := 8) rfl (by rw [ex11]; rfl) (by decide) rfl (fun ls hl => ?_)
                refine lv_goto (tgt := 76) hx hb d_JT_indexOf1_100 (by decide) ?_
                exact ih76 (x10, x11) _ _ _ (by show ((b.length : Int) + 2 - x10.toInt).toNat < N76; omega) ⟨by (try dsimp only) <;> omega, (fun j h1 h2 => by have z9 := i32_clamp (x := j76_l10) (by omega); have z8 := i32_clamp (x := j76_l8) (by omega); have z7 := i32_clamp (x := j52_l7) (by omega); by_cases q : (j : Int) < j76_l10.toInt; (exact w2.out j h1 q); (rw [show j52_l7.toNatClampNeg + j = j76_l8.toNatClampNeg from by omega, show j = j76_l10.toNatClampNeg from by omega, ← ex8, ← ex9]; exact Int32.toInt_inj.mp (by omega))), hP, hD, hS, lv_sub hl [2, 3, 4, 5, 6, 7, 1, 8, 0] rfl⟩
    · skip
      refine lv_icmp_eq (tgt := 52) hx hb d_JT_indexOf1_27 (by decide) (fun c27 => ?_) (fun c27 => ?_)
      · have q27 := eqI c27
        exact jn52 j14_l7 _ _ _ ⟨by (try dsimp only) <;> omega, (fun _ => by rw [← ex3, show b2.getD 0 0 = x1 from by rw [ex1]; rfl]; exact Int32.toInt_inj.mp (by omega)), hP, hD, hS, lv_sub hl [0, 1, 2, 3, 4, 5] rfl⟩
      · have q27 := neI c27
        refine w_loop (σ := Int32) (fun u H locs ls => match u with | j30_l7 => (0 ≤ j30_l7.toInt ∧ j30_l7.toInt ≤ x2.toInt ∧ j14_l7.toInt ≤ j30_l7.toInt) ∧ va_P (dC, dI) cls [] H ∧ va_D A [] ∧ va_S A s.heap H locs ∧ lv_has ls 11 [(0, .ref v), (2, .ref v2), (3, .int p3), (5, .int x1), (6, .int x2), (7, .int j30_l7)]) (fun u => match u with | j30_l7 => ((b.length : Int) + 2 - j30_l7.toInt).toNat) ?_ j14_l7 ⟨by (try dsimp only) <;> omega, hP, hD, hS, lv_sub hl [0, 1, 2, 3, 4, 5] rfl⟩
        intro N30 ih30 u H locs ls hN30 hI
        obtain ⟨j30_l7, rfl⟩ : ∃ z, z = u := ⟨_, rfl⟩
        obtain ⟨u3, hP, hD, hS, hl⟩ := hI
        have hN30 : ((b.length : Int) + 2 - j30_l7.toInt).toNat < N30 + 1 := hN30
        obtain ⟨x12, ex12⟩ : ∃ z : Int32, z = j30_l7 + 1 := ⟨_, rfl⟩
        have tx12 : x12.toInt = j30_l7.toInt + 1 := by have z := i32_add ex12 (by omega) (by omega); omega
        refine lv_iinc (v := x12) (lv' := [(7, .int x12), (0, .ref v), (2, .ref v2), (3, .int p3), (5, .int x1), (6, .int x2)]) hx hb d_JT_indexOf1_30 hl (k := 5) rfl (by rw [ex12]; rfl) (by decide) rfl (fun ls hl => ?_)
        refine lv_iload hx hb d_JT_indexOf1_33 (lv_at hl 0 rfl) ?_
        refine lv_iload hx hb d_JT_indexOf1_35 (lv_at hl 5 rfl) ?_
        refine lv_icmp_gt (tgt := 52) hx hb d_JT_indexOf1_37 (by decide) (fun c37 => ?_) (fun c37 => ?_)
        · have q37 := ltI c37
          exact jn52 x12 _ _ _ ⟨by (try dsimp only) <;> omega, (fun z => absurd z (by omega)), hP, hD, hS, lv_sub hl [1, 2, 3, 4, 5, 0] rfl⟩
        · have q37 := nltI c37
          refine lv_aload_n hx hb d_JT_indexOf1_40 rfl (lv_at hl 1 rfl) ?_
          refine lv_iload hx hb d_JT_indexOf1_41 (lv_at hl 0 rfl) ?_
          have g43 : vp_in x12 b.length := vp_in_iff.mpr ⟨by omega, by omega⟩
          refine va_tb hx hb (hV0) hS g43 rfl d_JT_indexOf1_43 ?_
          refine lv_topi (fun x13 ex13 => ?_)
          refine lv_iload hx hb d_JT_indexOf1_44 (lv_at hl 4 rfl) ?_
          refine lv_icmp_eq (tgt := 52) hx hb d_JT_indexOf1_46 (by decide) (fun c46 => ?_) (fun c46 => ?_)
          · have q46 := eqI c46
            exact jn52 x12 _ _ _ ⟨by (try dsimp only) <;> omega, (fun _ => by rw [← ex13, show b2.getD 0 0 = x1 from by rw [ex1]; rfl]; exact Int32.toInt_inj.mp (by omega)), hP, hD, hS, lv_sub hl [1, 2, 3, 4, 5, 0] rfl⟩
          · have q46 := neI c46
            refine lv_goto (tgt := 30) hx hb d_JT_indexOf1_49 (by decide) ?_
            exact ih30 x12 _ _ _ (by show ((b.length : Int) + 2 - x12.toInt).toNat < N30; omega) ⟨by (try dsimp only) <;> omega, hP, hD, hS, lv_sub hl [1, 2, 3, 4, 5, 0] rfl⟩
abbrev b_JT_indexOf2 : ByteArray := prog_35_method_24_code
def y_JT_indexOf2 : MethodName := ⟨R_JT, "indexOf", "([B[B)I"⟩
abbrev w_JT_indexOf2 : List Cond := .code y_JT_indexOf2 b_JT_indexOf2 2 (Option.some .int) :: lw_g
theorem kC_JT_indexOf2 : Cond.code y_JT_indexOf2 b_JT_indexOf2 2 (Option.some .int) ∈ lw_g := in_g 2392 (by decide +kernel) rfl
theorem d_JT_indexOf2_0 : decode b_JT_indexOf2 0 = .ok (.aload_n 1, 1) := by decide +kernel
theorem d_JT_indexOf2_1 : decode b_JT_indexOf2 1 = .ok (.arraylength, 1) := by decide +kernel
theorem d_JT_indexOf2_2 : decode b_JT_indexOf2 2 = .ok (.ifCond .ne 5, 3) := by decide +kernel
theorem d_JT_indexOf2_5 : decode b_JT_indexOf2 5 = .ok (.iconst 0, 1) := by decide +kernel
theorem d_JT_indexOf2_6 : decode b_JT_indexOf2 6 = .ok (.ireturn, 1) := by decide +kernel
theorem d_JT_indexOf2_7 : decode b_JT_indexOf2 7 = .ok (.aload_n 0, 1) := by decide +kernel
theorem d_JT_indexOf2_8 : decode b_JT_indexOf2 8 = .ok (.arraylength, 1) := by decide +kernel
theorem d_JT_indexOf2_9 : decode b_JT_indexOf2 9 = .ok (.ifCond .ne 5, 3) := by decide +kernel
theorem d_JT_indexOf2_12 : decode b_JT_indexOf2 12 = .ok (.iconst (-1), 1) := by decide +kernel
theorem d_JT_indexOf2_13 : decode b_JT_indexOf2 13 = .ok (.ireturn, 1) := by decide +kernel
theorem d_JT_indexOf2_14 : decode b_JT_indexOf2 14 = .ok (.aload_n 0, 1) := by decide +kernel
theorem d_JT_indexOf2_15 : decode b_JT_indexOf2 15 = .ok (.aload_n 0, 1) := by decide +kernel
theorem d_JT_indexOf2_16 : decode b_JT_indexOf2 16 = .ok (.arraylength, 1) := by decide +kernel
theorem d_JT_indexOf2_17 : decode b_JT_indexOf2 17 = .ok (.aload_n 1, 1) := by decide +kernel
theorem d_JT_indexOf2_18 : decode b_JT_indexOf2 18 = .ok (.aload_n 1, 1) := by decide +kernel
theorem d_JT_indexOf2_19 : decode b_JT_indexOf2 19 = .ok (.arraylength, 1) := by decide +kernel
theorem d_JT_indexOf2_20 : decode b_JT_indexOf2 20 = .ok (.iconst 0, 1) := by decide +kernel
theorem d_JT_indexOf2_21 : decode b_JT_indexOf2 21 = .ok (.invokestatic 99, 3) := by decide +kernel
theorem d_JT_indexOf2_24 : decode b_JT_indexOf2 24 = .ok (.ireturn, 1) := by decide +kernel
theorem kM_JT_99 : Cond.methodLink R_JT 99 y_JT_indexOf1 ∈ lw_g := in_g 2393 (by decide +kernel) rfl
theorem kT_JT_indexOf1 : Cond.static y_JT_indexOf1 ∈ lw_g := in_g 2394 (by decide +kernel) rfl
abbrev at_JT_indexOf2 (dC : Nat → ClassId) (dI : Nat → Nat → Nat)  (A : Nat → Prop) (u : Unit) (t : State) : Prop := match u with | _ => va_P (dC, dI) cls [] t.heap ∧ va_K (dC, dI) cls [] t ∧ va_D A []
set_option maxHeartbeats 4000000 in
set_option maxRecDepth 100000 in
theorem c_JT_indexOf2 (l : Launch) (dC : Nat → ClassId) (dI : Nat → Nat → Nat) (sz : Nat) (v : Nat) (b : List Int32) (v2 : Nat) (b2 : List Int32)      (hbl : (b.length : Int) < 2147483648) (hbl2 : (b2.length : Int) < 2147483648) (hp : (b.length : Int) < 1000000 ∧ (b2.length : Int) < 1000000) : Met l y_JT_indexOf2 w_JT_indexOf2 ({ frames := 1, cells := 0, slots := 0, locals := 30 }) (va_Pc [.ref v, .ref v2] (fun U => U.heap.size = sz ∧ va_P (dC, dI) cls [] U.heap ∧ va_K (dC, dI) cls [] U ∧ va_D (fun _ => True) [] ∧ va_T .byte v b.length (fun j => .int (b.getD j 0)) (va_A [] sz) U U.heap ∧ va_T .byte v2 b2.length (fun j => .int (b2.getD j 0)) (va_A [] sz) U U.heap)) (va_Qi (fun (r : Int32) (u : Unit) => match u with | _ => (r.toInt = -1 ∨ sub9 b b2 r.toInt)) (at_JT_indexOf2 dC dI  (va_A [] sz)) (va_A [] sz)) 0 0 (va_A [] sz) := by
  refine Met.ofW (cc := b_JT_indexOf2) (maxL := 2) (ret := (Option.some .int)) (by decide) rfl ?_
  intro p e s m args below meth c s₁ B hml hv
  obtain ⟨rfl, hsz, hP, hK, hD0, hV0, hV1⟩ := hv
  have hx := B.exec
  have hb := B.bytes
  have hr := B.returns
  have hts0 := atoms_spec (ws := w_JT_indexOf2) B.pre
  have hts : ∀ w ∈ lw_g, w.before _ s = true := fun w h => hts0 w (List.mem_cons_of_mem _ h)
  have hown : s.vm.findClass R_JT = some m.cls := findClass_of_methodNamed B.named
  have hlocks := B.notSynchronized
  clear hts0
  subst hsz
  have hD := hD0.self (sz := s.heap.size)
  generalize hAe : va_A [] s.heap.size = A at hD hV0 hV1 ⊢
  have hA : ∀ q : Nat, s.heap.size ≤ q → A q := fun q h => by rw [← hAe]; exact Or.inr h
  clear hAe
  have hP : va_P (dC, dI) cls [] s.heap := hP
  have hl := lv_entry ([.ref v, .ref v2]) (n := 2) (Nat.le_of_ble_eq_true rfl)
  rw [lg_entry_eq]
  generalize (lg_sl ([.ref v, .ref v2]) ++ List.replicate (2 - (lg_sl ([.ref v, .ref v2])).length) Slot.unset).toArray = ls at hl ⊢
  have hl : lv_has ls 2 [(0, .ref v), (1, .ref v2)] := hl
  have k0 : (0 : Int32).toInt = 0 := by decide
  refine w_gen (A := A) hP (fun H locs hP hS => ?_)
  have km1 : (-1 : Int32).toInt = -1 := by decide
  refine lv_aload_n hx hb d_JT_indexOf2_0 rfl (lv_at hl 1 rfl) ?_
  refine va_tlen hx hb (hV1) hS rfl d_JT_indexOf2_1 ?_
  refine lv_topi (fun x1 ex1 => ?_)
  have tx1 : x1.toInt = b2.length := by rw [ex1]; exact i32_len (by omega)
  refine lv_if_ne (tgt := 7) hx hb d_JT_indexOf2_2 (by decide) (fun c2 => ?_) (fun c2 => ?_)
  · have q2 := neI c2
    refine lv_aload_n hx hb d_JT_indexOf2_7 rfl (lv_at hl 0 rfl) ?_
    refine va_tlen hx hb (hV0) hS rfl d_JT_indexOf2_8 ?_
    refine lv_topi (fun x2 ex2 => ?_)
    have tx2 : x2.toInt = b.length := by rw [ex2]; exact i32_len (by omega)
    refine lv_if_ne (tgt := 14) hx hb d_JT_indexOf2_9 (by decide) (fun c9 => ?_) (fun c9 => ?_)
    · have q9 := neI c9
      refine lv_aload_n hx hb d_JT_indexOf2_14 rfl (lv_at hl 0 rfl) ?_
      refine lv_aload_n hx hb d_JT_indexOf2_15 rfl (lv_at hl 0 rfl) ?_
      refine va_tlen hx hb (hV0) hS rfl d_JT_indexOf2_16 ?_
      refine lv_topi (fun x3 ex3 => ?_)
      have tx3 : x3.toInt = b.length := by rw [ex3]; exact i32_len (by omega)
      refine lv_aload_n hx hb d_JT_indexOf2_17 rfl (lv_at hl 1 rfl) ?_
      refine lv_aload_n hx hb d_JT_indexOf2_18 rfl (lv_at hl 1 rfl) ?_
      refine va_tlen hx hb (hV1) hS rfl d_JT_indexOf2_19 ?_
      refine lv_topi (fun x4 ex4 => ?_)
      have tx4 : x4.toInt = b2.length := by rw [ex4]; exact i32_len (by omega)
      refine lv_iconst (v := 0) hx hb d_JT_indexOf2_20 (by decide) ?_
      have hPc := hP.sub (ws' := []) [] rfl
      have hDc := hD.sub (ws' := []) [] (by decide) rfl
      have hKc := hK.sub (tys' := []) [] rfl
      have hFc := va_free (wc := []) hD hS hA [] rfl
      refine va_calli (va_runS (As := [.ref v, .int x3, .ref v2, .int x4, .int 0]) (rest := []) ⟨hx, hb, hml, hown, hts⟩ (c_JT_indexOf1 l dC dI H.size v b v2 b2 x3 x4 0 (hbl) (hbl2) (by omega)) ⟨callB_of 5 hts (gW kC_JT_indexOf1) rfl rfl rfl (hts _ kI_JT) (hts _ kM_JT_99) (by decide +kernel) ⟨Nat.le_of_ble_eq_true rfl, Nat.le_of_ble_eq_true rfl⟩, hts _ kT_JT_indexOf1⟩ ⟨fun a U g mk z => by obtain ⟨z0, z1, zP, zK, zD, zV0, zV1⟩ := z; exact ⟨z0, z1, zP, va_K.moved (u := U) (U := U.calling g mk a) (Vm.Alike.refl U.vm) zK, zD, va_T.moved (u := U) (U := U.calling g mk a) (Vm.Alike.refl U.vm) zV0, va_T.moved (u := U) (U := U.calling g mk a) (Vm.Alike.refl U.vm) zV1⟩, fun U hU hW => ⟨rfl, by rw [hU], by rw [hU]; exact hPc, va_K.moved hW.alike hKc, hDc.weaken (fun _ _ _ _ => trivial), vt_call (hV0) hS hFc hW hU, vt_call (hV1) hS hFc hW hU⟩⟩ rfl rfl hl.1 rfl (lv_room (Nat.le_of_ble_eq_true rfl)) d_JT_indexOf2_21 ⟨(Nat.zero_le _), (Nat.zero_le _)⟩) hS (fun q _ h => hFc q h) hFc (fun r5 u t H1 locs ht hvm hw hB hz1 hk1 hS => ?_)
      try dsimp only at hw
      have xr5 := hw
      try clear hw
      obtain ⟨hP1, hK1, hD1⟩ := hB
      rw [ht] at hP1
      obtain ⟨hP, hD⟩ := va_join (wr := []) (w1 := []) hP hD [] [] rfl rfl (by decide) (by decide) hk1 hFc hP1 hD1
      clear hPc hDc hKc hFc hz1 hk1 hP1 hK1 hD1
      generalize H1 = H at hP hS ⊢
      have hP : va_P (dC, dI) cls [] H := hP
      have hD : va_D A [] := hD
      have hP9 := hP.sub (ws' := []) [] rfl
      have hD9 := hD.sub (ws' := []) [] (by decide) rfl
      exact W.iret (v := r5) hx hb hr (fun t ht hW => ⟨⟨r5, (), rfl, (xr5), by rw [ht]; exact hP9, va_K.moved hW.alike hK, hD9⟩, hS.F ht⟩) hS.2.2 d_JT_indexOf2_24
    · have q9 := eqI c9
      refine lv_iconst (v := (-1)) hx hb d_JT_indexOf2_12 (by decide) ?_
      have hP9 := hP.sub (ws' := []) [] rfl
      have hD9 := hD.sub (ws' := []) [] (by decide) rfl
      exact W.iret (v := ((-1))) hx hb hr (fun t ht hW => ⟨⟨(-1), (), rfl, (Or.inl (by decide)), by rw [ht]; exact hP9, va_K.moved hW.alike hK, hD9⟩, hS.F ht⟩) hS.2.2 d_JT_indexOf2_13
  · have q2 := eqI c2
    refine lv_iconst (v := 0) hx hb d_JT_indexOf2_5 (by decide) ?_
    have hP9 := hP.sub (ws' := []) [] rfl
    have hD9 := hD.sub (ws' := []) [] (by decide) rfl
    exact W.iret (v := 0) hx hb hr (fun t ht hW => ⟨⟨0, (), rfl, (Or.inr ⟨by decide, by rw [k0]; omega, fun j hj => absurd hj (by omega)⟩), by rw [ht]; exact hP9, va_K.moved hW.alike hK, hD9⟩, hS.F ht⟩) hS.2.2 d_JT_indexOf2_6

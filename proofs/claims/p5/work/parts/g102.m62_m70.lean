section q_m62
/-! texts: equals, hashCode, indexOf, as bytes -/
theorem lst_eq9 {b b2 : List Int32} {n : Int} (h1 : (b.length : Int) = n) (h2 : (b2.length : Int) = n) (h : ∀ j : Nat, (j : Int) < n → b.getD j 0 = b2.getD j 0) : b = b2 := by
  refine List.ext_getElem (by (first | (apply Int.le_antisymm <;> omega) | omega)) (fun i hi hj => ?_)
  have q := h i (by (first | (apply Int.le_antisymm <;> omega) | omega))
  rw [List.getD_eq_getElem?_getD, List.getD_eq_getElem?_getD, List.getElem?_eq_getElem hi, List.getElem?_eq_getElem hj] at q
  exact q
/-- the text s stands at i in t -/
def sub9 (t s : List Int32) (i : Int) : Prop := 0 ≤ i ∧ i + (s.length : Int) ≤ (t.length : Int) ∧ ∀ j : Nat, j < s.length → t.getD (i.toNat + j) 0 = s.getD j 0
def hs9 : List Int32 → Nat → Int32
  | _, 0 => 0
  | b, k + 1 => 31 * hs9 b k + (b.getD k 0 &&& 255)
abbrev b_JT_equals : ByteArray := prog_35_method_13_code
def y_JT_equals : MethodName := ⟨R_JT, "equals", "([B[B)Z"⟩
abbrev w_JT_equals : List Cond := .code y_JT_equals b_JT_equals 3 (Option.some .boolean) :: lw_g
theorem kC_JT_equals : Cond.code y_JT_equals b_JT_equals 3 (Option.some .boolean) ∈ lw_g := in_c11 83 rfl rfl
theorem d_JT_equals_0 : decode b_JT_equals 0 = .ok (.aload_n 0, 1) := bz_c42 (by decide +kernel)
theorem d_JT_equals_1 : decode b_JT_equals 1 = .ok (.arraylength, 1) := bz_c190 (by decide +kernel)
theorem d_JT_equals_2 : decode b_JT_equals 2 = .ok (.aload_n 1, 1) := bz_c43 (by decide +kernel)
theorem d_JT_equals_3 : decode b_JT_equals 3 = .ok (.arraylength, 1) := bz_c190 (by decide +kernel)
theorem d_JT_equals_4 : decode b_JT_equals 4 = .ok (.if_icmp .ne 30, 3) := bz_c160 (by decide +kernel)
theorem d_JT_equals_7 : decode b_JT_equals 7 = .ok (.iconst 0, 1) := bz_c3 (by decide +kernel)
theorem d_JT_equals_8 : decode b_JT_equals 8 = .ok (.istore_n 2, 1) := bz_c61 (by decide +kernel)
theorem d_JT_equals_9 : decode b_JT_equals 9 = .ok (.iload_n 2, 1) := bz_c28 (by decide +kernel)
theorem d_JT_equals_10 : decode b_JT_equals 10 = .ok (.aload_n 0, 1) := bz_c42 (by decide +kernel)
theorem d_JT_equals_11 : decode b_JT_equals 11 = .ok (.arraylength, 1) := bz_c190 (by decide +kernel)
theorem d_JT_equals_12 : decode b_JT_equals 12 = .ok (.if_icmp .ge 20, 3) := bz_c162 (by decide +kernel)
theorem d_JT_equals_15 : decode b_JT_equals 15 = .ok (.aload_n 0, 1) := bz_c42 (by decide +kernel)
theorem d_JT_equals_16 : decode b_JT_equals 16 = .ok (.iload_n 2, 1) := bz_c28 (by decide +kernel)
theorem d_JT_equals_17 : decode b_JT_equals 17 = .ok (.baload, 1) := bz_c51 (by decide +kernel)
theorem d_JT_equals_18 : decode b_JT_equals 18 = .ok (.aload_n 1, 1) := bz_c43 (by decide +kernel)
theorem d_JT_equals_19 : decode b_JT_equals 19 = .ok (.iload_n 2, 1) := bz_c28 (by decide +kernel)
theorem d_JT_equals_20 : decode b_JT_equals 20 = .ok (.baload, 1) := bz_c51 (by decide +kernel)
theorem d_JT_equals_21 : decode b_JT_equals 21 = .ok (.if_icmp .eq 5, 3) := bz_c159 (by decide +kernel)
theorem d_JT_equals_24 : decode b_JT_equals 24 = .ok (.iconst 0, 1) := bz_c3 (by decide +kernel)
theorem d_JT_equals_25 : decode b_JT_equals 25 = .ok (.ireturn, 1) := bz_c172 (by decide +kernel)
theorem d_JT_equals_26 : decode b_JT_equals 26 = .ok (.iinc 2 1, 3) := by decide +kernel
theorem d_JT_equals_29 : decode b_JT_equals 29 = .ok (.goto (-20), 3) := bz_c167 (by decide +kernel)
theorem d_JT_equals_32 : decode b_JT_equals 32 = .ok (.iconst 1, 1) := bz_c4 (by decide +kernel)
theorem d_JT_equals_33 : decode b_JT_equals 33 = .ok (.ireturn, 1) := bz_c172 (by decide +kernel)
theorem d_JT_equals_34 : decode b_JT_equals 34 = .ok (.iconst 0, 1) := bz_c3 (by decide +kernel)
theorem d_JT_equals_35 : decode b_JT_equals 35 = .ok (.ireturn, 1) := bz_c172 (by decide +kernel)
abbrev at_JT_equals (dC : Nat → ClassId) (dI : Nat → Nat → Nat)  (A : Nat → Prop) (u : Unit) (t : State) : Prop := match u with | _ => va_P (dC, dI) cls [] t.heap ∧ va_K (dC, dI) cls [] t ∧ va_D A []
set_option maxHeartbeats 4000000 in
set_option maxRecDepth 100000 in
theorem c_JT_equals (l : Launch) (dC : Nat → ClassId) (dI : Nat → Nat → Nat) (sz : Nat) (v : Nat) (b : List Int32) (v2 : Nat) (b2 : List Int32)      (hbl : (b.length : Int) < 2147483648) (hbl2 : (b2.length : Int) < 2147483648) : Met l y_JT_equals w_JT_equals ({ frames := 0, cells := 0, slots := 0, locals := 0 }) (va_Pc [.ref v, .ref v2] (fun U => U.heap.size = sz ∧ va_P (dC, dI) cls [] U.heap ∧ va_K (dC, dI) cls [] U ∧ va_D (fun _ => True) [] ∧ va_T .byte v b.length (fun j => .int (b.getD j 0)) (va_A [] sz) U U.heap ∧ va_T .byte v2 b2.length (fun j => .int (b2.getD j 0)) (va_A [] sz) U U.heap)) (va_Qi (fun (r : Int32) (u : Unit) => match u with | _ => (r = 0 ∨ r = 1) ∧ ((r.toInt = 1 ∧ b = b2) ∨ (r.toInt = 0 ∧ b ≠ b2))) (at_JT_equals dC dI  (va_A [] sz)) (va_A [] sz)) 0 0 (va_A [] sz) := by
  refine Met.ofW (cc := b_JT_equals) (maxL := 3) (ret := (Option.some .boolean)) (by decide) rfl ?_
  intro p e s m args below meth c s₁ B hml hv
  obtain ⟨rfl, hsz, hP, hK, hD0, hV0, hV1⟩ := hv
  have hx := B.exec
  have hb := B.bytes
  have hr := B.returns
  have hts0 := atoms_spec (ws := w_JT_equals) B.pre
  have hts : ∀ w ∈ lw_g, w.before _ s = true := fun w h => hts0 w (List.mem_cons_of_mem _ h)
  have hown : s.vm.findClass R_JT = some m.cls := findClass_of_methodNamed B.named
  have hlocks := B.notSynchronized
  clear hts0
  subst hsz
  have hD := hD0.self (sz := s.heap.size)
  generalize hAe : va_A [] s.heap.size = A at hD hV0 hV1 ⊢
  have hA : ∀ q : Nat, s.heap.size ≤ q → A q := fun q h => by rw [← hAe]; exact Or.inr h
  clear hAe
  have hP : va_P (dC, dI) cls [] s.heap := hP
  have hl := lv_entry ([.ref v, .ref v2]) (n := 3) (Nat.le_of_ble_eq_true rfl)
  rw [lg_entry_eq]
  generalize (lg_sl ([.ref v, .ref v2]) ++ List.replicate (3 - (lg_sl ([.ref v, .ref v2])).length) Slot.unset).toArray = ls at hl ⊢
  have hl : lv_has ls 3 [(0, .ref v), (1, .ref v2)] := hl
  have k0 : (0 : Int32).toInt = 0 := by decide
  refine w_gen (A := A) hP (fun H locs hP hS => ?_)
  have k1 : (1 : Int32).toInt = 1 := by decide
  refine lv_aload_n hx hb d_JT_equals_0 rfl (lv_at hl 0 rfl) ?_
  refine va_tlen hx hb (hV0) hS rfl d_JT_equals_1 ?_
  refine lv_topi (fun x1 ex1 => ?_)
  have tx1 : x1.toInt = b.length := by rw [ex1]; exact i32_len (by (first | (apply Int.le_antisymm <;> omega) | omega))
  refine lv_aload_n hx hb d_JT_equals_2 rfl (lv_at hl 1 rfl) ?_
  refine va_tlen hx hb (hV1) hS rfl d_JT_equals_3 ?_
  refine lv_topi (fun x2 ex2 => ?_)
  have tx2 : x2.toInt = b2.length := by rw [ex2]; exact i32_len (by (first | (apply Int.le_antisymm <;> omega) | omega))
  refine lv_icmp_ne (tgt := 34) hx hb d_JT_equals_4 (by decide) (fun c4 => ?_) (fun c4 => ?_)
  · have q4 := neI c4
    refine lv_iconst (v := 0) hx hb d_JT_equals_34 (by decide) ?_
    have hP9 := hP.sb (wq := []) [] rfl
    have hD9 := hD.sb (wq := []) [] (by decide) rfl
    exact W.zret (v := 0) hx hb hr (zn01 (Or.inl rfl)) (fun t ht hW => ⟨⟨0, (), rfl, ⟨Or.inl rfl, Or.inr ⟨by decide, fun q => by have := congrArg List.length q; (first | (apply Int.le_antisymm <;> omega) | omega)⟩⟩, va_P.he ht.symm hP9, va_K.moved hW.alike hK, hD9⟩, hS.F ht⟩) hS.2.2 d_JT_equals_35
  · have q4 := eqI c4
    refine lv_iconst (v := 0) hx hb d_JT_equals_7 (by decide) ?_
    refine lv_istore_n (lv' := [(2, .int 0), (0, .ref v), (1, .ref v2)]) hx hb d_JT_equals_8 rfl hl (by decide) rfl (fun ls hl => ?_)
    refine w_loop (σ := Int32) (fun u H locs ls => match u with | j9_l2 => (0 ≤ j9_l2.toInt ∧ j9_l2.toInt ≤ 2147483647) ∧ (j9_l2.toInt ≤ (b.length : Int)) ∧ (bx (∀ j : Nat, (j : Int) < j9_l2.toInt → b.getD j 0 = b2.getD j 0)) ∧ va_P (dC, dI) cls [] H ∧ va_D A [] ∧ va_S A s.heap H locs ∧ lv_has ls 3 [(0, .ref v), (1, .ref v2), (2, .int j9_l2)]) (fun u => match u with | j9_l2 => ((b.length : Int) - j9_l2.toInt).toNat) ?_ 0 ⟨by (try dsimp only) <;> (first | (apply Int.le_antisymm <;> omega) | omega), by (try dsimp only) <;> (first | (apply Int.le_antisymm <;> omega) | omega), (fun j hj => absurd hj (by rw [k0]; (first | (apply Int.le_antisymm <;> omega) | omega))), hP, hD, hS, lv_sub hl [1, 2, 0] rfl⟩
    intro N9 ih9 u H locs ls hN9 hI
    obtain ⟨j9_l2, rfl⟩ : ∃ z, z = u := ⟨_, rfl⟩
    obtain ⟨b_j9_l2, u1, u2, hP, hD, hS, hl⟩ := hI
    have hN9 : ((b.length : Int) - j9_l2.toInt).toNat < N9 + 1 := hN9
    refine lv_iload_n hx hb d_JT_equals_9 rfl (lv_at hl 2 rfl) ?_
    refine lv_aload_n hx hb d_JT_equals_10 rfl (lv_at hl 0 rfl) ?_
    refine va_tlen hx hb (hV0) hS rfl d_JT_equals_11 ?_
    refine lv_topi (fun x3 ex3 => ?_)
    have tx3 : x3.toInt = b.length := by rw [ex3]; exact i32_len (by (first | (apply Int.le_antisymm <;> omega) | omega))
    refine lv_icmp_ge (tgt := 32) hx hb d_JT_equals_12 (by decide) (fun c12 => ?_) (fun c12 => ?_)
    · have q12 := leI c12
      refine lv_iconst (v := 1) hx hb d_JT_equals_32 (by decide) ?_
      have hP9 := hP.sb (wq := []) [] rfl
      have hD9 := hD.sb (wq := []) [] (by decide) rfl
      exact W.zret (v := 1) hx hb hr (zn01 (Or.inr rfl)) (fun t ht hW => ⟨⟨1, (), rfl, ⟨Or.inr rfl, Or.inl ⟨by decide, lst_eq9 (n := b.length) rfl (by (first | (apply Int.le_antisymm <;> omega) | omega)) (fun j hj => u2.out j (by (first | (apply Int.le_antisymm <;> omega) | omega)))⟩⟩, va_P.he ht.symm hP9, va_K.moved hW.alike hK, hD9⟩, hS.F ht⟩) hS.2.2 d_JT_equals_33
    · have q12 := nleI c12
      refine lv_aload_n hx hb d_JT_equals_15 rfl (lv_at hl 0 rfl) ?_
      refine lv_iload_n hx hb d_JT_equals_16 rfl (lv_at hl 2 rfl) ?_
      have g17 : vp_in j9_l2 b.length := vp_in_iff.mpr ⟨by (first | (apply Int.le_antisymm <;> omega) | omega), by (first | (apply Int.le_antisymm <;> omega) | omega)⟩
      refine va_tb hx hb (hV0) hS g17 rfl d_JT_equals_17 ?_
      refine lv_topi (fun x4 ex4 => ?_)
      refine lv_aload_n hx hb d_JT_equals_18 rfl (lv_at hl 1 rfl) ?_
      refine lv_iload_n hx hb d_JT_equals_19 rfl (lv_at hl 2 rfl) ?_
      have g20 : vp_in j9_l2 b2.length := vp_in_iff.mpr ⟨by (first | (apply Int.le_antisymm <;> omega) | omega), by (first | (apply Int.le_antisymm <;> omega) | omega)⟩
      refine va_tb hx hb (hV1) hS g20 rfl d_JT_equals_20 ?_
      refine lv_topi (fun x5 ex5 => ?_)
      refine lv_icmp_eq (tgt := 26) hx hb d_JT_equals_21 (by decide) (fun c21 => ?_) (fun c21 => ?_)
      · have q21 := eqI c21
        obtain ⟨x6, ex6⟩ : ∃ z : Int32, z = j9_l2 + 1 := ⟨_, rfl⟩
        have tx6 : x6.toInt = j9_l2.toInt + 1 := by have z := i32_add ex6 (by (first | (apply Int.le_antisymm <;> omega) | omega)) (by (first | (apply Int.le_antisymm <;> omega) | omega)); first | exact z | (first | (apply Int.le_antisymm <;> omega) | omega)
        refine lv_iinc (v := x6) (lv' := [(2, .int x6), (0, .ref v), (1, .ref v2)]) hx hb d_JT_equals_26 hl (k := 2) rfl (by rw [ex6]; rfl) (by decide) rfl (fun ls hl => ?_)
        refine lv_goto (tgt := 9) hx hb d_JT_equals_29 (by decide) ?_
        exact ih9 x6 _ _ _ (by show ((b.length : Int) - x6.toInt).toNat < N9; (first | (apply Int.le_antisymm <;> omega) | omega)) ⟨by (try dsimp only) <;> (first | (apply Int.le_antisymm <;> omega) | omega), by (try dsimp only) <;> (first | (apply Int.le_antisymm <;> omega) | omega), (fun j hj => by have z9 := i32_clamp (x := j9_l2) (by (first | (apply Int.le_antisymm <;> omega) | omega)); by_cases q : (j : Int) < j9_l2.toInt; (exact u2.out j q); (rw [show j = j9_l2.toNatClampNeg from by (first | (apply Int.le_antisymm <;> omega) | omega), ← ex4, ← ex5]; exact Int32.toInt_inj.mp (by (first | (apply Int.le_antisymm <;> omega) | omega)))), hP, hD, hS, lv_sub hl [1, 2, 0] rfl⟩
      · have q21 := neI c21
        refine lv_iconst (v := 0) hx hb d_JT_equals_24 (by decide) ?_
        have hP9 := hP.sb (wq := []) [] rfl
        have hD9 := hD.sb (wq := []) [] (by decide) rfl
        exact W.zret (v := 0) hx hb hr (zn01 (Or.inl rfl)) (fun t ht hW => ⟨⟨0, (), rfl, ⟨Or.inl rfl, Or.inr ⟨by decide, fun q => (by have e9 : x4 = x5 := (by rw [ex4, ex5, q]); have := congrArg Int32.toInt e9; (first | (apply Int.le_antisymm <;> omega) | omega))⟩⟩, va_P.he ht.symm hP9, va_K.moved hW.alike hK, hD9⟩, hS.F ht⟩) hS.2.2 d_JT_equals_25
abbrev b_JT_indexOf1 : ByteArray := prog_35_method_25_code
def y_JT_indexOf1 : MethodName := ⟨R_JT, "indexOf", "([BI[BII)I"⟩
abbrev w_JT_indexOf1 : List Cond := .code y_JT_indexOf1 b_JT_indexOf1 11 (Option.some .int) :: lw_g
theorem kC_JT_indexOf1 : Cond.code y_JT_indexOf1 b_JT_indexOf1 11 (Option.some .int) ∈ lw_g := in_c10 235 rfl rfl
theorem d_JT_indexOf1_0 : decode b_JT_indexOf1 0 = .ok (.aload_n 2, 1) := bz_c44 (by decide +kernel)
theorem d_JT_indexOf1_1 : decode b_JT_indexOf1 1 = .ok (.iconst 0, 1) := bz_c3 (by decide +kernel)
theorem d_JT_indexOf1_2 : decode b_JT_indexOf1 2 = .ok (.baload, 1) := bz_c51 (by decide +kernel)
theorem d_JT_indexOf1_3 : decode b_JT_indexOf1 3 = .ok (.istore 5, 2) := bz_c54 (by decide +kernel)
theorem d_JT_indexOf1_5 : decode b_JT_indexOf1 5 = .ok (.iload_n 1, 1) := bz_c27 (by decide +kernel)
theorem d_JT_indexOf1_6 : decode b_JT_indexOf1 6 = .ok (.iload_n 3, 1) := bz_c29 (by decide +kernel)
theorem d_JT_indexOf1_7 : decode b_JT_indexOf1 7 = .ok (.isub, 1) := bz_c100 (by decide +kernel)
theorem d_JT_indexOf1_8 : decode b_JT_indexOf1 8 = .ok (.istore 6, 2) := bz_c54 (by decide +kernel)
theorem d_JT_indexOf1_10 : decode b_JT_indexOf1 10 = .ok (.iload 4, 2) := bz_c21 (by decide +kernel)
theorem d_JT_indexOf1_12 : decode b_JT_indexOf1 12 = .ok (.istore 7, 2) := bz_c54 (by decide +kernel)
theorem d_JT_indexOf1_14 : decode b_JT_indexOf1 14 = .ok (.iload 7, 2) := bz_c21 (by decide +kernel)
theorem d_JT_indexOf1_16 : decode b_JT_indexOf1 16 = .ok (.iload 6, 2) := bz_c21 (by decide +kernel)
theorem d_JT_indexOf1_18 : decode b_JT_indexOf1 18 = .ok (.if_icmp .gt 101, 3) := bz_c163 (by decide +kernel)
theorem d_JT_indexOf1_21 : decode b_JT_indexOf1 21 = .ok (.aload_n 0, 1) := bz_c42 (by decide +kernel)
theorem d_JT_indexOf1_22 : decode b_JT_indexOf1 22 = .ok (.iload 7, 2) := bz_c21 (by decide +kernel)
theorem d_JT_indexOf1_24 : decode b_JT_indexOf1 24 = .ok (.baload, 1) := bz_c51 (by decide +kernel)
theorem d_JT_indexOf1_25 : decode b_JT_indexOf1 25 = .ok (.iload 5, 2) := bz_c21 (by decide +kernel)
theorem d_JT_indexOf1_27 : decode b_JT_indexOf1 27 = .ok (.if_icmp .eq 25, 3) := bz_c159 (by decide +kernel)
theorem d_JT_indexOf1_30 : decode b_JT_indexOf1 30 = .ok (.iinc 7 1, 3) := by decide +kernel
theorem d_JT_indexOf1_33 : decode b_JT_indexOf1 33 = .ok (.iload 7, 2) := bz_c21 (by decide +kernel)
theorem d_JT_indexOf1_35 : decode b_JT_indexOf1 35 = .ok (.iload 6, 2) := bz_c21 (by decide +kernel)
theorem d_JT_indexOf1_37 : decode b_JT_indexOf1 37 = .ok (.if_icmp .gt 15, 3) := bz_c163 (by decide +kernel)
theorem d_JT_indexOf1_40 : decode b_JT_indexOf1 40 = .ok (.aload_n 0, 1) := bz_c42 (by decide +kernel)
theorem d_JT_indexOf1_41 : decode b_JT_indexOf1 41 = .ok (.iload 7, 2) := bz_c21 (by decide +kernel)
theorem d_JT_indexOf1_43 : decode b_JT_indexOf1 43 = .ok (.baload, 1) := bz_c51 (by decide +kernel)
theorem d_JT_indexOf1_44 : decode b_JT_indexOf1 44 = .ok (.iload 5, 2) := bz_c21 (by decide +kernel)
theorem d_JT_indexOf1_46 : decode b_JT_indexOf1 46 = .ok (.if_icmp .eq 6, 3) := bz_c159 (by decide +kernel)
theorem d_JT_indexOf1_49 : decode b_JT_indexOf1 49 = .ok (.goto (-19), 3) := bz_c167 (by decide +kernel)
theorem d_JT_indexOf1_52 : decode b_JT_indexOf1 52 = .ok (.iload 7, 2) := bz_c21 (by decide +kernel)
theorem d_JT_indexOf1_54 : decode b_JT_indexOf1 54 = .ok (.iload 6, 2) := bz_c21 (by decide +kernel)
theorem d_JT_indexOf1_56 : decode b_JT_indexOf1 56 = .ok (.if_icmp .gt 57, 3) := bz_c163 (by decide +kernel)
theorem d_JT_indexOf1_59 : decode b_JT_indexOf1 59 = .ok (.iload 7, 2) := bz_c21 (by decide +kernel)
theorem d_JT_indexOf1_61 : decode b_JT_indexOf1 61 = .ok (.iconst 1, 1) := bz_c4 (by decide +kernel)
theorem d_JT_indexOf1_62 : decode b_JT_indexOf1 62 = .ok (.iadd, 1) := bz_c96 (by decide +kernel)
theorem d_JT_indexOf1_63 : decode b_JT_indexOf1 63 = .ok (.istore 8, 2) := bz_c54 (by decide +kernel)
theorem d_JT_indexOf1_65 : decode b_JT_indexOf1 65 = .ok (.iload 8, 2) := bz_c21 (by decide +kernel)
theorem d_JT_indexOf1_67 : decode b_JT_indexOf1 67 = .ok (.iload_n 3, 1) := bz_c29 (by decide +kernel)
theorem d_JT_indexOf1_68 : decode b_JT_indexOf1 68 = .ok (.iadd, 1) := bz_c96 (by decide +kernel)
theorem d_JT_indexOf1_69 : decode b_JT_indexOf1 69 = .ok (.iconst 1, 1) := bz_c4 (by decide +kernel)
theorem d_JT_indexOf1_70 : decode b_JT_indexOf1 70 = .ok (.isub, 1) := bz_c100 (by decide +kernel)
theorem d_JT_indexOf1_71 : decode b_JT_indexOf1 71 = .ok (.istore 9, 2) := bz_c54 (by decide +kernel)
theorem d_JT_indexOf1_73 : decode b_JT_indexOf1 73 = .ok (.iconst 1, 1) := bz_c4 (by decide +kernel)
theorem d_JT_indexOf1_74 : decode b_JT_indexOf1 74 = .ok (.istore 10, 2) := bz_c54 (by decide +kernel)
theorem d_JT_indexOf1_76 : decode b_JT_indexOf1 76 = .ok (.iload 8, 2) := bz_c21 (by decide +kernel)
theorem d_JT_indexOf1_78 : decode b_JT_indexOf1 78 = .ok (.iload 9, 2) := bz_c21 (by decide +kernel)
theorem d_JT_indexOf1_80 : decode b_JT_indexOf1 80 = .ok (.if_icmp .ge 23, 3) := bz_c162 (by decide +kernel)
theorem d_JT_indexOf1_83 : decode b_JT_indexOf1 83 = .ok (.aload_n 0, 1) := bz_c42 (by decide +kernel)
theorem d_JT_indexOf1_84 : decode b_JT_indexOf1 84 = .ok (.iload 8, 2) := bz_c21 (by decide +kernel)
theorem d_JT_indexOf1_86 : decode b_JT_indexOf1 86 = .ok (.baload, 1) := bz_c51 (by decide +kernel)
theorem d_JT_indexOf1_87 : decode b_JT_indexOf1 87 = .ok (.aload_n 2, 1) := bz_c44 (by decide +kernel)
theorem d_JT_indexOf1_88 : decode b_JT_indexOf1 88 = .ok (.iload 10, 2) := bz_c21 (by decide +kernel)
theorem d_JT_indexOf1_90 : decode b_JT_indexOf1 90 = .ok (.baload, 1) := bz_c51 (by decide +kernel)
theorem d_JT_indexOf1_91 : decode b_JT_indexOf1 91 = .ok (.if_icmp .ne 12, 3) := bz_c160 (by decide +kernel)
theorem d_JT_indexOf1_94 : decode b_JT_indexOf1 94 = .ok (.iinc 8 1, 3) := by decide +kernel
theorem d_JT_indexOf1_97 : decode b_JT_indexOf1 97 = .ok (.iinc 10 1, 3) := by decide +kernel
theorem d_JT_indexOf1_100 : decode b_JT_indexOf1 100 = .ok (.goto (-24), 3) := bz_c167 (by decide +kernel)
theorem d_JT_indexOf1_103 : decode b_JT_indexOf1 103 = .ok (.iload 8, 2) := bz_c21 (by decide +kernel)
theorem d_JT_indexOf1_105 : decode b_JT_indexOf1 105 = .ok (.iload 9, 2) := bz_c21 (by decide +kernel)
theorem d_JT_indexOf1_107 : decode b_JT_indexOf1 107 = .ok (.if_icmp .ne 6, 3) := bz_c160 (by decide +kernel)
theorem d_JT_indexOf1_110 : decode b_JT_indexOf1 110 = .ok (.iload 7, 2) := bz_c21 (by decide +kernel)
theorem d_JT_indexOf1_112 : decode b_JT_indexOf1 112 = .ok (.ireturn, 1) := bz_c172 (by decide +kernel)
theorem d_JT_indexOf1_113 : decode b_JT_indexOf1 113 = .ok (.iinc 7 1, 3) := by decide +kernel
theorem d_JT_indexOf1_116 : decode b_JT_indexOf1 116 = .ok (.goto (-102), 3) := bz_c167 (by decide +kernel)
theorem d_JT_indexOf1_119 : decode b_JT_indexOf1 119 = .ok (.iconst (-1), 1) := bz_c2 (by decide +kernel)
theorem d_JT_indexOf1_120 : decode b_JT_indexOf1 120 = .ok (.ireturn, 1) := bz_c172 (by decide +kernel)
abbrev at_JT_indexOf1 (dC : Nat → ClassId) (dI : Nat → Nat → Nat)  (A : Nat → Prop) (u : Unit) (t : State) : Prop := match u with | _ => va_P (dC, dI) cls [] t.heap ∧ va_K (dC, dI) cls [] t ∧ va_D A []
set_option maxHeartbeats 4000000 in
set_option maxRecDepth 100000 in
theorem c_JT_indexOf1 (l : Launch) (dC : Nat → ClassId) (dI : Nat → Nat → Nat) (sz : Nat) (v : Nat) (b : List Int32) (v2 : Nat) (b2 : List Int32)    (p1 : Int32) (p3 : Int32) (p4 : Int32)  (hbl : (b.length : Int) < 2147483648) (hbl2 : (b2.length : Int) < 2147483648) (hp : p1.toInt = (b.length : Int) ∧ p3.toInt = (b2.length : Int) ∧ 1 ≤ p3.toInt ∧ p4.toInt = 0 ∧ (b.length : Int) < 1000000 ∧ (b2.length : Int) < 1000000) : Met l y_JT_indexOf1 w_JT_indexOf1 ({ frames := 0, cells := 0, slots := 0, locals := 0 }) (va_Pc [.ref v, .int p1, .ref v2, .int p3, .int p4] (fun U => U.heap.size = sz ∧ va_P (dC, dI) cls [] U.heap ∧ va_K (dC, dI) cls [] U ∧ va_D (fun _ => True) [] ∧ va_T .byte v b.length (fun j => .int (b.getD j 0)) (va_A [] sz) U U.heap ∧ va_T .byte v2 b2.length (fun j => .int (b2.getD j 0)) (va_A [] sz) U U.heap)) (va_Qi (fun (r : Int32) (u : Unit) => match u with | _ => (r.toInt = -1 ∨ sub9 b b2 r.toInt)) (at_JT_indexOf1 dC dI  (va_A [] sz)) (va_A [] sz)) 0 0 (va_A [] sz) := by
  refine Met.ofW (cc := b_JT_indexOf1) (maxL := 11) (ret := (Option.some .int)) (by decide) rfl ?_
  intro p e s m args below meth c s₁ B hml hv
  obtain ⟨rfl, hsz, hP, hK, hD0, hV0, hV1⟩ := hv
  have hx := B.exec
  have hb := B.bytes
  have hr := B.returns
  have hts0 := atoms_spec (ws := w_JT_indexOf1) B.pre
  have hts : ∀ w ∈ lw_g, w.before _ s = true := fun w h => hts0 w (List.mem_cons_of_mem _ h)
  have hown : s.vm.findClass R_JT = some m.cls := findClass_of_methodNamed B.named
  have hlocks := B.notSynchronized
  clear hts0
  subst hsz
  have hD := hD0.self (sz := s.heap.size)
  generalize hAe : va_A [] s.heap.size = A at hD hV0 hV1 ⊢
  have hA : ∀ q : Nat, s.heap.size ≤ q → A q := fun q h => by rw [← hAe]; exact Or.inr h
  clear hAe
  have hP : va_P (dC, dI) cls [] s.heap := hP
  have hl := lv_entry ([.ref v, .int p1, .ref v2, .int p3, .int p4]) (n := 11) (Nat.le_of_ble_eq_true rfl)
  rw [lg_entry_eq]
  generalize (lg_sl ([.ref v, .int p1, .ref v2, .int p3, .int p4]) ++ List.replicate (11 - (lg_sl ([.ref v, .int p1, .ref v2, .int p3, .int p4])).length) Slot.unset).toArray = ls at hl ⊢
  have hl : lv_has ls 11 [(0, .ref v), (1, .int p1), (2, .ref v2), (3, .int p3), (4, .int p4)] := hl
  have k0 : (0 : Int32).toInt = 0 := by decide
  refine w_gen (A := A) hP (fun H locs hP hS => ?_)
  have km1 : (-1 : Int32).toInt = -1 := by decide
  have k1 : (1 : Int32).toInt = 1 := by decide
  have lo_p1 := i32_lo p1
  have hi_p1 := i32_hi p1
  have lo_p3 := i32_lo p3
  have hi_p3 := i32_hi p3
  have lo_p4 := i32_lo p4
  have hi_p4 := i32_hi p4
  refine lv_aload_n hx hb d_JT_indexOf1_0 rfl (lv_at hl 2 rfl) ?_
  refine lv_iconst (v := 0) hx hb d_JT_indexOf1_1 (by decide) ?_
  have g2 : vp_in 0 b2.length := vp_in_iff.mpr ⟨by (first | (apply Int.le_antisymm <;> omega) | omega), by (first | (apply Int.le_antisymm <;> omega) | omega)⟩
  refine va_tb hx hb (hV1) hS g2 rfl d_JT_indexOf1_2 ?_
  refine lv_topi (fun x1 ex1 => ?_)
  refine lv_istore (lv' := [(5, .int x1), (0, .ref v), (1, .int p1), (2, .ref v2), (3, .int p3), (4, .int p4)]) hx hb d_JT_indexOf1_3 hl (by decide) rfl (fun ls hl => ?_)
  refine lv_iload_n hx hb d_JT_indexOf1_5 rfl (lv_at hl 2 rfl) ?_
  refine lv_iload_n hx hb d_JT_indexOf1_6 rfl (lv_at hl 4 rfl) ?_
  refine lv_isub hx hb d_JT_indexOf1_7 ?_
  refine lv_topi (fun x2 ex2 => ?_)
  have tx2 : x2.toInt = p1.toInt - p3.toInt := by have z := i32_sub ex2 (by (first | (apply Int.le_antisymm <;> omega) | omega)) (by (first | (apply Int.le_antisymm <;> omega) | omega)); first | exact z | (first | (apply Int.le_antisymm <;> omega) | omega)
  refine lv_istore (lv' := [(6, .int x2), (5, .int x1), (0, .ref v), (1, .int p1), (2, .ref v2), (3, .int p3), (4, .int p4)]) hx hb d_JT_indexOf1_8 hl (by decide) rfl (fun ls hl => ?_)
  refine lv_iload hx hb d_JT_indexOf1_10 (lv_at hl 6 rfl) ?_
  refine lv_istore (lv' := [(7, .int p4), (6, .int x2), (5, .int x1), (0, .ref v), (1, .int p1), (2, .ref v2), (3, .int p3), (4, .int p4)]) hx hb d_JT_indexOf1_12 hl (by decide) rfl (fun ls hl => ?_)
  refine w_loop (σ := Int32) (fun u H locs ls => match u with | j14_l7 => (0 ≤ j14_l7.toInt ∧ j14_l7.toInt ≤ (b.length : Int) + 1) ∧ va_P (dC, dI) cls [] H ∧ va_D A [] ∧ va_S A s.heap H locs ∧ lv_has ls 11 [(0, .ref v), (2, .ref v2), (3, .int p3), (5, .int x1), (6, .int x2), (7, .int j14_l7)]) (fun u => match u with | j14_l7 => ((b.length : Int) + 2 - j14_l7.toInt).toNat) ?_ p4 ⟨by (try dsimp only) <;> (first | (apply Int.le_antisymm <;> omega) | omega), hP, hD, hS, lv_sub hl [3, 5, 6, 2, 1, 0] rfl⟩
  intro N14 ih14 u H locs ls hN14 hI
  obtain ⟨j14_l7, rfl⟩ : ∃ z, z = u := ⟨_, rfl⟩
  obtain ⟨u1, hP, hD, hS, hl⟩ := hI
  have hN14 : ((b.length : Int) + 2 - j14_l7.toInt).toNat < N14 + 1 := hN14
  refine lv_iload hx hb d_JT_indexOf1_14 (lv_at hl 5 rfl) ?_
  refine lv_iload hx hb d_JT_indexOf1_16 (lv_at hl 4 rfl) ?_
  refine lv_icmp_gt (tgt := 119) hx hb d_JT_indexOf1_18 (by decide) (fun c18 => ?_) (fun c18 => ?_)
  · have q18 := ltI c18
    refine lv_iconst (v := (-1)) hx hb d_JT_indexOf1_119 (by decide) ?_
    have hP9 := hP.sb (wq := []) [] rfl
    have hD9 := hD.sb (wq := []) [] (by decide) rfl
    exact W.iret (v := ((-1))) hx hb hr (fun t ht hW => ⟨⟨(-1), (), rfl, (Or.inl (by decide)), va_P.he ht.symm hP9, va_K.moved hW.alike hK, hD9⟩, hS.F ht⟩) hS.2.2 d_JT_indexOf1_120
  · have q18 := nltI c18
    refine lv_aload_n hx hb d_JT_indexOf1_21 rfl (lv_at hl 0 rfl) ?_
    refine lv_iload hx hb d_JT_indexOf1_22 (lv_at hl 5 rfl) ?_
    have g24 : vp_in j14_l7 b.length := vp_in_iff.mpr ⟨by (first | (apply Int.le_antisymm <;> omega) | omega), by (first | (apply Int.le_antisymm <;> omega) | omega)⟩
    refine va_tb hx hb (hV0) hS g24 rfl d_JT_indexOf1_24 ?_
    refine lv_topi (fun x3 ex3 => ?_)
    refine lv_iload hx hb d_JT_indexOf1_25 (lv_at hl 3 rfl) ?_
    refine w_cut (pc2 := 52) (σ := Int32) (fun u H locs ls => match u with | j52_l7 => ((0 ≤ j52_l7.toInt ∧ j52_l7.toInt ≤ x2.toInt + 1) ∧ j14_l7.toInt ≤ j52_l7.toInt) ∧ (bx (j52_l7.toInt ≤ x2.toInt → b.getD j52_l7.toNatClampNeg 0 = b2.getD 0 0)) ∧ va_P (dC, dI) cls [] H ∧ va_D A [] ∧ va_S A s.heap H locs ∧ lv_has ls 11 [(0, .ref v), (2, .ref v2), (3, .int p3), (5, .int x1), (6, .int x2), (7, .int j52_l7)]) (fun u => match u with | j52_l7 => []) ?_ (fun jn52 => ?_)
    · intro u H locs ls hI
      obtain ⟨j52_l7, rfl⟩ : ∃ z, z = u := ⟨_, rfl⟩
      obtain ⟨y52, y53, hP, hD, hS, hl⟩ := hI
      refine lv_iload hx hb d_JT_indexOf1_52 (lv_at hl 5 rfl) ?_
      refine lv_iload hx hb d_JT_indexOf1_54 (lv_at hl 4 rfl) ?_
      refine w_cut (pc2 := 113) (σ := Unit) (fun u H locs ls => match u with | _ => va_P (dC, dI) cls [] H ∧ va_D A [] ∧ va_S A s.heap H locs ∧ lv_has ls 11 [(0, .ref v), (2, .ref v2), (3, .int p3), (5, .int x1), (6, .int x2), (7, .int j52_l7)]) (fun u => match u with | _ => []) ?_ (fun jn113 => ?_)
      · intro u H locs ls hI
        obtain ⟨hP, hD, hS, hl⟩ := hI
        obtain ⟨x4, ex4⟩ : ∃ z : Int32, z = j52_l7 + 1 := ⟨_, rfl⟩
        have tx4 : x4.toInt = j52_l7.toInt + 1 := by have z := i32_add ex4 (by (first | (apply Int.le_antisymm <;> omega) | omega)) (by (first | (apply Int.le_antisymm <;> omega) | omega)); first | exact z | (first | (apply Int.le_antisymm <;> omega) | omega)
        refine lv_iinc (v := x4) (lv' := [(7, .int x4), (0, .ref v), (2, .ref v2), (3, .int p3), (5, .int x1), (6, .int x2)]) hx hb d_JT_indexOf1_113 hl (k := 5) rfl (by rw [ex4]; rfl) (by decide) rfl (fun ls hl => ?_)
        refine lv_goto (tgt := 14) hx hb d_JT_indexOf1_116 (by decide) ?_
        exact ih14 x4 _ _ _ (by show ((b.length : Int) + 2 - x4.toInt).toNat < N14; (first | (apply Int.le_antisymm <;> omega) | omega)) ⟨by (try dsimp only) <;> (first | (apply Int.le_antisymm <;> omega) | omega), hP, hD, hS, lv_sub hl [1, 2, 3, 4, 5, 0] rfl⟩
      · skip
        refine lv_icmp_gt (tgt := 113) hx hb d_JT_indexOf1_56 (by decide) (fun c56 => ?_) (fun c56 => ?_)
        · have q56 := ltI c56
          exact jn113 () _ _ _ ⟨hP, hD, hS, lv_sub hl [0, 1, 2, 3, 4, 5] rfl⟩
        · have q56 := nltI c56
          refine lv_iload hx hb d_JT_indexOf1_59 (lv_at hl 5 rfl) ?_
          refine lv_iconst (v := 1) hx hb d_JT_indexOf1_61 (by decide) ?_
          refine lv_iadd hx hb d_JT_indexOf1_62 ?_
          refine lv_topi (fun x5 ex5 => ?_)
          have tx5 : x5.toInt = j52_l7.toInt + 1 := by have z := i32_add ex5 (by (first | (apply Int.le_antisymm <;> omega) | omega)) (by (first | (apply Int.le_antisymm <;> omega) | omega)); first | exact z | (first | (apply Int.le_antisymm <;> omega) | omega)
          refine lv_istore (lv' := [(8, .int x5), (0, .ref v), (2, .ref v2), (3, .int p3), (5, .int x1), (6, .int x2), (7, .int j52_l7)]) hx hb d_JT_indexOf1_63 hl (by decide) rfl (fun ls hl => ?_)
          refine lv_iload hx hb d_JT_indexOf1_65 (lv_at hl 0 rfl) ?_
          refine lv_iload_n hx hb d_JT_indexOf1_67 rfl (lv_at hl 3 rfl) ?_
          refine lv_iadd hx hb d_JT_indexOf1_68 ?_
          refine lv_topi (fun x6 ex6 => ?_)
          have tx6 : x6.toInt = x5.toInt + p3.toInt := by have z := i32_add ex6 (by (first | (apply Int.le_antisymm <;> omega) | omega)) (by (first | (apply Int.le_antisymm <;> omega) | omega)); first | exact z | (first | (apply Int.le_antisymm <;> omega) | omega)
          refine lv_iconst (v := 1) hx hb d_JT_indexOf1_69 (by decide) ?_
          refine lv_isub hx hb d_JT_indexOf1_70 ?_
          refine lv_topi (fun x7 ex7 => ?_)
          have tx7 : x7.toInt = x6.toInt - 1 := by have z := i32_sub ex7 (by (first | (apply Int.le_antisymm <;> omega) | omega)) (by (first | (apply Int.le_antisymm <;> omega) | omega)); first | exact z | (first | (apply Int.le_antisymm <;> omega) | omega)
          refine lv_istore (lv' := [(9, .int x7), (8, .int x5), (0, .ref v), (2, .ref v2), (3, .int p3), (5, .int x1), (6, .int x2), (7, .int j52_l7)]) hx hb d_JT_indexOf1_71 hl (by decide) rfl (fun ls hl => ?_)
          refine lv_iconst (v := 1) hx hb d_JT_indexOf1_73 (by decide) ?_
          refine lv_istore (lv' := [(10, .int 1), (9, .int x7), (8, .int x5), (0, .ref v), (2, .ref v2), (3, .int p3), (5, .int x1), (6, .int x2), (7, .int j52_l7)]) hx hb d_JT_indexOf1_74 hl (by decide) rfl (fun ls hl => ?_)
          refine w_loop (σ := Int32 × Int32) (fun u H locs ls => match u with | (j76_l8, j76_l10) => (1 ≤ j76_l10.toInt ∧ j76_l8.toInt = j52_l7.toInt + j76_l10.toInt ∧ j76_l10.toInt ≤ p3.toInt) ∧ (bx (∀ j : Nat, 1 ≤ j → (j : Int) < j76_l10.toInt → b.getD (j52_l7.toNatClampNeg + j) 0 = b2.getD j 0)) ∧ va_P (dC, dI) cls [] H ∧ va_D A [] ∧ va_S A s.heap H locs ∧ lv_has ls 11 [(0, .ref v), (2, .ref v2), (3, .int p3), (5, .int x1), (6, .int x2), (7, .int j52_l7), (8, .int j76_l8), (9, .int x7), (10, .int j76_l10)]) (fun u => match u with | (j76_l8, j76_l10) => ((b.length : Int) + 2 - j76_l8.toInt).toNat) ?_ (x5, 1) ⟨by (try dsimp only) <;> (first | (apply Int.le_antisymm <;> omega) | omega), (fun j h1 h2 => absurd h2 (by rw [show (1 : Int32).toInt = 1 from by decide]; (first | (apply Int.le_antisymm <;> omega) | omega))), hP, hD, hS, lv_sub hl [3, 4, 5, 6, 7, 8, 2, 1, 0] rfl⟩
          intro N76 ih76 u H locs ls hN76 hI
          obtain ⟨j76_l8, j76_l10⟩ := u
          obtain ⟨w1, w2, hP, hD, hS, hl⟩ := hI
          have hN76 : ((b.length : Int) + 2 - j76_l8.toInt).toNat < N76 + 1 := hN76
          refine lv_iload hx hb d_JT_indexOf1_76 (lv_at hl 6 rfl) ?_
          refine lv_iload hx hb d_JT_indexOf1_78 (lv_at hl 7 rfl) ?_
          refine w_cut (pc2 := 103) (σ := Unit) (fun u H locs ls => match u with | _ => va_P (dC, dI) cls [] H ∧ va_D A [] ∧ va_S A s.heap H locs ∧ lv_has ls 11 [(0, .ref v), (2, .ref v2), (3, .int p3), (5, .int x1), (6, .int x2), (7, .int j52_l7), (8, .int j76_l8), (9, .int x7)]) (fun u => match u with | _ => []) ?_ (fun jn103 => ?_)
          · intro u H locs ls hI
            obtain ⟨hP, hD, hS, hl⟩ := hI
            refine lv_iload hx hb d_JT_indexOf1_103 (lv_at hl 6 rfl) ?_
            refine lv_iload hx hb d_JT_indexOf1_105 (lv_at hl 7 rfl) ?_
            refine lv_icmp_ne (tgt := 113) hx hb d_JT_indexOf1_107 (by decide) (fun c107 => ?_) (fun c107 => ?_)
            · have q107 := neI c107
              exact jn113 () _ _ _ ⟨hP, hD, hS, lv_sub hl [0, 1, 2, 3, 4, 5] rfl⟩
            · have q107 := eqI c107
              refine lv_iload hx hb d_JT_indexOf1_110 (lv_at hl 5 rfl) ?_
              have hP9 := hP.sb (wq := []) [] rfl
              have hD9 := hD.sb (wq := []) [] (by decide) rfl
              exact W.iret (v := j52_l7) hx hb hr (fun t ht hW => ⟨⟨j52_l7, (), rfl, (Or.inr ⟨by (first | (apply Int.le_antisymm <;> omega) | omega), by (first | (apply Int.le_antisymm <;> omega) | omega), fun j hj => by have z7 := i32_clamp (x := j52_l7) (by (first | (apply Int.le_antisymm <;> omega) | omega)); rw [show j52_l7.toInt.toNat = j52_l7.toNatClampNeg from by (first | (apply Int.le_antisymm <;> omega) | omega)]; by_cases q : j = 0; (rw [q, Nat.add_zero]; exact y53.out (by (first | (apply Int.le_antisymm <;> omega) | omega))); (exact w2.out j (by (first | (apply Int.le_antisymm <;> omega) | omega)) (by (first | (apply Int.le_antisymm <;> omega) | omega)))⟩), va_P.he ht.symm hP9, va_K.moved hW.alike hK, hD9⟩, hS.F ht⟩) hS.2.2 d_JT_indexOf1_112
          · skip
            refine lv_icmp_ge (tgt := 103) hx hb d_JT_indexOf1_80 (by decide) (fun c80 => ?_) (fun c80 => ?_)
            · have q80 := leI c80
              exact jn103 () _ _ _ ⟨hP, hD, hS, lv_sub hl [0, 1, 2, 3, 4, 5, 6, 7] rfl⟩
            · have q80 := nleI c80
              refine lv_aload_n hx hb d_JT_indexOf1_83 rfl (lv_at hl 0 rfl) ?_
              refine lv_iload hx hb d_JT_indexOf1_84 (lv_at hl 6 rfl) ?_
              have g86 : vp_in j76_l8 b.length := vp_in_iff.mpr ⟨by (first | (apply Int.le_antisymm <;> omega) | omega), by (first | (apply Int.le_antisymm <;> omega) | omega)⟩
              refine va_tb hx hb (hV0) hS g86 rfl d_JT_indexOf1_86 ?_
              refine lv_topi (fun x8 ex8 => ?_)
              refine lv_aload_n hx hb d_JT_indexOf1_87 rfl (lv_at hl 1 rfl) ?_
              refine lv_iload hx hb d_JT_indexOf1_88 (lv_at hl 8 rfl) ?_
              have g90 : vp_in j76_l10 b2.length := vp_in_iff.mpr ⟨by (first | (apply Int.le_antisymm <;> omega) | omega), by (first | (apply Int.le_antisymm <;> omega) | omega)⟩
              refine va_tb hx hb (hV1) hS g90 rfl d_JT_indexOf1_90 ?_
              refine lv_topi (fun x9 ex9 => ?_)
              refine lv_icmp_ne (tgt := 103) hx hb d_JT_indexOf1_91 (by decide) (fun c91 => ?_) (fun c91 => ?_)
              · have q91 := neI c91
                exact jn103 () _ _ _ ⟨hP, hD, hS, lv_sub hl [0, 1, 2, 3, 4, 5, 6, 7] rfl⟩
              · have q91 := eqI c91
                obtain ⟨x10, ex10⟩ : ∃ z : Int32, z = j76_l8 + 1 := ⟨_, rfl⟩
                have tx10 : x10.toInt = j76_l8.toInt + 1 := by have z := i32_add ex10 (by (first | (apply Int.le_antisymm <;> omega) | omega)) (by (first | (apply Int.le_antisymm <;> omega) | omega)); first | exact z | (first | (apply Int.le_antisymm <;> omega) | omega)
                refine lv_iinc (v := x10) (lv' := [(8, .int x10), (0, .ref v), (2, .ref v2), (3, .int p3), (5, .int x1), (6, .int x2), (7, .int j52_l7), (9, .int x7), (10, .int j76_l10)]) hx hb d_JT_indexOf1_94 hl (k := 6) rfl (by rw [ex10]; rfl) (by decide) rfl (fun ls hl => ?_)
                obtain ⟨x11, ex11⟩ : ∃ z : Int32, z = j76_l10 + 1 := ⟨_, rfl⟩
                have tx11 : x11.toInt = j76_l10.toInt + 1 := by have z := i32_add ex11 (by (first | (apply Int.le_antisymm <;> omega) | omega)) (by (first | (apply Int.le_antisymm <;> omega) | omega)); first | exact z | (first | (apply Int.le_antisymm <;> omega) | omega)
                refine lv_iinc (v := x11) (lv' := [(10, .int x11), (8, .int x10), (0, .ref v), (2, .ref v2), (3, .int p3), (5, .int x1), (6, .int x2), (7, .int j52_l7), (9, .int x7)]) hx hb d_JT_indexOf1_97 hl (k := 8) rfl (by rw [ex11]; rfl) (by decide) rfl (fun ls hl => ?_)
                refine lv_goto (tgt := 76) hx hb d_JT_indexOf1_100 (by decide) ?_
                exact ih76 (x10, x11) _ _ _ (by show ((b.length : Int) + 2 - x10.toInt).toNat < N76; (first | (apply Int.le_antisymm <;> omega) | omega)) ⟨by (try dsimp only) <;> (first | (apply Int.le_antisymm <;> omega) | omega), (fun j h1 h2 => by have z9 := i32_clamp (x := j76_l10) (by (first | (apply Int.le_antisymm <;> omega) | omega)); have z8 := i32_clamp (x := j76_l8) (by (first | (apply Int.le_antisymm <;> omega) | omega)); have z7 := i32_clamp (x := j52_l7) (by (first | (apply Int.le_antisymm <;> omega) | omega)); by_cases q : (j : Int) < j76_l10.toInt; (exact w2.out j h1 q); (rw [show j52_l7.toNatClampNeg + j = j76_l8.toNatClampNeg from by (first | (apply Int.le_antisymm <;> omega) | omega), show j = j76_l10.toNatClampNeg from by (first | (apply Int.le_antisymm <;> omega) | omega), ← ex8, ← ex9]; exact Int32.toInt_inj.mp (by (first | (apply Int.le_antisymm <;> omega) | omega)))), hP, hD, hS, lv_sub hl [2, 3, 4, 5, 6, 7, 1, 8, 0] rfl⟩
    · skip
      refine lv_icmp_eq (tgt := 52) hx hb d_JT_indexOf1_27 (by decide) (fun c27 => ?_) (fun c27 => ?_)
      · have q27 := eqI c27
        exact jn52 j14_l7 _ _ _ ⟨by (try dsimp only) <;> (first | (apply Int.le_antisymm <;> omega) | omega), (fun _ => by rw [← ex3, show b2.getD 0 0 = x1 from by rw [ex1]; rfl]; exact Int32.toInt_inj.mp (by (first | (apply Int.le_antisymm <;> omega) | omega))), hP, hD, hS, lv_sub hl [0, 1, 2, 3, 4, 5] rfl⟩
      · have q27 := neI c27
        refine w_loop (σ := Int32) (fun u H locs ls => match u with | j30_l7 => (0 ≤ j30_l7.toInt ∧ j30_l7.toInt ≤ x2.toInt ∧ j14_l7.toInt ≤ j30_l7.toInt) ∧ va_P (dC, dI) cls [] H ∧ va_D A [] ∧ va_S A s.heap H locs ∧ lv_has ls 11 [(0, .ref v), (2, .ref v2), (3, .int p3), (5, .int x1), (6, .int x2), (7, .int j30_l7)]) (fun u => match u with | j30_l7 => ((b.length : Int) + 2 - j30_l7.toInt).toNat) ?_ j14_l7 ⟨by (try dsimp only) <;> (first | (apply Int.le_antisymm <;> omega) | omega), hP, hD, hS, lv_sub hl [0, 1, 2, 3, 4, 5] rfl⟩
        intro N30 ih30 u H locs ls hN30 hI
        obtain ⟨j30_l7, rfl⟩ : ∃ z, z = u := ⟨_, rfl⟩
        obtain ⟨u3, hP, hD, hS, hl⟩ := hI
        have hN30 : ((b.length : Int) + 2 - j30_l7.toInt).toNat < N30 + 1 := hN30
        obtain ⟨x12, ex12⟩ : ∃ z : Int32, z = j30_l7 + 1 := ⟨_, rfl⟩
        have tx12 : x12.toInt = j30_l7.toInt + 1 := by have z := i32_add ex12 (by (first | (apply Int.le_antisymm <;> omega) | omega)) (by (first | (apply Int.le_antisymm <;> omega) | omega)); first | exact z | (first | (apply Int.le_antisymm <;> omega) | omega)
        refine lv_iinc (v := x12) (lv' := [(7, .int x12), (0, .ref v), (2, .ref v2), (3, .int p3), (5, .int x1), (6, .int x2)]) hx hb d_JT_indexOf1_30 hl (k := 5) rfl (by rw [ex12]; rfl) (by decide) rfl (fun ls hl => ?_)
        refine lv_iload hx hb d_JT_indexOf1_33 (lv_at hl 0 rfl) ?_
        refine lv_iload hx hb d_JT_indexOf1_35 (lv_at hl 5 rfl) ?_
        refine lv_icmp_gt (tgt := 52) hx hb d_JT_indexOf1_37 (by decide) (fun c37 => ?_) (fun c37 => ?_)
        · have q37 := ltI c37
          exact jn52 x12 _ _ _ ⟨by (try dsimp only) <;> (first | (apply Int.le_antisymm <;> omega) | omega), (fun z => absurd z (by (first | (apply Int.le_antisymm <;> omega) | omega))), hP, hD, hS, lv_sub hl [1, 2, 3, 4, 5, 0] rfl⟩
        · have q37 := nltI c37
          refine lv_aload_n hx hb d_JT_indexOf1_40 rfl (lv_at hl 1 rfl) ?_
          refine lv_iload hx hb d_JT_indexOf1_41 (lv_at hl 0 rfl) ?_
          have g43 : vp_in x12 b.length := vp_in_iff.mpr ⟨by (first | (apply Int.le_antisymm <;> omega) | omega), by (first | (apply Int.le_antisymm <;> omega) | omega)⟩
          refine va_tb hx hb (hV0) hS g43 rfl d_JT_indexOf1_43 ?_
          refine lv_topi (fun x13 ex13 => ?_)
          refine lv_iload hx hb d_JT_indexOf1_44 (lv_at hl 4 rfl) ?_
          refine lv_icmp_eq (tgt := 52) hx hb d_JT_indexOf1_46 (by decide) (fun c46 => ?_) (fun c46 => ?_)
          · have q46 := eqI c46
            exact jn52 x12 _ _ _ ⟨by (try dsimp only) <;> (first | (apply Int.le_antisymm <;> omega) | omega), (fun _ => by rw [← ex13, show b2.getD 0 0 = x1 from by rw [ex1]; rfl]; exact Int32.toInt_inj.mp (by (first | (apply Int.le_antisymm <;> omega) | omega))), hP, hD, hS, lv_sub hl [1, 2, 3, 4, 5, 0] rfl⟩
          · have q46 := neI c46
            refine lv_goto (tgt := 30) hx hb d_JT_indexOf1_49 (by decide) ?_
            exact ih30 x12 _ _ _ (by show ((b.length : Int) + 2 - x12.toInt).toNat < N30; (first | (apply Int.le_antisymm <;> omega) | omega)) ⟨by (try dsimp only) <;> (first | (apply Int.le_antisymm <;> omega) | omega), hP, hD, hS, lv_sub hl [1, 2, 3, 4, 5, 0] rfl⟩
abbrev b_JT_indexOf2 : ByteArray := prog_35_method_24_code
def y_JT_indexOf2 : MethodName := ⟨R_JT, "indexOf", "([B[B)I"⟩
abbrev w_JT_indexOf2 : List Cond := .code y_JT_indexOf2 b_JT_indexOf2 2 (Option.some .int) :: lw_g
theorem kC_JT_indexOf2 : Cond.code y_JT_indexOf2 b_JT_indexOf2 2 (Option.some .int) ∈ lw_g := in_c10 232 rfl rfl
theorem d_JT_indexOf2_0 : decode b_JT_indexOf2 0 = .ok (.aload_n 1, 1) := bz_c43 (by decide +kernel)
theorem d_JT_indexOf2_1 : decode b_JT_indexOf2 1 = .ok (.arraylength, 1) := bz_c190 (by decide +kernel)
theorem d_JT_indexOf2_2 : decode b_JT_indexOf2 2 = .ok (.ifCond .ne 5, 3) := bz_c154 (by decide +kernel)
theorem d_JT_indexOf2_5 : decode b_JT_indexOf2 5 = .ok (.iconst 0, 1) := bz_c3 (by decide +kernel)
theorem d_JT_indexOf2_6 : decode b_JT_indexOf2 6 = .ok (.ireturn, 1) := bz_c172 (by decide +kernel)
theorem d_JT_indexOf2_7 : decode b_JT_indexOf2 7 = .ok (.aload_n 0, 1) := bz_c42 (by decide +kernel)
theorem d_JT_indexOf2_8 : decode b_JT_indexOf2 8 = .ok (.arraylength, 1) := bz_c190 (by decide +kernel)
theorem d_JT_indexOf2_9 : decode b_JT_indexOf2 9 = .ok (.ifCond .ne 5, 3) := bz_c154 (by decide +kernel)
theorem d_JT_indexOf2_12 : decode b_JT_indexOf2 12 = .ok (.iconst (-1), 1) := bz_c2 (by decide +kernel)
theorem d_JT_indexOf2_13 : decode b_JT_indexOf2 13 = .ok (.ireturn, 1) := bz_c172 (by decide +kernel)
theorem d_JT_indexOf2_14 : decode b_JT_indexOf2 14 = .ok (.aload_n 0, 1) := bz_c42 (by decide +kernel)
theorem d_JT_indexOf2_15 : decode b_JT_indexOf2 15 = .ok (.aload_n 0, 1) := bz_c42 (by decide +kernel)
theorem d_JT_indexOf2_16 : decode b_JT_indexOf2 16 = .ok (.arraylength, 1) := bz_c190 (by decide +kernel)
theorem d_JT_indexOf2_17 : decode b_JT_indexOf2 17 = .ok (.aload_n 1, 1) := bz_c43 (by decide +kernel)
theorem d_JT_indexOf2_18 : decode b_JT_indexOf2 18 = .ok (.aload_n 1, 1) := bz_c43 (by decide +kernel)
theorem d_JT_indexOf2_19 : decode b_JT_indexOf2 19 = .ok (.arraylength, 1) := bz_c190 (by decide +kernel)
theorem d_JT_indexOf2_20 : decode b_JT_indexOf2 20 = .ok (.iconst 0, 1) := bz_c3 (by decide +kernel)
theorem d_JT_indexOf2_21 : decode b_JT_indexOf2 21 = .ok (.invokestatic 99, 3) := bz_c184 (by decide +kernel)
theorem d_JT_indexOf2_24 : decode b_JT_indexOf2 24 = .ok (.ireturn, 1) := bz_c172 (by decide +kernel)
theorem kM_JT_99 : Cond.methodLink R_JT 99 y_JT_indexOf1 ∈ lw_g := in_c10 233 rfl rfl
theorem kT_JT_indexOf1 : Cond.static y_JT_indexOf1 ∈ lw_g := in_c10 234 rfl rfl
abbrev at_JT_indexOf2 (dC : Nat → ClassId) (dI : Nat → Nat → Nat)  (A : Nat → Prop) (u : Unit) (t : State) : Prop := match u with | _ => va_P (dC, dI) cls [] t.heap ∧ va_K (dC, dI) cls [] t ∧ va_D A []
set_option maxHeartbeats 4000000 in
set_option maxRecDepth 100000 in
theorem c_JT_indexOf2 (l : Launch) (dC : Nat → ClassId) (dI : Nat → Nat → Nat) (sz : Nat) (v : Nat) (b : List Int32) (v2 : Nat) (b2 : List Int32)      (hbl : (b.length : Int) < 2147483648) (hbl2 : (b2.length : Int) < 2147483648) (hp : (b.length : Int) < 1000000 ∧ (b2.length : Int) < 1000000) : Met l y_JT_indexOf2 w_JT_indexOf2 ({ frames := 1, cells := 0, slots := 0, locals := 30 }) (va_Pc [.ref v, .ref v2] (fun U => U.heap.size = sz ∧ va_P (dC, dI) cls [] U.heap ∧ va_K (dC, dI) cls [] U ∧ va_D (fun _ => True) [] ∧ va_T .byte v b.length (fun j => .int (b.getD j 0)) (va_A [] sz) U U.heap ∧ va_T .byte v2 b2.length (fun j => .int (b2.getD j 0)) (va_A [] sz) U U.heap)) (va_Qi (fun (r : Int32) (u : Unit) => match u with | _ => (r.toInt = -1 ∨ sub9 b b2 r.toInt)) (at_JT_indexOf2 dC dI  (va_A [] sz)) (va_A [] sz)) 0 0 (va_A [] sz) := by
  refine Met.ofW (cc := b_JT_indexOf2) (maxL := 2) (ret := (Option.some .int)) (by decide) rfl ?_
  intro p e s m args below meth c s₁ B hml hv
  obtain ⟨rfl, hsz, hP, hK, hD0, hV0, hV1⟩ := hv
  have hx := B.exec
  have hb := B.bytes
  have hr := B.returns
  have hts0 := atoms_spec (ws := w_JT_indexOf2) B.pre
  have hts : ∀ w ∈ lw_g, w.before _ s = true := fun w h => hts0 w (List.mem_cons_of_mem _ h)
  have hown : s.vm.findClass R_JT = some m.cls := findClass_of_methodNamed B.named
  have hlocks := B.notSynchronized
  clear hts0
  subst hsz
  have hD := hD0.self (sz := s.heap.size)
  generalize hAe : va_A [] s.heap.size = A at hD hV0 hV1 ⊢
  have hA : ∀ q : Nat, s.heap.size ≤ q → A q := fun q h => by rw [← hAe]; exact Or.inr h
  clear hAe
  have hP : va_P (dC, dI) cls [] s.heap := hP
  have hl := lv_entry ([.ref v, .ref v2]) (n := 2) (Nat.le_of_ble_eq_true rfl)
  rw [lg_entry_eq]
  generalize (lg_sl ([.ref v, .ref v2]) ++ List.replicate (2 - (lg_sl ([.ref v, .ref v2])).length) Slot.unset).toArray = ls at hl ⊢
  have hl : lv_has ls 2 [(0, .ref v), (1, .ref v2)] := hl
  have k0 : (0 : Int32).toInt = 0 := by decide
  refine w_gen (A := A) hP (fun H locs hP hS => ?_)
  have km1 : (-1 : Int32).toInt = -1 := by decide
  refine lv_aload_n hx hb d_JT_indexOf2_0 rfl (lv_at hl 1 rfl) ?_
  refine va_tlen hx hb (hV1) hS rfl d_JT_indexOf2_1 ?_
  refine lv_topi (fun x1 ex1 => ?_)
  have tx1 : x1.toInt = b2.length := by rw [ex1]; exact i32_len (by (first | (apply Int.le_antisymm <;> omega) | omega))
  refine lv_if_ne (tgt := 7) hx hb d_JT_indexOf2_2 (by decide) (fun c2 => ?_) (fun c2 => ?_)
  · have q2 := neI c2
    refine lv_aload_n hx hb d_JT_indexOf2_7 rfl (lv_at hl 0 rfl) ?_
    refine va_tlen hx hb (hV0) hS rfl d_JT_indexOf2_8 ?_
    refine lv_topi (fun x2 ex2 => ?_)
    have tx2 : x2.toInt = b.length := by rw [ex2]; exact i32_len (by (first | (apply Int.le_antisymm <;> omega) | omega))
    refine lv_if_ne (tgt := 14) hx hb d_JT_indexOf2_9 (by decide) (fun c9 => ?_) (fun c9 => ?_)
    · have q9 := neI c9
      refine lv_aload_n hx hb d_JT_indexOf2_14 rfl (lv_at hl 0 rfl) ?_
      refine lv_aload_n hx hb d_JT_indexOf2_15 rfl (lv_at hl 0 rfl) ?_
      refine va_tlen hx hb (hV0) hS rfl d_JT_indexOf2_16 ?_
      refine lv_topi (fun x3 ex3 => ?_)
      have tx3 : x3.toInt = b.length := by rw [ex3]; exact i32_len (by (first | (apply Int.le_antisymm <;> omega) | omega))
      refine lv_aload_n hx hb d_JT_indexOf2_17 rfl (lv_at hl 1 rfl) ?_
      refine lv_aload_n hx hb d_JT_indexOf2_18 rfl (lv_at hl 1 rfl) ?_
      refine va_tlen hx hb (hV1) hS rfl d_JT_indexOf2_19 ?_
      refine lv_topi (fun x4 ex4 => ?_)
      have tx4 : x4.toInt = b2.length := by rw [ex4]; exact i32_len (by (first | (apply Int.le_antisymm <;> omega) | omega))
      refine lv_iconst (v := 0) hx hb d_JT_indexOf2_20 (by decide) ?_
      have hPc := hP.sb (wq := []) [] rfl
      have hDc := hD.sb (wq := []) [] (by decide) rfl
      have hKc := hK.sb (tyq := []) [] rfl
      have hFc := va_free (wc := []) hD hS hA [] rfl
      refine va_calli (va_runS (As := [.ref v, .int x3, .ref v2, .int x4, .int 0]) (rest := []) ⟨hx, hb, hml, hown, hts⟩ (c_JT_indexOf1 l dC dI H.size v b v2 b2 x3 x4 0 (hbl) (hbl2) (by (first | (apply Int.le_antisymm <;> omega) | omega))) ⟨callB_of 5 hts (gW kC_JT_indexOf1) rfl rfl rfl (hts _ kI_JT) (hts _ kM_JT_99) (by decide +kernel) ⟨Nat.le_of_ble_eq_true rfl, Nat.le_of_ble_eq_true rfl⟩, hts _ kT_JT_indexOf1⟩ ⟨fun a U g mk z => by obtain ⟨z0, z1, zP, zK, zD, zV0, zV1⟩ := z; exact ⟨z0, z1, zP, va_K.moved (u := U) (U := U.calling g mk a) (Vm.Alike.refl U.vm) zK, zD, va_T.moved (u := U) (U := U.calling g mk a) (Vm.Alike.refl U.vm) zV0, va_T.moved (u := U) (U := U.calling g mk a) (Vm.Alike.refl U.vm) zV1⟩, fun U hU hW => ⟨rfl, by rw [hU], va_P.he hU.symm hPc, va_K.moved hW.alike hKc, hDc.weaken (fun _ _ _ _ => trivial), vt_call (hV0) hS hFc hW hU, vt_call (hV1) hS hFc hW hU⟩⟩ rfl rfl hl.1 rfl (lv_room (Nat.le_of_ble_eq_true rfl)) d_JT_indexOf2_21 ⟨(Nat.zero_le _), (Nat.zero_le _)⟩) hS (fun q _ h => hFc q h) hFc (fun r5 u t H1 locs ht hvm hw hB hz1 hk1 hS => ?_)
      try dsimp only at hw
      have xr5 := hw
      try clear hw
      obtain ⟨hP1, hK1, hD1⟩ := hB
      replace hP1 := va_P.he ht hP1
      obtain ⟨hP, hD⟩ := va_join (wr := []) (w1 := []) hP hD [] [] rfl rfl (by decide) (by decide) hk1 hFc hP1 hD1
      clear hPc hDc hKc hFc hz1 hk1 hP1 hK1 hD1
      rename Heap => H
      have hP : va_P (dC, dI) cls [] H := hP
      have hD : va_D A [] := hD
      have hP9 := hP.sb (wq := []) [] rfl
      have hD9 := hD.sb (wq := []) [] (by decide) rfl
      exact W.iret (v := r5) hx hb hr (fun t ht hW => ⟨⟨r5, (), rfl, (xr5), va_P.he ht.symm hP9, va_K.moved hW.alike hK, hD9⟩, hS.F ht⟩) hS.2.2 d_JT_indexOf2_24
    · have q9 := eqI c9
      refine lv_iconst (v := (-1)) hx hb d_JT_indexOf2_12 (by decide) ?_
      have hP9 := hP.sb (wq := []) [] rfl
      have hD9 := hD.sb (wq := []) [] (by decide) rfl
      exact W.iret (v := ((-1))) hx hb hr (fun t ht hW => ⟨⟨(-1), (), rfl, (Or.inl (by decide)), va_P.he ht.symm hP9, va_K.moved hW.alike hK, hD9⟩, hS.F ht⟩) hS.2.2 d_JT_indexOf2_13
  · have q2 := eqI c2
    refine lv_iconst (v := 0) hx hb d_JT_indexOf2_5 (by decide) ?_
    have hP9 := hP.sb (wq := []) [] rfl
    have hD9 := hD.sb (wq := []) [] (by decide) rfl
    exact W.iret (v := 0) hx hb hr (fun t ht hW => ⟨⟨0, (), rfl, (Or.inr ⟨by decide, by rw [k0]; (first | (apply Int.le_antisymm <;> omega) | omega), fun j hj => absurd hj (by (first | (apply Int.le_antisymm <;> omega) | omega))⟩), va_P.he ht.symm hP9, va_K.moved hW.alike hK, hD9⟩, hS.F ht⟩) hS.2.2 d_JT_indexOf2_6
end q_m62
section q_m63
/-! the reference: what it makes lies in the pool: functions that are alike -/
theorem pl_ix {X : va_W} {L : List Nat} {f : Nat → va_E} {y : Nat} {e : va_E} (hy : y ∈ L) (he : f y = e) : ∃ q : Nat, (X ++ va_pl L f)[q]? = some (y, e) := by
  obtain ⟨k, hk⟩ := va_pl_get (X := X) (f := f) hy
  exact ⟨k, by rw [hk, he]⟩
/-- an array of objects is read -/
theorem vq_aldo {p : Program} {l : Launch} {e : Env} {R : Room} {s : State} {m : MethodId} {args : Array Value} {below : List Frame} {meth : Method} {c : Code} {H : Heap} {locs : List Loc} {cells slots : Nat} {Q : State → Prop} {cc : ByteArray} {pc : Nat} {ls : Array Slot} {rest : List Value} {a : Nat} {D : va_G} {cl : List vw_C} {tys : List (ClassId × FieldType)} {ws : va_W} {C : String} {y : Nat}
    (hexec : p.tables.exec = Jvm.exec) (hb : c.code = cc) (hK : va_K D cl tys s) (hP : va_P D cl ws H) (q0 t0 : Nat) {cA : ClassId} {n : Nat} {f : Nat → Option Nat} (ha : ws[q0]? = some (a, .inl (cA, n, .inr (.inr (.inr (.inr f)))))) (ht : tys[t0]? = some (cA, .object C)) {i : Int32} (hin : vp_in i n) (hy : f i.toNatClampNeg = some y) (hdg : decode cc pc = .ok (.aaload, 1))
    (kk : W p l e R s m args below meth c H locs cells slots Q (F0 m (pc + 1) ls (.ref y :: rest))) : W p l e R s m args below meth c H locs cells slots Q (F0 m pc ls (.int i :: .ref a :: rest)) := by
  have hlt : i.toNatClampNeg < n := Nat.not_le.mp fun q => hin (Or.inr q)
  exact W.aald (v := .ref y) (ty := .object C) hexec hb (hP q0 _ ha) ((hK.2 t0 _ ht).1 n (fun j => va_rf (f j))) rfl (fun q => by cases q) (by show ¬ (i < 0 ∨ (arrV _ _ _).slots.size ≤ _); rw [arrV_size]; exact hin) (by show (arrV _ _ _).slots[_]? = _; rw [arrV_read _ _ hlt, hy]; rfl) rfl rfl hdg kk
theorem ofNat_t {n : Nat} (h : n < 2147483648) : (Int32.ofNat n).toInt = (n : Int) := by
  have e : Int32.ofNat n = nI n := rfl
  rw [e, nI_toInt (by (first | (apply Int.le_antisymm <;> omega) | omega))]
/-- a function stands in the pool -/
def fnP (L : List Nat) (f : Nat → va_E) (cr : ClassId) (a : Nat) (nm : Value) (pl : Int32) (nms pls tys : Nat) (ps lc rs : Int32) (bd : Value) (sg : Int32) (T : Nat → Int32) : Prop :=
  a ∈ L ∧ f a = .inr (14, [nm, .int pl, .ref nms, .ref pls, .ref tys, .int ps, .int lc, .int rs, bd, .int sg]) ∧ tys ∈ L ∧ f tys = .inl (cr, 51, .inl T)
abbrev b_MD_alike : ByteArray := prog_15_method_45_code
def y_MD_alike : MethodName := ⟨R_MD, "alike", "(LWaferForgeModel$Fun;LWaferForgeModel$Fun;)Z"⟩
abbrev w_MD_alike : List Cond := .code y_MD_alike b_MD_alike 3 (Option.some .boolean) :: lw_g
theorem kC_MD_alike : Cond.code y_MD_alike b_MD_alike 3 (Option.some .boolean) ∈ lw_g := in_c12 112 rfl rfl
theorem d_MD_alike_0 : decode b_MD_alike 0 = .ok (.aload_n 0, 1) := bz_c42 (by decide +kernel)
theorem d_MD_alike_1 : decode b_MD_alike 1 = .ok (.getfield 208, 3) := bz_c180 (by decide +kernel)
theorem d_MD_alike_4 : decode b_MD_alike 4 = .ok (.aload_n 1, 1) := bz_c43 (by decide +kernel)
theorem d_MD_alike_5 : decode b_MD_alike 5 = .ok (.getfield 208, 3) := bz_c180 (by decide +kernel)
theorem d_MD_alike_8 : decode b_MD_alike 8 = .ok (.if_icmp .ne 14, 3) := bz_c160 (by decide +kernel)
theorem d_MD_alike_11 : decode b_MD_alike 11 = .ok (.aload_n 0, 1) := bz_c42 (by decide +kernel)
theorem d_MD_alike_12 : decode b_MD_alike 12 = .ok (.getfield 222, 3) := bz_c180 (by decide +kernel)
theorem d_MD_alike_15 : decode b_MD_alike 15 = .ok (.aload_n 1, 1) := bz_c43 (by decide +kernel)
theorem d_MD_alike_16 : decode b_MD_alike 16 = .ok (.getfield 222, 3) := bz_c180 (by decide +kernel)
theorem d_MD_alike_19 : decode b_MD_alike 19 = .ok (.if_icmp .eq 5, 3) := bz_c159 (by decide +kernel)
theorem d_MD_alike_22 : decode b_MD_alike 22 = .ok (.iconst 0, 1) := bz_c3 (by decide +kernel)
theorem d_MD_alike_23 : decode b_MD_alike 23 = .ok (.ireturn, 1) := bz_c172 (by decide +kernel)
theorem d_MD_alike_24 : decode b_MD_alike 24 = .ok (.iconst 0, 1) := bz_c3 (by decide +kernel)
theorem d_MD_alike_25 : decode b_MD_alike 25 = .ok (.istore_n 2, 1) := bz_c61 (by decide +kernel)
theorem d_MD_alike_26 : decode b_MD_alike 26 = .ok (.iload_n 2, 1) := bz_c28 (by decide +kernel)
theorem d_MD_alike_27 : decode b_MD_alike 27 = .ok (.aload_n 0, 1) := bz_c42 (by decide +kernel)
theorem d_MD_alike_28 : decode b_MD_alike 28 = .ok (.getfield 208, 3) := bz_c180 (by decide +kernel)
theorem d_MD_alike_31 : decode b_MD_alike 31 = .ok (.if_icmp .ge 26, 3) := bz_c162 (by decide +kernel)
theorem d_MD_alike_34 : decode b_MD_alike 34 = .ok (.aload_n 0, 1) := bz_c42 (by decide +kernel)
theorem d_MD_alike_35 : decode b_MD_alike 35 = .ok (.getfield 217, 3) := bz_c180 (by decide +kernel)
theorem d_MD_alike_38 : decode b_MD_alike 38 = .ok (.iload_n 2, 1) := bz_c28 (by decide +kernel)
theorem d_MD_alike_39 : decode b_MD_alike 39 = .ok (.iaload, 1) := bz_c46 (by decide +kernel)
theorem d_MD_alike_40 : decode b_MD_alike 40 = .ok (.aload_n 1, 1) := bz_c43 (by decide +kernel)
theorem d_MD_alike_41 : decode b_MD_alike 41 = .ok (.getfield 217, 3) := bz_c180 (by decide +kernel)
theorem d_MD_alike_44 : decode b_MD_alike 44 = .ok (.iload_n 2, 1) := bz_c28 (by decide +kernel)
theorem d_MD_alike_45 : decode b_MD_alike 45 = .ok (.iaload, 1) := bz_c46 (by decide +kernel)
theorem d_MD_alike_46 : decode b_MD_alike 46 = .ok (.if_icmp .eq 5, 3) := bz_c159 (by decide +kernel)
theorem d_MD_alike_49 : decode b_MD_alike 49 = .ok (.iconst 0, 1) := bz_c3 (by decide +kernel)
theorem d_MD_alike_50 : decode b_MD_alike 50 = .ok (.ireturn, 1) := bz_c172 (by decide +kernel)
theorem d_MD_alike_51 : decode b_MD_alike 51 = .ok (.iinc 2 1, 3) := by decide +kernel
theorem d_MD_alike_54 : decode b_MD_alike 54 = .ok (.goto (-28), 3) := bz_c167 (by decide +kernel)
theorem d_MD_alike_57 : decode b_MD_alike 57 = .ok (.iconst 1, 1) := bz_c4 (by decide +kernel)
theorem d_MD_alike_58 : decode b_MD_alike 58 = .ok (.ireturn, 1) := bz_c172 (by decide +kernel)
abbrev at_MD_alike (dC : Nat → ClassId) (dI : Nat → Nat → Nat) (cr : ClassId) (LP : List Nat) (fP : Nat → va_E) (A : Nat → Prop) (u : Unit) (t : State) : Prop := match u with | _ => va_P (dC, dI) cls2 ([] ++ va_pl LP fP) t.heap ∧ va_K (dC, dI) cls2 [(cr, .int)] t ∧ va_D A ([] ++ va_pl LP fP)
set_option maxHeartbeats 4000000 in
set_option maxRecDepth 100000 in
theorem c_MD_alike (l : Launch) (hlt : l.stackTraces = false) (dC : Nat → ClassId) (dI : Nat → Nat → Nat) (sz : Nat) (cr : ClassId) (LP : List Nat) (fP : Nat → va_E) (nm0 : Value) (pl0 : Int32) (po_nms0 : Nat) (po_pls0 : Nat) (po_tys0 : Nat) (ps0 : Int32) (lc0 : Int32) (rs0 : Int32) (bd0 : Value) (sg0 : Int32) (T0 : Nat → Int32) (nm1 : Value) (pl1 : Int32) (po_nms1 : Nat) (po_pls1 : Nat) (po_tys1 : Nat) (ps1 : Int32) (lc1 : Int32) (rs1 : Int32) (bd1 : Value) (sg1 : Int32) (T1 : Nat → Int32)   (po_a : Nat) (po_b : Nat)  (hf0 : bx (fnP LP fP cr po_a nm0 pl0 po_nms0 po_pls0 po_tys0 ps0 lc0 rs0 bd0 sg0 T0)) (hf1 : bx (fnP LP fP cr po_b nm1 pl1 po_nms1 po_pls1 po_tys1 ps1 lc1 rs1 bd1 sg1 T1)) (hps : 0 ≤ ps0.toInt ∧ ps0.toInt ≤ 8) : Met l y_MD_alike w_MD_alike ({ frames := 0, cells := 0, slots := 0, locals := 0 }) (va_Pc [.ref po_a, .ref po_b] (fun U => U.heap.size = sz ∧ va_P (dC, dI) cls2 ([] ++ va_pl LP fP) U.heap ∧ va_K (dC, dI) cls2 [(cr, .int)] U ∧ va_D (fun _ => True) ([] ++ va_pl LP fP) ∧ sw_nest U)) (va_Qi (fun (r : Int32) (u : Unit) => match u with | _ => (r = 0 ∨ r = 1) ∧ (r.toInt = 1 → ps0 = ps1 ∧ rs0 = rs1 ∧ ∀ j : Nat, (j : Int) < ps0.toInt → T0 j = T1 j)) (at_MD_alike dC dI cr LP fP (va_A ([] ++ va_pl LP fP) sz)) (va_A ([] ++ va_pl LP fP) sz)) 0 0 (va_A ([] ++ va_pl LP fP) sz) := by
  refine Met.ofW (cc := b_MD_alike) (maxL := 3) (ret := (Option.some .boolean)) (by decide) rfl ?_
  intro p e s m args below meth c s₁ B hml hv
  obtain ⟨rfl, hsz, hP, hK, hD0, hSW⟩ := hv
  have hx := B.exec
  have hb := B.bytes
  have hr := B.returns
  have hts0 := atoms_spec (ws := w_MD_alike) B.pre
  have hts : ∀ w ∈ lw_g, w.before _ s = true := fun w h => hts0 w (List.mem_cons_of_mem _ h)
  have hown : s.vm.findClass R_MD = some m.cls := findClass_of_methodNamed B.named
  have hlocks := B.notSynchronized
  clear hts0
  subst hsz
  have hD := hD0.self (sz := s.heap.size)
  generalize hAe : va_A ([] ++ va_pl LP fP) s.heap.size = A at hD ⊢
  have hA : ∀ q : Nat, s.heap.size ≤ q → A q := fun q h => by rw [← hAe]; exact Or.inr h
  clear hAe
  have hP : va_P (dC, dI) cls2 ([] ++ va_pl LP fP) s.heap := hP
  have hl := lv_entry ([.ref po_a, .ref po_b]) (n := 3) (Nat.le_of_ble_eq_true rfl)
  rw [lg_entry_eq]
  generalize (lg_sl ([.ref po_a, .ref po_b]) ++ List.replicate (3 - (lg_sl ([.ref po_a, .ref po_b])).length) Slot.unset).toArray = ls at hl ⊢
  have hl : lv_has ls 3 [(0, .ref po_a), (1, .ref po_b)] := hl
  have k0 : (0 : Int32).toInt = 0 := by decide
  refine w_gen (A := A) hP (fun H locs hP hS => ?_)
  have k1 : (1 : Int32).toInt = 1 := by decide
  have hnd := vq_nd hD
  obtain ⟨h01, h02, h03, h04⟩ := hf0.out
  obtain ⟨h11, h12, h13, h14⟩ := hf1.out
  refine lv_aload_n hx hb d_MD_alike_0 rfl (lv_at hl 0 rfl) ?_
  obtain ⟨q1, hq1⟩ := pl_ix (X := []) (L := LP) (f := fP) h01 h02
  refine va_getN (D := (dC, dI)) (ci := 14) (v := .int ps0) (C := R_MF) (T := F_MF) (N := 10) hx hb hts i_MF hown hK hP q1 hq1 rfl 5 (by decide) (sn_f (k := 39) hSW rfl) (fun _ h9 => h9) rfl d_MD_alike_1 ?_
  refine lv_aload_n hx hb d_MD_alike_4 rfl (lv_at hl 1 rfl) ?_
  obtain ⟨q2, hq2⟩ := pl_ix (X := []) (L := LP) (f := fP) h11 h12
  refine va_getN (D := (dC, dI)) (ci := 14) (v := .int ps1) (C := R_MF) (T := F_MF) (N := 10) hx hb hts i_MF hown hK hP q2 hq2 rfl 5 (by decide) (sn_f (k := 39) hSW rfl) (fun _ h9 => h9) rfl d_MD_alike_5 ?_
  refine lv_icmp_ne (tgt := 22) hx hb d_MD_alike_8 (by decide) (fun c8 => ?_) (fun c8 => ?_)
  · have q8 := neI c8
    refine lv_iconst (v := 0) hx hb d_MD_alike_22 (by decide) ?_
    have hP9 := hP.part (cx := []) [] rfl
    have hD9 := hD.part (cx := []) [] (by decide) rfl
    exact W.zret (v := 0) hx hb hr (zn01 (Or.inl rfl)) (fun t ht hW => ⟨⟨0, (), rfl, ⟨Or.inl rfl, fun z => absurd z (by decide)⟩, va_P.he ht.symm hP9, va_K.moved hW.alike hK, hD9⟩, hS.F ht⟩) hS.2.2 d_MD_alike_23
  · have q8 := eqI c8
    refine lv_aload_n hx hb d_MD_alike_11 rfl (lv_at hl 0 rfl) ?_
    obtain ⟨q3, hq3⟩ := pl_ix (X := []) (L := LP) (f := fP) h01 h02
    refine va_getN (D := (dC, dI)) (ci := 14) (v := .int rs0) (C := R_MF) (T := F_MF) (N := 10) hx hb hts i_MF hown hK hP q3 hq3 rfl 7 (by decide) (sn_f (k := 41) hSW rfl) (fun _ h9 => h9) rfl d_MD_alike_12 ?_
    refine lv_aload_n hx hb d_MD_alike_15 rfl (lv_at hl 1 rfl) ?_
    obtain ⟨q4, hq4⟩ := pl_ix (X := []) (L := LP) (f := fP) h11 h12
    refine va_getN (D := (dC, dI)) (ci := 14) (v := .int rs1) (C := R_MF) (T := F_MF) (N := 10) hx hb hts i_MF hown hK hP q4 hq4 rfl 7 (by decide) (sn_f (k := 41) hSW rfl) (fun _ h9 => h9) rfl d_MD_alike_16 ?_
    refine lv_icmp_eq (tgt := 24) hx hb d_MD_alike_19 (by decide) (fun c19 => ?_) (fun c19 => ?_)
    · have q19 := eqI c19
      refine lv_iconst (v := 0) hx hb d_MD_alike_24 (by decide) ?_
      refine lv_istore_n (lv' := [(2, .int 0), (0, .ref po_a), (1, .ref po_b)]) hx hb d_MD_alike_25 rfl hl (by decide) rfl (fun ls hl => ?_)
      refine w_loop (σ := Int32) (fun u H locs ls => match u with | j26_l2 => (0 ≤ j26_l2.toInt ∧ j26_l2.toInt ≤ 8) ∧ (j26_l2.toInt ≤ ps0.toInt) ∧ (bx (∀ j : Nat, (j : Int) < j26_l2.toInt → T0 j = T1 j)) ∧ va_P (dC, dI) cls2 ([] ++ va_pl LP fP) H ∧ va_D A ([] ++ va_pl LP fP) ∧ va_S A s.heap H locs ∧ lv_has ls 3 [(0, .ref po_a), (1, .ref po_b), (2, .int j26_l2)]) (fun u => match u with | j26_l2 => (8 - j26_l2.toInt).toNat) ?_ 0 ⟨by (try dsimp only) <;> (first | (apply Int.le_antisymm <;> omega) | omega), by (try dsimp only) <;> (first | (apply Int.le_antisymm <;> omega) | omega), (fun j hj => absurd hj (by rw [k0]; (first | (apply Int.le_antisymm <;> omega) | omega))), hP, hD, hS, lv_sub hl [1, 2, 0] rfl⟩
      intro N26 ih26 u H locs ls hN26 hI
      obtain ⟨j26_l2, rfl⟩ : ∃ z, z = u := ⟨_, rfl⟩
      obtain ⟨b_j26_l2, u1, u2, hP, hD, hS, hl⟩ := hI
      have hN26 : (8 - j26_l2.toInt).toNat < N26 + 1 := hN26
      refine lv_iload_n hx hb d_MD_alike_26 rfl (lv_at hl 2 rfl) ?_
      refine lv_aload_n hx hb d_MD_alike_27 rfl (lv_at hl 0 rfl) ?_
      obtain ⟨q5, hq5⟩ := pl_ix (X := []) (L := LP) (f := fP) h01 h02
      refine va_getN (D := (dC, dI)) (ci := 14) (v := .int ps0) (C := R_MF) (T := F_MF) (N := 10) hx hb hts i_MF hown hK hP q5 hq5 rfl 5 (by decide) (sn_f (k := 39) hSW rfl) (fun _ h9 => h9) rfl d_MD_alike_28 ?_
      refine lv_icmp_ge (tgt := 57) hx hb d_MD_alike_31 (by decide) (fun c31 => ?_) (fun c31 => ?_)
      · have q31 := leI c31
        refine lv_iconst (v := 1) hx hb d_MD_alike_57 (by decide) ?_
        have hP9 := hP.part (cx := []) [] rfl
        have hD9 := hD.part (cx := []) [] (by decide) rfl
        exact W.zret (v := 1) hx hb hr (zn01 (Or.inr rfl)) (fun t ht hW => ⟨⟨1, (), rfl, ⟨Or.inr rfl, fun _ => ⟨Int32.toInt_inj.mp (by (first | (apply Int.le_antisymm <;> omega) | omega)), Int32.toInt_inj.mp (by (first | (apply Int.le_antisymm <;> omega) | omega)), fun j hj => u2.out j (by (first | (apply Int.le_antisymm <;> omega) | omega))⟩⟩, va_P.he ht.symm hP9, va_K.moved hW.alike hK, hD9⟩, hS.F ht⟩) hS.2.2 d_MD_alike_58
      · have q31 := nleI c31
        refine lv_aload_n hx hb d_MD_alike_34 rfl (lv_at hl 0 rfl) ?_
        obtain ⟨q6, hq6⟩ := pl_ix (X := []) (L := LP) (f := fP) h01 h02
        refine va_getN (D := (dC, dI)) (ci := 14) (v := .ref po_tys0) (C := R_MF) (T := F_MF) (N := 10) hx hb hts i_MF hown hK hP q6 hq6 rfl 4 (by decide) (sn_f (k := 38) hSW rfl) (fun _ h9 => h9) rfl d_MD_alike_35 ?_
        refine lv_iload_n hx hb d_MD_alike_38 rfl (lv_at hl 2 rfl) ?_
        obtain ⟨q7, hq7⟩ := pl_ix (X := []) (L := LP) (f := fP) h03 h04
        have g39 : vp_in j26_l2 51 := vp_in_iff.mpr ⟨by (first | (apply Int.le_antisymm <;> omega) | omega), by (first | (apply Int.le_antisymm <;> omega) | omega)⟩
        refine va_iald hx hb hK hP q7 0 hq7 rfl g39 d_MD_alike_39 ?_
        refine lv_topi (fun x8 ex8 => ?_)
        refine lv_aload_n hx hb d_MD_alike_40 rfl (lv_at hl 1 rfl) ?_
        obtain ⟨q9, hq9⟩ := pl_ix (X := []) (L := LP) (f := fP) h11 h12
        refine va_getN (D := (dC, dI)) (ci := 14) (v := .ref po_tys1) (C := R_MF) (T := F_MF) (N := 10) hx hb hts i_MF hown hK hP q9 hq9 rfl 4 (by decide) (sn_f (k := 38) hSW rfl) (fun _ h9 => h9) rfl d_MD_alike_41 ?_
        refine lv_iload_n hx hb d_MD_alike_44 rfl (lv_at hl 2 rfl) ?_
        obtain ⟨q10, hq10⟩ := pl_ix (X := []) (L := LP) (f := fP) h13 h14
        have g45 : vp_in j26_l2 51 := vp_in_iff.mpr ⟨by (first | (apply Int.le_antisymm <;> omega) | omega), by (first | (apply Int.le_antisymm <;> omega) | omega)⟩
        refine va_iald hx hb hK hP q10 0 hq10 rfl g45 d_MD_alike_45 ?_
        refine lv_topi (fun x11 ex11 => ?_)
        refine lv_icmp_eq (tgt := 51) hx hb d_MD_alike_46 (by decide) (fun c46 => ?_) (fun c46 => ?_)
        · have q46 := eqI c46
          obtain ⟨x12, ex12⟩ : ∃ z : Int32, z = j26_l2 + 1 := ⟨_, rfl⟩
          have tx12 : x12.toInt = j26_l2.toInt + 1 := by have z := i32_add ex12 (by (first | (apply Int.le_antisymm <;> omega) | omega)) (by (first | (apply Int.le_antisymm <;> omega) | omega)); first | exact z | (first | (apply Int.le_antisymm <;> omega) | omega)
          refine lv_iinc (v := x12) (lv' := [(2, .int x12), (0, .ref po_a), (1, .ref po_b)]) hx hb d_MD_alike_51 hl (k := 2) rfl (by rw [ex12]; rfl) (by decide) rfl (fun ls hl => ?_)
          refine lv_goto (tgt := 26) hx hb d_MD_alike_54 (by decide) ?_
          exact ih26 x12 _ _ _ (by show (8 - x12.toInt).toNat < N26; (first | (apply Int.le_antisymm <;> omega) | omega)) ⟨by (try dsimp only) <;> (first | (apply Int.le_antisymm <;> omega) | omega), by (try dsimp only) <;> (first | (apply Int.le_antisymm <;> omega) | omega), (fun j hj => by have z9 := i32_clamp (x := j26_l2) (by (first | (apply Int.le_antisymm <;> omega) | omega)); by_cases q : (j : Int) < j26_l2.toInt; (exact u2.out j q); (rw [show j = j26_l2.toNatClampNeg from by (first | (apply Int.le_antisymm <;> omega) | omega), ← ex8, ← ex11]; exact Int32.toInt_inj.mp (by (first | (apply Int.le_antisymm <;> omega) | omega)))), hP, hD, hS, lv_sub hl [1, 2, 0] rfl⟩
        · have q46 := neI c46
          refine lv_iconst (v := 0) hx hb d_MD_alike_49 (by decide) ?_
          have hP9 := hP.part (cx := []) [] rfl
          have hD9 := hD.part (cx := []) [] (by decide) rfl
          exact W.zret (v := 0) hx hb hr (zn01 (Or.inl rfl)) (fun t ht hW => ⟨⟨0, (), rfl, ⟨Or.inl rfl, fun z => absurd z (by decide)⟩, va_P.he ht.symm hP9, va_K.moved hW.alike hK, hD9⟩, hS.F ht⟩) hS.2.2 d_MD_alike_50
    · have q19 := neI c19
      refine lv_iconst (v := 0) hx hb d_MD_alike_22 (by decide) ?_
      have hP9 := hP.part (cx := []) [] rfl
      have hD9 := hD.part (cx := []) [] (by decide) rfl
      exact W.zret (v := 0) hx hb hr (zn01 (Or.inl rfl)) (fun t ht hW => ⟨⟨0, (), rfl, ⟨Or.inl rfl, fun z => absurd z (by decide)⟩, va_P.he ht.symm hP9, va_K.moved hW.alike hK, hD9⟩, hS.F ht⟩) hS.2.2 d_MD_alike_23
end q_m63
section q_m64
/-! the reference: trees in the pool, and the code of their values -/
def nP (f : Nat → va_E) (a : Nat) (op pl : Int32) (nm : Value) (v : Int64) (t : Int32) (p : Nat) (cnt ix gl : Int32) : Prop := f a = .inr (13, [.int op, .int pl, nm, .long v, .int t, .ref p, .int cnt, .int ix, .int gl])
def aP (L : List Nat) (f : Nat → va_E) (cpn : ClassId) (p n : Nat) (g : Nat → Option Nat) : Prop := p ∈ L ∧ f p = .inl (cpn, n, .inr (.inr (.inr (.inr g))))
/-- the first n of a row, as a list -/
def sbl (g : Nat → Int32) (n : Nat) : List Int32 := (List.range n).map g
theorem sbl_len {g : Nat → Int32} {n : Nat} : (sbl g n).length = n := by unfold sbl; rw [List.length_map, List.length_range]
theorem sbl_get {g : Nat → Int32} {n j : Nat} (h : j < n) : (sbl g n).getD j 0 = g j := by
  unfold sbl
  rw [List.getD_eq_getElem?_getD, List.getElem?_map, List.getElem?_range h]
  rfl
theorem sbl_cg {g g2 : Nat → Int32} {n : Nat} (h : ∀ j, j < n → g2 j = g j) : sbl g2 n = sbl g n := by
  unfold sbl
  exact List.map_congr_left (fun j hj => h j (List.mem_range.mp hj))
theorem sbl_0 {g : Nat → Int32} : sbl g 0 = [] := rfl
theorem sbl_s {g : Nat → Int32} {n : Nat} : sbl g (n + 1) = sbl g n ++ [g n] := by
  unfold sbl
  rw [List.range_succ, List.map_append]
  rfl
theorem sbl_up {g g2 : Nat → Int32} {n : Nat} {v : Int32} (e : upd g n v = g2) : sbl g2 (n + 1) = sbl g n ++ [v] := by
  subst e
  rw [sbl_s, pk_us, sbl_cg (g := g) (fun j hj => pk_un (by (first | (apply Int.le_antisymm <;> omega) | omega)))]
theorem sbl_app {g g2 : Nat → Int32} {n k : Nat} {b : List Int32} (h1 : ∀ j, j < n → g2 j = g j) (h2 : ∀ j, j < k → g2 (n + j) = b.getD j 0) (hb : b.length = k) : sbl g2 (n + k) = sbl g n ++ b := by
  refine List.ext_getElem? (fun i => ?_)
  by_cases q1 : i < n + k
  · by_cases q : i < n
    · rw [List.getElem?_append_left (by rw [sbl_len]; exact q)]
      unfold sbl
      rw [List.getElem?_map, List.getElem?_map, List.getElem?_range q1, List.getElem?_range q]
      show some (g2 i) = some (g i)
      rw [h1 i q]
    · rw [List.getElem?_append_right (by rw [sbl_len]; (first | (apply Int.le_antisymm <;> omega) | omega)), sbl_len]
      have e := h2 (i - n) (by (first | (apply Int.le_antisymm <;> omega) | omega))
      rw [show n + (i - n) = i by (first | (apply Int.le_antisymm <;> omega) | omega), List.getD_eq_getElem?_getD, List.getElem?_eq_getElem (by (first | (apply Int.le_antisymm <;> omega) | omega))] at e
      unfold sbl
      rw [List.getElem?_map, List.getElem?_range q1, List.getElem?_eq_getElem (by (first | (apply Int.le_antisymm <;> omega) | omega))]
      show some (g2 i) = _
      rw [e]
      rfl
  · rw [List.getElem?_eq_none (by rw [sbl_len]; (first | (apply Int.le_antisymm <;> omega) | omega)), List.getElem?_eq_none (by rw [List.length_append, sbl_len]; (first | (apply Int.le_antisymm <;> omega) | omega))]
theorem sbl_eq {g : Nat → Int32} {nb : List Int32} (h : ∀ j, j < nb.length → g j = nb.getD j 0) : sbl g nb.length = nb := lst_eq9 (n := nb.length) (by rw [sbl_len]) rfl (fun j hj => by rw [sbl_get (by (first | (apply Int.le_antisymm <;> omega) | omega)), h j (by (first | (apply Int.le_antisymm <;> omega) | omega))])
def rht (nb : List Int32) (h z : Int32) : Prop := (h = 0 ∨ h = hs9 nb nb.length) ∧ (z.toInt ≠ 0 → hs9 nb nb.length = 0)
def byt9 (nb : List Int32) : Prop := ∀ j : Nat, -128 ≤ (nb.getD j 0).toInt ∧ (nb.getD j 0).toInt ≤ 127
def strP (L : List Nat) (f : Nat → va_E) (cpb : ClassId) (s : Nat) (nb : List Int32) : Prop := s ∈ L ∧ ∃ (v : Nat) (h z : Int32) (g : Nat → Int32), f s = .inr (16, [.ref v, .int 0, .int h, .int z]) ∧ v ∈ L ∧ f v = .inl (cpb, nb.length, .inl g) ∧ (∀ j, j < nb.length → g j = nb.getD j 0) ∧ rht nb h z ∧ byt9 nb ∧ nb.length ≤ 4000 ∧ ∀ j : Nat, -128 ≤ (g j).toInt ∧ (g j).toInt ≤ 127
def lg9 (nb : List Int32) : Nat := if nb = [124, 124] ∨ nb = [38, 38] then 1 else 0
def ocost (nb : List Int32) : Int := if nb = [124, 124] ∨ nb = [38, 38] then 48 else 8
def ksum (kf : Nat → Int) : Nat → Int
  | 0 => 0
  | n + 1 => ksum kf n + kf n
/-- the calls of the language's own: how many are given, what comes out -/
def owk (nb : List Int32) (cnt t : Int) : Prop :=
  (nb = [108, 111, 97, 100, 56] ∧ cnt = 1 ∧ t = 127) ∨ (nb = [108, 111, 97, 100, 51, 50] ∧ cnt = 1 ∧ t = 127) ∨ (nb = [108, 111, 97, 100, 54, 52] ∧ cnt = 1 ∧ t = 126) ∨
  (nb = [115, 116, 111, 114, 101, 56] ∧ cnt = 2 ∧ t = 0) ∨ (nb = [115, 116, 111, 114, 101, 51, 50] ∧ cnt = 2 ∧ t = 0) ∨ (nb = [115, 116, 111, 114, 101, 54, 52] ∧ cnt = 2 ∧ t = 0) ∨
  (nb = [115, 105, 122, 101] ∧ cnt = 0 ∧ t = 127) ∨ (nb = [103, 114, 111, 119] ∧ cnt = 1 ∧ t = 127) ∨ (nb = [116, 114, 97, 112] ∧ cnt = 0 ∧ t = 0)
/-- what a node of a value may be; T: its parts -/
def tvc (L : List Nat) (f : Nat → va_E) (cpb : ClassId) (N fc gc : Int) (gv tk : Nat → Int) (T : Nat → Int32 → Int → Nat → Prop) (op : Int32) (nm : Value) (v : Int64) (t cnt ix gl : Int32) (g : Nat → Option Nat) (c : Int) (b : Nat) : Prop :=
  (op.toInt = 0 ∧ ((t.toInt = 127 ∧ in32 v) ∨ t.toInt = 126) ∧ 8 ≤ c ∧ 5 * (1 + ((sleb 10 v.toInt).length : Int)) ≤ c) ∨
  (op.toInt = 1 ∧ t27 t.toInt ∧ ((gl.toInt = 1 ∧ ix.toInt < gc) ∨ (gl.toInt = 0 ∧ ix.toInt < N)) ∧ (0 ≤ ix.toInt ∧ ix.toInt < 128) ∧ 10 ≤ c) ∨
  (op.toInt = 2 ∧ ∃ (cf : Nat → Nat) (tf : Nat → Int32) (kf : Nat → Int), (∀ i : Nat, (i : Int) < cnt.toInt → g i = some (cf i) ∧ t27 (tf i).toInt ∧ 0 ≤ kf i ∧ T (cf i) (tf i) (kf i) b) ∧
    ((0 ≤ ix.toInt ∧ ix.toInt < fc ∧ ix.toInt < 128 ∧ tk ix.toInt.toNat = cnt.toInt ∧ gv ix.toInt.toNat = ga0 t.toInt ∧ ksum kf cnt.toInt.toNat + 10 ≤ c) ∨ (ix.toInt < 0 ∧ (∃ (sr : Nat) (nb : List Int32), nm = .ref sr ∧ strP L f cpb sr nb ∧ owk nb cnt.toInt t.toInt) ∧ ksum kf cnt.toInt.toNat + 15 ≤ c))) ∨
  (op.toInt = 3 ∧ t27 t.toInt ∧ 1 ≤ cnt.toInt ∧ ∃ (c0 : Nat) (t0 : Int32) (k0 : Int), g 0 = some c0 ∧ t27 t0.toInt ∧ T c0 t0 k0 b ∧ 0 ≤ k0 ∧ k0 + 8 ≤ c) ∨
  (op.toInt = 5 ∧ t27 t.toInt ∧ 1 ≤ cnt.toInt ∧ ∃ (c0 : Nat) (t0 : Int32) (k0 : Int), g 0 = some c0 ∧ t27 t0.toInt ∧ T c0 t0 k0 b ∧ 0 ≤ k0 ∧ k0 + 16 ≤ c) ∨
  (op.toInt = 4 ∧ t27 t.toInt ∧ 2 ≤ cnt.toInt ∧ ∃ (c0 c1 : Nat) (t0 t1 : Int32) (k0 k1 : Int) (b1 sr : Nat) (nb : List Int32), g 0 = some c0 ∧ g 1 = some c1 ∧ t27 t0.toInt ∧ t27 t1.toInt ∧ T c0 t0 k0 b ∧ T c1 t1 k1 b1 ∧ b1 + lg9 nb ≤ b ∧ 0 ≤ k0 ∧ 0 ≤ k1 ∧ nm = .ref sr ∧ strP L f cpb sr nb ∧ k0 + k1 + ocost nb ≤ c ∧ nb.length ≤ 3)
/-- a value's tree, with its types: depth, root, type, cost, ifs within ifs -/
def tv (L : List Nat) (f : Nat → va_E) (cpn cpb : ClassId) (N fc gc : Int) (gv tk : Nat → Int) : Nat → Nat → Int32 → Int → Nat → Prop
  | 0, _, _, _, _ => False
  | d + 1, a, t, c, b => ∃ (op pl : Int32) (nm : Value) (v : Int64) (p n : Nat) (cnt ix gl : Int32) (g : Nat → Option Nat), a ∈ L ∧ nP f a op pl nm v t p cnt ix gl ∧ aP L f cpn p n g ∧ (0 ≤ cnt.toInt ∧ cnt.toInt ≤ (n : Int) ∧ n < 100000) ∧ tvc L f cpb N fc gc gv tk (tv L f cpn cpb N fc gc gv tk d) op nm v t cnt ix gl g c b
section TVC
variable {L : List Nat} {f : Nat → va_E} {cpn cpb : ClassId} {N fc gc : Int} {gv tk : Nat → Int} {T : Nat → Int32 → Int → Nat → Prop} {op : Int32} {nm : Value} {v : Int64} {t cnt ix gl : Int32} {g : Nat → Option Nat} {c : Int} {b d a : Nat}
theorem tv_out (h : tv L f cpn cpb N fc gc gv tk d a t c b) : ∃ (d1 : Nat) (op pl : Int32) (nm : Value) (v : Int64) (p n : Nat) (cnt ix gl : Int32) (g : Nat → Option Nat), d = d1 + 1 ∧ a ∈ L ∧ nP f a op pl nm v t p cnt ix gl ∧ aP L f cpn p n g ∧ (0 ≤ cnt.toInt ∧ cnt.toInt ≤ (n : Int) ∧ n < 100000) ∧ tvc L f cpb N fc gc gv tk (tv L f cpn cpb N fc gc gv tk d1) op nm v t cnt ix gl g c b := by
  cases d with
  | zero => exact h.elim
  | succ d1 =>
    obtain ⟨op, pl, nm, v, p, n, cnt, ix, gl, g, h⟩ := h
    exact ⟨d1, op, pl, nm, v, p, n, cnt, ix, gl, g, rfl, h⟩
theorem tvc_0 (h : tvc L f cpb N fc gc gv tk T op nm v t cnt ix gl g c b) (e : op.toInt = 0) : ((t.toInt = 127 ∧ in32 v) ∨ t.toInt = 126) ∧ 8 ≤ c ∧ 5 * (1 + ((sleb 10 v.toInt).length : Int)) ≤ c := by
  rcases h with ⟨q, h⟩ | ⟨q, h⟩ | ⟨q, h⟩ | ⟨q, h⟩ | ⟨q, h⟩ | ⟨q, h⟩
  · exact h
  all_goals (exfalso; clear h; (first | (apply Int.le_antisymm <;> omega) | omega))
theorem tvc_1 (h : tvc L f cpb N fc gc gv tk T op nm v t cnt ix gl g c b) (e : op.toInt = 1) : t27 t.toInt ∧ ((gl.toInt = 1 ∧ ix.toInt < gc) ∨ (gl.toInt = 0 ∧ ix.toInt < N)) ∧ (0 ≤ ix.toInt ∧ ix.toInt < 128) ∧ 10 ≤ c := by
  rcases h with ⟨q, h⟩ | ⟨q, h⟩ | ⟨q, h⟩ | ⟨q, h⟩ | ⟨q, h⟩ | ⟨q, h⟩
  · exfalso; clear h; (first | (apply Int.le_antisymm <;> omega) | omega)
  · exact h
  all_goals (exfalso; clear h; (first | (apply Int.le_antisymm <;> omega) | omega))
theorem tvc_2 (h : tvc L f cpb N fc gc gv tk T op nm v t cnt ix gl g c b) (e : op.toInt = 2) : ∃ (cf : Nat → Nat) (tf : Nat → Int32) (kf : Nat → Int), (∀ i : Nat, (i : Int) < cnt.toInt → g i = some (cf i) ∧ t27 (tf i).toInt ∧ 0 ≤ kf i ∧ T (cf i) (tf i) (kf i) b) ∧
    ((0 ≤ ix.toInt ∧ ix.toInt < fc ∧ ix.toInt < 128 ∧ tk ix.toInt.toNat = cnt.toInt ∧ gv ix.toInt.toNat = ga0 t.toInt ∧ ksum kf cnt.toInt.toNat + 10 ≤ c) ∨ (ix.toInt < 0 ∧ (∃ (sr : Nat) (nb : List Int32), nm = .ref sr ∧ strP L f cpb sr nb ∧ owk nb cnt.toInt t.toInt) ∧ ksum kf cnt.toInt.toNat + 15 ≤ c)) := by
  rcases h with ⟨q, h⟩ | ⟨q, h⟩ | ⟨q, h⟩ | ⟨q, h⟩ | ⟨q, h⟩ | ⟨q, h⟩
  · exfalso; clear h; (first | (apply Int.le_antisymm <;> omega) | omega)
  · exfalso; clear h; (first | (apply Int.le_antisymm <;> omega) | omega)
  · exact h
  all_goals (exfalso; clear h; (first | (apply Int.le_antisymm <;> omega) | omega))
theorem tvc_3 (h : tvc L f cpb N fc gc gv tk T op nm v t cnt ix gl g c b) (e : op.toInt = 3) : t27 t.toInt ∧ 1 ≤ cnt.toInt ∧ ∃ (c0 : Nat) (t0 : Int32) (k0 : Int), g 0 = some c0 ∧ t27 t0.toInt ∧ T c0 t0 k0 b ∧ 0 ≤ k0 ∧ k0 + 8 ≤ c := by
  rcases h with ⟨q, h⟩ | ⟨q, h⟩ | ⟨q, h⟩ | ⟨q, h⟩ | ⟨q, h⟩ | ⟨q, h⟩
  · exfalso; clear h; (first | (apply Int.le_antisymm <;> omega) | omega)
  · exfalso; clear h; (first | (apply Int.le_antisymm <;> omega) | omega)
  · exfalso; clear h; (first | (apply Int.le_antisymm <;> omega) | omega)
  · exact h
  all_goals (exfalso; clear h; (first | (apply Int.le_antisymm <;> omega) | omega))
theorem tvc_5 (h : tvc L f cpb N fc gc gv tk T op nm v t cnt ix gl g c b) (e : op.toInt = 5) : t27 t.toInt ∧ 1 ≤ cnt.toInt ∧ ∃ (c0 : Nat) (t0 : Int32) (k0 : Int), g 0 = some c0 ∧ t27 t0.toInt ∧ T c0 t0 k0 b ∧ 0 ≤ k0 ∧ k0 + 16 ≤ c := by
  rcases h with ⟨q, h⟩ | ⟨q, h⟩ | ⟨q, h⟩ | ⟨q, h⟩ | ⟨q, h⟩ | ⟨q, h⟩
  · exfalso; clear h; (first | (apply Int.le_antisymm <;> omega) | omega)
  · exfalso; clear h; (first | (apply Int.le_antisymm <;> omega) | omega)
  · exfalso; clear h; (first | (apply Int.le_antisymm <;> omega) | omega)
  · exfalso; clear h; (first | (apply Int.le_antisymm <;> omega) | omega)
  · exact h
  · exfalso; clear h; (first | (apply Int.le_antisymm <;> omega) | omega)
theorem tvc_4 (h : tvc L f cpb N fc gc gv tk T op nm v t cnt ix gl g c b) (e : op.toInt = 4) : t27 t.toInt ∧ 2 ≤ cnt.toInt ∧ ∃ (c0 c1 : Nat) (t0 t1 : Int32) (k0 k1 : Int) (b1 sr : Nat) (nb : List Int32), g 0 = some c0 ∧ g 1 = some c1 ∧ t27 t0.toInt ∧ t27 t1.toInt ∧ T c0 t0 k0 b ∧ T c1 t1 k1 b1 ∧ b1 + lg9 nb ≤ b ∧ 0 ≤ k0 ∧ 0 ≤ k1 ∧ nm = .ref sr ∧ strP L f cpb sr nb ∧ k0 + k1 + ocost nb ≤ c ∧ nb.length ≤ 3 := by
  rcases h with ⟨q, h⟩ | ⟨q, h⟩ | ⟨q, h⟩ | ⟨q, h⟩ | ⟨q, h⟩ | ⟨q, h⟩
  · exfalso; clear h; (first | (apply Int.le_antisymm <;> omega) | omega)
  · exfalso; clear h; (first | (apply Int.le_antisymm <;> omega) | omega)
  · exfalso; clear h; (first | (apply Int.le_antisymm <;> omega) | omega)
  · exfalso; clear h; (first | (apply Int.le_antisymm <;> omega) | omega)
  · exfalso; clear h; (first | (apply Int.le_antisymm <;> omega) | omega)
  · exact h
theorem nP_op {op2 pl pl2 : Int32} {nm2 : Value} {v2 : Int64} {t2 : Int32} {p p2 : Nat} {cnt2 ix2 gl2 : Int32} (h : nP f a op pl nm v t p cnt ix gl) (h2 : nP f a op2 pl2 nm2 v2 t2 p2 cnt2 ix2 gl2) : op = op2 ∧ t = t2 := by
  unfold nP at h h2
  rw [h] at h2
  injection h2 with h2
  injection h2 with _ h2
  injection h2 with h3 h2
  injection h2 with _ h2
  injection h2 with _ h2
  injection h2 with _ h2
  injection h2 with h4 h2
  injection h3 with h3
  injection h4 with h4
  exact ⟨h3, h4⟩
theorem tv_ty (h : tv L f cpn cpb N fc gc gv tk d a t c b) : ∃ (op pl : Int32) (nm : Value) (v : Int64) (p : Nat) (cnt ix gl : Int32), a ∈ L ∧ nP f a op pl nm v t p cnt ix gl := by
  obtain ⟨d1, op, pl, nm, v, p, n, cnt, ix, gl, g, -, h1, h2, -⟩ := tv_out h
  exact ⟨op, pl, nm, v, p, cnt, ix, gl, h1, h2⟩
end TVC
/-- nothing but kept hashes of texts has changed -/
def hsh (f f2 : Nat → va_E) : Prop := ∀ a, f2 a = f a ∨ ∃ (v : Nat) (h z h2 z2 : Int32) (c : ClassId) (n : Nat) (g : Nat → Int32), f a = .inr (16, [.ref v, .int 0, .int h, .int z]) ∧ f2 a = .inr (16, [.ref v, .int 0, .int h2, .int z2]) ∧ f v = .inl (c, n, .inl g) ∧ rht (sbl g n) h2 z2
theorem hsh.rfl' {f : Nat → va_E} : hsh f f := fun _ => Or.inl rfl
theorem hsh.aback {f f2 : Nat → va_E} {a : Nat} {x : ClassId × vp_A} (h : hsh f f2) (e : f2 a = .inl x) : f a = .inl x := by
  rcases h a with q | ⟨v, y, z, y2, z2, c, n, g, -, e2, -⟩
  · rw [← q]; exact e
  · rw [e] at e2
    cases e2
theorem hsh.trans {f f2 f3 : Nat → va_E} (h : hsh f f2) (h2 : hsh f2 f3) : hsh f f3 := by
  intro a
  rcases h2 a with e | ⟨v, x, z, x2, z2, c, n, g, e1, e2, e5, e6⟩
  · rw [e]; exact h a
  · rcases h a with e3 | ⟨w, y, u, y2, u2, c', n', g', e3, e4, -, -⟩
    · rw [e3] at e1
      exact Or.inr ⟨v, x, z, x2, z2, c, n, g, e1, e2, h.aback e5, e6⟩
    · rw [e4] at e1
      injection e1 with e1
      injection e1 with _ e1
      injection e1 with e7 _
      injection e7 with e7
      subst e7
      exact Or.inr ⟨w, y, u, x2, z2, c, n, g, e3, e2, h.aback e5, e6⟩
theorem hsh.n {f f2 : Nat → va_E} {a ci : Nat} {fs : List Value} (h : hsh f f2) (hc : ci ≠ 16) (e : f a = .inr (ci, fs)) : f2 a = .inr (ci, fs) := by
  rcases h a with q | ⟨v, x, z, x2, z2, c, n, g, e1, -⟩
  · rw [q]; exact e
  · rw [e] at e1
    injection e1 with e1
    injection e1 with e1 _
    exact absurd e1 hc
theorem hsh.a {f f2 : Nat → va_E} {a : Nat} {x : ClassId × vp_A} (h : hsh f f2) (e : f a = .inl x) : f2 a = .inl x := by
  rcases h a with q | ⟨v, y, z, y2, z2, c, n, g, e1, -⟩
  · rw [q]; exact e
  · rw [e] at e1
    cases e1
theorem hsh.s {L : List Nat} {f f2 : Nat → va_E} {cpb : ClassId} {s : Nat} {nb : List Int32} (h : hsh f f2) (e : strP L f cpb s nb) : strP L f2 cpb s nb := by
  obtain ⟨e1, v, x, z, g, e2, e3, e4, e5, e6, e7⟩ := e
  rcases h s with q | ⟨w, y, u, y2, u2, c, n, g', q1, q2, q4, q5⟩
  · exact ⟨e1, v, x, z, g, by rw [q]; exact e2, e3, h.a e4, e5, e6, e7⟩
  · rw [e2] at q1
    injection q1 with q1
    injection q1 with _ q1
    injection q1 with q3 _
    injection q3 with q3
    subst q3
    rw [e4] at q4
    injection q4 with q4
    injection q4 with _ q4
    injection q4 with q6 q4
    injection q4 with q4
    subst q6
    subst q4
    rw [sbl_eq e5] at q5
    exact ⟨e1, v, y2, u2, g, q2, e3, h.a e4, e5, q5, e7⟩
theorem tvc.mono {L : List Nat} {f f2 : Nat → va_E} {cpb : ClassId} {N fc gc : Int} {gv tk : Nat → Int} {T T2 : Nat → Int32 → Int → Nat → Prop} {op : Int32} {nm : Value} {v : Int64} {t cnt ix gl : Int32} {g : Nat → Option Nat} {c : Int} {b : Nat} (hh : hsh f f2) (hT : ∀ a t c b, T a t c b → T2 a t c b) (h : tvc L f cpb N fc gc gv tk T op nm v t cnt ix gl g c b) : tvc L f2 cpb N fc gc gv tk T2 op nm v t cnt ix gl g c b := by
  rcases h with h | h | ⟨q, cf, tf, kf, h1, h2⟩ | ⟨q1, q2, q3, c0, t0, k0, q4, q5, q6, q7⟩ | ⟨q1, q2, q3, c0, t0, k0, q4, q5, q6, q7⟩ | ⟨q1, q2, q3, c0, c1, t0, t1, k0, k1, b1, sr, nb, q4, q5, q6, q7, q8, q9, q10, q11, q12, q13, q14, q15⟩
  · exact Or.inl h
  · exact Or.inr (Or.inl h)
  · refine Or.inr (Or.inr (Or.inl ⟨q, cf, tf, kf, fun i hi => ?_, ?_⟩))
    · obtain ⟨a1, a2, a3, a4⟩ := h1 i hi
      exact ⟨a1, a2, a3, hT _ _ _ _ a4⟩
    · rcases h2 with h2 | ⟨a1, ⟨sr, nb, a2, a3, a4⟩, a5⟩
      · exact Or.inl h2
      · exact Or.inr ⟨a1, ⟨sr, nb, a2, hh.s a3, a4⟩, a5⟩
  · exact Or.inr (Or.inr (Or.inr (Or.inl ⟨q1, q2, q3, c0, t0, k0, q4, q5, hT _ _ _ _ q6, q7⟩)))
  · exact Or.inr (Or.inr (Or.inr (Or.inr (Or.inl ⟨q1, q2, q3, c0, t0, k0, q4, q5, hT _ _ _ _ q6, q7⟩))))
  · exact Or.inr (Or.inr (Or.inr (Or.inr (Or.inr ⟨q1, q2, q3, c0, c1, t0, t1, k0, k1, b1, sr, nb, q4, q5, q6, q7, hT _ _ _ _ q8, hT _ _ _ _ q9, q10, q11, q12, q13, hh.s q14, q15⟩))))
theorem tv_hsh {L : List Nat} {f f2 : Nat → va_E} {cpn cpb : ClassId} {N fc gc : Int} {gv tk : Nat → Int} (hh : hsh f f2) : ∀ (d : Nat) {a : Nat} {t : Int32} {c : Int} {b : Nat}, tv L f cpn cpb N fc gc gv tk d a t c b → tv L f2 cpn cpb N fc gc gv tk d a t c b
  | 0, _, _, _, _, h => h
  | d + 1, a, t, c, b, h => by
    obtain ⟨op, pl, nm, v, p, n, cnt, ix, gl, g, h1, h2, h3, h4, h5⟩ := h
    exact ⟨op, pl, nm, v, p, n, cnt, ix, gl, g, h1, hh.n (by decide) h2, ⟨h3.1, hh.a h3.2⟩, h4, tvc.mono hh (fun a t c b q => tv_hsh hh d q) h5⟩
section WV
variable {N fc gc : Int} {gv tk : Nat → Int}
/-- code that takes p and leaves q -/
def Wv (N fc gc : Int) (gv tk : Nat → Int) (l : List ci) (p q : Int) : Prop := ∀ (o g hb d : Int) (R : List vt) (h : Int), 0 ≤ hb → hb + p ≤ h → (∀ y ∈ R, 0 ≤ y.2.2.1) → cz N gv tk fc gc l ((o, g, hb, d) :: R) h ((o, g, hb, d) :: R) (h - p + q)
theorem Wv.seq {l1 l2 : List ci} {p q q2 r s : Int} (h1 : Wv N fc gc gv tk l1 p q) (h2 : Wv N fc gc gv tk l2 q2 r) (hq : q2 ≤ q) (hp : 0 ≤ p) (hs : s = q - q2 + r) : Wv N fc gc gv tk (l1 ++ l2) p s := by
  intro o g hb d R h a1 a2 a3
  have k1 := h1 o g hb d R h a1 a2 a3
  have k2 := h2 o g hb d R (h - p + q) a1 (by (first | (apply Int.le_antisymm <;> omega) | omega)) a3
  rw [show h - p + q - q2 + r = h - p + s by (first | (apply Int.le_antisymm <;> omega) | omega)] at k2
  exact cz_app k1 k2
theorem lz_of {x : ci} {o g hb d : Int} {R : List vt} {h : Int} (hx : x.1 ≠ 12 ∧ x.1 ≠ 13 ∧ x.1 ≠ 15 ∧ x.1 ≠ 14 ∧ x.1 ≠ 110 ∧ x.1 ≠ 112) : lz x ((o, g, hb, d) :: R) h :=
  ⟨o, g, hb, d, R, rfl, ⟨fun z => absurd z hx.1, fun z => absurd z hx.2.1, fun z => absurd z hx.2.2.1⟩, hx.2.2.2⟩
theorem tp_of {o g hb d p h : Int} {R : List vt} (a1 : 0 ≤ hb) (a2 : hb + p ≤ h) (hp : 0 ≤ p) (a3 : ∀ y ∈ R, 0 ≤ y.2.2.1) : tp p ((o, g, hb, d) :: R) h :=
  ⟨⟨o, g, hb, d, R, rfl, a2⟩, by (first | (apply Int.le_antisymm <;> omega) | omega), fun y hy => by
    rcases List.mem_cons.mp hy with z | z
    · rw [z]; exact a1
    · exact a3 y z⟩
theorem Wv.w01 {op v : Int} (ho : op = 32 ∨ op = 35 ∨ op = 63 ∨ op = 65 ∨ op = 66) (h1 : op = 32 → 0 ≤ v ∧ v < N) (h2 : op = 35 → 0 ≤ v ∧ v < gc) : Wv N fc gc gv tk [(op, v)] 0 1 := by
  intro o g hb d R h a1 a2 a3
  refine cz_one ⟨?_, lz_of (by dsimp only; (first | (apply Int.le_antisymm <;> omega) | omega))⟩
  have q := c1_01 (N := N) (gv := gv) (tk := tk) (fc := fc) (gc := gc) (v := v) (tp_of (o := o) (g := g) (d := d) a1 a2 (by (first | (apply Int.le_antisymm <;> omega) | omega)) a3) ho h1 h2
  rw [show h - 0 + 1 = h + 1 by (first | (apply Int.le_antisymm <;> omega) | omega)]
  exact q
theorem Wv.w10 {op v : Int} (ho : op = 26 ∨ op = 33 ∨ op = 36) (h1 : op = 33 → 0 ≤ v ∧ v < N) (h2 : op = 36 → 0 ≤ v ∧ v < gc) : Wv N fc gc gv tk [(op, v)] 1 0 := by
  intro o g hb d R h a1 a2 a3
  refine cz_one ⟨?_, lz_of (by dsimp only; (first | (apply Int.le_antisymm <;> omega) | omega))⟩
  have q := c1_10 (N := N) (gv := gv) (tk := tk) (fc := fc) (gc := gc) (v := v) (tp_of (o := o) (g := g) (d := d) a1 a2 (by (first | (apply Int.le_antisymm <;> omega) | omega)) a3) (by (first | (apply Int.le_antisymm <;> omega) | omega)) h1 h2
  rw [show h - 1 + 0 = h - 1 by (first | (apply Int.le_antisymm <;> omega) | omega)]
  exact q
theorem c1_80 {v : Int} {B : List vt} {h : Int} (H : tp 1 B h) : c1 N gv tk fc gc (80, v) B h B h := by
  obtain ⟨⟨o, g, hb, d, R, e, a2⟩, a3, a4⟩ := H
  refine ⟨⟨o, g, hb, d, R, e, by (first | (apply Int.le_antisymm <;> omega) | omega), ?_⟩, by (first | (apply Int.le_antisymm <;> omega) | omega), a4⟩
  dsimp only
  refine ⟨?_, ?_, ?_, ?_, ?_, ?_, ?_, ?_, ?_, ?_, ?_, ?_, ?_, ?_, ?_, ?_, ?_, ?_⟩ <;> intro z <;> first | (exfalso; (first | (apply Int.le_antisymm <;> omega) | omega)) | skip
  exact ⟨rfl, by (first | (apply Int.le_antisymm <;> omega) | omega), fun _ => ⟨by (first | (apply Int.le_antisymm <;> omega) | omega), by (first | (apply Int.le_antisymm <;> omega) | omega)⟩⟩
theorem Wv.w11 {op v : Int} (ho : op = 64 ∨ op = 40 ∨ op = 41 ∨ op = 45 ∨ op = 69 ∨ op = 80 ∨ op = 167 ∨ op = 172) : Wv N fc gc gv tk [(op, v)] 1 1 := by
  intro o g hb d R h a1 a2 a3
  refine cz_one ⟨?_, lz_of (by dsimp only; (first | (apply Int.le_antisymm <;> omega) | omega))⟩
  have t := tp_of (o := o) (g := g) (d := d) a1 a2 (by (first | (apply Int.le_antisymm <;> omega) | omega)) a3
  rw [show h - 1 + 1 = h by (first | (apply Int.le_antisymm <;> omega) | omega)]
  by_cases q : op = 80
  · subst q; exact c1_80 t
  · exact c1_11 t (by (first | (apply Int.le_antisymm <;> omega) | omega))
theorem Wv.w21 {op v : Int} (ho : two op) (hn : op ≠ 110 ∧ op ≠ 112) : Wv N fc gc gv tk [(op, v)] 2 1 := by
  intro o g hb d R h a1 a2 a3
  have ho2 := ho
  unfold two at ho2
  refine cz_one ⟨?_, lz_of (by dsimp only; (first | (apply Int.le_antisymm <;> omega) | omega))⟩
  have q := c1_21 (N := N) (gv := gv) (tk := tk) (fc := fc) (gc := gc) (v := v) (tp_of (o := o) (g := g) (d := d) a1 a2 (by (first | (apply Int.le_antisymm <;> omega) | omega)) a3) ho
  rw [show h - 2 + 1 = h - 1 by (first | (apply Int.le_antisymm <;> omega) | omega)]
  exact q
theorem Wv.w20 {op v : Int} (ho : op = 54 ∨ op = 55 ∨ op = 58) : Wv N fc gc gv tk [(op, v)] 2 0 := by
  intro o g hb d R h a1 a2 a3
  refine cz_one ⟨?_, lz_of (by dsimp only; (first | (apply Int.le_antisymm <;> omega) | omega))⟩
  have q := c1_20 (N := N) (gv := gv) (tk := tk) (fc := fc) (gc := gc) (v := v) (tp_of (o := o) (g := g) (d := d) a1 a2 (by (first | (apply Int.le_antisymm <;> omega) | omega)) a3) ho
  rw [show h - 2 + 0 = h - 2 by (first | (apply Int.le_antisymm <;> omega) | omega)]
  exact q
theorem Wv.call {v : Int} (h0 : 0 ≤ v) (h1 : v < fc) (h2 : 0 ≤ gv v.toNat) (h3 : 0 ≤ tk v.toNat) : Wv N fc gc gv tk [(16, v)] (tk v.toNat) (gv v.toNat) := by
  intro o g hb d R h a1 a2 a3
  exact cz_one ⟨c1_call (tp_of (o := o) (g := g) (d := d) a1 a2 h3 a3) h0 h1 h2 h3, lz_of (by dsimp only; (first | (apply Int.le_antisymm <;> omega) | omega))⟩
/-- a value that is asked for by an if -/
theorem Wv.ife {l1 l2 : List ci} (h1 : Wv N fc gc gv tk l1 0 1) (h2 : Wv N fc gc gv tk l2 0 1) : Wv N fc gc gv tk ((4, 127) :: (l1 ++ ((5, 0) :: (l2 ++ [(11, 0)])))) 1 1 := by
  intro o g hb d R h a1 a2 a3
  rw [show h - 1 + 1 = h by (first | (apply Int.le_antisymm <;> omega) | omega)]
  have hm : ∀ y ∈ ((o, g, hb, d) :: R : List vt), 0 ≤ y.2.2.1 := (tp_of (o := o) (g := g) (d := d) a1 (show hb + 1 ≤ h by (first | (apply Int.le_antisymm <;> omega) | omega)) (by (first | (apply Int.le_antisymm <;> omega) | omega)) a3).2.2
  have k1 := h1 4 127 (h - 1) 0 ((o, g, hb, d) :: R) (h - 1) (by (first | (apply Int.le_antisymm <;> omega) | omega)) (by (first | (apply Int.le_antisymm <;> omega) | omega)) hm
  have k2 := h2 5 127 (h - 1) 0 ((o, g, hb, d) :: R) (h - 1) (by (first | (apply Int.le_antisymm <;> omega) | omega)) (by (first | (apply Int.le_antisymm <;> omega) | omega)) hm
  rw [show h - 1 - 0 + 1 = h by (first | (apply Int.le_antisymm <;> omega) | omega)] at k1 k2
  refine cz_cons ⟨c1_if (tp_of a1 (show hb + 1 ≤ h by (first | (apply Int.le_antisymm <;> omega) | omega)) (by (first | (apply Int.le_antisymm <;> omega) | omega)) a3) rfl, lz_of (by dsimp only; (first | (apply Int.le_antisymm <;> omega) | omega))⟩ (cz_app k1 (cz_cons ⟨c1_els (hb := h - 1) (by show h = h - 1 + ga 127; unfold ga; rw [if_neg (by decide)]; (first | (apply Int.le_antisymm <;> omega) | omega)) (by (first | (apply Int.le_antisymm <;> omega) | omega)) hm, lz_of (by dsimp only; (first | (apply Int.le_antisymm <;> omega) | omega))⟩ (cz_app k2 (cz_one ⟨c1_end (hb := h - 1) (g := 127) (by show h = h - 1 + ga 127; unfold ga; rw [if_neg (by decide)]; (first | (apply Int.le_antisymm <;> omega) | omega)) (by show h = h - 1 + ga 127; unfold ga; rw [if_neg (by decide)]; (first | (apply Int.le_antisymm <;> omega) | omega)) (by (first | (apply Int.le_antisymm <;> omega) | omega)) hm (by decide), lz_of (by dsimp only; (first | (apply Int.le_antisymm <;> omega) | omega))⟩))))
/-- the code of a value of type t: its cost, its ifs within ifs -/
def vok (N fc gc : Int) (gv tk : Nat → Int) (l : List ci) (t c : Int) (b : Nat) : Prop :=
  iokl2 l ∧ 8 * (l.length : Int) ≤ c ∧ 5 * ((enl l).length : Int) ≤ c ∧ (∀ S : List Nat, S.length + b ≤ 100 → dl l S = some S) ∧ (t ≠ 0 → Wv N fc gc gv tk l 0 1) ∧
  ∀ (o g hb d : Int) (R : List vt) (h : Int), 0 ≤ hb → hb ≤ h → (∀ y ∈ R, 0 ≤ y.2.2.1) → ∃ d', cz N gv tk fc gc l ((o, g, hb, d) :: R) h ((o, g, hb, d') :: R) (h + ga0 t)
theorem vok_W {l : List ci} {t c : Int} {b : Nat} (h1 : iokl2 l) (h2 : 8 * (l.length : Int) ≤ c) (h3 : 5 * ((enl l).length : Int) ≤ c) (h4 : ∀ S : List Nat, S.length + b ≤ 100 → dl l S = some S) (h5 : Wv N fc gc gv tk l 0 (ga0 t)) : vok N fc gc gv tk l t c b := by
  refine ⟨h1, h2, h3, h4, fun z => ?_, fun o g hb d R h a1 a2 a3 => ⟨d, ?_⟩⟩
  · have e := (ga0_b t).2.2.1 z
    rw [e] at h5
    exact h5
  · have k := h5 o g hb d R h a1 (by (first | (apply Int.le_antisymm <;> omega) | omega)) a3
    rw [show h - 0 + ga0 t = h + ga0 t by (first | (apply Int.le_antisymm <;> omega) | omega)] at k
    exact k
end WV
end q_m64
section q_m67
/-! the reference: the code of statements -/
/-- which labels are open: bk of them, the loop's is the lp-th -/
def lpk (B : List vt) (bk lp : Nat) : Prop := B.length = bk + 1 ∧ (lp ≠ 0 → lp ≤ bk ∧ ∃ x y : vt, B[bk - lp]? = some x ∧ x.1 = 3 ∧ B[bk - lp + 1]? = some y ∧ y.2.1 = 64)
def bot9 (B : List vt) (gg : Int) : Prop := ∃ x : vt, B[B.length - 1]? = some x ∧ x.2.1 = gg
theorem lpk_d {o g hb d d' : Int} {R : List vt} {bk lp : Nat} (h : lpk ((o, g, hb, d) :: R) bk lp) : lpk ((o, g, hb, d') :: R) bk lp := by
  obtain ⟨h1, h2⟩ := h
  refine ⟨h1, fun z => ?_⟩
  obtain ⟨h3, x, y, h4, h5, h6, h7⟩ := h2 z
  refine ⟨h3, ?_⟩
  cases e : bk - lp with
  | zero =>
    rw [e] at h4 h6
    have ex : (o, g, hb, d) = x := by simpa using h4
    rw [← ex] at h5
    exact ⟨(o, g, hb, d'), y, rfl, h5, by simpa using h6, h7⟩
  | succ k =>
    rw [e] at h4 h6
    exact ⟨x, y, by simpa using h4, h5, by simpa using h6, h7⟩
theorem bot_d {o g hb d d' gg : Int} {R : List vt} (h : bot9 ((o, g, hb, d) :: R) gg) : bot9 ((o, g, hb, d') :: R) gg := by
  obtain ⟨x, h1, h2⟩ := h
  cases R with
  | nil =>
    have ex : (o, g, hb, d) = x := by simpa using h1
    rw [← ex] at h2
    exact ⟨(o, g, hb, d'), rfl, h2⟩
  | cons y R => exact ⟨x, by simpa using h1, h2⟩
theorem lpk_in {x : vt} {B : List vt} {bk lp : Nat} (h : lpk B bk lp) : lpk (x :: B) (bk + 1) lp := by
  obtain ⟨h1, h2⟩ := h
  refine ⟨by rw [List.length_cons, h1], fun z => ?_⟩
  obtain ⟨h3, y, w, h4, h5, h6, h7⟩ := h2 z
  refine ⟨by (first | (apply Int.le_antisymm <;> omega) | omega), y, w, ?_, h5, ?_, h7⟩
  · rw [show bk + 1 - lp = bk - lp + 1 by (first | (apply Int.le_antisymm <;> omega) | omega), List.getElem?_cons_succ]; exact h4
  · rw [show bk + 1 - lp + 1 = bk - lp + 1 + 1 by (first | (apply Int.le_antisymm <;> omega) | omega), List.getElem?_cons_succ]; exact h6
theorem bot_in {x : vt} {B : List vt} {gg : Int} (h : bot9 B gg) : bot9 (x :: B) gg := by
  obtain ⟨y, h1, h2⟩ := h
  have hl : 0 < B.length := by
    rcases B with _ | ⟨z, B⟩
    · cases h1
    · simp
  refine ⟨y, ?_, h2⟩
  rw [List.length_cons, show B.length + 1 - 1 = B.length - 1 + 1 by (first | (apply Int.le_antisymm <;> omega) | omega), List.getElem?_cons_succ]
  exact h1
/-- the code of a statement: the height stays, the top block may be dead behind it -/
def stk (N fc gc : Int) (gv tk : Nat → Int) (l : List ci) (bk lp : Nat) (gg c : Int) (b : Nat) : Prop :=
  iokl2 l ∧ 8 * (l.length : Int) ≤ c ∧ 5 * ((enl l).length : Int) ≤ c ∧ (∀ S : List Nat, S.length + b ≤ 100 → dl l S = some S) ∧
  ∀ (o g hb d : Int) (R : List vt) (h : Int), 0 ≤ hb → hb ≤ h → (∀ y ∈ R, 0 ≤ y.2.2.1) → lpk ((o, g, hb, d) :: R) bk lp → bot9 ((o, g, hb, d) :: R) gg → ∃ d', cz N gv tk fc gc l ((o, g, hb, d) :: R) h ((o, g, hb, d') :: R) h
section ST
variable {N fc gc : Int} {gv tk : Nat → Int} {bk lp b : Nat} {gg : Int}
theorem stk_nil : stk N fc gc gv tk [] bk lp gg 0 b := ⟨trivial, by simp, by simp [enl], fun S _ => rfl, fun o g hb d R h _ _ _ _ _ => ⟨d, rfl, rfl⟩⟩
theorem stk_app {l l2 : List ci} {c c2 : Int} (h : stk N fc gc gv tk l bk lp gg c b) (h2 : stk N fc gc gv tk l2 bk lp gg c2 b) : stk N fc gc gv tk (l ++ l2) bk lp gg (c + c2) b := by
  obtain ⟨a1, a2, a3, a4, a5⟩ := h
  obtain ⟨b1, b2, b3, b4, b5⟩ := h2
  refine ⟨iokl2_app a1 b1, by rw [List.length_append]; (first | (apply Int.le_antisymm <;> omega) | omega), by rw [enl_app, List.length_append]; (first | (apply Int.le_antisymm <;> omega) | omega), fun S hS => dl_app (a4 S hS) (b4 S hS), fun o g hb d R h x1 x2 x3 x4 x5 => ?_⟩
  obtain ⟨d1, w1⟩ := a5 o g hb d R h x1 x2 x3 x4 x5
  obtain ⟨d2, w2⟩ := b5 o g hb d1 R h x1 x2 x3 (lpk_d x4) (bot_d x5)
  exact ⟨d2, cz_app w1 w2⟩
theorem stk_le {l : List ci} {c c2 : Int} (h : stk N fc gc gv tk l bk lp gg c b) (hc : c ≤ c2) : stk N fc gc gv tk l bk lp gg c2 b := ⟨h.1, by have := h.2.1; (first | (apply Int.le_antisymm <;> omega) | omega), by have := h.2.2.1; (first | (apply Int.le_antisymm <;> omega) | omega), h.2.2.2⟩
/-- a value alone -/
theorem stk_v0 {l : List ci} {t c : Int} (h : vok N fc gc gv tk l t c b) (ht : t = 0) : stk N fc gc gv tk l bk lp gg c b := by
  subst ht
  obtain ⟨a1, a2, a3, a4, -, a6⟩ := h
  refine ⟨a1, a2, a3, a4, fun o g hb d R h x1 x2 x3 _ _ => ?_⟩
  obtain ⟨d', w⟩ := a6 o g hb d R h x1 x2 x3
  rw [show h + ga0 0 = h from by rw [(ga0_b 0).2.2.2 rfl, Int.add_zero]] at w
  exact ⟨d', w⟩
/-- a value that is taken away -/
theorem stk_10 {l : List ci} {t c c2 o v : Int} (h : vok N fc gc gv tk l t c b) (ht : t ≠ 0) (ho : o = 26 ∨ o = 33 ∨ o = 36) (h1 : o = 33 → 0 ≤ v ∧ v < N) (h2 : o = 36 → 0 ≤ v ∧ v < gc) (hv : 0 ≤ v ∧ v < 128) (h26 : o = 26 → v = 0) (hc : c + 10 ≤ c2) : stk N fc gc gv tk (l ++ [(o, v)]) bk lp gg c2 b := by
  obtain ⟨a1, a2, a3, a4, a5, -⟩ := h
  have el : (enl [(o, v)]).length ≤ 2 := by
    rw [enl_one]
    by_cases q : o = 26
    · rw [en_x (by (first | (apply Int.le_antisymm <;> omega) | omega))]; simp
    · rw [en_u (by (first | (apply Int.le_antisymm <;> omega) | omega)) hv.1 hv.2]; simp
  refine ⟨iokl2_app a1 ⟨Or.inl (by unfold iok two; dsimp only; (first | (apply Int.le_antisymm <;> omega) | omega)), trivial⟩, by rw [List.length_append, List.length_singleton]; (first | (apply Int.le_antisymm <;> omega) | omega), by rw [enl_app, List.length_append]; (first | (apply Int.le_antisymm <;> omega) | omega), fun S hS => dl_app (a4 S hS) (dl_1 (by dsimp only; (first | (apply Int.le_antisymm <;> omega) | omega))), fun o' g hb d R h x1 x2 x3 _ _ => ⟨d, ?_⟩⟩
  have w := ((a5 ht).seq (Wv.w10 ho h1 h2) (by (first | (apply Int.le_antisymm <;> omega) | omega)) (by (first | (apply Int.le_antisymm <;> omega) | omega)) (show (0 : Int) = 1 - 1 + 0 by (first | (apply Int.le_antisymm <;> omega) | omega))) o' g hb d R h x1 (by (first | (apply Int.le_antisymm <;> omega) | omega)) x3
  rw [show h - 0 + 0 = h by (first | (apply Int.le_antisymm <;> omega) | omega)] at w
  exact w
/-- break, continue -/
theorem stk_br {v : Int} {k : Nat} (hl : lp ≠ 0) (hk : k = 0 ∨ k = 1) (hv : v = (bk : Int) - lp + k) (hbk : bk ≤ 100) (hlb : lp ≤ bk) : stk N fc gc gv tk [(12, v)] bk lp gg 10 b := by
  refine ⟨⟨Or.inl (by unfold iok two; dsimp only; (first | (apply Int.le_antisymm <;> omega) | omega)), trivial⟩, by simp, by rw [enl_one, en_u (by (first | (apply Int.le_antisymm <;> omega) | omega)) (by (first | (apply Int.le_antisymm <;> omega) | omega)) (by (first | (apply Int.le_antisymm <;> omega) | omega))]; simp, fun S _ => dl_1 (by dsimp only; (first | (apply Int.le_antisymm <;> omega) | omega)), fun o g hb d R h x1 x2 x3 x4 _ => ⟨1, ?_⟩⟩
  have t := tp_of (o := o) (g := g) (d := d) (p := 0) (h := h) x1 (by (first | (apply Int.le_antisymm <;> omega) | omega)) (by (first | (apply Int.le_antisymm <;> omega) | omega)) x3
  refine cz_one ⟨c1_d t (by (first | (apply Int.le_antisymm <;> omega) | omega)) x2, o, g, hb, d, R, rfl, ⟨fun _ => ?_, fun z => by dsimp only at z; (first | (apply Int.le_antisymm <;> omega) | omega), fun z => by dsimp only at z; (first | (apply Int.le_antisymm <;> omega) | omega)⟩, by dsimp only; (first | (apply Int.le_antisymm <;> omega) | omega), by dsimp only; (first | (apply Int.le_antisymm <;> omega) | omega), by dsimp only; (first | (apply Int.le_antisymm <;> omega) | omega)⟩
  obtain ⟨-, x4⟩ := x4
  obtain ⟨-, x, y, q1, q2, q3, q4⟩ := x4 hl
  rcases hk with rfl | rfl
  · exact ⟨x, by show _[v.toNat]? = _; rw [show v.toNat = bk - lp by (first | (apply Int.le_antisymm <;> omega) | omega)]; exact q1, fun z => absurd q2 z⟩
  · exact ⟨y, by show _[v.toNat]? = _; rw [show v.toNat = bk - lp + 1 by (first | (apply Int.le_antisymm <;> omega) | omega)]; exact q3, fun _ z => absurd q4 z⟩
/-- return -/
theorem stk_ret0 (hg : gg = 64) : stk N fc gc gv tk [(15, 0)] bk lp gg 8 b := by
  refine ⟨⟨Or.inl (by unfold iok two; dsimp only; (first | (apply Int.le_antisymm <;> omega) | omega)), trivial⟩, by simp, by rw [enl_one, en_x (by (first | (apply Int.le_antisymm <;> omega) | omega))]; simp, fun S _ => dl_1 (by dsimp only; (first | (apply Int.le_antisymm <;> omega) | omega)), fun o g hb d R h x1 x2 x3 _ x5 => ⟨1, ?_⟩⟩
  have t := tp_of (o := o) (g := g) (d := d) (p := 0) (h := h) x1 (by (first | (apply Int.le_antisymm <;> omega) | omega)) (by (first | (apply Int.le_antisymm <;> omega) | omega)) x3
  refine cz_one ⟨c1_d t (by (first | (apply Int.le_antisymm <;> omega) | omega)) x2, o, g, hb, d, R, rfl, ⟨fun z => by dsimp only at z; (first | (apply Int.le_antisymm <;> omega) | omega), fun z => by dsimp only at z; (first | (apply Int.le_antisymm <;> omega) | omega), fun _ => ?_⟩, by dsimp only; (first | (apply Int.le_antisymm <;> omega) | omega), by dsimp only; (first | (apply Int.le_antisymm <;> omega) | omega), by dsimp only; (first | (apply Int.le_antisymm <;> omega) | omega)⟩
  obtain ⟨x, q1, q2⟩ := x5
  refine ⟨x, ?_, fun _ z => absurd (q2.trans hg) z⟩
  rw [Int.toNat_natCast]
  exact q1
theorem stk_ret1 {l : List ci} {t c c2 : Int} (h : vok N fc gc gv tk l t c b) (ht : t ≠ 0) (hc : c + 8 ≤ c2) : stk N fc gc gv tk (l ++ [(15, 0)]) bk lp gg c2 b := by
  obtain ⟨a1, a2, a3, a4, a5, -⟩ := h
  refine ⟨iokl2_app a1 ⟨Or.inl (by unfold iok two; dsimp only; (first | (apply Int.le_antisymm <;> omega) | omega)), trivial⟩, by rw [List.length_append, List.length_singleton]; (first | (apply Int.le_antisymm <;> omega) | omega), by rw [enl_app, enl_one, en_x (by (first | (apply Int.le_antisymm <;> omega) | omega)), List.length_append, List.length_singleton]; (first | (apply Int.le_antisymm <;> omega) | omega), fun S hS => dl_app (a4 S hS) (dl_1 (by dsimp only; (first | (apply Int.le_antisymm <;> omega) | omega))), fun o g hb d R h x1 x2 x3 _ x5 => ⟨1, ?_⟩⟩
  have w := a5 ht o g hb d R h x1 (by (first | (apply Int.le_antisymm <;> omega) | omega)) x3
  rw [show h - 0 + 1 = h + 1 by (first | (apply Int.le_antisymm <;> omega) | omega)] at w
  have t := tp_of (o := o) (g := g) (d := d) (p := 0) (h := h + 1) x1 (by (first | (apply Int.le_antisymm <;> omega) | omega)) (by (first | (apply Int.le_antisymm <;> omega) | omega)) x3
  refine cz_app w (cz_one ⟨c1_d t (by (first | (apply Int.le_antisymm <;> omega) | omega)) x2, o, g, hb, d, R, rfl, ⟨fun z => by dsimp only at z; (first | (apply Int.le_antisymm <;> omega) | omega), fun z => by dsimp only at z; (first | (apply Int.le_antisymm <;> omega) | omega), fun _ => ?_⟩, by dsimp only; (first | (apply Int.le_antisymm <;> omega) | omega), by dsimp only; (first | (apply Int.le_antisymm <;> omega) | omega), by dsimp only; (first | (apply Int.le_antisymm <;> omega) | omega)⟩)
  obtain ⟨x, q1, q2⟩ := x5
  refine ⟨x, ?_, fun _ _ => by (first | (apply Int.le_antisymm <;> omega) | omega)⟩
  rw [Int.toNat_natCast]
  exact q1
theorem ga64 : ga 64 = 0 := by unfold ga; rw [if_pos rfl]
theorem dl_if {l : List ci} {S : List Nat} {op v : Int} (ho : op = 2 ∨ op = 3 ∨ op = 4) (hS : S.length < 100) (h : dl l (op.toNat :: S) = some (op.toNat :: S)) : dl ((op, v) :: (l ++ [(11, 0)])) S = some S := by
  rw [dl_p ho hS]
  refine dl_app h ?_
  rw [dl_go (b := S) (by unfold d1; rw [if_neg (by dsimp only; (first | (apply Int.le_antisymm <;> omega) | omega)), if_neg (by dsimp only; (first | (apply Int.le_antisymm <;> omega) | omega)), if_pos rfl])]
  rfl
theorem e_if {l0 l1 : List ci} : enl (l0 ++ ((4, 64) :: (l1 ++ [(11, 0)]))) = enl l0 ++ ([4, 64] ++ (enl l1 ++ [11])) := by
  have e : enl (l0 ++ ((4, 64) :: (l1 ++ [(11, 0)]))) = enl l0 ++ (enl [(4, 64)] ++ (enl l1 ++ enl [(11, 0)])) := by rw [← enl_app, ← enl_app, ← enl_app]; rfl
  rw [e]
  rfl
theorem stk_if {l0 l1 : List ci} {t c0 c1 c2 : Int} {b1 : Nat} (h0 : vok N fc gc gv tk l0 t c0 b) (ht : t ≠ 0) (h1 : stk N fc gc gv tk l1 (bk + 1) lp gg c1 b1) (hb1 : b1 + 1 ≤ b) (hc : c0 + c1 + 16 ≤ c2) : stk N fc gc gv tk (l0 ++ ((4, 64) :: (l1 ++ [(11, 0)]))) bk lp gg c2 b := by
  obtain ⟨a1, a2, a3, a4, a5, -⟩ := h0
  obtain ⟨b1_, b2, b3, b4, b5⟩ := h1
  refine ⟨iokl2_app a1 ⟨Or.inl (by unfold iok two; dsimp only; (first | (apply Int.le_antisymm <;> omega) | omega)), iokl2_app b1_ ⟨Or.inl (by unfold iok two; dsimp only; (first | (apply Int.le_antisymm <;> omega) | omega)), trivial⟩⟩, by rw [List.length_append, List.length_cons, List.length_append, List.length_singleton]; (first | (apply Int.le_antisymm <;> omega) | omega), by rw [e_if, List.length_append, List.length_append, List.length_append, show ([4, 64] : List Nat).length = 2 from rfl, show ([11] : List Nat).length = 1 from rfl]; (first | (apply Int.le_antisymm <;> omega) | omega), fun S hS => dl_app (a4 S hS) (dl_if (by (first | (apply Int.le_antisymm <;> omega) | omega)) (by (first | (apply Int.le_antisymm <;> omega) | omega)) (b4 _ (by rw [List.length_cons]; (first | (apply Int.le_antisymm <;> omega) | omega)))), fun o g hb d R h x1 x2 x3 x4 x5 => ⟨d, ?_⟩⟩
  have hm := (tp_of (o := o) (g := g) (d := d) (p := 0) (h := h) x1 (by (first | (apply Int.le_antisymm <;> omega) | omega)) (by (first | (apply Int.le_antisymm <;> omega) | omega)) x3).2.2
  have w0 := a5 ht o g hb d R h x1 (by (first | (apply Int.le_antisymm <;> omega) | omega)) x3
  rw [show h - 0 + 1 = h + 1 by (first | (apply Int.le_antisymm <;> omega) | omega)] at w0
  obtain ⟨d1, w1⟩ := b5 4 64 h 0 ((o, g, hb, d) :: R) h (by (first | (apply Int.le_antisymm <;> omega) | omega)) (by (first | (apply Int.le_antisymm <;> omega) | omega)) hm (lpk_in x4) (bot_in x5)
  exact cz_app w0 (cz_cons ⟨c1_if (tp_of (p := 1) x1 (by (first | (apply Int.le_antisymm <;> omega) | omega)) (by (first | (apply Int.le_antisymm <;> omega) | omega)) x3) (by (first | (apply Int.le_antisymm <;> omega) | omega)), lz_of (by dsimp only; (first | (apply Int.le_antisymm <;> omega) | omega))⟩ (cz_app w1 (cz_one ⟨c1_end (hb := h) (g := 64) (by rw [ga64]; (first | (apply Int.le_antisymm <;> omega) | omega)) (by rw [ga64]; (first | (apply Int.le_antisymm <;> omega) | omega)) (by (first | (apply Int.le_antisymm <;> omega) | omega)) hm (fun _ => rfl), lz_of (by dsimp only; (first | (apply Int.le_antisymm <;> omega) | omega))⟩)))
theorem e_ife {l0 l1 l2 : List ci} : enl (l0 ++ ((4, 64) :: (l1 ++ ((5, 0) :: (l2 ++ [(11, 0)]))))) = enl l0 ++ ([4, 64] ++ (enl l1 ++ ([5] ++ (enl l2 ++ [11])))) := by
  have e : enl (l0 ++ ((4, 64) :: (l1 ++ ((5, 0) :: (l2 ++ [(11, 0)]))))) = enl l0 ++ (enl [(4, 64)] ++ (enl l1 ++ (enl [(5, 0)] ++ (enl l2 ++ enl [(11, 0)])))) := by rw [← enl_app, ← enl_app, ← enl_app, ← enl_app, ← enl_app]; rfl
  rw [e]
  rfl
theorem stk_ife {l0 l1 l2 : List ci} {t c0 c1 c2 c3 : Int} {b1 : Nat} (h0 : vok N fc gc gv tk l0 t c0 b) (ht : t ≠ 0) (h1 : stk N fc gc gv tk l1 (bk + 1) lp gg c1 b1) (h2 : stk N fc gc gv tk l2 (bk + 1) lp gg c2 b1) (hb1 : b1 + 1 ≤ b) (hc : c0 + c1 + c2 + 24 ≤ c3) : stk N fc gc gv tk (l0 ++ ((4, 64) :: (l1 ++ ((5, 0) :: (l2 ++ [(11, 0)]))))) bk lp gg c3 b := by
  obtain ⟨a1, a2, a3, a4, a5, -⟩ := h0
  obtain ⟨b1_, b2, b3, b4, b5⟩ := h1
  obtain ⟨d1_, d2, d3, d4, d5⟩ := h2
  refine ⟨iokl2_app a1 ⟨Or.inl (by unfold iok two; dsimp only; (first | (apply Int.le_antisymm <;> omega) | omega)), iokl2_app b1_ ⟨Or.inl (by unfold iok two; dsimp only; (first | (apply Int.le_antisymm <;> omega) | omega)), iokl2_app d1_ ⟨Or.inl (by unfold iok two; dsimp only; (first | (apply Int.le_antisymm <;> omega) | omega)), trivial⟩⟩⟩, by rw [List.length_append, List.length_cons, List.length_append, List.length_cons, List.length_append, List.length_singleton]; (first | (apply Int.le_antisymm <;> omega) | omega), by rw [e_ife, List.length_append, List.length_append, List.length_append, List.length_append, List.length_append, show ([4, 64] : List Nat).length = 2 from rfl, show ([5] : List Nat).length = 1 from rfl, show ([11] : List Nat).length = 1 from rfl]; (first | (apply Int.le_antisymm <;> omega) | omega), fun S hS => ?_, fun o g hb d R h x1 x2 x3 x4 x5 => ⟨d, ?_⟩⟩
  · refine dl_app (a4 S hS) ?_
    rw [dl_p (by (first | (apply Int.le_antisymm <;> omega) | omega)) (by (first | (apply Int.le_antisymm <;> omega) | omega))]
    refine dl_app (b4 (4 :: S) (by rw [List.length_cons]; (first | (apply Int.le_antisymm <;> omega) | omega))) ?_
    rw [dl_go (b := 5 :: S) (by unfold d1; rw [if_neg (by dsimp only; (first | (apply Int.le_antisymm <;> omega) | omega)), if_pos rfl]; rfl)]
    refine dl_app (d4 (5 :: S) (by rw [List.length_cons]; (first | (apply Int.le_antisymm <;> omega) | omega))) ?_
    rw [dl_go (b := S) (by unfold d1; rw [if_neg (by dsimp only; (first | (apply Int.le_antisymm <;> omega) | omega)), if_neg (by dsimp only; (first | (apply Int.le_antisymm <;> omega) | omega)), if_pos rfl])]
    rfl
  · have hm := (tp_of (o := o) (g := g) (d := d) (p := 0) (h := h) x1 (by (first | (apply Int.le_antisymm <;> omega) | omega)) (by (first | (apply Int.le_antisymm <;> omega) | omega)) x3).2.2
    have w0 := a5 ht o g hb d R h x1 (by (first | (apply Int.le_antisymm <;> omega) | omega)) x3
    rw [show h - 0 + 1 = h + 1 by (first | (apply Int.le_antisymm <;> omega) | omega)] at w0
    obtain ⟨e1, w1⟩ := b5 4 64 h 0 ((o, g, hb, d) :: R) h (by (first | (apply Int.le_antisymm <;> omega) | omega)) (by (first | (apply Int.le_antisymm <;> omega) | omega)) hm (lpk_in x4) (bot_in x5)
    obtain ⟨e2, w2⟩ := d5 5 64 h 0 ((o, g, hb, d) :: R) h (by (first | (apply Int.le_antisymm <;> omega) | omega)) (by (first | (apply Int.le_antisymm <;> omega) | omega)) hm (lpk_in x4) (bot_in x5)
    exact cz_app w0 (cz_cons ⟨c1_if (tp_of (p := 1) x1 (by (first | (apply Int.le_antisymm <;> omega) | omega)) (by (first | (apply Int.le_antisymm <;> omega) | omega)) x3) (by (first | (apply Int.le_antisymm <;> omega) | omega)), lz_of (by dsimp only; (first | (apply Int.le_antisymm <;> omega) | omega))⟩ (cz_app w1 (cz_cons ⟨c1_els (hb := h) (g := 64) (by rw [ga64]; (first | (apply Int.le_antisymm <;> omega) | omega)) (by (first | (apply Int.le_antisymm <;> omega) | omega)) hm, lz_of (by dsimp only; (first | (apply Int.le_antisymm <;> omega) | omega))⟩ (cz_app w2 (cz_one ⟨c1_end (hb := h) (g := 64) (by rw [ga64]; (first | (apply Int.le_antisymm <;> omega) | omega)) (by rw [ga64]; (first | (apply Int.le_antisymm <;> omega) | omega)) (by (first | (apply Int.le_antisymm <;> omega) | omega)) hm (fun _ => rfl), lz_of (by dsimp only; (first | (apply Int.le_antisymm <;> omega) | omega))⟩)))))
theorem e_wh {l0 l1 : List ci} : enl ((2, 64) :: (3, 64) :: (l0 ++ ((69, 0) :: (13, 1) :: (l1 ++ [(12, 0), (11, 0), (11, 0)])))) = [2, 64, 3, 64] ++ (enl l0 ++ ([69, 13, 1] ++ (enl l1 ++ [12, 0, 11, 11]))) := by
  have q0 : enl ((2, 64) :: (3, 64) :: (l0 ++ ((69, 0) :: (13, 1) :: (l1 ++ [(12, 0), (11, 0), (11, 0)])))) = enl [(2, 64), (3, 64)] ++ (enl l0 ++ (enl [(69, 0), (13, 1)] ++ (enl l1 ++ enl [(12, 0), (11, 0), (11, 0)]))) := by rw [← enl_app, ← enl_app, ← enl_app, ← enl_app]; rfl
  rw [q0]
  have q1 : enl [(2, 64), (3, 64)] = [2, 64, 3, 64] := rfl
  have q2 : enl [(69, 0), (13, 1)] = [69, 13, 1] := by
    show en (69, 0) ++ (en (13, 1) ++ []) = _
    rw [en_x (by (first | (apply Int.le_antisymm <;> omega) | omega)), en_u (by (first | (apply Int.le_antisymm <;> omega) | omega)) (by (first | (apply Int.le_antisymm <;> omega) | omega)) (by (first | (apply Int.le_antisymm <;> omega) | omega))]
    rfl
  have q3 : enl [(12, 0), (11, 0), (11, 0)] = [12, 0, 11, 11] := by
    show en (12, 0) ++ (en (11, 0) ++ (en (11, 0) ++ [])) = _
    rw [en_u (op := 12) (v := 0) (by (first | (apply Int.le_antisymm <;> omega) | omega)) (by (first | (apply Int.le_antisymm <;> omega) | omega)) (by (first | (apply Int.le_antisymm <;> omega) | omega)), en_x (op := 11) (v := 0) (by (first | (apply Int.le_antisymm <;> omega) | omega))]
    rfl
  rw [q1, q2, q3]
theorem stk_while {l0 l1 : List ci} {t c0 c1 c2 : Int} {b1 : Nat} (h0 : vok N fc gc gv tk l0 t c0 b1) (ht : t ≠ 0) (h1 : stk N fc gc gv tk l1 (bk + 2) (bk + 2) gg c1 b1) (hb1 : b1 + 2 ≤ b) (hc : c0 + c1 + 56 ≤ c2) : stk N fc gc gv tk ((2, 64) :: (3, 64) :: (l0 ++ ((69, 0) :: (13, 1) :: (l1 ++ [(12, 0), (11, 0), (11, 0)])))) bk lp gg c2 b := by
  obtain ⟨a1, a2, a3, a4, a5, -⟩ := h0
  obtain ⟨b1_, b2, b3, b4, b5⟩ := h1
  have ik : ∀ x : ci, (x = (2, 64) ∨ x = (3, 64) ∨ x = (69, 0) ∨ x = (13, 1) ∨ x = (12, 0) ∨ x = (11, 0)) → iok2 x := by
    intro x hx
    rcases hx with rfl | rfl | rfl | rfl | rfl | rfl <;> exact Or.inl (by unfold iok two; dsimp only; (first | (apply Int.le_antisymm <;> omega) | omega))
  refine ⟨⟨ik _ (by simp), ik _ (by simp), iokl2_app a1 ⟨ik _ (by simp), ik _ (by simp), iokl2_app b1_ ⟨ik _ (by simp), ik _ (by simp), ik _ (by simp), trivial⟩⟩⟩, ?_, ?_, fun S hS => ?_, fun o g hb d R h x1 x2 x3 x4 x5 => ⟨d, ?_⟩⟩
  · simp only [List.length_append, List.length_cons, List.length_nil]
    (first | (apply Int.le_antisymm <;> omega) | omega)
  · rw [e_wh]
    simp only [List.length_append, List.length_cons, List.length_nil]
    (first | (apply Int.le_antisymm <;> omega) | omega)
  · show dl ((2, 64) :: ((3, 64) :: (l0 ++ ([(69, 0), (13, 1)] ++ (l1 ++ [(12, 0), (11, 0), (11, 0)]))))) S = some S
    rw [dl_p (by (first | (apply Int.le_antisymm <;> omega) | omega)) (by (first | (apply Int.le_antisymm <;> omega) | omega)), dl_p (by (first | (apply Int.le_antisymm <;> omega) | omega)) (by rw [List.length_cons]; (first | (apply Int.le_antisymm <;> omega) | omega))]
    refine dl_app (a4 _ (by rw [List.length_cons, List.length_cons]; (first | (apply Int.le_antisymm <;> omega) | omega))) (dl_app (b := 3 :: 2 :: S) ?_ (dl_app (b4 _ (by rw [List.length_cons, List.length_cons]; (first | (apply Int.le_antisymm <;> omega) | omega))) ?_))
    · rw [dl_go (d1_0 (by dsimp only; (first | (apply Int.le_antisymm <;> omega) | omega))), dl_go (d1_0 (by dsimp only; (first | (apply Int.le_antisymm <;> omega) | omega)))]
      rfl
    · rw [dl_go (d1_0 (by dsimp only; (first | (apply Int.le_antisymm <;> omega) | omega))), dl_go (b := 2 :: S) (by unfold d1; rw [if_neg (by dsimp only; (first | (apply Int.le_antisymm <;> omega) | omega)), if_neg (by dsimp only; (first | (apply Int.le_antisymm <;> omega) | omega)), if_pos rfl]), dl_go (b := S) (by unfold d1; rw [if_neg (by dsimp only; (first | (apply Int.le_antisymm <;> omega) | omega)), if_neg (by dsimp only; (first | (apply Int.le_antisymm <;> omega) | omega)), if_pos rfl])]
      rfl
  · have hm := (tp_of (o := o) (g := g) (d := d) (p := 0) (h := h) x1 (by (first | (apply Int.le_antisymm <;> omega) | omega)) (by (first | (apply Int.le_antisymm <;> omega) | omega)) x3).2.2
    have hm2 := (tp_of (o := 2) (g := 64) (d := 0) (p := 0) (hb := h) (h := h) (by (first | (apply Int.le_antisymm <;> omega) | omega)) (by (first | (apply Int.le_antisymm <;> omega) | omega)) (by (first | (apply Int.le_antisymm <;> omega) | omega)) hm).2.2
    have w0 := a5 ht 3 64 h 0 ((2, 64, h, 0) :: (o, g, hb, d) :: R) h (by (first | (apply Int.le_antisymm <;> omega) | omega)) (by (first | (apply Int.le_antisymm <;> omega) | omega)) hm2
    rw [show h - 0 + 1 = h + 1 by (first | (apply Int.le_antisymm <;> omega) | omega)] at w0
    obtain ⟨e1, w1⟩ := b5 3 64 h 0 ((2, 64, h, 0) :: (o, g, hb, d) :: R) h (by (first | (apply Int.le_antisymm <;> omega) | omega)) (by (first | (apply Int.le_antisymm <;> omega) | omega)) hm2 ⟨by have := x4.1; simp only [List.length_cons] at this ⊢; (first | (apply Int.le_antisymm <;> omega) | omega), fun _ => ⟨Nat.le_refl _, (3, 64, h, 0), (2, 64, h, 0), by rw [Nat.sub_self]; rfl, rfl, by rw [Nat.sub_self]; rfl, rfl⟩⟩ (bot_in (bot_in x5))
    have t1 := tp_of (o := 3) (g := 64) (d := 0) (p := 1) (hb := h) (h := h + 1) (R := (2, 64, h, 0) :: (o, g, hb, d) :: R) (by (first | (apply Int.le_antisymm <;> omega) | omega)) (by (first | (apply Int.le_antisymm <;> omega) | omega)) (by (first | (apply Int.le_antisymm <;> omega) | omega)) hm2
    have k1 := c1_10 (N := N) (gv := gv) (tk := tk) (fc := fc) (gc := gc) (op := 13) (v := 1) t1 (by (first | (apply Int.le_antisymm <;> omega) | omega)) (fun z => by (first | (apply Int.le_antisymm <;> omega) | omega)) (fun z => by (first | (apply Int.le_antisymm <;> omega) | omega))
    rw [show h + 1 - 1 = h by (first | (apply Int.le_antisymm <;> omega) | omega)] at k1
    have t2 := tp_of (o := 3) (g := 64) (d := e1) (p := 0) (hb := h) (h := h) (R := (2, 64, h, 0) :: (o, g, hb, d) :: R) (by (first | (apply Int.le_antisymm <;> omega) | omega)) (by (first | (apply Int.le_antisymm <;> omega) | omega)) (by (first | (apply Int.le_antisymm <;> omega) | omega)) hm2
    refine cz_cons ⟨c1_blk (tp_of (p := 0) x1 (by (first | (apply Int.le_antisymm <;> omega) | omega)) (by (first | (apply Int.le_antisymm <;> omega) | omega)) x3) (by (first | (apply Int.le_antisymm <;> omega) | omega)), lz_of (by dsimp only; (first | (apply Int.le_antisymm <;> omega) | omega))⟩ (cz_cons ⟨c1_blk (tp_of (p := 0) (by (first | (apply Int.le_antisymm <;> omega) | omega)) (by (first | (apply Int.le_antisymm <;> omega) | omega)) (by (first | (apply Int.le_antisymm <;> omega) | omega)) hm) (by (first | (apply Int.le_antisymm <;> omega) | omega)), lz_of (by dsimp only; (first | (apply Int.le_antisymm <;> omega) | omega))⟩ (cz_app w0 (cz_cons ⟨c1_11 t1 (by (first | (apply Int.le_antisymm <;> omega) | omega)), lz_of (by dsimp only; (first | (apply Int.le_antisymm <;> omega) | omega))⟩ (cz_cons ⟨k1, 3, 64, h, 0, _, rfl, ⟨fun z => by dsimp only at z; (first | (apply Int.le_antisymm <;> omega) | omega), fun _ => ⟨(2, 64, h, 0), rfl, fun _ z => absurd rfl z⟩, fun z => by dsimp only at z; (first | (apply Int.le_antisymm <;> omega) | omega)⟩, by dsimp only; (first | (apply Int.le_antisymm <;> omega) | omega), by dsimp only; (first | (apply Int.le_antisymm <;> omega) | omega), by dsimp only; (first | (apply Int.le_antisymm <;> omega) | omega)⟩ (cz_app w1 (cz_cons ⟨c1_d t2 (by (first | (apply Int.le_antisymm <;> omega) | omega)) (Int.le_refl _), 3, 64, h, e1, _, rfl, ⟨fun _ => ⟨(3, 64, h, e1), rfl, fun z => absurd rfl z⟩, fun z => by dsimp only at z; (first | (apply Int.le_antisymm <;> omega) | omega), fun z => by dsimp only at z; (first | (apply Int.le_antisymm <;> omega) | omega)⟩, by dsimp only; (first | (apply Int.le_antisymm <;> omega) | omega), by dsimp only; (first | (apply Int.le_antisymm <;> omega) | omega), by dsimp only; (first | (apply Int.le_antisymm <;> omega) | omega)⟩ (cz_cons ⟨c1_end (hb := h) (g := 64) (h2 := h) (by rw [ga64]; (first | (apply Int.le_antisymm <;> omega) | omega)) (by rw [ga64]; (first | (apply Int.le_antisymm <;> omega) | omega)) (by (first | (apply Int.le_antisymm <;> omega) | omega)) hm2 (fun _ => rfl), lz_of (by dsimp only; (first | (apply Int.le_antisymm <;> omega) | omega))⟩ (cz_one ⟨c1_end (hb := h) (g := 64) (by rw [ga64]; (first | (apply Int.le_antisymm <;> omega) | omega)) (by rw [ga64]; (first | (apply Int.le_antisymm <;> omega) | omega)) (by (first | (apply Int.le_antisymm <;> omega) | omega)) hm (fun _ => rfl), lz_of (by dsimp only; (first | (apply Int.le_antisymm <;> omega) | omega))⟩))))))))
end ST
end q_m67
section q_m68
/-! the reference: trees of statements in the pool -/
/-- what a node of a statement may be; V: values, T: statements below it (within a loop or not) -/
def tsc (N gc gg : Int) (V : Nat → Int32 → Int → Nat → Prop) (T : Bool → Nat → Int → Nat → Prop) (il : Bool) (op cnt ix gl : Int32) (g : Nat → Option Nat) (c : Int) (b : Nat) : Prop :=
  (op.toInt = 18 ∧ ∃ (cf : Nat → Nat) (kf : Nat → Int), (∀ i : Nat, (i : Int) < cnt.toInt → g i = some (cf i) ∧ 0 ≤ kf i ∧ T il (cf i) (kf i) b) ∧ ksum kf cnt.toInt.toNat ≤ c) ∨
  ((op.toInt = 10 ∨ op.toInt = 11) ∧ 1 ≤ cnt.toInt ∧ (0 ≤ ix.toInt ∧ ix.toInt < 128) ∧ ((gl.toInt = 1 ∧ ix.toInt < gc) ∨ (gl.toInt = 0 ∧ ix.toInt < N)) ∧ ∃ (c0 : Nat) (t0 : Int32) (k0 : Int), g 0 = some c0 ∧ t27 t0.toInt ∧ V c0 t0 k0 b ∧ 0 ≤ k0 ∧ k0 + 10 ≤ c) ∨
  (op.toInt = 12 ∧ 2 ≤ cnt.toInt ∧ ∃ (c0 : Nat) (t0 : Int32) (k0 : Int) (c1 : Nat) (k1 : Int) (b1 : Nat), g 0 = some c0 ∧ t27 t0.toInt ∧ V c0 t0 k0 b ∧ 0 ≤ k0 ∧ g 1 = some c1 ∧ T il c1 k1 b1 ∧ 0 ≤ k1 ∧ b1 + 1 ≤ b ∧ ((cnt.toInt = 2 ∧ k0 + k1 + 16 ≤ c) ∨ (3 ≤ cnt.toInt ∧ ∃ (c2 : Nat) (k2 : Int), g 2 = some c2 ∧ T il c2 k2 b1 ∧ 0 ≤ k2 ∧ k0 + k1 + k2 + 24 ≤ c))) ∨
  (op.toInt = 13 ∧ 2 ≤ cnt.toInt ∧ ∃ (c0 : Nat) (t0 : Int32) (k0 : Int) (c1 : Nat) (k1 : Int) (b1 : Nat), g 0 = some c0 ∧ t27 t0.toInt ∧ V c0 t0 k0 b1 ∧ 0 ≤ k0 ∧ g 1 = some c1 ∧ T true c1 k1 b1 ∧ 0 ≤ k1 ∧ b1 + 2 ≤ b ∧ k0 + k1 + 56 ≤ c) ∨
  ((op.toInt = 14 ∨ op.toInt = 15) ∧ il = true ∧ 10 ≤ c) ∨
  (op.toInt = 16 ∧ ((cnt.toInt = 0 ∧ gg = 64 ∧ 8 ≤ c) ∨ (1 ≤ cnt.toInt ∧ ∃ (c0 : Nat) (t0 : Int32) (k0 : Int), g 0 = some c0 ∧ t27 t0.toInt ∧ V c0 t0 k0 b ∧ 0 ≤ k0 ∧ k0 + 8 ≤ c))) ∨
  (op.toInt = 17 ∧ 1 ≤ cnt.toInt ∧ ∃ (c0 : Nat) (t0 : Int32) (k0 : Int), g 0 = some c0 ∧ (t0.toInt = 0 ∨ t27 t0.toInt) ∧ V c0 t0 k0 b ∧ 0 ≤ k0 ∧ k0 + 10 ≤ c)
/-- a statement's tree: depth, within a loop, root, cost, labels within labels -/
def ts (L : List Nat) (f : Nat → va_E) (cpn cpb : ClassId) (N fc gc : Int) (gv tk : Nat → Int) (gg : Int) : Nat → Bool → Nat → Int → Nat → Prop
  | 0, _, _, _, _ => False
  | d + 1, il, a, c, b => ∃ (op pl : Int32) (nm : Value) (v : Int64) (t : Int32) (p n : Nat) (cnt ix gl : Int32) (g : Nat → Option Nat), a ∈ L ∧ nP f a op pl nm v t p cnt ix gl ∧ aP L f cpn p n g ∧ (0 ≤ cnt.toInt ∧ cnt.toInt ≤ (n : Int) ∧ n < 100000) ∧ tsc N gc gg (fun a t c b => ∃ e, e ≤ d ∧ tv L f cpn cpb N fc gc gv tk e a t c b) (ts L f cpn cpb N fc gc gv tk gg d) il op cnt ix gl g c b
theorem tsc.mono {N gc gg : Int} {V V2 : Nat → Int32 → Int → Nat → Prop} {T T2 : Bool → Nat → Int → Nat → Prop} {il : Bool} {op cnt ix gl : Int32} {g : Nat → Option Nat} {c : Int} {b : Nat} (hV : ∀ a t c b, V a t c b → V2 a t c b) (hT : ∀ i a c b, T i a c b → T2 i a c b) (h : tsc N gc gg V T il op cnt ix gl g c b) : tsc N gc gg V2 T2 il op cnt ix gl g c b := by
  rcases h with ⟨q, cf, kf, h1, h2⟩ | ⟨q1, q2, q3, q4, c0, t0, k0, q5, q6, q7, q8⟩ | ⟨q1, q2, c0, t0, k0, c1, k1, b1, q3, q4, q5, q6, q7, q8, q9, q10, q11⟩ | ⟨q1, q2, c0, t0, k0, c1, k1, b1, q3, q4, q5, q6, q7, q8, q9⟩ | h | ⟨q1, q2⟩ | ⟨q1, q2, c0, t0, k0, q3, q4, q5, q6⟩
  · exact Or.inl ⟨q, cf, kf, fun i hi => ⟨(h1 i hi).1, (h1 i hi).2.1, hT _ _ _ _ (h1 i hi).2.2⟩, h2⟩
  · exact Or.inr (Or.inl ⟨q1, q2, q3, q4, c0, t0, k0, q5, q6, hV _ _ _ _ q7, q8⟩)
  · refine Or.inr (Or.inr (Or.inl ⟨q1, q2, c0, t0, k0, c1, k1, b1, q3, q4, hV _ _ _ _ q5, q6, q7, hT _ _ _ _ q8, q9, q10, ?_⟩))
    rcases q11 with w | ⟨w1, c2, k2, w2, w3, w4⟩
    · exact Or.inl w
    · exact Or.inr ⟨w1, c2, k2, w2, hT _ _ _ _ w3, w4⟩
  · exact Or.inr (Or.inr (Or.inr (Or.inl ⟨q1, q2, c0, t0, k0, c1, k1, b1, q3, q4, hV _ _ _ _ q5, q6, q7, hT _ _ _ _ q8, q9⟩)))
  · exact Or.inr (Or.inr (Or.inr (Or.inr (Or.inl h))))
  · refine Or.inr (Or.inr (Or.inr (Or.inr (Or.inr (Or.inl ⟨q1, ?_⟩)))))
    rcases q2 with w | ⟨w1, c0, t0, k0, w2, w3, w4, w5⟩
    · exact Or.inl w
    · exact Or.inr ⟨w1, c0, t0, k0, w2, w3, hV _ _ _ _ w4, w5⟩
  · exact Or.inr (Or.inr (Or.inr (Or.inr (Or.inr (Or.inr ⟨q1, q2, c0, t0, k0, q3, q4, hV _ _ _ _ q5, q6⟩)))))
theorem ts_hsh {L : List Nat} {f f2 : Nat → va_E} {cpn cpb : ClassId} {N fc gc : Int} {gv tk : Nat → Int} {gg : Int} (hh : hsh f f2) : ∀ (d : Nat) {il : Bool} {a : Nat} {c : Int} {b : Nat}, ts L f cpn cpb N fc gc gv tk gg d il a c b → ts L f2 cpn cpb N fc gc gv tk gg d il a c b
  | 0, _, _, _, _, h => h
  | d + 1, il, a, c, b, h => by
    obtain ⟨op, pl, nm, v, t, p, n, cnt, ix, gl, hq9r⟩ := h
    obtain ⟨g, h1, h2, h3, h4, h5⟩ := hq9r
    exact ⟨op, pl, nm, v, t, p, n, cnt, ix, gl, g, h1, hh.n (by decide) h2, ⟨h3.1, hh.a h3.2⟩, h4, tsc.mono (fun a t c b ⟨e, e1, e2⟩ => ⟨e, e1, tv_hsh hh e e2⟩) (fun i a c b q => ts_hsh hh d q) h5⟩
end q_m68
section q_m68a
/-! the reference: trees of statements, by what they are -/
section TSC
variable {L : List Nat} {f : Nat → va_E} {cpn cpb : ClassId} {N fc gc gg : Int} {gv tk : Nat → Int} {V : Nat → Int32 → Int → Nat → Prop} {T : Bool → Nat → Int → Nat → Prop} {il : Bool} {op cnt ix gl : Int32} {g : Nat → Option Nat} {c : Int} {b d a : Nat}
theorem tsc_18 (h : tsc N gc gg V T il op cnt ix gl g c b) (e : op.toInt = 18) : ∃ (cf : Nat → Nat) (kf : Nat → Int), (∀ i : Nat, (i : Int) < cnt.toInt → g i = some (cf i) ∧ 0 ≤ kf i ∧ T il (cf i) (kf i) b) ∧ ksum kf cnt.toInt.toNat ≤ c := by
  rcases h with ⟨q, h⟩ | ⟨q, h⟩ | ⟨q, h⟩ | ⟨q, h⟩ | ⟨q, h⟩ | ⟨q, h⟩ | ⟨q, h⟩
  · exact h
  · exfalso; clear h; (first | (apply Int.le_antisymm <;> omega) | omega)
  · exfalso; clear h; (first | (apply Int.le_antisymm <;> omega) | omega)
  · exfalso; clear h; (first | (apply Int.le_antisymm <;> omega) | omega)
  · exfalso; clear h; (first | (apply Int.le_antisymm <;> omega) | omega)
  · exfalso; clear h; (first | (apply Int.le_antisymm <;> omega) | omega)
  · exfalso; clear h; (first | (apply Int.le_antisymm <;> omega) | omega)
theorem tsc_10 (h : tsc N gc gg V T il op cnt ix gl g c b) (e : op.toInt = 10 ∨ op.toInt = 11) : 1 ≤ cnt.toInt ∧ (0 ≤ ix.toInt ∧ ix.toInt < 128) ∧ ((gl.toInt = 1 ∧ ix.toInt < gc) ∨ (gl.toInt = 0 ∧ ix.toInt < N)) ∧ ∃ (c0 : Nat) (t0 : Int32) (k0 : Int), g 0 = some c0 ∧ t27 t0.toInt ∧ V c0 t0 k0 b ∧ 0 ≤ k0 ∧ k0 + 10 ≤ c := by
  rcases h with ⟨q, h⟩ | ⟨q, h⟩ | ⟨q, h⟩ | ⟨q, h⟩ | ⟨q, h⟩ | ⟨q, h⟩ | ⟨q, h⟩
  · exfalso; clear h; (first | (apply Int.le_antisymm <;> omega) | omega)
  · exact h
  · exfalso; clear h; (first | (apply Int.le_antisymm <;> omega) | omega)
  · exfalso; clear h; (first | (apply Int.le_antisymm <;> omega) | omega)
  · exfalso; clear h; (first | (apply Int.le_antisymm <;> omega) | omega)
  · exfalso; clear h; (first | (apply Int.le_antisymm <;> omega) | omega)
  · exfalso; clear h; (first | (apply Int.le_antisymm <;> omega) | omega)
theorem tsc_12 (h : tsc N gc gg V T il op cnt ix gl g c b) (e : op.toInt = 12) : 2 ≤ cnt.toInt ∧ ∃ (c0 : Nat) (t0 : Int32) (k0 : Int) (c1 : Nat) (k1 : Int) (b1 : Nat), g 0 = some c0 ∧ t27 t0.toInt ∧ V c0 t0 k0 b ∧ 0 ≤ k0 ∧ g 1 = some c1 ∧ T il c1 k1 b1 ∧ 0 ≤ k1 ∧ b1 + 1 ≤ b ∧ ((cnt.toInt = 2 ∧ k0 + k1 + 16 ≤ c) ∨ (3 ≤ cnt.toInt ∧ ∃ (c2 : Nat) (k2 : Int), g 2 = some c2 ∧ T il c2 k2 b1 ∧ 0 ≤ k2 ∧ k0 + k1 + k2 + 24 ≤ c)) := by
  rcases h with ⟨q, h⟩ | ⟨q, h⟩ | ⟨q, h⟩ | ⟨q, h⟩ | ⟨q, h⟩ | ⟨q, h⟩ | ⟨q, h⟩
  · exfalso; clear h; (first | (apply Int.le_antisymm <;> omega) | omega)
  · exfalso; clear h; (first | (apply Int.le_antisymm <;> omega) | omega)
  · exact h
  · exfalso; clear h; (first | (apply Int.le_antisymm <;> omega) | omega)
  · exfalso; clear h; (first | (apply Int.le_antisymm <;> omega) | omega)
  · exfalso; clear h; (first | (apply Int.le_antisymm <;> omega) | omega)
  · exfalso; clear h; (first | (apply Int.le_antisymm <;> omega) | omega)
theorem tsc_13 (h : tsc N gc gg V T il op cnt ix gl g c b) (e : op.toInt = 13) : 2 ≤ cnt.toInt ∧ ∃ (c0 : Nat) (t0 : Int32) (k0 : Int) (c1 : Nat) (k1 : Int) (b1 : Nat), g 0 = some c0 ∧ t27 t0.toInt ∧ V c0 t0 k0 b1 ∧ 0 ≤ k0 ∧ g 1 = some c1 ∧ T true c1 k1 b1 ∧ 0 ≤ k1 ∧ b1 + 2 ≤ b ∧ k0 + k1 + 56 ≤ c := by
  rcases h with ⟨q, h⟩ | ⟨q, h⟩ | ⟨q, h⟩ | ⟨q, h⟩ | ⟨q, h⟩ | ⟨q, h⟩ | ⟨q, h⟩
  · exfalso; clear h; (first | (apply Int.le_antisymm <;> omega) | omega)
  · exfalso; clear h; (first | (apply Int.le_antisymm <;> omega) | omega)
  · exfalso; clear h; (first | (apply Int.le_antisymm <;> omega) | omega)
  · exact h
  · exfalso; clear h; (first | (apply Int.le_antisymm <;> omega) | omega)
  · exfalso; clear h; (first | (apply Int.le_antisymm <;> omega) | omega)
  · exfalso; clear h; (first | (apply Int.le_antisymm <;> omega) | omega)
theorem tsc_14 (h : tsc N gc gg V T il op cnt ix gl g c b) (e : op.toInt = 14 ∨ op.toInt = 15) : il = true ∧ 10 ≤ c := by
  rcases h with ⟨q, h⟩ | ⟨q, h⟩ | ⟨q, h⟩ | ⟨q, h⟩ | ⟨q, h⟩ | ⟨q, h⟩ | ⟨q, h⟩
  · exfalso; clear h; (first | (apply Int.le_antisymm <;> omega) | omega)
  · exfalso; clear h; (first | (apply Int.le_antisymm <;> omega) | omega)
  · exfalso; clear h; (first | (apply Int.le_antisymm <;> omega) | omega)
  · exfalso; clear h; (first | (apply Int.le_antisymm <;> omega) | omega)
  · exact h
  · exfalso; clear h; (first | (apply Int.le_antisymm <;> omega) | omega)
  · exfalso; clear h; (first | (apply Int.le_antisymm <;> omega) | omega)
theorem tsc_16 (h : tsc N gc gg V T il op cnt ix gl g c b) (e : op.toInt = 16) : (cnt.toInt = 0 ∧ gg = 64 ∧ 8 ≤ c) ∨ (1 ≤ cnt.toInt ∧ ∃ (c0 : Nat) (t0 : Int32) (k0 : Int), g 0 = some c0 ∧ t27 t0.toInt ∧ V c0 t0 k0 b ∧ 0 ≤ k0 ∧ k0 + 8 ≤ c) := by
  rcases h with ⟨q, h⟩ | ⟨q, h⟩ | ⟨q, h⟩ | ⟨q, h⟩ | ⟨q, h⟩ | ⟨q, h⟩ | ⟨q, h⟩
  · exfalso; clear h; (first | (apply Int.le_antisymm <;> omega) | omega)
  · exfalso; clear h; (first | (apply Int.le_antisymm <;> omega) | omega)
  · exfalso; clear h; (first | (apply Int.le_antisymm <;> omega) | omega)
  · exfalso; clear h; (first | (apply Int.le_antisymm <;> omega) | omega)
  · exfalso; clear h; (first | (apply Int.le_antisymm <;> omega) | omega)
  · exact h
  · exfalso; clear h; (first | (apply Int.le_antisymm <;> omega) | omega)
theorem tsc_17 (h : tsc N gc gg V T il op cnt ix gl g c b) (e : op.toInt = 17) : 1 ≤ cnt.toInt ∧ ∃ (c0 : Nat) (t0 : Int32) (k0 : Int), g 0 = some c0 ∧ (t0.toInt = 0 ∨ t27 t0.toInt) ∧ V c0 t0 k0 b ∧ 0 ≤ k0 ∧ k0 + 10 ≤ c := by
  rcases h with ⟨q, h⟩ | ⟨q, h⟩ | ⟨q, h⟩ | ⟨q, h⟩ | ⟨q, h⟩ | ⟨q, h⟩ | ⟨q, h⟩
  · exfalso; clear h; (first | (apply Int.le_antisymm <;> omega) | omega)
  · exfalso; clear h; (first | (apply Int.le_antisymm <;> omega) | omega)
  · exfalso; clear h; (first | (apply Int.le_antisymm <;> omega) | omega)
  · exfalso; clear h; (first | (apply Int.le_antisymm <;> omega) | omega)
  · exfalso; clear h; (first | (apply Int.le_antisymm <;> omega) | omega)
  · exfalso; clear h; (first | (apply Int.le_antisymm <;> omega) | omega)
  · exact h
theorem tsc_op (h : tsc N gc gg V T il op cnt ix gl g c b) : 10 ≤ op.toInt ∧ op.toInt ≤ 18 := by
  rcases h with ⟨q, h⟩ | ⟨q, h⟩ | ⟨q, h⟩ | ⟨q, h⟩ | ⟨q, h⟩ | ⟨q, h⟩ | ⟨q, h⟩ <;> clear h <;> (first | (apply Int.le_antisymm <;> omega) | omega)
theorem ts_out (h : ts L f cpn cpb N fc gc gv tk gg d il a c b) : ∃ (d1 : Nat) (op pl : Int32) (nm : Value) (v : Int64) (t : Int32) (p n : Nat) (cnt ix gl : Int32) (g : Nat → Option Nat), d = d1 + 1 ∧ a ∈ L ∧ nP f a op pl nm v t p cnt ix gl ∧ aP L f cpn p n g ∧ (0 ≤ cnt.toInt ∧ cnt.toInt ≤ (n : Int) ∧ n < 100000) ∧ tsc N gc gg (fun a t c b => ∃ e, e ≤ d1 ∧ tv L f cpn cpb N fc gc gv tk e a t c b) (ts L f cpn cpb N fc gc gv tk gg d1) il op cnt ix gl g c b := by
  cases d with
  | zero => exact h.elim
  | succ d1 =>
    obtain ⟨op, pl, nm, v, t, p, n, cnt, ix, gl, g, h⟩ := h
    exact ⟨d1, op, pl, nm, v, t, p, n, cnt, ix, gl, g, rfl, h⟩
end TSC
end q_m68a
section q_m69
/-! the reference: what readModule read of what was compiled may be run -/
def r126 (g : Int) : Int := if g = 64 then 0 else 126
theorem comp_rk {gv gg qtk : Nat → Int} {qTs : List Nat} {qft qto : Nat → Int32} {qn : Nat} {qG : List (Nat × Int)} {qX : List (List Nat × Nat × Nat)} {tc fcn mems gcn ec cc : Int32} {least : Int64} {cu len : Int} {b en el mca mpc mre mlc mna mnl : Nat → Int32} {mto : Nat → Int64} {M2 : Nat → Nat → Int32}
    (h : rBx (Qc gv qtk gg (qn : Int) (qG.length : Int)) qTs qtk qft qto qn qG qX 11 tc fcn mems gcn ec cc least cu len b en el mca mpc mre mlc mna mnl mto M2) (hb : brg b) (ht : tyI qto qtk qft qn qTs) (hn : qn ≤ 20) (hl : qTs.length ≤ 20) (hcu : cu ≤ 32000) (hty : ∀ f, f < qn → ty (qft f).toInt) (hgg : ∀ f, f < qn → gg f = (qft f).toInt) (hgv : ∀ f, f < qn → gv f = ga0 (r126 (qft f).toInt)) :
    ∃ (nl : Nat → Int) (an : mc_A) (pos : Nat → Nat) (gop gpt gel gla : Nat → Int32) (gva : Nat → Int64), rko b en el mca mpc mre mlc mto fcn.toInt gcn.toInt (fun _ _ => 126) (fun _ _ => 126) (fun f => r126 (qft f).toInt) nl gv qtk (fun _ => 126) an pos gop gpt gel gla gva ∧ mdE ec.toInt len mna mnl ∧ mems.toInt = 1 ∧ least.toInt = 1 ∧ fcn.toInt = (qn : Int) := by
  obtain ⟨h1, h3, h5, h6, -, h7, h10⟩ := h
  obtain ⟨t1, t2⟩ := h1 (by decide)
  obtain ⟨f1, f2⟩ := h3 (by decide)
  have g1 := h6 (by decide)
  obtain ⟨-, n, lc, cfi, gop, gpt, gel, gla, gva, pos, hC, hX⟩ := h10 (by decide)
  rw [f1, g1]
  have hx : ∀ f : Nat, (f : Int) < (qn : Int) → (0 ≤ (mto f).toInt ∧ (mto f).toInt < 20) ∧ qtk f = (mpc (mto f).toInt.toNat).toInt ∧ (r126 (qft f).toInt = 0 ↔ (mre (mto f).toInt.toNat).toInt = 0) ∧ (r126 (qft f).toInt = 0 ∨ r126 (qft f).toInt = 126) ∧ gv f = ga0 (r126 (qft f).toInt) ∧ qtk f + (mlc f).toInt = qtk f + (mlc f).toInt ∧ (r126 (qft f).toInt ≠ 0 → gg f ≠ 64) := by
    intro f hf
    have hf2 : f < qn := by (first | (apply Int.le_antisymm <;> omega) | omega)
    obtain ⟨k0, r, k1, k2, k3⟩ := tyI_get qn ht f hf2
    have e := f2 f hf2
    have kl := (List.getElem?_eq_some_iff.mp k1).1
    obtain ⟨r2, m1, m2, m3⟩ := t2 (mto f).toInt.toNat (by (first | (apply Int.le_antisymm <;> omega) | omega))
    rw [show (mto f).toInt.toNat = (qto f).toInt.toNat by rw [e], k1] at m1
    have er := Option.some.inj m1
    subst er
    have hy := ty_z (hty f hf2)
    refine ⟨⟨by (first | (apply Int.le_antisymm <;> omega) | omega), by (first | (apply Int.le_antisymm <;> omega) | omega)⟩, by rw [m2, k2], ?_, ?_, hgv f hf2, rfl, fun z => ?_⟩
    · rw [m3]
      have k4 : (qft r).toInt = (qft f).toInt := by rw [k3]
      rw [k4]
      show r126 (qft f).toInt = 0 ↔ z64 (qft f).toInt = 0
      unfold r126
      rcases hy with ⟨a1, a2⟩ | ⟨a1, a2, a3⟩
      · rw [if_pos a1, a2]
      · rw [if_neg a1, a3]
        (first | (apply Int.le_antisymm <;> omega) | omega)
    · show r126 (qft f).toInt = 0 ∨ r126 (qft f).toInt = 126
      unfold r126
      split
      · exact Or.inl rfl
      · exact Or.inr rfl
    · rw [hgg f hf2]
      intro w
      apply z
      show r126 (qft f).toInt = 0
      unfold r126
      rw [if_pos w]
  obtain ⟨an, hr⟩ := rko_comp (rt := fun f => r126 (qft f).toInt) (nl := fun f => qtk f + (mlc f).toInt) (gg := gg) (mpc := mpc) (mre := mre) (mto := mto) hb hC hx (fun f hf => by (first | (apply Int.le_antisymm <;> omega) | omega)) hcu (fun f hf => hX f (by (first | (apply Int.le_antisymm <;> omega) | omega)))
  exact ⟨_, an, pos, gop, gpt, gel, gla, gva, hr, (h7 (by decide)).2, (h5 (by decide)).1, (h5 (by decide)).2, rfl⟩
end q_m69
section q_m70
/-! what a method makes, told by the heap: a call is charged its most, and what it did not make is given back -/
def hsl (H : Heap) : Nat := (H.toList.map (fun c => c.slots.size)).sum
theorem take_map9 {A B : List Cell} (h : ∀ (a : Nat) (c : Cell), A[a]? = some c → ∃ c', B[a]? = some c' ∧ c'.slots.size = c.slots.size) : (B.take A.length).map (fun c => c.slots.size) = A.map (fun c => c.slots.size) := by
  refine List.ext_getElem? (fun i => ?_)
  rw [List.getElem?_map, List.getElem?_map, List.getElem?_take]
  by_cases hi : i < A.length
  · rw [if_pos hi]
    obtain ⟨c', h1, h2⟩ := h i A[i] (List.getElem?_eq_getElem hi)
    rw [h1, List.getElem?_eq_getElem hi]
    show some c'.slots.size = some _
    rw [h2]
  · rw [if_neg hi, List.getElem?_eq_none (by (first | (apply Int.le_antisymm <;> omega) | omega))]
theorem hsl_same {s s' : State} {locs : List Loc} {k n : Nat} (h : s.sameButNew s' locs k n) : hsl s'.heap = hsl s.heap + ((s'.heap.toList.drop s.heap.size).map (fun c => c.slots.size)).sum := by
  obtain ⟨-, -, -, -, -, h5⟩ := h
  have e := take_map9 (A := s.heap.toList) (B := s'.heap.toList) (fun a c hc => by
    obtain ⟨c', g1, -, g2, -⟩ := h5 a c (by simpa using hc)
    exact ⟨c', by simpa using g1, g2⟩)
  unfold hsl
  rw [← e, show s.heap.size = s.heap.toList.length from by simp, ← List.sum_append, ← List.map_append, List.take_append_drop]
section HZ
variable {p : Program} {l : Launch} {e : Env} {R : Room} {s : State} {m : MethodId} {args : Array Value} {below : List Frame} {meth : Method} {c : Code} {H : Heap} {locs : List Loc} {cells slots : Nat} {Q : State → Prop} {g : JFrame} {T : State}
theorem st_known (X : Stand p l e R s m args below meth c T locs cells slots) (hT : T.heap = H) : H.size ≤ s.heap.size + cells ∧ hsl H ≤ hsl s.heap + slots := by
  subst hT
  have q := hsl_same X.same
  obtain ⟨-, -, h2, -, h4, -⟩ := X.same
  have q : hsl T.heap = hsl s.heap + ((T.heap.toList.drop s.heap.size).map (fun c => c.slots.size)).sum := q
  have h2 : T.heap.size ≤ s.heap.size + cells := h2
  have h4 : ((T.heap.toList.drop s.heap.size).map (fun c => c.slots.size)).sum ≤ slots := h4
  exact ⟨h2, by (first | (apply Int.le_antisymm <;> omega) | omega)⟩
theorem st_refund {c2 n2 : Nat} (X : Stand p l e R s m args below meth c T locs cells slots) (hT : T.heap = H) (h1 : H.size ≤ s.heap.size + c2) (h2 : hsl H ≤ hsl s.heap + n2) : Stand p l e R s m args below meth c T locs c2 n2 := by
  subst hT
  have q := hsl_same X.same
  obtain ⟨g0, g1, g2, g3, g4, g5⟩ := X.same
  have q : hsl T.heap = hsl s.heap + ((T.heap.toList.drop s.heap.size).map (fun c => c.slots.size)).sum := q
  exact ⟨X.admits, X.cas, X.clock, X.frames, X.room, X.hears, X.method, X.code, X.here, X.tail, X.warmed, X.limits, X.bytes, ⟨g0, g1, h1, g3, (by show ((T.heap.toList.drop s.heap.size).map (fun c => c.slots.size)).sum ≤ n2; (first | (apply Int.le_antisymm <;> omega) | omega)), g5⟩⟩
theorem w_known (k : H.size ≤ s.heap.size + cells → hsl H ≤ hsl s.heap + slots → W p l e R s m args below meth c H locs cells slots Q g) : W p l e R s m args below meth c H locs cells slots Q g :=
  fun T hT X => k (st_known X hT).1 (st_known X hT).2 T hT X
theorem w_refund {c2 n2 : Nat} (h1 : H.size ≤ s.heap.size + c2) (h2 : hsl H ≤ hsl s.heap + n2) (k : W p l e R s m args below meth c H locs c2 n2 Q g) : W p l e R s m args below meth c H locs cells slots Q g :=
  fun T hT X => k T hT (st_refund X hT h1 h2)
theorem x_known {x : Addr} (k : H.size ≤ s.heap.size + cells → hsl H ≤ hsl s.heap + slots → tx_T p l e R s m args below meth c H locs cells slots Q g x) : tx_T p l e R s m args below meth c H locs cells slots Q g x :=
  fun T hT X => k (st_known X hT).1 (st_known X hT).2 T hT X
theorem x_refund {x : Addr} {c2 n2 : Nat} (h1 : H.size ≤ s.heap.size + c2) (h2 : hsl H ≤ hsl s.heap + n2) (k : tx_T p l e R s m args below meth c H locs c2 n2 Q g x) : tx_T p l e R s m args below meth c H locs cells slots Q g x :=
  fun T hT X => k T hT (st_refund X hT h1 h2)
theorem x_widen {x : Addr} {c2 n2 : Nat} (h1 : cells ≤ c2) (h2 : slots ≤ n2) (k : tx_T p l e R s m args below meth c H locs c2 n2 Q g x) : tx_T p l e R s m args below meth c H locs cells slots Q g x :=
  fun T hT X => k T hT (stand_widen X h1 h2)
/-- meeting points and loops whose count of new cells is part of their state -/
theorem w_cutz {pc pc2 : Nat} {stk : List Value} {ls : Array Slot} {σ : Type} (Inv : σ → Heap → List Loc → Array Slot → Prop) (mk : σ → List Value) (cf nf : σ → Nat)
    (k2 : ∀ (u : σ) (H : Heap) (locs : List Loc) (ls : Array Slot), Inv u H locs ls → W p l e R s m args below meth c H locs (cf u) (nf u) Q (F0 m pc2 ls (mk u)))
    (k1 : (∀ (u : σ) (H : Heap) (locs : List Loc) (ls : Array Slot), Inv u H locs ls → W p l e R s m args below meth c H locs (cf u) (nf u) Q (F0 m pc2 ls (mk u))) → W p l e R s m args below meth c H locs cells slots Q (F0 m pc ls stk)) :
    W p l e R s m args below meth c H locs cells slots Q (F0 m pc ls stk) := k1 k2
theorem w_loopz {pc : Nat} {σ : Type} (Inv : σ → Heap → List Loc → Array Slot → Prop) (mk : σ → List Value) (cf nf : σ → Nat) (μ : σ → Nat)
    (body : ∀ N : Nat, (∀ (u : σ) (H : Heap) (locs : List Loc) (ls : Array Slot), μ u < N → Inv u H locs ls → W p l e R s m args below meth c H locs (cf u) (nf u) Q (F0 m pc ls (mk u))) →
      ∀ (u : σ) (H : Heap) (locs : List Loc) (ls : Array Slot), μ u < N + 1 → Inv u H locs ls → W p l e R s m args below meth c H locs (cf u) (nf u) Q (F0 m pc ls (mk u)))
    (u : σ) {H : Heap} {locs : List Loc} {ls : Array Slot} {st : List Value} (hc : cf u = cells) (hn : nf u = slots) (hk : mk u = st) (h : Inv u H locs ls) : W p l e R s m args below meth c H locs cells slots Q (F0 m pc ls st) := by
  have k : ∀ (N : Nat) (u : σ) (H : Heap) (locs : List Loc) (ls : Array Slot), μ u < N → Inv u H locs ls → W p l e R s m args below meth c H locs (cf u) (nf u) Q (F0 m pc ls (mk u)) := by
    intro N
    induction N with
    | zero => intro u H locs ls h; exact absurd h (Nat.not_lt_zero _)
    | succ N ih => exact body N ih
  subst hc
  subst hn
  subst hk
  exact k _ u H locs ls (Nat.lt_succ_self _) h
end HZ
end q_m70

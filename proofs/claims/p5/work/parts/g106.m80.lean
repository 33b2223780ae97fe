/-! texts: startsWith, hashCode -/
abbrev b_JU_mismatch : ByteArray := prog_41_method_14_code
def y_JU_mismatch : MethodName := ⟨R_JU, "mismatch", "([BI[BII)I"⟩
abbrev w_JU_mismatch : List Cond := .code y_JU_mismatch b_JU_mismatch 8 (Option.some .int) :: lw_g
theorem kC_JU_mismatch : Cond.code y_JU_mismatch b_JU_mismatch 8 (Option.some .int) ∈ lw_g := in_c12 64 rfl rfl
theorem d_JU_mismatch_0 : decode b_JU_mismatch 0 = .ok (.iconst 0, 1) := bz_c3 (by decide +kernel)
theorem d_JU_mismatch_1 : decode b_JU_mismatch 1 = .ok (.istore 5, 2) := bz_c54 (by decide +kernel)
theorem d_JU_mismatch_3 : decode b_JU_mismatch 3 = .ok (.iload 4, 2) := bz_c21 (by decide +kernel)
theorem d_JU_mismatch_5 : decode b_JU_mismatch 5 = .ok (.bipush 7, 2) := bz_c16 (by decide +kernel)
theorem d_JU_mismatch_7 : decode b_JU_mismatch 7 = .ok (.if_icmp .le 63, 3) := bz_c164 (by decide +kernel)
theorem d_JU_mismatch_10 : decode b_JU_mismatch 10 = .ok (.aload_n 0, 1) := bz_c42 (by decide +kernel)
theorem d_JU_mismatch_11 : decode b_JU_mismatch 11 = .ok (.iload_n 1, 1) := bz_c27 (by decide +kernel)
theorem d_JU_mismatch_12 : decode b_JU_mismatch 12 = .ok (.baload, 1) := bz_c51 (by decide +kernel)
theorem d_JU_mismatch_13 : decode b_JU_mismatch 13 = .ok (.aload_n 2, 1) := bz_c44 (by decide +kernel)
theorem d_JU_mismatch_14 : decode b_JU_mismatch 14 = .ok (.iload_n 3, 1) := bz_c29 (by decide +kernel)
theorem d_JU_mismatch_15 : decode b_JU_mismatch 15 = .ok (.baload, 1) := bz_c51 (by decide +kernel)
theorem d_JU_mismatch_16 : decode b_JU_mismatch 16 = .ok (.if_icmp .eq 5, 3) := bz_c159 (by decide +kernel)
theorem d_JU_mismatch_19 : decode b_JU_mismatch 19 = .ok (.iconst 0, 1) := bz_c3 (by decide +kernel)
theorem d_JU_mismatch_20 : decode b_JU_mismatch 20 = .ok (.ireturn, 1) := bz_c172 (by decide +kernel)
theorem d_JU_mismatch_21 : decode b_JU_mismatch 21 = .ok (.getstatic 126, 3) := bz_c178 (by decide +kernel)
theorem d_JU_mismatch_24 : decode b_JU_mismatch 24 = .ok (.iload_n 1, 1) := bz_c27 (by decide +kernel)
theorem d_JU_mismatch_25 : decode b_JU_mismatch 25 = .ok (.iadd, 1) := bz_c96 (by decide +kernel)
theorem d_JU_mismatch_26 : decode b_JU_mismatch 26 = .ok (.istore 6, 2) := bz_c54 (by decide +kernel)
theorem d_JU_mismatch_28 : decode b_JU_mismatch 28 = .ok (.getstatic 126, 3) := bz_c178 (by decide +kernel)
theorem d_JU_mismatch_31 : decode b_JU_mismatch 31 = .ok (.iload_n 3, 1) := bz_c29 (by decide +kernel)
theorem d_JU_mismatch_32 : decode b_JU_mismatch 32 = .ok (.iadd, 1) := bz_c96 (by decide +kernel)
theorem d_JU_mismatch_33 : decode b_JU_mismatch 33 = .ok (.istore 7, 2) := bz_c54 (by decide +kernel)
theorem d_JU_mismatch_35 : decode b_JU_mismatch 35 = .ok (.aload_n 0, 1) := bz_c42 (by decide +kernel)
theorem d_JU_mismatch_36 : decode b_JU_mismatch 36 = .ok (.iload 6, 2) := bz_c21 (by decide +kernel)
theorem d_JU_mismatch_38 : decode b_JU_mismatch 38 = .ok (.i2l, 1) := bz_c133 (by decide +kernel)
theorem d_JU_mismatch_39 : decode b_JU_mismatch 39 = .ok (.aload_n 2, 1) := bz_c44 (by decide +kernel)
theorem d_JU_mismatch_40 : decode b_JU_mismatch 40 = .ok (.iload 7, 2) := bz_c21 (by decide +kernel)
theorem d_JU_mismatch_42 : decode b_JU_mismatch 42 = .ok (.i2l, 1) := bz_c133 (by decide +kernel)
theorem d_JU_mismatch_43 : decode b_JU_mismatch 43 = .ok (.iload 4, 2) := bz_c21 (by decide +kernel)
theorem d_JU_mismatch_45 : decode b_JU_mismatch 45 = .ok (.getstatic 129, 3) := bz_c178 (by decide +kernel)
theorem d_JU_mismatch_48 : decode b_JU_mismatch 48 = .ok (.invokestatic 122, 3) := bz_c184 (by decide +kernel)
theorem d_JU_mismatch_51 : decode b_JU_mismatch 51 = .ok (.istore 5, 2) := bz_c54 (by decide +kernel)
theorem d_JU_mismatch_53 : decode b_JU_mismatch 53 = .ok (.iload 5, 2) := bz_c21 (by decide +kernel)
theorem d_JU_mismatch_55 : decode b_JU_mismatch 55 = .ok (.ifCond .lt 6, 3) := bz_c155 (by decide +kernel)
theorem d_JU_mismatch_58 : decode b_JU_mismatch 58 = .ok (.iload 5, 2) := bz_c21 (by decide +kernel)
theorem d_JU_mismatch_60 : decode b_JU_mismatch 60 = .ok (.ireturn, 1) := bz_c172 (by decide +kernel)
theorem d_JU_mismatch_61 : decode b_JU_mismatch 61 = .ok (.iload 4, 2) := bz_c21 (by decide +kernel)
theorem d_JU_mismatch_63 : decode b_JU_mismatch 63 = .ok (.iload 5, 2) := bz_c21 (by decide +kernel)
theorem d_JU_mismatch_65 : decode b_JU_mismatch 65 = .ok (.iconst (-1), 1) := bz_c2 (by decide +kernel)
theorem d_JU_mismatch_66 : decode b_JU_mismatch 66 = .ok (.ixor, 1) := by decide +kernel
theorem d_JU_mismatch_67 : decode b_JU_mismatch 67 = .ok (.isub, 1) := bz_c100 (by decide +kernel)
theorem d_JU_mismatch_68 : decode b_JU_mismatch 68 = .ok (.istore 5, 2) := bz_c54 (by decide +kernel)
theorem d_JU_mismatch_70 : decode b_JU_mismatch 70 = .ok (.iload 5, 2) := bz_c21 (by decide +kernel)
theorem d_JU_mismatch_72 : decode b_JU_mismatch 72 = .ok (.iload 4, 2) := bz_c21 (by decide +kernel)
theorem d_JU_mismatch_74 : decode b_JU_mismatch 74 = .ok (.if_icmp .ge 27, 3) := bz_c162 (by decide +kernel)
theorem d_JU_mismatch_77 : decode b_JU_mismatch 77 = .ok (.aload_n 0, 1) := bz_c42 (by decide +kernel)
theorem d_JU_mismatch_78 : decode b_JU_mismatch 78 = .ok (.iload_n 1, 1) := bz_c27 (by decide +kernel)
theorem d_JU_mismatch_79 : decode b_JU_mismatch 79 = .ok (.iload 5, 2) := bz_c21 (by decide +kernel)
theorem d_JU_mismatch_81 : decode b_JU_mismatch 81 = .ok (.iadd, 1) := bz_c96 (by decide +kernel)
theorem d_JU_mismatch_82 : decode b_JU_mismatch 82 = .ok (.baload, 1) := bz_c51 (by decide +kernel)
theorem d_JU_mismatch_83 : decode b_JU_mismatch 83 = .ok (.aload_n 2, 1) := bz_c44 (by decide +kernel)
theorem d_JU_mismatch_84 : decode b_JU_mismatch 84 = .ok (.iload_n 3, 1) := bz_c29 (by decide +kernel)
theorem d_JU_mismatch_85 : decode b_JU_mismatch 85 = .ok (.iload 5, 2) := bz_c21 (by decide +kernel)
theorem d_JU_mismatch_87 : decode b_JU_mismatch 87 = .ok (.iadd, 1) := bz_c96 (by decide +kernel)
theorem d_JU_mismatch_88 : decode b_JU_mismatch 88 = .ok (.baload, 1) := bz_c51 (by decide +kernel)
theorem d_JU_mismatch_89 : decode b_JU_mismatch 89 = .ok (.if_icmp .eq 6, 3) := bz_c159 (by decide +kernel)
theorem d_JU_mismatch_92 : decode b_JU_mismatch 92 = .ok (.iload 5, 2) := bz_c21 (by decide +kernel)
theorem d_JU_mismatch_94 : decode b_JU_mismatch 94 = .ok (.ireturn, 1) := bz_c172 (by decide +kernel)
theorem d_JU_mismatch_95 : decode b_JU_mismatch 95 = .ok (.iinc 5 1, 3) := by decide +kernel
theorem d_JU_mismatch_98 : decode b_JU_mismatch 98 = .ok (.goto (-28), 3) := bz_c167 (by decide +kernel)
theorem d_JU_mismatch_101 : decode b_JU_mismatch 101 = .ok (.iconst (-1), 1) := bz_c2 (by decide +kernel)
theorem d_JU_mismatch_102 : decode b_JU_mismatch 102 = .ok (.ireturn, 1) := bz_c172 (by decide +kernel)
abbrev b_JU_vectorizedMismatch : ByteArray := prog_41_method_3_code
def y_JU_vectorizedMismatch : MethodName := ⟨R_JU, "vectorizedMismatch", "(Ljava/lang/Object;JLjava/lang/Object;JII)I"⟩
abbrev w_JU_vectorizedMismatch : List Cond := .code y_JU_vectorizedMismatch b_JU_vectorizedMismatch 19 (Option.some .int) :: lw_g
theorem kC_JU_vectorizedMismatch : Cond.code y_JU_vectorizedMismatch b_JU_vectorizedMismatch 19 (Option.some .int) ∈ lw_g := in_c12 69 rfl rfl
theorem kM_JU_122 : Cond.methodLink R_JU 122 y_JU_vectorizedMismatch ∈ lw_g := in_c12 67 rfl rfl
theorem kT_JU_vectorizedMismatch : Cond.static y_JU_vectorizedMismatch ∈ lw_g := in_c12 68 rfl rfl
abbrev at_JU_mismatch (dC : Nat → ClassId) (dI : Nat → Nat → Nat)  (A : Nat → Prop) (u : Unit) (t : State) : Prop := match u with | _ => va_P (dC, dI) cls2 [] t.heap ∧ va_K (dC, dI) cls2 [] t ∧ va_D A []
set_option maxHeartbeats 4000000 in
set_option maxRecDepth 100000 in
theorem c_JU_mismatch (l : Launch) (hlt : l.stackTraces = false) (dC : Nat → ClassId) (dI : Nat → Nat → Nat) (sz : Nat) (v : Nat) (b : List Int32) (v2 : Nat) (b2 : List Int32)    (p1 : Int32) (p3 : Int32) (p4 : Int32)  (hbl : (b.length : Int) < 1000000) (hbl2 : (b2.length : Int) < 1000000) (hp : p1.toInt = 0 ∧ p3.toInt = 0 ∧ 0 ≤ p4.toInt ∧ p4.toInt ≤ 7 ∧ p4.toInt ≤ (b.length : Int) ∧ p4.toInt ≤ (b2.length : Int)) : Met l y_JU_mismatch w_JU_mismatch ({ frames := 0, cells := 0, slots := 0, locals := 0 }) (va_Pc [.ref v, .int p1, .ref v2, .int p3, .int p4] (fun U => U.heap.size = sz ∧ va_P (dC, dI) cls2 [] U.heap ∧ va_K (dC, dI) cls2 [] U ∧ va_D (fun _ => True) [] ∧ va_T .byte v b.length (fun j => .int (b.getD j 0)) (va_A [] sz) U U.heap ∧ va_T .byte v2 b2.length (fun j => .int (b2.getD j 0)) (va_A [] sz) U U.heap)) (va_Qi (fun (r : Int32) (u : Unit) => match u with | _ => ((r.toInt = -1 ∧ ∀ j : Nat, (j : Int) < p4.toInt → b.getD j 0 = b2.getD j 0) ∨ (0 ≤ r.toInt ∧ ∃ j : Nat, (j : Int) < p4.toInt ∧ b.getD j 0 ≠ b2.getD j 0))) (at_JU_mismatch dC dI  (va_A [] sz)) (va_A [] sz)) 0 0 (va_A [] sz) := by
  refine Met.ofW (cc := b_JU_mismatch) (maxL := 8) (ret := (Option.some .int)) (by decide) rfl ?_
  intro p e s m args below meth c s₁ B hml hv
  obtain ⟨rfl, hsz, hP, hK, hD0, hV0, hV1⟩ := hv
  have hx := B.exec
  have hb := B.bytes
  have hr := B.returns
  have hts0 := atoms_spec (ws := w_JU_mismatch) B.pre
  have hts : ∀ w ∈ lw_g, w.before _ s = true := fun w h => hts0 w (List.mem_cons_of_mem _ h)
  have hown : s.vm.findClass R_JU = some m.cls := findClass_of_methodNamed B.named
  have hlocks := B.notSynchronized
  clear hts0
  subst hsz
  have hD := hD0.self (sz := s.heap.size)
  generalize hAe : va_A [] s.heap.size = A at hD hV0 hV1 ⊢
  have hA : ∀ q : Nat, s.heap.size ≤ q → A q := fun q h => by rw [← hAe]; exact Or.inr h
  clear hAe
  have hP : va_P (dC, dI) cls2 [] s.heap := hP
  have hl := lv_entry ([.ref v, .int p1, .ref v2, .int p3, .int p4]) (n := 8) (Nat.le_of_ble_eq_true rfl)
  rw [lg_entry_eq]
  generalize (lg_sl ([.ref v, .int p1, .ref v2, .int p3, .int p4]) ++ List.replicate (8 - (lg_sl ([.ref v, .int p1, .ref v2, .int p3, .int p4])).length) Slot.unset).toArray = ls at hl ⊢
  have hl : lv_has ls 8 [(0, .ref v), (1, .int p1), (2, .ref v2), (3, .int p3), (4, .int p4)] := hl
  have k0 : (0 : Int32).toInt = 0 := by decide
  refine w_gen (A := A) hP (fun H locs hP hS => ?_)
  have km1 : (-1 : Int32).toInt = -1 := by decide
  have k1 : (1 : Int32).toInt = 1 := by decide
  have k7 : (7 : Int32).toInt = 7 := by decide
  have lo_p1 := i32_lo p1
  have hi_p1 := i32_hi p1
  have lo_p3 := i32_lo p3
  have hi_p3 := i32_hi p3
  have lo_p4 := i32_lo p4
  have hi_p4 := i32_hi p4
  refine lv_iconst (v := 0) hx hb d_JU_mismatch_0 (by decide) ?_
  refine lv_istore (lv' := [(5, .int 0), (0, .ref v), (1, .int p1), (2, .ref v2), (3, .int p3), (4, .int p4)]) hx hb d_JU_mismatch_1 hl (by decide) rfl (fun ls hl => ?_)
  refine lv_iload hx hb d_JU_mismatch_3 (lv_at hl 5 rfl) ?_
  refine lv_bipush (v := 7) hx hb d_JU_mismatch_5 (by decide) ?_
  refine lv_icmp_le (tgt := 70) hx hb d_JU_mismatch_7 (by decide) (fun c7 => ?_) (fun c7 => absurd (nleI c7) (by (first | (apply Int.le_antisymm <;> omega) | omega)))
  have q7 := leI c7
  refine w_loop (σ := Int32) (fun u H locs ls => match u with | j70_l5 => (0 ≤ j70_l5.toInt ∧ j70_l5.toInt ≤ 7) ∧ (j70_l5.toInt ≤ p4.toInt) ∧ (bx (∀ j : Nat, (j : Int) < j70_l5.toInt → b.getD j 0 = b2.getD j 0)) ∧ va_P (dC, dI) cls2 [] H ∧ va_D A [] ∧ va_S A s.heap H locs ∧ lv_has ls 8 [(0, .ref v), (1, .int p1), (2, .ref v2), (3, .int p3), (4, .int p4), (5, .int j70_l5)]) (fun u => match u with | j70_l5 => (p4.toInt - j70_l5.toInt).toNat) ?_ 0 ⟨by (try dsimp only) <;> (first | (apply Int.le_antisymm <;> omega) | omega), by (try dsimp only) <;> (first | (apply Int.le_antisymm <;> omega) | omega), (fun j hj => absurd hj (by rw [k0]; (first | (apply Int.le_antisymm <;> omega) | omega))), hP, hD, hS, lv_sub hl [1, 2, 3, 4, 5, 0] rfl⟩
  intro N70 ih70 u H locs ls hN70 hI
  obtain ⟨j70_l5, rfl⟩ : ∃ z, z = u := ⟨_, rfl⟩
  obtain ⟨b_j70_l5, u1, u2, hP, hD, hS, hl⟩ := hI
  have hN70 : (p4.toInt - j70_l5.toInt).toNat < N70 + 1 := hN70
  refine lv_iload hx hb d_JU_mismatch_70 (lv_at hl 5 rfl) ?_
  refine lv_iload hx hb d_JU_mismatch_72 (lv_at hl 4 rfl) ?_
  refine lv_icmp_ge (tgt := 101) hx hb d_JU_mismatch_74 (by decide) (fun c74 => ?_) (fun c74 => ?_)
  · have q74 := leI c74
    refine lv_iconst (v := (-1)) hx hb d_JU_mismatch_101 (by decide) ?_
    have hP9 := hP.sb (wq := []) [] rfl
    have hD9 := hD.sb (wq := []) [] (by decide) rfl
    exact W.iret (v := ((-1))) hx hb hr (fun t ht hW => ⟨⟨(-1), (), rfl, (Or.inl ⟨by decide, fun j hj => u2.out j (by (first | (apply Int.le_antisymm <;> omega) | omega))⟩), va_P.he ht.symm hP9, va_K.moved hW.alike hK, hD9⟩, hS.F ht⟩) hS.2.2 d_JU_mismatch_102
  · have q74 := nleI c74
    refine lv_aload_n hx hb d_JU_mismatch_77 rfl (lv_at hl 0 rfl) ?_
    refine lv_iload_n hx hb d_JU_mismatch_78 rfl (lv_at hl 1 rfl) ?_
    refine lv_iload hx hb d_JU_mismatch_79 (lv_at hl 5 rfl) ?_
    refine lv_iadd hx hb d_JU_mismatch_81 ?_
    refine lv_topi (fun x1 ex1 => ?_)
    have tx1 : x1.toInt = p1.toInt + j70_l5.toInt := by have z := i32_add ex1 (by (first | (apply Int.le_antisymm <;> omega) | omega)) (by (first | (apply Int.le_antisymm <;> omega) | omega)); first | exact z | (first | (apply Int.le_antisymm <;> omega) | omega)
    have g82 : vp_in x1 b.length := vp_in_iff.mpr ⟨by (first | (apply Int.le_antisymm <;> omega) | omega), by (first | (apply Int.le_antisymm <;> omega) | omega)⟩
    refine va_tb hx hb (hV0) hS g82 rfl d_JU_mismatch_82 ?_
    refine lv_topi (fun x2 ex2 => ?_)
    refine lv_aload_n hx hb d_JU_mismatch_83 rfl (lv_at hl 2 rfl) ?_
    refine lv_iload_n hx hb d_JU_mismatch_84 rfl (lv_at hl 3 rfl) ?_
    refine lv_iload hx hb d_JU_mismatch_85 (lv_at hl 5 rfl) ?_
    refine lv_iadd hx hb d_JU_mismatch_87 ?_
    refine lv_topi (fun x3 ex3 => ?_)
    have tx3 : x3.toInt = p3.toInt + j70_l5.toInt := by have z := i32_add ex3 (by (first | (apply Int.le_antisymm <;> omega) | omega)) (by (first | (apply Int.le_antisymm <;> omega) | omega)); first | exact z | (first | (apply Int.le_antisymm <;> omega) | omega)
    have g88 : vp_in x3 b2.length := vp_in_iff.mpr ⟨by (first | (apply Int.le_antisymm <;> omega) | omega), by (first | (apply Int.le_antisymm <;> omega) | omega)⟩
    refine va_tb hx hb (hV1) hS g88 rfl d_JU_mismatch_88 ?_
    refine lv_topi (fun x4 ex4 => ?_)
    refine lv_icmp_eq (tgt := 95) hx hb d_JU_mismatch_89 (by decide) (fun c89 => ?_) (fun c89 => ?_)
    · have q89 := eqI c89
      obtain ⟨x5, ex5⟩ : ∃ z : Int32, z = j70_l5 + 1 := ⟨_, rfl⟩
      have tx5 : x5.toInt = j70_l5.toInt + 1 := by have z := i32_add ex5 (by (first | (apply Int.le_antisymm <;> omega) | omega)) (by (first | (apply Int.le_antisymm <;> omega) | omega)); first | exact z | (first | (apply Int.le_antisymm <;> omega) | omega)
      refine lv_iinc (v := x5) (lv' := [(5, .int x5), (0, .ref v), (1, .int p1), (2, .ref v2), (3, .int p3), (4, .int p4)]) hx hb d_JU_mismatch_95 hl (k := 5) rfl (by rw [ex5]; rfl) (by decide) rfl (fun ls hl => ?_)
      refine lv_goto (tgt := 70) hx hb d_JU_mismatch_98 (by decide) ?_
      exact ih70 x5 _ _ _ (by show (p4.toInt - x5.toInt).toNat < N70; (first | (apply Int.le_antisymm <;> omega) | omega)) ⟨by (try dsimp only) <;> (first | (apply Int.le_antisymm <;> omega) | omega), by (try dsimp only) <;> (first | (apply Int.le_antisymm <;> omega) | omega), (fun j hj => by have z9 := i32_clamp (x := j70_l5) (by (first | (apply Int.le_antisymm <;> omega) | omega)); by_cases q : (j : Int) < j70_l5.toInt; (exact u2.out j q); (have z7 := i32_clamp (x := x1) (by (first | (apply Int.le_antisymm <;> omega) | omega)); have z6 := i32_clamp (x := x3) (by (first | (apply Int.le_antisymm <;> omega) | omega)); have ea : x2 = b.getD j 0 := (by rw [ex2]; congr 1; (first | (apply Int.le_antisymm <;> omega) | omega)); have eb : x4 = b2.getD j 0 := (by rw [ex4]; congr 1; (first | (apply Int.le_antisymm <;> omega) | omega)); rw [← ea, ← eb]; exact Int32.toInt_inj.mp (by (first | (apply Int.le_antisymm <;> omega) | omega)))), hP, hD, hS, lv_sub hl [1, 2, 3, 4, 5, 0] rfl⟩
    · have q89 := neI c89
      refine lv_iload hx hb d_JU_mismatch_92 (lv_at hl 5 rfl) ?_
      have hP9 := hP.sb (wq := []) [] rfl
      have hD9 := hD.sb (wq := []) [] (by decide) rfl
      exact W.iret (v := j70_l5) hx hb hr (fun t ht hW => ⟨⟨j70_l5, (), rfl, (Or.inr ⟨by (first | (apply Int.le_antisymm <;> omega) | omega), j70_l5.toNatClampNeg, by have z9 := i32_clamp (x := j70_l5) (by (first | (apply Int.le_antisymm <;> omega) | omega)); (first | (apply Int.le_antisymm <;> omega) | omega), fun q => (by have z9 := i32_clamp (x := j70_l5) (by (first | (apply Int.le_antisymm <;> omega) | omega)); have z7 := i32_clamp (x := x1) (by (first | (apply Int.le_antisymm <;> omega) | omega)); have z6 := i32_clamp (x := x3) (by (first | (apply Int.le_antisymm <;> omega) | omega)); have ea : x2 = b.getD j70_l5.toNatClampNeg 0 := (by rw [ex2]; congr 1; (first | (apply Int.le_antisymm <;> omega) | omega)); have eb : x4 = b2.getD j70_l5.toNatClampNeg 0 := (by rw [ex4]; congr 1; (first | (apply Int.le_antisymm <;> omega) | omega)); rw [← ea, ← eb] at q; have := congrArg Int32.toInt q; (first | (apply Int.le_antisymm <;> omega) | omega))⟩), va_P.he ht.symm hP9, va_K.moved hW.alike hK, hD9⟩, hS.F ht⟩) hS.2.2 d_JU_mismatch_94
abbrev b_JS_startsWith1 : ByteArray := prog_33_method_75_code
def y_JS_startsWith1 : MethodName := ⟨R_JS, "startsWith", "(Ljava/lang/String;I)Z"⟩
abbrev w_JS_startsWith1 : List Cond := .code y_JS_startsWith1 b_JS_startsWith1 8 (Option.some .boolean) :: lw_g
theorem kC_JS_startsWith1 : Cond.code y_JS_startsWith1 b_JS_startsWith1 8 (Option.some .boolean) ∈ lw_g := in_c12 61 rfl rfl
theorem d_JS_startsWith1_0 : decode b_JS_startsWith1 0 = .ok (.iload_n 2, 1) := bz_c28 (by decide +kernel)
theorem d_JS_startsWith1_1 : decode b_JS_startsWith1 1 = .ok (.ifCond .lt 16, 3) := bz_c155 (by decide +kernel)
theorem d_JS_startsWith1_4 : decode b_JS_startsWith1 4 = .ok (.iload_n 2, 1) := bz_c28 (by decide +kernel)
theorem d_JS_startsWith1_5 : decode b_JS_startsWith1 5 = .ok (.aload_n 0, 1) := bz_c42 (by decide +kernel)
theorem d_JS_startsWith1_6 : decode b_JS_startsWith1 6 = .ok (.invokevirtual 505, 3) := bz_c182 (by decide +kernel)
theorem d_JS_startsWith1_9 : decode b_JS_startsWith1 9 = .ok (.aload_n 1, 1) := bz_c43 (by decide +kernel)
theorem d_JS_startsWith1_10 : decode b_JS_startsWith1 10 = .ok (.invokevirtual 505, 3) := bz_c182 (by decide +kernel)
theorem d_JS_startsWith1_13 : decode b_JS_startsWith1 13 = .ok (.isub, 1) := bz_c100 (by decide +kernel)
theorem d_JS_startsWith1_14 : decode b_JS_startsWith1 14 = .ok (.if_icmp .le 5, 3) := bz_c164 (by decide +kernel)
theorem d_JS_startsWith1_17 : decode b_JS_startsWith1 17 = .ok (.iconst 0, 1) := bz_c3 (by decide +kernel)
theorem d_JS_startsWith1_18 : decode b_JS_startsWith1 18 = .ok (.ireturn, 1) := bz_c172 (by decide +kernel)
theorem d_JS_startsWith1_19 : decode b_JS_startsWith1 19 = .ok (.aload_n 0, 1) := bz_c42 (by decide +kernel)
theorem d_JS_startsWith1_20 : decode b_JS_startsWith1 20 = .ok (.getfield 9, 3) := bz_c180 (by decide +kernel)
theorem d_JS_startsWith1_23 : decode b_JS_startsWith1 23 = .ok (.astore_n 3, 1) := bz_c78 (by decide +kernel)
theorem d_JS_startsWith1_24 : decode b_JS_startsWith1 24 = .ok (.aload_n 1, 1) := bz_c43 (by decide +kernel)
theorem d_JS_startsWith1_25 : decode b_JS_startsWith1 25 = .ok (.getfield 9, 3) := bz_c180 (by decide +kernel)
theorem d_JS_startsWith1_28 : decode b_JS_startsWith1 28 = .ok (.astore 4, 2) := bz_c58 (by decide +kernel)
theorem d_JS_startsWith1_30 : decode b_JS_startsWith1 30 = .ok (.iconst 0, 1) := bz_c3 (by decide +kernel)
theorem d_JS_startsWith1_31 : decode b_JS_startsWith1 31 = .ok (.istore 5, 2) := bz_c54 (by decide +kernel)
theorem d_JS_startsWith1_33 : decode b_JS_startsWith1 33 = .ok (.aload 4, 2) := bz_c25 (by decide +kernel)
theorem d_JS_startsWith1_35 : decode b_JS_startsWith1 35 = .ok (.arraylength, 1) := bz_c190 (by decide +kernel)
theorem d_JS_startsWith1_36 : decode b_JS_startsWith1 36 = .ok (.istore 6, 2) := bz_c54 (by decide +kernel)
theorem d_JS_startsWith1_38 : decode b_JS_startsWith1 38 = .ok (.aload_n 0, 1) := bz_c42 (by decide +kernel)
theorem d_JS_startsWith1_39 : decode b_JS_startsWith1 39 = .ok (.invokevirtual 335, 3) := bz_c182 (by decide +kernel)
theorem d_JS_startsWith1_42 : decode b_JS_startsWith1 42 = .ok (.istore 7, 2) := bz_c54 (by decide +kernel)
theorem d_JS_startsWith1_44 : decode b_JS_startsWith1 44 = .ok (.iload 7, 2) := bz_c21 (by decide +kernel)
theorem d_JS_startsWith1_46 : decode b_JS_startsWith1 46 = .ok (.aload_n 1, 1) := bz_c43 (by decide +kernel)
theorem d_JS_startsWith1_47 : decode b_JS_startsWith1 47 = .ok (.invokevirtual 335, 3) := bz_c182 (by decide +kernel)
theorem d_JS_startsWith1_50 : decode b_JS_startsWith1 50 = .ok (.if_icmp .ne 32, 3) := bz_c160 (by decide +kernel)
theorem d_JS_startsWith1_53 : decode b_JS_startsWith1 53 = .ok (.iload 7, 2) := bz_c21 (by decide +kernel)
theorem d_JS_startsWith1_55 : decode b_JS_startsWith1 55 = .ok (.iconst 1, 1) := bz_c4 (by decide +kernel)
theorem d_JS_startsWith1_56 : decode b_JS_startsWith1 56 = .ok (.if_icmp .ne 7, 3) := bz_c160 (by decide +kernel)
theorem d_JS_startsWith1_59 : decode b_JS_startsWith1 59 = .ok (.iload_n 2, 1) := bz_c28 (by decide +kernel)
theorem d_JS_startsWith1_60 : decode b_JS_startsWith1 60 = .ok (.iconst 1, 1) := bz_c4 (by decide +kernel)
theorem d_JS_startsWith1_61 : decode b_JS_startsWith1 61 = .ok (.ishl, 1) := by decide +kernel
theorem d_JS_startsWith1_62 : decode b_JS_startsWith1 62 = .ok (.istore_n 2, 1) := bz_c61 (by decide +kernel)
theorem d_JS_startsWith1_63 : decode b_JS_startsWith1 63 = .ok (.aload_n 3, 1) := bz_c45 (by decide +kernel)
theorem d_JS_startsWith1_64 : decode b_JS_startsWith1 64 = .ok (.iload_n 2, 1) := bz_c28 (by decide +kernel)
theorem d_JS_startsWith1_65 : decode b_JS_startsWith1 65 = .ok (.aload 4, 2) := bz_c25 (by decide +kernel)
theorem d_JS_startsWith1_67 : decode b_JS_startsWith1 67 = .ok (.iconst 0, 1) := bz_c3 (by decide +kernel)
theorem d_JS_startsWith1_68 : decode b_JS_startsWith1 68 = .ok (.iload 6, 2) := bz_c21 (by decide +kernel)
theorem d_JS_startsWith1_70 : decode b_JS_startsWith1 70 = .ok (.invokestatic 607, 3) := bz_c184 (by decide +kernel)
theorem d_JS_startsWith1_73 : decode b_JS_startsWith1 73 = .ok (.ifCond .ge 7, 3) := bz_c156 (by decide +kernel)
theorem d_JS_startsWith1_76 : decode b_JS_startsWith1 76 = .ok (.iconst 1, 1) := bz_c4 (by decide +kernel)
theorem d_JS_startsWith1_77 : decode b_JS_startsWith1 77 = .ok (.goto 4, 3) := bz_c167 (by decide +kernel)
theorem d_JS_startsWith1_80 : decode b_JS_startsWith1 80 = .ok (.iconst 0, 1) := bz_c3 (by decide +kernel)
theorem d_JS_startsWith1_81 : decode b_JS_startsWith1 81 = .ok (.ireturn, 1) := bz_c172 (by decide +kernel)
theorem d_JS_startsWith1_82 : decode b_JS_startsWith1 82 = .ok (.iload 7, 2) := bz_c21 (by decide +kernel)
theorem d_JS_startsWith1_84 : decode b_JS_startsWith1 84 = .ok (.ifCond .ne 5, 3) := bz_c154 (by decide +kernel)
theorem d_JS_startsWith1_87 : decode b_JS_startsWith1 87 = .ok (.iconst 0, 1) := bz_c3 (by decide +kernel)
theorem d_JS_startsWith1_88 : decode b_JS_startsWith1 88 = .ok (.ireturn, 1) := bz_c172 (by decide +kernel)
theorem d_JS_startsWith1_89 : decode b_JS_startsWith1 89 = .ok (.iload 5, 2) := bz_c21 (by decide +kernel)
theorem d_JS_startsWith1_91 : decode b_JS_startsWith1 91 = .ok (.iload 6, 2) := bz_c21 (by decide +kernel)
theorem d_JS_startsWith1_93 : decode b_JS_startsWith1 93 = .ok (.if_icmp .ge 28, 3) := bz_c162 (by decide +kernel)
theorem d_JS_startsWith1_96 : decode b_JS_startsWith1 96 = .ok (.aload_n 3, 1) := bz_c45 (by decide +kernel)
theorem d_JS_startsWith1_97 : decode b_JS_startsWith1 97 = .ok (.iload_n 2, 1) := bz_c28 (by decide +kernel)
theorem d_JS_startsWith1_98 : decode b_JS_startsWith1 98 = .ok (.iinc 2 1, 3) := by decide +kernel
theorem d_JS_startsWith1_101 : decode b_JS_startsWith1 101 = .ok (.invokestatic 360, 3) := bz_c184 (by decide +kernel)
theorem d_JS_startsWith1_104 : decode b_JS_startsWith1 104 = .ok (.aload 4, 2) := bz_c25 (by decide +kernel)
theorem d_JS_startsWith1_106 : decode b_JS_startsWith1 106 = .ok (.iload 5, 2) := bz_c21 (by decide +kernel)
theorem d_JS_startsWith1_108 : decode b_JS_startsWith1 108 = .ok (.iinc 5 1, 3) := by decide +kernel
theorem d_JS_startsWith1_111 : decode b_JS_startsWith1 111 = .ok (.baload, 1) := bz_c51 (by decide +kernel)
theorem d_JS_startsWith1_112 : decode b_JS_startsWith1 112 = .ok (.sipush 255, 3) := bz_c17 (by decide +kernel)
theorem d_JS_startsWith1_115 : decode b_JS_startsWith1 115 = .ok (.iand, 1) := bz_c126 (by decide +kernel)
theorem d_JS_startsWith1_116 : decode b_JS_startsWith1 116 = .ok (.if_icmp .eq (-27), 3) := bz_c159 (by decide +kernel)
theorem d_JS_startsWith1_119 : decode b_JS_startsWith1 119 = .ok (.iconst 0, 1) := bz_c3 (by decide +kernel)
theorem d_JS_startsWith1_120 : decode b_JS_startsWith1 120 = .ok (.ireturn, 1) := bz_c172 (by decide +kernel)
theorem d_JS_startsWith1_121 : decode b_JS_startsWith1 121 = .ok (.iconst 1, 1) := bz_c4 (by decide +kernel)
theorem d_JS_startsWith1_122 : decode b_JS_startsWith1 122 = .ok (.ireturn, 1) := bz_c172 (by decide +kernel)
theorem kM_JS_607 : Cond.methodLink R_JS 607 y_JU_mismatch ∈ lw_g := in_c12 62 rfl rfl
theorem kT_JU_mismatch : Cond.static y_JU_mismatch ∈ lw_g := in_c12 63 rfl rfl
abbrev b_JF_getChar : ByteArray := prog_36_method_5_code
def y_JF_getChar : MethodName := ⟨R_JF, "getChar", "([BI)C"⟩
abbrev w_JF_getChar : List Cond := .code y_JF_getChar b_JF_getChar 2 (Option.some .char) :: lw_g
theorem kC_JF_getChar : Cond.code y_JF_getChar b_JF_getChar 2 (Option.some .char) ∈ lw_g := in_c4 133 rfl rfl
theorem kM_JS_360 : Cond.methodLink R_JS 360 y_JF_getChar ∈ lw_g := in_c12 84 rfl rfl
theorem kT_JF_getChar : Cond.static y_JF_getChar ∈ lw_g := in_c4 132 rfl rfl
abbrev at_JS_startsWith1 (dC : Nat → ClassId) (dI : Nat → Nat → Nat) (sa : Nat → Nat)  (A : Nat → Prop) (u : Unit) (t : State) : Prop := match u with | _ => va_P (dC, dI) cls2 [] t.heap ∧ va_K (dC, dI) cls2 [] t ∧ va_D A []
set_option maxHeartbeats 4000000 in
set_option maxRecDepth 100000 in
theorem c_JS_startsWith1 (l : Launch) (hlt : l.stackTraces = false) (dC : Nat → ClassId) (dI : Nat → Nat → Nat) (sz : Nat) (sa : Nat → Nat) (tx tv : Nat) (b : List Int32) (ty tw : Nat) (b2 : List Int32)    (p2 : Int32)  (hbl : (b.length : Int) < 1000000) (hbl2 : (b2.length : Int) < 1000000) (hp : p2.toInt = 0) (h7 : (b2.length : Int) ≤ 7) : Met l y_JS_startsWith1 w_JS_startsWith1 ({ frames := 2, cells := 0, slots := 0, locals := 40 }) (va_Pc [.ref tx, .ref ty, .int p2] (fun U => U.heap.size = sz ∧ va_P (dC, dI) cls2 [] U.heap ∧ va_K (dC, dI) cls2 [] U ∧ va_D (fun _ => True) [] ∧ sm sa (va_A [] sz) U U.heap ∧ sw_str tx tv b (va_A [] sz) U U.heap ∧ sw_str ty tw b2 (va_A [] sz) U U.heap)) (va_Qi (fun (r : Int32) (u : Unit) => match u with | _ => (r = 0 ∨ r = 1) ∧ ((r.toInt = 1 ∧ b2.length ≤ b.length ∧ ∀ j : Nat, j < b2.length → b.getD j 0 = b2.getD j 0) ∨ (r.toInt = 0 ∧ ¬ (b2.length ≤ b.length ∧ ∀ j : Nat, j < b2.length → b.getD j 0 = b2.getD j 0)))) (at_JS_startsWith1 dC dI sa  (va_A [] sz)) (va_A [] sz)) 0 0 (va_A [] sz) := by
  refine Met.ofW (cc := b_JS_startsWith1) (maxL := 8) (ret := (Option.some .boolean)) (by decide) rfl ?_
  intro p e s m args below meth c s₁ B hml hv
  obtain ⟨rfl, hsz, hP, hK, hD0, hSW, hR0, hR1⟩ := hv
  have hx := B.exec
  have hb := B.bytes
  have hr := B.returns
  have hts0 := atoms_spec (ws := w_JS_startsWith1) B.pre
  have hts : ∀ w ∈ lw_g, w.before _ s = true := fun w h => hts0 w (List.mem_cons_of_mem _ h)
  have hown : s.vm.findClass R_JS = some m.cls := findClass_of_methodNamed B.named
  have hlocks := B.notSynchronized
  clear hts0
  subst hsz
  have hD := hD0.self (sz := s.heap.size)
  generalize hAe : va_A [] s.heap.size = A at hD hSW hR0 hR1 ⊢
  have hA : ∀ q : Nat, s.heap.size ≤ q → A q := fun q h => by rw [← hAe]; exact Or.inr h
  clear hAe
  have hP : va_P (dC, dI) cls2 [] s.heap := hP
  have hl := lv_entry ([.ref tx, .ref ty, .int p2]) (n := 8) (Nat.le_of_ble_eq_true rfl)
  rw [lg_entry_eq]
  generalize (lg_sl ([.ref tx, .ref ty, .int p2]) ++ List.replicate (8 - (lg_sl ([.ref tx, .ref ty, .int p2])).length) Slot.unset).toArray = ls at hl ⊢
  have hl : lv_has ls 8 [(0, .ref tx), (1, .ref ty), (2, .int p2)] := hl
  have k0 : (0 : Int32).toInt = 0 := by decide
  refine w_gen (A := A) hP (fun H locs hP hS => ?_)
  have k1 : (1 : Int32).toInt = 1 := by decide
  have k255 : (255 : Int32).toInt = 255 := by decide
  have lo_p2 := i32_lo p2
  have hi_p2 := i32_hi p2
  refine lv_iload_n hx hb d_JS_startsWith1_0 rfl (lv_at hl 2 rfl) ?_
  refine lv_if_lt (tgt := 17) hx hb d_JS_startsWith1_1 (by decide) (fun c1 => absurd (ltI c1) (by (first | (apply Int.le_antisymm <;> omega) | omega))) (fun c1 => ?_)
  have q1 := nltI c1
  refine lv_iload_n hx hb d_JS_startsWith1_4 rfl (lv_at hl 2 rfl) ?_
  refine lv_aload_n hx hb d_JS_startsWith1_5 rfl (lv_at hl 0 rfl) ?_
  have hPc := @vp_nil
  have hDc := hD.sb (wq := []) [] (by decide) rfl
  have hKc := (k2_of hK).sb (tyq := []) [] rfl
  have hFc := va_free (wc := []) hD hS hA [] rfl
  refine va_calli (va_runV (As := []) (rest := [.int p2]) ⟨hx, hb, hml, hown, hts⟩ (c_JS_length l dC dI H.size sa tx tv b (by (first | (apply Int.le_antisymm <;> omega) | omega))) (cwV 0 hts (gV kM_JS_505 kV_JS_length kS_JS_length kI_JS kC_JS_length) rfl rfl rfl (by decide +kernel) ⟨Nat.le_of_ble_eq_true rfl, Nat.le_of_ble_eq_true rfl⟩) ⟨fun a U g mk z => by obtain ⟨z0, z1, zP, zK, zD, zS, zR0⟩ := z; exact ⟨z0, z1, zP, va_K.moved (u := U) (U := U.calling g mk a) (Vm.Alike.refl U.vm) zK, zD, sw.same (u := U) (U := U.calling g mk a) rfl zS, zR0.moved (u := U) (U := U.calling g mk a) (Vm.Alike.refl U.vm)⟩, so_recv (hR0.1) hS, fun U hU hW => ⟨rfl, by rw [hU], va_P.he hU.symm hPc, va_K.moved hW.alike hKc, hDc.weaken (fun _ _ _ _ => trivial), hSW.1.call hS hFc hW hU, (hR0).call hS hFc hW hU⟩⟩ rfl rfl hl.1 rfl (lv_room (Nat.le_of_ble_eq_true rfl)) d_JS_startsWith1_6 ⟨(Nat.zero_le _), (Nat.zero_le _)⟩) hS (fun q _ h => hFc q h) hFc (fun r1 u t H1 locs ht hvm hw hB hz1 hk1 hS => ?_)
  try dsimp only at hw
  have xr1 := hw
  try clear hw
  have tr1 := xr1
  obtain ⟨hP1, hK1, hD1⟩ := hB
  replace hP1 := va_P.he ht hP1
  replace hP1 := @vp_nil (dC, dI) cls2 H1
  obtain ⟨hP, hD⟩ := va_join (wr := []) (w1 := []) hP hD [] [] rfl rfl (by decide) (by decide) hk1 hFc hP1 hD1
  clear hPc hDc hKc hFc hz1 hk1 hP1 hK1 hD1
  rename Heap => H
  have hP : va_P (dC, dI) cls2 [] H := hP
  have hD : va_D A [] := hD
  refine lv_aload_n hx hb d_JS_startsWith1_9 rfl (lv_at hl 1 rfl) ?_
  have hPc := @vp_nil
  have hDc := hD.sb (wq := []) [] (by decide) rfl
  have hKc := (k2_of hK).sb (tyq := []) [] rfl
  have hFc := va_free (wc := []) hD hS hA [] rfl
  refine va_calli (va_runV (As := []) (rest := [.int r1, .int p2]) ⟨hx, hb, hml, hown, hts⟩ (c_JS_length l dC dI H.size sa ty tw b2 (by (first | (apply Int.le_antisymm <;> omega) | omega))) (cwV 0 hts (gV kM_JS_505 kV_JS_length kS_JS_length kI_JS kC_JS_length) rfl rfl rfl (by decide +kernel) ⟨Nat.le_of_ble_eq_true rfl, Nat.le_of_ble_eq_true rfl⟩) ⟨fun a U g mk z => by obtain ⟨z0, z1, zP, zK, zD, zS, zR0⟩ := z; exact ⟨z0, z1, zP, va_K.moved (u := U) (U := U.calling g mk a) (Vm.Alike.refl U.vm) zK, zD, sw.same (u := U) (U := U.calling g mk a) rfl zS, zR0.moved (u := U) (U := U.calling g mk a) (Vm.Alike.refl U.vm)⟩, so_recv (hR1.1) hS, fun U hU hW => ⟨rfl, by rw [hU], va_P.he hU.symm hPc, va_K.moved hW.alike hKc, hDc.weaken (fun _ _ _ _ => trivial), hSW.1.call hS hFc hW hU, (hR1).call hS hFc hW hU⟩⟩ rfl rfl hl.1 rfl (lv_room (Nat.le_of_ble_eq_true rfl)) d_JS_startsWith1_10 ⟨(Nat.zero_le _), (Nat.zero_le _)⟩) hS (fun q _ h => hFc q h) hFc (fun r2 u t H1 locs ht hvm hw hB hz1 hk1 hS => ?_)
  try dsimp only at hw
  have xr2 := hw
  try clear hw
  have tr2 := xr2
  obtain ⟨hP1, hK1, hD1⟩ := hB
  replace hP1 := va_P.he ht hP1
  replace hP1 := @vp_nil (dC, dI) cls2 H1
  obtain ⟨hP, hD⟩ := va_join (wr := []) (w1 := []) hP hD [] [] rfl rfl (by decide) (by decide) hk1 hFc hP1 hD1
  clear hPc hDc hKc hFc hz1 hk1 hP1 hK1 hD1
  rename Heap => H
  have hP : va_P (dC, dI) cls2 [] H := hP
  have hD : va_D A [] := hD
  refine lv_isub hx hb d_JS_startsWith1_13 ?_
  refine lv_topi (fun x3 ex3 => ?_)
  have tx3 : x3.toInt = r1.toInt - r2.toInt := by have z := i32_sub ex3 (by (first | (apply Int.le_antisymm <;> omega) | omega)) (by (first | (apply Int.le_antisymm <;> omega) | omega)); first | exact z | (first | (apply Int.le_antisymm <;> omega) | omega)
  refine lv_icmp_le (tgt := 19) hx hb d_JS_startsWith1_14 (by decide) (fun c14 => ?_) (fun c14 => ?_)
  · have q14 := leI c14
    refine lv_aload_n hx hb d_JS_startsWith1_19 rfl (lv_at hl 0 rfl) ?_
    refine vk_getf (v := .ref tv) hx hb (hR0.2.2.1) hS hown (hts _ kF_JS_9) (fun _ h9 => h9) d_JS_startsWith1_20 ?_
    refine lv_astore_n (lv' := [(3, .ref tv), (0, .ref tx), (1, .ref ty), (2, .int p2)]) hx hb d_JS_startsWith1_23 rfl hl (by decide) rfl (fun ls hl => ?_)
    refine lv_aload_n hx hb d_JS_startsWith1_24 rfl (lv_at hl 2 rfl) ?_
    refine vk_getf (v := .ref tw) hx hb (hR1.2.2.1) hS hown (hts _ kF_JS_9) (fun _ h9 => h9) d_JS_startsWith1_25 ?_
    refine lv_astore (lv' := [(4, .ref tw), (3, .ref tv), (0, .ref tx), (1, .ref ty), (2, .int p2)]) hx hb d_JS_startsWith1_28 hl (by decide) rfl (fun ls hl => ?_)
    refine lv_iconst (v := 0) hx hb d_JS_startsWith1_30 (by decide) ?_
    refine lv_istore (lv' := [(5, .int 0), (4, .ref tw), (3, .ref tv), (0, .ref tx), (1, .ref ty), (2, .int p2)]) hx hb d_JS_startsWith1_31 hl (by decide) rfl (fun ls hl => ?_)
    refine lv_aload hx hb d_JS_startsWith1_33 (lv_at hl 1 rfl) ?_
    refine va_tlen hx hb (hR1.2.2.2) hS rfl d_JS_startsWith1_35 ?_
    refine lv_topi (fun x4 ex4 => ?_)
    have tx4 : x4.toInt = b2.length := by rw [ex4]; exact i32_len (by (first | (apply Int.le_antisymm <;> omega) | omega))
    refine lv_istore (lv' := [(6, .int x4), (5, .int 0), (4, .ref tw), (3, .ref tv), (0, .ref tx), (1, .ref ty), (2, .int p2)]) hx hb d_JS_startsWith1_36 hl (by decide) rfl (fun ls hl => ?_)
    refine lv_aload_n hx hb d_JS_startsWith1_38 rfl (lv_at hl 4 rfl) ?_
    have hPc := @vp_nil
    have hDc := hD.sb (wq := []) [] (by decide) rfl
    have hKc := (k2_of hK).sb (tyq := []) [] rfl
    have hFc := va_free (wc := []) hD hS hA [] rfl
    refine va_calli (va_runV (As := []) (rest := []) ⟨hx, hb, hml, hown, hts⟩ (c_JS_coder l dC dI H.size sa tx tv b ) (cwV 0 hts (gV kM_JS_335 kV_JS_coder kS_JS_coder kI_JS kC_JS_coder) rfl rfl rfl (by decide +kernel) ⟨Nat.le_of_ble_eq_true rfl, Nat.le_of_ble_eq_true rfl⟩) ⟨fun a U g mk z => by obtain ⟨z0, z1, zP, zK, zD, zS, zR0⟩ := z; exact ⟨z0, z1, zP, va_K.moved (u := U) (U := U.calling g mk a) (Vm.Alike.refl U.vm) zK, zD, sw.same (u := U) (U := U.calling g mk a) rfl zS, zR0.moved (u := U) (U := U.calling g mk a) (Vm.Alike.refl U.vm)⟩, so_recv (hR0.1) hS, fun U hU hW => ⟨rfl, by rw [hU], va_P.he hU.symm hPc, va_K.moved hW.alike hKc, hDc.weaken (fun _ _ _ _ => trivial), hSW.1.call hS hFc hW hU, (hR0).call hS hFc hW hU⟩⟩ rfl rfl hl.1 rfl (lv_room (Nat.le_of_ble_eq_true rfl)) d_JS_startsWith1_39 ⟨(Nat.zero_le _), (Nat.zero_le _)⟩) hS (fun q _ h => hFc q h) hFc (fun r5 u t H1 locs ht hvm hw hB hz1 hk1 hS => ?_)
    try dsimp only at hw
    have xr5 := hw
    try clear hw
    have tr5 : r5.toInt = 0 := by rw [xr5]; decide
    obtain ⟨hP1, hK1, hD1⟩ := hB
    replace hP1 := va_P.he ht hP1
    replace hP1 := @vp_nil (dC, dI) cls2 H1
    obtain ⟨hP, hD⟩ := va_join (wr := []) (w1 := []) hP hD [] [] rfl rfl (by decide) (by decide) hk1 hFc hP1 hD1
    clear hPc hDc hKc hFc hz1 hk1 hP1 hK1 hD1
    rename Heap => H
    have hP : va_P (dC, dI) cls2 [] H := hP
    have hD : va_D A [] := hD
    refine lv_istore (lv' := [(7, .int r5), (6, .int x4), (5, .int 0), (4, .ref tw), (3, .ref tv), (0, .ref tx), (1, .ref ty), (2, .int p2)]) hx hb d_JS_startsWith1_42 hl (by decide) rfl (fun ls hl => ?_)
    refine lv_iload hx hb d_JS_startsWith1_44 (lv_at hl 0 rfl) ?_
    refine lv_aload_n hx hb d_JS_startsWith1_46 rfl (lv_at hl 6 rfl) ?_
    have hPc := @vp_nil
    have hDc := hD.sb (wq := []) [] (by decide) rfl
    have hKc := (k2_of hK).sb (tyq := []) [] rfl
    have hFc := va_free (wc := []) hD hS hA [] rfl
    refine va_calli (va_runV (As := []) (rest := [.int r5]) ⟨hx, hb, hml, hown, hts⟩ (c_JS_coder l dC dI H.size sa ty tw b2 ) (cwV 0 hts (gV kM_JS_335 kV_JS_coder kS_JS_coder kI_JS kC_JS_coder) rfl rfl rfl (by decide +kernel) ⟨Nat.le_of_ble_eq_true rfl, Nat.le_of_ble_eq_true rfl⟩) ⟨fun a U g mk z => by obtain ⟨z0, z1, zP, zK, zD, zS, zR0⟩ := z; exact ⟨z0, z1, zP, va_K.moved (u := U) (U := U.calling g mk a) (Vm.Alike.refl U.vm) zK, zD, sw.same (u := U) (U := U.calling g mk a) rfl zS, zR0.moved (u := U) (U := U.calling g mk a) (Vm.Alike.refl U.vm)⟩, so_recv (hR1.1) hS, fun U hU hW => ⟨rfl, by rw [hU], va_P.he hU.symm hPc, va_K.moved hW.alike hKc, hDc.weaken (fun _ _ _ _ => trivial), hSW.1.call hS hFc hW hU, (hR1).call hS hFc hW hU⟩⟩ rfl rfl hl.1 rfl (lv_room (Nat.le_of_ble_eq_true rfl)) d_JS_startsWith1_47 ⟨(Nat.zero_le _), (Nat.zero_le _)⟩) hS (fun q _ h => hFc q h) hFc (fun r6 u t H1 locs ht hvm hw hB hz1 hk1 hS => ?_)
    try dsimp only at hw
    have xr6 := hw
    try clear hw
    have tr6 : r6.toInt = 0 := by rw [xr6]; decide
    obtain ⟨hP1, hK1, hD1⟩ := hB
    replace hP1 := va_P.he ht hP1
    replace hP1 := @vp_nil (dC, dI) cls2 H1
    obtain ⟨hP, hD⟩ := va_join (wr := []) (w1 := []) hP hD [] [] rfl rfl (by decide) (by decide) hk1 hFc hP1 hD1
    clear hPc hDc hKc hFc hz1 hk1 hP1 hK1 hD1
    rename Heap => H
    have hP : va_P (dC, dI) cls2 [] H := hP
    have hD : va_D A [] := hD
    refine lv_icmp_ne (tgt := 82) hx hb d_JS_startsWith1_50 (by decide) (fun c50 => absurd (neI c50) (by (first | (apply Int.le_antisymm <;> omega) | omega))) (fun c50 => ?_)
    have q50 := eqI c50
    refine lv_iload hx hb d_JS_startsWith1_53 (lv_at hl 0 rfl) ?_
    refine lv_iconst (v := 1) hx hb d_JS_startsWith1_55 (by decide) ?_
    refine lv_icmp_ne (tgt := 63) hx hb d_JS_startsWith1_56 (by decide) (fun c56 => ?_) (fun c56 => absurd (eqI c56) (by (first | (apply Int.le_antisymm <;> omega) | omega)))
    have q56 := neI c56
    refine lv_aload_n hx hb d_JS_startsWith1_63 rfl (lv_at hl 4 rfl) ?_
    refine lv_iload_n hx hb d_JS_startsWith1_64 rfl (lv_at hl 7 rfl) ?_
    refine lv_aload hx hb d_JS_startsWith1_65 (lv_at hl 3 rfl) ?_
    refine lv_iconst (v := 0) hx hb d_JS_startsWith1_67 (by decide) ?_
    refine lv_iload hx hb d_JS_startsWith1_68 (lv_at hl 1 rfl) ?_
    have hPc := @vp_nil
    have hDc := hD.sb (wq := []) [] (by decide) rfl
    have hKc := hK.sb (tyq := []) [] rfl
    have hFc := va_free (wc := []) hD hS hA [] rfl
    refine va_calli (va_runS (As := [.ref tv, .int p2, .ref tw, .int 0, .int x4]) (rest := []) ⟨hx, hb, hml, hown, hts⟩ (c_JU_mismatch l hlt dC dI H.size tv b tw b2 p2 0 x4 (hbl) (hbl2) (by (first | (apply Int.le_antisymm <;> omega) | omega))) ⟨callB_of 5 hts (gW kC_JU_mismatch) rfl rfl rfl (hts _ kI_JU) (hts _ kM_JS_607) (by decide +kernel) ⟨Nat.le_of_ble_eq_true rfl, Nat.le_of_ble_eq_true rfl⟩, hts _ kT_JU_mismatch⟩ ⟨fun a U g mk z => by obtain ⟨z0, z1, zP, zK, zD, zV0, zV1⟩ := z; exact ⟨z0, z1, zP, va_K.moved (u := U) (U := U.calling g mk a) (Vm.Alike.refl U.vm) zK, zD, va_T.moved (u := U) (U := U.calling g mk a) (Vm.Alike.refl U.vm) zV0, va_T.moved (u := U) (U := U.calling g mk a) (Vm.Alike.refl U.vm) zV1⟩, fun U hU hW => ⟨rfl, by rw [hU], va_P.he hU.symm hPc, va_K.moved hW.alike hKc, hDc.weaken (fun _ _ _ _ => trivial), vt_call (hR0.2.2.2) hS hFc hW hU, vt_call (hR1.2.2.2) hS hFc hW hU⟩⟩ rfl rfl hl.1 rfl (lv_room (Nat.le_of_ble_eq_true rfl)) d_JS_startsWith1_70 ⟨(Nat.zero_le _), (Nat.zero_le _)⟩) hS (fun q _ h => hFc q h) hFc (fun r7 u t H1 locs ht hvm hw hB hz1 hk1 hS => ?_)
    try dsimp only at hw
    have xr7 := hw
    try clear hw
    obtain ⟨hP1, hK1, hD1⟩ := hB
    replace hP1 := va_P.he ht hP1
    replace hP1 := @vp_nil (dC, dI) cls2 H1
    obtain ⟨hP, hD⟩ := va_join (wr := []) (w1 := []) hP hD [] [] rfl rfl (by decide) (by decide) hk1 hFc hP1 hD1
    clear hPc hDc hKc hFc hz1 hk1 hP1 hK1 hD1
    rename Heap => H
    have hP : va_P (dC, dI) cls2 [] H := hP
    have hD : va_D A [] := hD
    refine lv_if_ge (tgt := 80) hx hb d_JS_startsWith1_73 (by decide) (fun c73 => ?_) (fun c73 => ?_)
    · have q73 := leI c73
      refine lv_iconst (v := 0) hx hb d_JS_startsWith1_80 (by decide) ?_
      have hP9 := hP.sb (wq := []) [] rfl
      have hD9 := hD.sb (wq := []) [] (by decide) rfl
      exact W.zret (v := 0) hx hb hr (zn01 (Or.inl rfl)) (fun t ht hW => ⟨⟨0, (), rfl, ⟨Or.inl rfl, Or.inr ⟨by decide, fun z => by rcases xr7 with q | q; (have := q.1; (first | (apply Int.le_antisymm <;> omega) | omega)); (obtain ⟨-, j, q1, q2⟩ := q; exact q2 (z.2 j (by (first | (apply Int.le_antisymm <;> omega) | omega))))⟩⟩, va_P.he ht.symm hP9, va_K.moved hW.alike hK, hD9⟩, hS.F ht⟩) hS.2.2 d_JS_startsWith1_81
    · have q73 := nleI c73
      refine lv_iconst (v := 1) hx hb d_JS_startsWith1_76 (by decide) ?_
      refine lv_goto (tgt := 81) hx hb d_JS_startsWith1_77 (by decide) ?_
      have hP9 := hP.sb (wq := []) [] rfl
      have hD9 := hD.sb (wq := []) [] (by decide) rfl
      exact W.zret (v := 1) hx hb hr (zn01 (Or.inr rfl)) (fun t ht hW => ⟨⟨1, (), rfl, ⟨Or.inr rfl, Or.inl ⟨by decide, by (first | (apply Int.le_antisymm <;> omega) | omega), fun j hj => by rcases xr7 with q | q; (exact q.2 j (by (first | (apply Int.le_antisymm <;> omega) | omega))); (exfalso; have := q.1; (first | (apply Int.le_antisymm <;> omega) | omega))⟩⟩, va_P.he ht.symm hP9, va_K.moved hW.alike hK, hD9⟩, hS.F ht⟩) hS.2.2 d_JS_startsWith1_81
  · have q14 := nleI c14
    refine lv_iconst (v := 0) hx hb d_JS_startsWith1_17 (by decide) ?_
    have hP9 := hP.sb (wq := []) [] rfl
    have hD9 := hD.sb (wq := []) [] (by decide) rfl
    exact W.zret (v := 0) hx hb hr (zn01 (Or.inl rfl)) (fun t ht hW => ⟨⟨0, (), rfl, ⟨Or.inl rfl, Or.inr ⟨by decide, fun q => by have := q.1; (first | (apply Int.le_antisymm <;> omega) | omega)⟩⟩, va_P.he ht.symm hP9, va_K.moved hW.alike hK, hD9⟩, hS.F ht⟩) hS.2.2 d_JS_startsWith1_18
abbrev b_JS_startsWith0 : ByteArray := prog_33_method_76_code
def y_JS_startsWith0 : MethodName := ⟨R_JS, "startsWith", "(Ljava/lang/String;)Z"⟩
abbrev w_JS_startsWith0 : List Cond := .code y_JS_startsWith0 b_JS_startsWith0 2 (Option.some .boolean) :: lw_g
theorem kC_JS_startsWith0 : Cond.code y_JS_startsWith0 b_JS_startsWith0 2 (Option.some .boolean) ∈ lw_g := in_c12 57 rfl rfl
theorem d_JS_startsWith0_0 : decode b_JS_startsWith0 0 = .ok (.aload_n 0, 1) := bz_c42 (by decide +kernel)
theorem d_JS_startsWith0_1 : decode b_JS_startsWith0 1 = .ok (.aload_n 1, 1) := bz_c43 (by decide +kernel)
theorem d_JS_startsWith0_2 : decode b_JS_startsWith0 2 = .ok (.iconst 0, 1) := bz_c3 (by decide +kernel)
theorem d_JS_startsWith0_3 : decode b_JS_startsWith0 3 = .ok (.invokevirtual 624, 3) := bz_c182 (by decide +kernel)
theorem d_JS_startsWith0_6 : decode b_JS_startsWith0 6 = .ok (.ireturn, 1) := bz_c172 (by decide +kernel)
theorem kM_JS_624 : Cond.methodLink R_JS 624 y_JS_startsWith1 ∈ lw_g := in_c12 58 rfl rfl
theorem kV_JS_startsWith1 : Cond.instanceMethod y_JS_startsWith1 ∈ lw_g := in_c12 59 rfl rfl
theorem kS_JS_startsWith1 : Cond.selects R_JS y_JS_startsWith1 y_JS_startsWith1 ∈ lw_g := in_c12 60 rfl rfl
abbrev at_JS_startsWith0 (dC : Nat → ClassId) (dI : Nat → Nat → Nat) (sa : Nat → Nat)  (A : Nat → Prop) (u : Unit) (t : State) : Prop := match u with | _ => va_P (dC, dI) cls2 [] t.heap ∧ va_K (dC, dI) cls2 [] t ∧ va_D A []
set_option maxHeartbeats 4000000 in
set_option maxRecDepth 100000 in
theorem c_JS_startsWith0 (l : Launch) (hlt : l.stackTraces = false) (dC : Nat → ClassId) (dI : Nat → Nat → Nat) (sz : Nat) (sa : Nat → Nat) (tx tv : Nat) (b : List Int32) (ty tw : Nat) (b2 : List Int32)      (hbl : (b.length : Int) < 1000000) (hbl2 : (b2.length : Int) < 1000000) (h7 : (b2.length : Int) ≤ 7) : Met l y_JS_startsWith0 w_JS_startsWith0 ({ frames := 3, cells := 0, slots := 0, locals := 67 }) (va_Pc [.ref tx, .ref ty] (fun U => U.heap.size = sz ∧ va_P (dC, dI) cls2 [] U.heap ∧ va_K (dC, dI) cls2 [] U ∧ va_D (fun _ => True) [] ∧ sm sa (va_A [] sz) U U.heap ∧ sw_str tx tv b (va_A [] sz) U U.heap ∧ sw_str ty tw b2 (va_A [] sz) U U.heap)) (va_Qi (fun (r : Int32) (u : Unit) => match u with | _ => (r = 0 ∨ r = 1) ∧ ((r.toInt = 1 ∧ b2.length ≤ b.length ∧ ∀ j : Nat, j < b2.length → b.getD j 0 = b2.getD j 0) ∨ (r.toInt = 0 ∧ ¬ (b2.length ≤ b.length ∧ ∀ j : Nat, j < b2.length → b.getD j 0 = b2.getD j 0)))) (at_JS_startsWith0 dC dI sa  (va_A [] sz)) (va_A [] sz)) 0 0 (va_A [] sz) := by
  refine Met.ofW (cc := b_JS_startsWith0) (maxL := 2) (ret := (Option.some .boolean)) (by decide) rfl ?_
  intro p e s m args below meth c s₁ B hml hv
  obtain ⟨rfl, hsz, hP, hK, hD0, hSW, hR0, hR1⟩ := hv
  have hx := B.exec
  have hb := B.bytes
  have hr := B.returns
  have hts0 := atoms_spec (ws := w_JS_startsWith0) B.pre
  have hts : ∀ w ∈ lw_g, w.before _ s = true := fun w h => hts0 w (List.mem_cons_of_mem _ h)
  have hown : s.vm.findClass R_JS = some m.cls := findClass_of_methodNamed B.named
  have hlocks := B.notSynchronized
  clear hts0
  subst hsz
  have hD := hD0.self (sz := s.heap.size)
  generalize hAe : va_A [] s.heap.size = A at hD hSW hR0 hR1 ⊢
  have hA : ∀ q : Nat, s.heap.size ≤ q → A q := fun q h => by rw [← hAe]; exact Or.inr h
  clear hAe
  have hP : va_P (dC, dI) cls2 [] s.heap := hP
  have hl := lv_entry ([.ref tx, .ref ty]) (n := 2) (Nat.le_of_ble_eq_true rfl)
  rw [lg_entry_eq]
  generalize (lg_sl ([.ref tx, .ref ty]) ++ List.replicate (2 - (lg_sl ([.ref tx, .ref ty])).length) Slot.unset).toArray = ls at hl ⊢
  have hl : lv_has ls 2 [(0, .ref tx), (1, .ref ty)] := hl
  have k0 : (0 : Int32).toInt = 0 := by decide
  refine w_gen (A := A) hP (fun H locs hP hS => ?_)
  refine lv_aload_n hx hb d_JS_startsWith0_0 rfl (lv_at hl 0 rfl) ?_
  refine lv_aload_n hx hb d_JS_startsWith0_1 rfl (lv_at hl 1 rfl) ?_
  refine lv_iconst (v := 0) hx hb d_JS_startsWith0_2 (by decide) ?_
  have hPc := @vp_nil
  have hDc := hD.sb (wq := []) [] (by decide) rfl
  have hKc := hK.sb (tyq := []) [] rfl
  have hFc := va_free (wc := []) hD hS hA [] rfl
  refine va_calli (va_runV (As := [.ref ty, .int 0]) (rest := []) ⟨hx, hb, hml, hown, hts⟩ (c_JS_startsWith1 l hlt dC dI H.size sa tx tv b ty tw b2 0 (hbl) (hbl2) (by decide) (h7)) (cwV 2 hts (gV kM_JS_624 kV_JS_startsWith1 kS_JS_startsWith1 kI_JS kC_JS_startsWith1) rfl rfl rfl (by decide +kernel) ⟨Nat.le_of_ble_eq_true rfl, Nat.le_of_ble_eq_true rfl⟩) ⟨fun a U g mk z => by obtain ⟨z0, z1, zP, zK, zD, zS, zR0, zR1⟩ := z; exact ⟨z0, z1, zP, va_K.moved (u := U) (U := U.calling g mk a) (Vm.Alike.refl U.vm) zK, zD, sm.same (u := U) (U := U.calling g mk a) rfl zS, zR0.moved (u := U) (U := U.calling g mk a) (Vm.Alike.refl U.vm), zR1.moved (u := U) (U := U.calling g mk a) (Vm.Alike.refl U.vm)⟩, so_recv (hR0.1) hS, fun U hU hW => ⟨rfl, by rw [hU], va_P.he hU.symm hPc, va_K.moved hW.alike hKc, hDc.weaken (fun _ _ _ _ => trivial), hSW.call hS hFc hW hU, (hR0).call hS hFc hW hU, (hR1).call hS hFc hW hU⟩⟩ rfl rfl hl.1 rfl (lv_room (Nat.le_of_ble_eq_true rfl)) d_JS_startsWith0_3 ⟨(Nat.zero_le _), (Nat.zero_le _)⟩) hS (fun q _ h => hFc q h) hFc (fun r1 u t H1 locs ht hvm hw hB hz1 hk1 hS => ?_)
  try dsimp only at hw
  obtain ⟨br1, xr1⟩ := hw
  try clear hw
  have tr1 := b01 br1
  obtain ⟨hP1, hK1, hD1⟩ := hB
  replace hP1 := va_P.he ht hP1
  replace hP1 := @vp_nil (dC, dI) cls2 H1
  obtain ⟨hP, hD⟩ := va_join (wr := []) (w1 := []) hP hD [] [] rfl rfl (by decide) (by decide) hk1 hFc hP1 hD1
  clear hPc hDc hKc hFc hz1 hk1 hP1 hK1 hD1
  rename Heap => H
  have hP : va_P (dC, dI) cls2 [] H := hP
  have hD : va_D A [] := hD
  have hP9 := hP.sb (wq := []) [] rfl
  have hD9 := hD.sb (wq := []) [] (by decide) rfl
  exact W.zret (v := r1) hx hb hr (zn01 (br1)) (fun t ht hW => ⟨⟨r1, (), rfl, ⟨br1, xr1⟩, va_P.he ht.symm hP9, va_K.moved hW.alike hK, hD9⟩, hS.F ht⟩) hS.2.2 d_JS_startsWith0_6
theorem hs9_1 {b : List Int32} : hs9 b 1 = b.getD 0 0 &&& 255 := by
  show 31 * hs9 b 0 + _ = _
  show 31 * 0 + _ = _
  rw [Int32.mul_zero, Int32.zero_add]
abbrev b_JU_signedHashCode : ByteArray := prog_41_method_5_code
def y_JU_signedHashCode : MethodName := ⟨R_JU, "signedHashCode", "(I[BII)I"⟩
abbrev w_JU_signedHashCode : List Cond := .code y_JU_signedHashCode b_JU_signedHashCode 6 (Option.some .int) :: lw_g
theorem kC_JU_signedHashCode : Cond.code y_JU_signedHashCode b_JU_signedHashCode 6 (Option.some .int) ∈ lw_g := in_c12 171 rfl rfl
theorem d_JU_signedHashCode_0 : decode b_JU_signedHashCode 0 = .ok (.iload_n 2, 1) := bz_c28 (by decide +kernel)
theorem d_JU_signedHashCode_1 : decode b_JU_signedHashCode 1 = .ok (.iload_n 3, 1) := bz_c29 (by decide +kernel)
theorem d_JU_signedHashCode_2 : decode b_JU_signedHashCode 2 = .ok (.iadd, 1) := bz_c96 (by decide +kernel)
theorem d_JU_signedHashCode_3 : decode b_JU_signedHashCode 3 = .ok (.istore 4, 2) := bz_c54 (by decide +kernel)
theorem d_JU_signedHashCode_5 : decode b_JU_signedHashCode 5 = .ok (.iload_n 2, 1) := bz_c28 (by decide +kernel)
theorem d_JU_signedHashCode_6 : decode b_JU_signedHashCode 6 = .ok (.istore 5, 2) := bz_c54 (by decide +kernel)
theorem d_JU_signedHashCode_8 : decode b_JU_signedHashCode 8 = .ok (.iload 5, 2) := bz_c21 (by decide +kernel)
theorem d_JU_signedHashCode_10 : decode b_JU_signedHashCode 10 = .ok (.iload 4, 2) := bz_c21 (by decide +kernel)
theorem d_JU_signedHashCode_12 : decode b_JU_signedHashCode 12 = .ok (.if_icmp .ge 23, 3) := bz_c162 (by decide +kernel)
theorem d_JU_signedHashCode_15 : decode b_JU_signedHashCode 15 = .ok (.bipush 31, 2) := bz_c16 (by decide +kernel)
theorem d_JU_signedHashCode_17 : decode b_JU_signedHashCode 17 = .ok (.iload_n 0, 1) := bz_c26 (by decide +kernel)
theorem d_JU_signedHashCode_18 : decode b_JU_signedHashCode 18 = .ok (.imul, 1) := bz_c104 (by decide +kernel)
theorem d_JU_signedHashCode_19 : decode b_JU_signedHashCode 19 = .ok (.aload_n 1, 1) := bz_c43 (by decide +kernel)
theorem d_JU_signedHashCode_20 : decode b_JU_signedHashCode 20 = .ok (.iload 5, 2) := bz_c21 (by decide +kernel)
theorem d_JU_signedHashCode_22 : decode b_JU_signedHashCode 22 = .ok (.baload, 1) := bz_c51 (by decide +kernel)
theorem d_JU_signedHashCode_23 : decode b_JU_signedHashCode 23 = .ok (.sipush 255, 3) := bz_c17 (by decide +kernel)
theorem d_JU_signedHashCode_26 : decode b_JU_signedHashCode 26 = .ok (.iand, 1) := bz_c126 (by decide +kernel)
theorem d_JU_signedHashCode_27 : decode b_JU_signedHashCode 27 = .ok (.iadd, 1) := bz_c96 (by decide +kernel)
theorem d_JU_signedHashCode_28 : decode b_JU_signedHashCode 28 = .ok (.istore_n 0, 1) := bz_c59 (by decide +kernel)
theorem d_JU_signedHashCode_29 : decode b_JU_signedHashCode 29 = .ok (.iinc 5 1, 3) := by decide +kernel
theorem d_JU_signedHashCode_32 : decode b_JU_signedHashCode 32 = .ok (.goto (-24), 3) := bz_c167 (by decide +kernel)
theorem d_JU_signedHashCode_35 : decode b_JU_signedHashCode 35 = .ok (.iload_n 0, 1) := bz_c26 (by decide +kernel)
theorem d_JU_signedHashCode_36 : decode b_JU_signedHashCode 36 = .ok (.ireturn, 1) := bz_c172 (by decide +kernel)
abbrev at_JU_signedHashCode (dC : Nat → ClassId) (dI : Nat → Nat → Nat) (va : Nat) (cpb : ClassId) (nva : Nat) (gva : Nat → Int32) (A : Nat → Prop) (u : Unit) (t : State) : Prop := match u with | _ => va_P (dC, dI) cls2 [(va, .inl (cpb, nva, .inl gva))] t.heap ∧ va_K (dC, dI) cls2 [(cpb, .byte)] t ∧ va_D A [(va, .inl (cpb, nva, .inl gva))]
set_option maxHeartbeats 4000000 in
set_option maxRecDepth 100000 in
theorem c_JU_signedHashCode (l : Launch) (hlt : l.stackTraces = false) (dC : Nat → ClassId) (dI : Nat → Nat → Nat) (sz : Nat) (va : Nat) (cpb : ClassId) (nva : Nat) (gva : Nat → Int32)  (b_gva : ∀ j : Nat, -128 ≤ (gva j).toInt ∧ (gva j).toInt ≤ 127) (p0 : Int32) (p2 : Int32) (p3 : Int32)  (hbl : (nva : Int) < 1000000) (hp : p2.toInt = 0 ∧ p3.toInt = (nva : Int)) (hp0 : p0 = 0) : Met l y_JU_signedHashCode w_JU_signedHashCode ({ frames := 0, cells := 0, slots := 0, locals := 0 }) (va_Pc [.int p0, .ref va, .int p2, .int p3] (fun U => U.heap.size = sz ∧ va_P (dC, dI) cls2 [(va, .inl (cpb, nva, .inl gva))] U.heap ∧ va_K (dC, dI) cls2 [(cpb, .byte)] U ∧ va_D (fun _ => True) [(va, .inl (cpb, nva, .inl gva))])) (va_Qi (fun (r : Int32) (u : Unit) => match u with | _ => (r = hs9 (sbl gva nva) nva)) (at_JU_signedHashCode dC dI va cpb nva gva (va_A [(va, .inl (cpb, nva, .inl gva))] sz)) (va_A [(va, .inl (cpb, nva, .inl gva))] sz)) 0 0 (va_A [(va, .inl (cpb, nva, .inl gva))] sz) := by
  refine Met.ofW (cc := b_JU_signedHashCode) (maxL := 6) (ret := (Option.some .int)) (by decide) rfl ?_
  intro p e s m args below meth c s₁ B hml hv
  obtain ⟨rfl, hsz, hP, hK, hD0⟩ := hv
  have hx := B.exec
  have hb := B.bytes
  have hr := B.returns
  have hts0 := atoms_spec (ws := w_JU_signedHashCode) B.pre
  have hts : ∀ w ∈ lw_g, w.before _ s = true := fun w h => hts0 w (List.mem_cons_of_mem _ h)
  have hown : s.vm.findClass R_JU = some m.cls := findClass_of_methodNamed B.named
  have hlocks := B.notSynchronized
  clear hts0
  subst hsz
  have hD := hD0.self (sz := s.heap.size)
  generalize hAe : va_A [(va, .inl (cpb, nva, .inl gva))] s.heap.size = A at hD ⊢
  have hA : ∀ q : Nat, s.heap.size ≤ q → A q := fun q h => by rw [← hAe]; exact Or.inr h
  clear hAe
  have hP : va_P (dC, dI) cls2 [(va, .inl (cpb, nva, .inl gva))] s.heap := hP
  have hl := lv_entry ([.int p0, .ref va, .int p2, .int p3]) (n := 6) (Nat.le_of_ble_eq_true rfl)
  rw [lg_entry_eq]
  generalize (lg_sl ([.int p0, .ref va, .int p2, .int p3]) ++ List.replicate (6 - (lg_sl ([.int p0, .ref va, .int p2, .int p3])).length) Slot.unset).toArray = ls at hl ⊢
  have hl : lv_has ls 6 [(0, .int p0), (1, .ref va), (2, .int p2), (3, .int p3)] := hl
  have k0 : (0 : Int32).toInt = 0 := by decide
  refine w_gen (A := A) hP (fun H locs hP hS => ?_)
  have k1 : (1 : Int32).toInt = 1 := by decide
  have k31 : (31 : Int32).toInt = 31 := by decide
  have k255 : (255 : Int32).toInt = 255 := by decide
  have lo_p0 := i32_lo p0
  have hi_p0 := i32_hi p0
  have lo_p2 := i32_lo p2
  have hi_p2 := i32_hi p2
  have lo_p3 := i32_lo p3
  have hi_p3 := i32_hi p3
  refine lv_iload_n hx hb d_JU_signedHashCode_0 rfl (lv_at hl 2 rfl) ?_
  refine lv_iload_n hx hb d_JU_signedHashCode_1 rfl (lv_at hl 3 rfl) ?_
  refine lv_iadd hx hb d_JU_signedHashCode_2 ?_
  refine lv_topi (fun x1 ex1 => ?_)
  have tx1 : x1.toInt = p2.toInt + p3.toInt := by have z := i32_add ex1 (by (first | (apply Int.le_antisymm <;> omega) | omega)) (by (first | (apply Int.le_antisymm <;> omega) | omega)); first | exact z | (first | (apply Int.le_antisymm <;> omega) | omega)
  refine lv_istore (lv' := [(4, .int x1), (0, .int p0), (1, .ref va), (2, .int p2), (3, .int p3)]) hx hb d_JU_signedHashCode_3 hl (by decide) rfl (fun ls hl => ?_)
  refine lv_iload_n hx hb d_JU_signedHashCode_5 rfl (lv_at hl 3 rfl) ?_
  refine lv_istore (lv' := [(5, .int p2), (4, .int x1), (0, .int p0), (1, .ref va), (2, .int p2), (3, .int p3)]) hx hb d_JU_signedHashCode_6 hl (by decide) rfl (fun ls hl => ?_)
  refine w_loop (σ := Int32 × Int32) (fun u H locs ls => match u with | (j8_l0, j8_l5) => (0 ≤ j8_l5.toInt ∧ j8_l5.toInt ≤ 1000000) ∧ (j8_l5.toInt ≤ (nva : Int)) ∧ (j8_l0 = hs9 (sbl gva nva) j8_l5.toNatClampNeg) ∧ va_P (dC, dI) cls2 [(va, .inl (cpb, nva, .inl gva))] H ∧ va_D A [(va, .inl (cpb, nva, .inl gva))] ∧ va_S A s.heap H locs ∧ lv_has ls 6 [(0, .int j8_l0), (1, .ref va), (4, .int x1), (5, .int j8_l5)]) (fun u => match u with | (j8_l0, j8_l5) => ((nva : Int) - j8_l5.toInt).toNat) ?_ (p0, p2) ⟨by (try dsimp only) <;> (first | (apply Int.le_antisymm <;> omega) | omega), by (try dsimp only) <;> (first | (apply Int.le_antisymm <;> omega) | omega), (by rw [hp0, show p2.toNatClampNeg = 0 from by have := i32_clamp (x := p2) (by (first | (apply Int.le_antisymm <;> omega) | omega)); (first | (apply Int.le_antisymm <;> omega) | omega)]; rfl), hP, hD, hS, lv_sub hl [2, 3, 1, 0] rfl⟩
  intro N8 ih8 u H locs ls hN8 hI
  obtain ⟨j8_l0, j8_l5⟩ := u
  obtain ⟨b_j8_l5, u1, u2, hP, hD, hS, hl⟩ := hI
  have hN8 : ((nva : Int) - j8_l5.toInt).toNat < N8 + 1 := hN8
  refine lv_iload hx hb d_JU_signedHashCode_8 (lv_at hl 3 rfl) ?_
  refine lv_iload hx hb d_JU_signedHashCode_10 (lv_at hl 2 rfl) ?_
  refine lv_icmp_ge (tgt := 35) hx hb d_JU_signedHashCode_12 (by decide) (fun c12 => ?_) (fun c12 => ?_)
  · have q12 := leI c12
    refine lv_iload_n hx hb d_JU_signedHashCode_35 rfl (lv_at hl 0 rfl) ?_
    have hP9 := hP.sb (wq := [(va, .inl (cpb, nva, .inl gva))]) [0] rfl
    have hD9 := hD.sb (wq := [(va, .inl (cpb, nva, .inl gva))]) [0] (by decide) rfl
    exact W.iret (v := j8_l0) hx hb hr (fun t ht hW => ⟨⟨j8_l0, (), rfl, ((by rw [u2, show j8_l5.toNatClampNeg = nva from by have := i32_clamp (x := j8_l5) (by (first | (apply Int.le_antisymm <;> omega) | omega)); (first | (apply Int.le_antisymm <;> omega) | omega)])), va_P.he ht.symm hP9, va_K.moved hW.alike hK, hD9⟩, hS.F ht⟩) hS.2.2 d_JU_signedHashCode_36
  · have q12 := nleI c12
    refine lv_bipush (v := 31) hx hb d_JU_signedHashCode_15 (by decide) ?_
    refine lv_iload_n hx hb d_JU_signedHashCode_17 rfl (lv_at hl 0 rfl) ?_
    refine lv_imul hx hb d_JU_signedHashCode_18 ?_
    refine lv_topi (fun x2 ex2 => ?_)
    refine lv_aload_n hx hb d_JU_signedHashCode_19 rfl (lv_at hl 1 rfl) ?_
    refine lv_iload hx hb d_JU_signedHashCode_20 (lv_at hl 3 rfl) ?_
    have g22 : vp_in j8_l5 nva := vp_in_iff.mpr ⟨by (first | (apply Int.le_antisymm <;> omega) | omega), by (first | (apply Int.le_antisymm <;> omega) | omega)⟩
    refine va_bald hx hb hK hP 0 0 rfl rfl g22 d_JU_signedHashCode_22 ?_
    refine lv_topi (fun x3 ex3 => ?_)
    have tx3 := b_gva j8_l5.toNatClampNeg
    rw [← ex3] at tx3
    refine lv_sipush (v := 255) hx hb d_JU_signedHashCode_23 (by decide) ?_
    refine lv_iand hx hb d_JU_signedHashCode_26 ?_
    refine lv_topi (fun x4 ex4 => ?_)
    refine lv_iadd hx hb d_JU_signedHashCode_27 ?_
    refine lv_topi (fun x5 ex5 => ?_)
    refine lv_istore_n (lv' := [(0, .int x5), (1, .ref va), (4, .int x1), (5, .int j8_l5)]) hx hb d_JU_signedHashCode_28 rfl hl (by decide) rfl (fun ls hl => ?_)
    obtain ⟨x6, ex6⟩ : ∃ z : Int32, z = j8_l5 + 1 := ⟨_, rfl⟩
    have tx6 : x6.toInt = j8_l5.toInt + 1 := by have z := i32_add ex6 (by (first | (apply Int.le_antisymm <;> omega) | omega)) (by (first | (apply Int.le_antisymm <;> omega) | omega)); first | exact z | (first | (apply Int.le_antisymm <;> omega) | omega)
    refine lv_iinc (v := x6) (lv' := [(5, .int x6), (0, .int x5), (1, .ref va), (4, .int x1)]) hx hb d_JU_signedHashCode_29 hl (k := 3) rfl (by rw [ex6]; rfl) (by decide) rfl (fun ls hl => ?_)
    refine lv_goto (tgt := 8) hx hb d_JU_signedHashCode_32 (by decide) ?_
    exact ih8 (x5, x6) _ _ _ (by show ((nva : Int) - x6.toInt).toNat < N8; (first | (apply Int.le_antisymm <;> omega) | omega)) ⟨by (try dsimp only) <;> (first | (apply Int.le_antisymm <;> omega) | omega), by (try dsimp only) <;> (first | (apply Int.le_antisymm <;> omega) | omega), (by have z9 := i32_clamp (x := j8_l5) (by (first | (apply Int.le_antisymm <;> omega) | omega)); rw [show x6.toNatClampNeg = j8_l5.toNatClampNeg + 1 from clampN (by (first | (apply Int.le_antisymm <;> omega) | omega)), ex5, ex2, ex4, ex3, u2, ← sbl_get (g := gva) (n := nva) (j := j8_l5.toNatClampNeg) (by (first | (apply Int.le_antisymm <;> omega) | omega))]; rfl), hP, hD, hS, lv_sub hl [1, 2, 3, 0] rfl⟩
abbrev b_JU_vectorizedHashCode : ByteArray := prog_41_method_4_code
def y_JU_vectorizedHashCode : MethodName := ⟨R_JU, "vectorizedHashCode", "(Ljava/lang/Object;IIII)I"⟩
abbrev w_JU_vectorizedHashCode : List Cond := .code y_JU_vectorizedHashCode b_JU_vectorizedHashCode 5 (Option.some .int) :: lw_g
theorem kC_JU_vectorizedHashCode : Cond.code y_JU_vectorizedHashCode b_JU_vectorizedHashCode 5 (Option.some .int) ∈ lw_g := in_c12 167 rfl rfl
theorem d_JU_vectorizedHashCode_0 : decode b_JU_vectorizedHashCode 0 = .ok (.iload 4, 2) := bz_c21 (by decide +kernel)
theorem d_JU_vectorizedHashCode_2 : decode b_JU_vectorizedHashCode 2 = .ok (.tableswitch 127 4 10 #[42, 55, 127, 127, 88, 101, 114], 42) := by decide +kernel
theorem d_JU_vectorizedHashCode_44 : decode b_JU_vectorizedHashCode 44 = .ok (.iload_n 3, 1) := bz_c29 (by decide +kernel)
theorem d_JU_vectorizedHashCode_45 : decode b_JU_vectorizedHashCode 45 = .ok (.aload_n 0, 1) := bz_c42 (by decide +kernel)
theorem d_JU_vectorizedHashCode_46 : decode b_JU_vectorizedHashCode 46 = .ok (.checkcast 60, 3) := bz_c192 (by decide +kernel)
theorem d_JU_vectorizedHashCode_49 : decode b_JU_vectorizedHashCode 49 = .ok (.iload_n 1, 1) := bz_c27 (by decide +kernel)
theorem d_JU_vectorizedHashCode_50 : decode b_JU_vectorizedHashCode 50 = .ok (.iload_n 2, 1) := bz_c28 (by decide +kernel)
theorem d_JU_vectorizedHashCode_51 : decode b_JU_vectorizedHashCode 51 = .ok (.invokestatic 62, 3) := bz_c184 (by decide +kernel)
theorem d_JU_vectorizedHashCode_54 : decode b_JU_vectorizedHashCode 54 = .ok (.goto 103, 3) := bz_c167 (by decide +kernel)
theorem d_JU_vectorizedHashCode_57 : decode b_JU_vectorizedHashCode 57 = .ok (.aload_n 0, 1) := bz_c42 (by decide +kernel)
theorem d_JU_vectorizedHashCode_58 : decode b_JU_vectorizedHashCode 58 = .ok (.instanceof 60, 3) := bz_c193 (by decide +kernel)
theorem d_JU_vectorizedHashCode_61 : decode b_JU_vectorizedHashCode 61 = .ok (.ifCond .eq 16, 3) := bz_c153 (by decide +kernel)
theorem d_JU_vectorizedHashCode_64 : decode b_JU_vectorizedHashCode 64 = .ok (.iload_n 3, 1) := bz_c29 (by decide +kernel)
theorem d_JU_vectorizedHashCode_65 : decode b_JU_vectorizedHashCode 65 = .ok (.aload_n 0, 1) := bz_c42 (by decide +kernel)
theorem d_JU_vectorizedHashCode_66 : decode b_JU_vectorizedHashCode 66 = .ok (.checkcast 60, 3) := bz_c192 (by decide +kernel)
theorem d_JU_vectorizedHashCode_69 : decode b_JU_vectorizedHashCode 69 = .ok (.iload_n 1, 1) := bz_c27 (by decide +kernel)
theorem d_JU_vectorizedHashCode_70 : decode b_JU_vectorizedHashCode 70 = .ok (.iload_n 2, 1) := bz_c28 (by decide +kernel)
theorem d_JU_vectorizedHashCode_71 : decode b_JU_vectorizedHashCode 71 = .ok (.invokestatic 66, 3) := bz_c184 (by decide +kernel)
theorem d_JU_vectorizedHashCode_74 : decode b_JU_vectorizedHashCode 74 = .ok (.goto 83, 3) := bz_c167 (by decide +kernel)
theorem d_JU_vectorizedHashCode_77 : decode b_JU_vectorizedHashCode 77 = .ok (.iload_n 3, 1) := bz_c29 (by decide +kernel)
theorem d_JU_vectorizedHashCode_78 : decode b_JU_vectorizedHashCode 78 = .ok (.aload_n 0, 1) := bz_c42 (by decide +kernel)
theorem d_JU_vectorizedHashCode_79 : decode b_JU_vectorizedHashCode 79 = .ok (.checkcast 69, 3) := bz_c192 (by decide +kernel)
theorem d_JU_vectorizedHashCode_82 : decode b_JU_vectorizedHashCode 82 = .ok (.iload_n 1, 1) := bz_c27 (by decide +kernel)
theorem d_JU_vectorizedHashCode_83 : decode b_JU_vectorizedHashCode 83 = .ok (.iload_n 2, 1) := bz_c28 (by decide +kernel)
theorem d_JU_vectorizedHashCode_84 : decode b_JU_vectorizedHashCode 84 = .ok (.invokestatic 71, 3) := bz_c184 (by decide +kernel)
theorem d_JU_vectorizedHashCode_87 : decode b_JU_vectorizedHashCode 87 = .ok (.goto 70, 3) := bz_c167 (by decide +kernel)
theorem d_JU_vectorizedHashCode_90 : decode b_JU_vectorizedHashCode 90 = .ok (.iload_n 3, 1) := bz_c29 (by decide +kernel)
theorem d_JU_vectorizedHashCode_91 : decode b_JU_vectorizedHashCode 91 = .ok (.aload_n 0, 1) := bz_c42 (by decide +kernel)
theorem d_JU_vectorizedHashCode_92 : decode b_JU_vectorizedHashCode 92 = .ok (.checkcast 60, 3) := bz_c192 (by decide +kernel)
theorem d_JU_vectorizedHashCode_95 : decode b_JU_vectorizedHashCode 95 = .ok (.iload_n 1, 1) := bz_c27 (by decide +kernel)
theorem d_JU_vectorizedHashCode_96 : decode b_JU_vectorizedHashCode 96 = .ok (.iload_n 2, 1) := bz_c28 (by decide +kernel)
theorem d_JU_vectorizedHashCode_97 : decode b_JU_vectorizedHashCode 97 = .ok (.invokestatic 75, 3) := bz_c184 (by decide +kernel)
theorem d_JU_vectorizedHashCode_100 : decode b_JU_vectorizedHashCode 100 = .ok (.goto 57, 3) := bz_c167 (by decide +kernel)
theorem d_JU_vectorizedHashCode_103 : decode b_JU_vectorizedHashCode 103 = .ok (.iload_n 3, 1) := bz_c29 (by decide +kernel)
theorem d_JU_vectorizedHashCode_104 : decode b_JU_vectorizedHashCode 104 = .ok (.aload_n 0, 1) := bz_c42 (by decide +kernel)
theorem d_JU_vectorizedHashCode_105 : decode b_JU_vectorizedHashCode 105 = .ok (.checkcast 77, 3) := bz_c192 (by decide +kernel)
theorem d_JU_vectorizedHashCode_108 : decode b_JU_vectorizedHashCode 108 = .ok (.iload_n 1, 1) := bz_c27 (by decide +kernel)
theorem d_JU_vectorizedHashCode_109 : decode b_JU_vectorizedHashCode 109 = .ok (.iload_n 2, 1) := bz_c28 (by decide +kernel)
theorem d_JU_vectorizedHashCode_110 : decode b_JU_vectorizedHashCode 110 = .ok (.invokestatic 79, 3) := bz_c184 (by decide +kernel)
theorem d_JU_vectorizedHashCode_113 : decode b_JU_vectorizedHashCode 113 = .ok (.goto 44, 3) := bz_c167 (by decide +kernel)
theorem d_JU_vectorizedHashCode_116 : decode b_JU_vectorizedHashCode 116 = .ok (.iload_n 3, 1) := bz_c29 (by decide +kernel)
theorem d_JU_vectorizedHashCode_117 : decode b_JU_vectorizedHashCode 117 = .ok (.aload_n 0, 1) := bz_c42 (by decide +kernel)
theorem d_JU_vectorizedHashCode_118 : decode b_JU_vectorizedHashCode 118 = .ok (.checkcast 82, 3) := bz_c192 (by decide +kernel)
theorem d_JU_vectorizedHashCode_121 : decode b_JU_vectorizedHashCode 121 = .ok (.iload_n 1, 1) := bz_c27 (by decide +kernel)
theorem d_JU_vectorizedHashCode_122 : decode b_JU_vectorizedHashCode 122 = .ok (.iload_n 2, 1) := bz_c28 (by decide +kernel)
theorem d_JU_vectorizedHashCode_123 : decode b_JU_vectorizedHashCode 123 = .ok (.invokestatic 84, 3) := bz_c184 (by decide +kernel)
theorem d_JU_vectorizedHashCode_126 : decode b_JU_vectorizedHashCode 126 = .ok (.goto 31, 3) := bz_c167 (by decide +kernel)
theorem d_JU_vectorizedHashCode_129 : decode b_JU_vectorizedHashCode 129 = .ok (.new 87, 3) := bz_c187 (by decide +kernel)
theorem d_JU_vectorizedHashCode_132 : decode b_JU_vectorizedHashCode 132 = .ok (.dup, 1) := bz_c89 (by decide +kernel)
theorem d_JU_vectorizedHashCode_133 : decode b_JU_vectorizedHashCode 133 = .ok (.new 89, 3) := bz_c187 (by decide +kernel)
theorem d_JU_vectorizedHashCode_136 : decode b_JU_vectorizedHashCode 136 = .ok (.dup, 1) := bz_c89 (by decide +kernel)
theorem d_JU_vectorizedHashCode_137 : decode b_JU_vectorizedHashCode 137 = .ok (.invokespecial 91, 3) := bz_c183 (by decide +kernel)
theorem d_JU_vectorizedHashCode_140 : decode b_JU_vectorizedHashCode 140 = .ok (.ldc 92, 2) := bz_c18 (by decide +kernel)
theorem d_JU_vectorizedHashCode_142 : decode b_JU_vectorizedHashCode 142 = .ok (.invokevirtual 94, 3) := bz_c182 (by decide +kernel)
theorem d_JU_vectorizedHashCode_145 : decode b_JU_vectorizedHashCode 145 = .ok (.iload 4, 2) := bz_c21 (by decide +kernel)
theorem d_JU_vectorizedHashCode_147 : decode b_JU_vectorizedHashCode 147 = .ok (.invokevirtual 98, 3) := bz_c182 (by decide +kernel)
theorem d_JU_vectorizedHashCode_150 : decode b_JU_vectorizedHashCode 150 = .ok (.invokevirtual 101, 3) := bz_c182 (by decide +kernel)
theorem d_JU_vectorizedHashCode_153 : decode b_JU_vectorizedHashCode 153 = .ok (.invokespecial 105, 3) := bz_c183 (by decide +kernel)
theorem d_JU_vectorizedHashCode_156 : decode b_JU_vectorizedHashCode 156 = .ok (.athrow, 1) := bz_c191 (by decide +kernel)
theorem d_JU_vectorizedHashCode_157 : decode b_JU_vectorizedHashCode 157 = .ok (.ireturn, 1) := bz_c172 (by decide +kernel)
theorem kM_JU_62 : Cond.methodLink R_JU 62 y_JU_signedHashCode ∈ lw_g := in_c12 169 rfl rfl
theorem kT_JU_signedHashCode : Cond.static y_JU_signedHashCode ∈ lw_g := in_c12 170 rfl rfl
abbrev b_JU_utf16hashCode : ByteArray := prog_41_method_10_code
def y_JU_utf16hashCode : MethodName := ⟨R_JU, "utf16hashCode", "(I[BII)I"⟩
abbrev w_JU_utf16hashCode : List Cond := .code y_JU_utf16hashCode b_JU_utf16hashCode 6 (Option.some .int) :: lw_g
theorem kC_JU_utf16hashCode : Cond.code y_JU_utf16hashCode b_JU_utf16hashCode 6 (Option.some .int) ∈ lw_g := in_c12 174 rfl rfl
theorem kM_JU_66 : Cond.methodLink R_JU 66 y_JU_utf16hashCode ∈ lw_g := in_c12 172 rfl rfl
theorem kT_JU_utf16hashCode : Cond.static y_JU_utf16hashCode ∈ lw_g := in_c12 173 rfl rfl
abbrev b_JU_hashCode1 : ByteArray := prog_41_method_7_code
def y_JU_hashCode1 : MethodName := ⟨R_JU, "hashCode", "(I[CII)I"⟩
abbrev w_JU_hashCode1 : List Cond := .code y_JU_hashCode1 b_JU_hashCode1 6 (Option.some .int) :: lw_g
theorem kC_JU_hashCode1 : Cond.code y_JU_hashCode1 b_JU_hashCode1 6 (Option.some .int) ∈ lw_g := in_c12 180 rfl rfl
theorem kM_JU_71 : Cond.methodLink R_JU 71 y_JU_hashCode1 ∈ lw_g := in_c12 178 rfl rfl
theorem kT_JU_hashCode1 : Cond.static y_JU_hashCode1 ∈ lw_g := in_c12 179 rfl rfl
abbrev b_JU_hashCode0 : ByteArray := prog_41_method_6_code
def y_JU_hashCode0 : MethodName := ⟨R_JU, "hashCode", "(I[BII)I"⟩
abbrev w_JU_hashCode0 : List Cond := .code y_JU_hashCode0 b_JU_hashCode0 6 (Option.some .int) :: lw_g
theorem kC_JU_hashCode0 : Cond.code y_JU_hashCode0 b_JU_hashCode0 6 (Option.some .int) ∈ lw_g := in_c12 183 rfl rfl
theorem kM_JU_75 : Cond.methodLink R_JU 75 y_JU_hashCode0 ∈ lw_g := in_c12 181 rfl rfl
theorem kT_JU_hashCode0 : Cond.static y_JU_hashCode0 ∈ lw_g := in_c12 182 rfl rfl
abbrev b_JU_hashCode3 : ByteArray := prog_41_method_8_code
def y_JU_hashCode3 : MethodName := ⟨R_JU, "hashCode", "(I[SII)I"⟩
abbrev w_JU_hashCode3 : List Cond := .code y_JU_hashCode3 b_JU_hashCode3 6 (Option.some .int) :: lw_g
theorem kC_JU_hashCode3 : Cond.code y_JU_hashCode3 b_JU_hashCode3 6 (Option.some .int) ∈ lw_g := in_c12 187 rfl rfl
theorem kM_JU_79 : Cond.methodLink R_JU 79 y_JU_hashCode3 ∈ lw_g := in_c12 185 rfl rfl
theorem kT_JU_hashCode3 : Cond.static y_JU_hashCode3 ∈ lw_g := in_c12 186 rfl rfl
abbrev b_JU_hashCode2 : ByteArray := prog_41_method_9_code
def y_JU_hashCode2 : MethodName := ⟨R_JU, "hashCode", "(I[III)I"⟩
abbrev w_JU_hashCode2 : List Cond := .code y_JU_hashCode2 b_JU_hashCode2 6 (Option.some .int) :: lw_g
theorem kC_JU_hashCode2 : Cond.code y_JU_hashCode2 b_JU_hashCode2 6 (Option.some .int) ∈ lw_g := in_c12 191 rfl rfl
theorem kM_JU_84 : Cond.methodLink R_JU 84 y_JU_hashCode2 ∈ lw_g := in_c12 189 rfl rfl
theorem kT_JU_hashCode2 : Cond.static y_JU_hashCode2 ∈ lw_g := in_c12 190 rfl rfl
theorem kM_JU_91 : Cond.methodLink R_JU 91 y_JB_init ∈ lw_g := in_c12 194 rfl rfl
theorem kM_JU_94 : Cond.methodLink R_JU 94 y_JB_append2 ∈ lw_g := in_c12 196 rfl rfl
theorem kM_JU_98 : Cond.methodLink R_JU 98 y_JB_append1 ∈ lw_g := in_c12 197 rfl rfl
theorem kM_JU_101 : Cond.methodLink R_JU 101 y_JB_toString ∈ lw_g := in_c12 198 rfl rfl
theorem kK_JU_60 : Cond.classLink R_JU 60 "[B" ∈ lw_g := in_c12 168 rfl rfl
abbrev at_JU_vectorizedHashCode (dC : Nat → ClassId) (dI : Nat → Nat → Nat) (va : Nat) (cpb : ClassId) (nva : Nat) (gva : Nat → Int32) (A : Nat → Prop) (u : Unit) (t : State) : Prop := match u with | _ => va_P (dC, dI) cls2 [(va, .inl (cpb, nva, .inl gva))] t.heap ∧ va_K (dC, dI) cls2 [(cpb, .byte)] t ∧ va_D A [(va, .inl (cpb, nva, .inl gva))]
set_option maxHeartbeats 4000000 in
set_option maxRecDepth 100000 in
theorem c_JU_vectorizedHashCode (l : Launch) (hlt : l.stackTraces = false) (dC : Nat → ClassId) (dI : Nat → Nat → Nat) (sz : Nat) (va : Nat) (cpb : ClassId) (nva : Nat) (gva : Nat → Int32)  (b_gva : ∀ j : Nat, -128 ≤ (gva j).toInt ∧ (gva j).toInt ≤ 127) (p1 : Int32) (p2 : Int32) (p3 : Int32) (p4 : Int32)  (hbl : (nva : Int) < 1000000) (hp : p1.toInt = 0 ∧ p2.toInt = (nva : Int) ∧ p4.toInt = 4) (hp0 : p3 = 0) : Met l y_JU_vectorizedHashCode w_JU_vectorizedHashCode ({ frames := 1, cells := 0, slots := 0, locals := 25 }) (va_Pc [.ref va, .int p1, .int p2, .int p3, .int p4] (fun U => U.heap.size = sz ∧ va_P (dC, dI) cls2 [(va, .inl (cpb, nva, .inl gva))] U.heap ∧ va_K (dC, dI) cls2 [(cpb, .byte)] U ∧ va_D (fun _ => True) [(va, .inl (cpb, nva, .inl gva))])) (va_Qi (fun (r : Int32) (u : Unit) => match u with | _ => (r = hs9 (sbl gva nva) nva)) (at_JU_vectorizedHashCode dC dI va cpb nva gva (va_A [(va, .inl (cpb, nva, .inl gva))] sz)) (va_A [(va, .inl (cpb, nva, .inl gva))] sz)) 0 0 (va_A [(va, .inl (cpb, nva, .inl gva))] sz) := by
  refine Met.ofW (cc := b_JU_vectorizedHashCode) (maxL := 5) (ret := (Option.some .int)) (by decide) rfl ?_
  intro p e s m args below meth c s₁ B hml hv
  obtain ⟨rfl, hsz, hP, hK, hD0⟩ := hv
  have hx := B.exec
  have hb := B.bytes
  have hr := B.returns
  have hts0 := atoms_spec (ws := w_JU_vectorizedHashCode) B.pre
  have hts : ∀ w ∈ lw_g, w.before _ s = true := fun w h => hts0 w (List.mem_cons_of_mem _ h)
  have hown : s.vm.findClass R_JU = some m.cls := findClass_of_methodNamed B.named
  have hlocks := B.notSynchronized
  clear hts0
  subst hsz
  have hD := hD0.self (sz := s.heap.size)
  generalize hAe : va_A [(va, .inl (cpb, nva, .inl gva))] s.heap.size = A at hD ⊢
  have hA : ∀ q : Nat, s.heap.size ≤ q → A q := fun q h => by rw [← hAe]; exact Or.inr h
  clear hAe
  have hP : va_P (dC, dI) cls2 [(va, .inl (cpb, nva, .inl gva))] s.heap := hP
  have hl := lv_entry ([.ref va, .int p1, .int p2, .int p3, .int p4]) (n := 5) (Nat.le_of_ble_eq_true rfl)
  rw [lg_entry_eq]
  generalize (lg_sl ([.ref va, .int p1, .int p2, .int p3, .int p4]) ++ List.replicate (5 - (lg_sl ([.ref va, .int p1, .int p2, .int p3, .int p4])).length) Slot.unset).toArray = ls at hl ⊢
  have hl : lv_has ls 5 [(0, .ref va), (1, .int p1), (2, .int p2), (3, .int p3), (4, .int p4)] := hl
  have k0 : (0 : Int32).toInt = 0 := by decide
  refine w_gen (A := A) hP (fun H locs hP hS => ?_)
  have lo_p1 := i32_lo p1
  have hi_p1 := i32_hi p1
  have lo_p2 := i32_lo p2
  have hi_p2 := i32_hi p2
  have lo_p3 := i32_lo p3
  have hi_p3 := i32_hi p3
  have lo_p4 := i32_lo p4
  have hi_p4 := i32_hi p4
  refine lv_iload hx hb d_JU_vectorizedHashCode_0 (lv_at hl 4 rfl) ?_
  by_cases g2_44 : p4.toInt = 4
  · have ho2 : tab_off 127 4 10 #[42, 55, 127, 127, 88, 101, 114] p4.toInt = 42 := by rw [g2_44]; rfl
    refine lv_tab (tgt := 44) hx hb d_JU_vectorizedHashCode_2 (by decide) ho2 (by decide) ?_
    clear ho2
    refine lv_iload_n hx hb d_JU_vectorizedHashCode_44 rfl (lv_at hl 3 rfl) ?_
    refine lv_aload_n hx hb d_JU_vectorizedHashCode_45 rfl (lv_at hl 0 rfl) ?_
    refine va_castA (nm := "[B") hx hb hown (hts _ kK_JU_60) hP 0 rfl (va_nm_byte (hK.2 0 _ rfl).2) d_JU_vectorizedHashCode_46 ?_
    refine lv_iload_n hx hb d_JU_vectorizedHashCode_49 rfl (lv_at hl 1 rfl) ?_
    refine lv_iload_n hx hb d_JU_vectorizedHashCode_50 rfl (lv_at hl 2 rfl) ?_
    have hPc := hP.sb (wq := [(va, .inl (cpb, nva, .inl gva))]) [0] rfl
    have hDc := hD.sb (wq := [(va, .inl (cpb, nva, .inl gva))]) [0] (by decide) rfl
    have hKc := hK.sb (tyq := [(cpb, .byte)]) [0] rfl
    have hFc := va_free (wc := [(va, .inl (cpb, nva, .inl gva))]) hD hS hA [0] rfl
    refine va_calli (va_runS (As := [.int p3, .ref va, .int p1, .int p2]) (rest := []) ⟨hx, hb, hml, hown, hts⟩ (c_JU_signedHashCode l hlt dC dI H.size va cpb nva gva (b_gva) p3 p1 p2 (hbl) (by (first | (apply Int.le_antisymm <;> omega) | omega)) (hp0)) ⟨callB_of 4 hts (gW kC_JU_signedHashCode) rfl rfl rfl (hts _ kI_JU) (hts _ kM_JU_62) (by decide +kernel) ⟨Nat.le_of_ble_eq_true rfl, Nat.le_of_ble_eq_true rfl⟩, hts _ kT_JU_signedHashCode⟩ ⟨fun a U g mk z => by obtain ⟨z0, z1, zP, zK, zD⟩ := z; exact ⟨z0, z1, zP, va_K.moved (u := U) (U := U.calling g mk a) (Vm.Alike.refl U.vm) zK, zD⟩, fun U hU hW => ⟨rfl, by rw [hU], va_P.he hU.symm hPc, va_K.moved hW.alike hKc, hDc.weaken (fun _ _ _ _ => trivial)⟩⟩ rfl rfl hl.1 rfl (lv_room (Nat.le_of_ble_eq_true rfl)) d_JU_vectorizedHashCode_51 ⟨(Nat.zero_le _), (Nat.zero_le _)⟩) hS (fun q _ h => hFc q h) hFc (fun r1 u t H1 locs ht hvm hw hB hz1 hk1 hS => ?_)
    try dsimp only at hw
    have xr1 := hw
    try clear hw
    obtain ⟨hP1, hK1, hD1⟩ := hB
    replace hP1 := va_P.he ht hP1
    obtain ⟨hP, hD⟩ := va_join (wr := []) (w1 := [(va, .inl (cpb, nva, .inl gva))]) hP hD [0] [] rfl rfl (by decide) (by decide) hk1 hFc hP1 hD1
    clear hPc hDc hKc hFc hz1 hk1 hP1 hK1 hD1
    rename Heap => H
    have hP : va_P (dC, dI) cls2 [(va, .inl (cpb, nva, .inl gva))] H := hP
    have hD : va_D A [(va, .inl (cpb, nva, .inl gva))] := hD
    refine lv_goto (tgt := 157) hx hb d_JU_vectorizedHashCode_54 (by decide) ?_
    have hP9 := hP.sb (wq := [(va, .inl (cpb, nva, .inl gva))]) [0] rfl
    have hD9 := hD.sb (wq := [(va, .inl (cpb, nva, .inl gva))]) [0] (by decide) rfl
    exact W.iret (v := r1) hx hb hr (fun t ht hW => ⟨⟨r1, (), rfl, (xr1), va_P.he ht.symm hP9, va_K.moved hW.alike hK, hD9⟩, hS.F ht⟩) hS.2.2 d_JU_vectorizedHashCode_157
  · skip
    exfalso; (first | (apply Int.le_antisymm <;> omega) | omega)
abbrev b_JT_hashCode : ByteArray := prog_35_method_21_code
def y_JT_hashCode : MethodName := ⟨R_JT, "hashCode", "([B)I"⟩
abbrev w_JT_hashCode : List Cond := .code y_JT_hashCode b_JT_hashCode 1 (Option.some .int) :: lw_g
theorem kC_JT_hashCode : Cond.code y_JT_hashCode b_JT_hashCode 1 (Option.some .int) ∈ lw_g := in_c12 164 rfl rfl
theorem d_JT_hashCode_0 : decode b_JT_hashCode 0 = .ok (.aload_n 0, 1) := bz_c42 (by decide +kernel)
theorem d_JT_hashCode_1 : decode b_JT_hashCode 1 = .ok (.arraylength, 1) := bz_c190 (by decide +kernel)
theorem d_JT_hashCode_2 : decode b_JT_hashCode 2 = .ok (.lookupswitch 40 #[(0, 26), (1, 30)], 26) := by decide +kernel
theorem d_JT_hashCode_28 : decode b_JT_hashCode 28 = .ok (.iconst 0, 1) := bz_c3 (by decide +kernel)
theorem d_JT_hashCode_29 : decode b_JT_hashCode 29 = .ok (.goto 22, 3) := bz_c167 (by decide +kernel)
theorem d_JT_hashCode_32 : decode b_JT_hashCode 32 = .ok (.aload_n 0, 1) := bz_c42 (by decide +kernel)
theorem d_JT_hashCode_33 : decode b_JT_hashCode 33 = .ok (.iconst 0, 1) := bz_c3 (by decide +kernel)
theorem d_JT_hashCode_34 : decode b_JT_hashCode 34 = .ok (.baload, 1) := bz_c51 (by decide +kernel)
theorem d_JT_hashCode_35 : decode b_JT_hashCode 35 = .ok (.sipush 255, 3) := bz_c17 (by decide +kernel)
theorem d_JT_hashCode_38 : decode b_JT_hashCode 38 = .ok (.iand, 1) := bz_c126 (by decide +kernel)
theorem d_JT_hashCode_39 : decode b_JT_hashCode 39 = .ok (.goto 12, 3) := bz_c167 (by decide +kernel)
theorem d_JT_hashCode_42 : decode b_JT_hashCode 42 = .ok (.aload_n 0, 1) := bz_c42 (by decide +kernel)
theorem d_JT_hashCode_43 : decode b_JT_hashCode 43 = .ok (.iconst 0, 1) := bz_c3 (by decide +kernel)
theorem d_JT_hashCode_44 : decode b_JT_hashCode 44 = .ok (.aload_n 0, 1) := bz_c42 (by decide +kernel)
theorem d_JT_hashCode_45 : decode b_JT_hashCode 45 = .ok (.arraylength, 1) := bz_c190 (by decide +kernel)
theorem d_JT_hashCode_46 : decode b_JT_hashCode 46 = .ok (.iconst 0, 1) := bz_c3 (by decide +kernel)
theorem d_JT_hashCode_47 : decode b_JT_hashCode 47 = .ok (.iconst 4, 1) := bz_c7 (by decide +kernel)
theorem d_JT_hashCode_48 : decode b_JT_hashCode 48 = .ok (.invokestatic 84, 3) := bz_c184 (by decide +kernel)
theorem d_JT_hashCode_51 : decode b_JT_hashCode 51 = .ok (.ireturn, 1) := bz_c172 (by decide +kernel)
theorem kM_JT_84 : Cond.methodLink R_JT 84 y_JU_vectorizedHashCode ∈ lw_g := in_c12 165 rfl rfl
theorem kT_JU_vectorizedHashCode : Cond.static y_JU_vectorizedHashCode ∈ lw_g := in_c12 166 rfl rfl
abbrev at_JT_hashCode (dC : Nat → ClassId) (dI : Nat → Nat → Nat) (va : Nat) (cpb : ClassId) (nva : Nat) (gva : Nat → Int32) (A : Nat → Prop) (u : Unit) (t : State) : Prop := match u with | _ => va_P (dC, dI) cls2 [(va, .inl (cpb, nva, .inl gva))] t.heap ∧ va_K (dC, dI) cls2 [(cpb, .byte)] t ∧ va_D A [(va, .inl (cpb, nva, .inl gva))]
set_option maxHeartbeats 4000000 in
set_option maxRecDepth 100000 in
theorem c_JT_hashCode (l : Launch) (hlt : l.stackTraces = false) (dC : Nat → ClassId) (dI : Nat → Nat → Nat) (sz : Nat) (va : Nat) (cpb : ClassId) (nva : Nat) (gva : Nat → Int32)  (b_gva : ∀ j : Nat, -128 ≤ (gva j).toInt ∧ (gva j).toInt ≤ 127)   (hbl : (nva : Int) < 1000000) : Met l y_JT_hashCode w_JT_hashCode ({ frames := 2, cells := 0, slots := 0, locals := 49 }) (va_Pc [.ref va] (fun U => U.heap.size = sz ∧ va_P (dC, dI) cls2 [(va, .inl (cpb, nva, .inl gva))] U.heap ∧ va_K (dC, dI) cls2 [(cpb, .byte)] U ∧ va_D (fun _ => True) [(va, .inl (cpb, nva, .inl gva))])) (va_Qi (fun (r : Int32) (u : Unit) => match u with | _ => (r = hs9 (sbl gva nva) nva)) (at_JT_hashCode dC dI va cpb nva gva (va_A [(va, .inl (cpb, nva, .inl gva))] sz)) (va_A [(va, .inl (cpb, nva, .inl gva))] sz)) 0 0 (va_A [(va, .inl (cpb, nva, .inl gva))] sz) := by
  refine Met.ofW (cc := b_JT_hashCode) (maxL := 1) (ret := (Option.some .int)) (by decide) rfl ?_
  intro p e s m args below meth c s₁ B hml hv
  obtain ⟨rfl, hsz, hP, hK, hD0⟩ := hv
  have hx := B.exec
  have hb := B.bytes
  have hr := B.returns
  have hts0 := atoms_spec (ws := w_JT_hashCode) B.pre
  have hts : ∀ w ∈ lw_g, w.before _ s = true := fun w h => hts0 w (List.mem_cons_of_mem _ h)
  have hown : s.vm.findClass R_JT = some m.cls := findClass_of_methodNamed B.named
  have hlocks := B.notSynchronized
  clear hts0
  subst hsz
  have hD := hD0.self (sz := s.heap.size)
  generalize hAe : va_A [(va, .inl (cpb, nva, .inl gva))] s.heap.size = A at hD ⊢
  have hA : ∀ q : Nat, s.heap.size ≤ q → A q := fun q h => by rw [← hAe]; exact Or.inr h
  clear hAe
  have hP : va_P (dC, dI) cls2 [(va, .inl (cpb, nva, .inl gva))] s.heap := hP
  have hl := lv_entry ([.ref va]) (n := 1) (Nat.le_of_ble_eq_true rfl)
  rw [lg_entry_eq]
  generalize (lg_sl ([.ref va]) ++ List.replicate (1 - (lg_sl ([.ref va])).length) Slot.unset).toArray = ls at hl ⊢
  have hl : lv_has ls 1 [(0, .ref va)] := hl
  have k0 : (0 : Int32).toInt = 0 := by decide
  refine w_gen (A := A) hP (fun H locs hP hS => ?_)
  have k4 : (4 : Int32).toInt = 4 := by decide
  have k255 : (255 : Int32).toInt = 255 := by decide
  refine lv_aload_n hx hb d_JT_hashCode_0 rfl (lv_at hl 0 rfl) ?_
  refine va_alen hx hb hK hP 0 0 rfl rfl rfl d_JT_hashCode_1 ?_
  refine lv_topi (fun x1 ex1 => ?_)
  have tx1 : x1.toInt = nva := by rw [ex1]; exact i32_len (by (first | (apply Int.le_antisymm <;> omega) | omega))
  by_cases g2_28 : x1.toInt = 0
  · have ho2 : Op.lookupswitch.offset [(0, 26), (1, 30)] 40 x1.toInt = 26 := by rw [g2_28]; rfl
    refine lv_lookup (tgt := 28) hx hb d_JT_hashCode_2 (by decide) ho2 (by decide) ?_
    clear ho2
    refine lv_iconst (v := 0) hx hb d_JT_hashCode_28 (by decide) ?_
    refine lv_goto (tgt := 51) hx hb d_JT_hashCode_29 (by decide) ?_
    have hP9 := hP.sb (wq := [(va, .inl (cpb, nva, .inl gva))]) [0] rfl
    have hD9 := hD.sb (wq := [(va, .inl (cpb, nva, .inl gva))]) [0] (by decide) rfl
    exact W.iret (v := 0) hx hb hr (fun t ht hW => ⟨⟨0, (), rfl, ((by rw [show nva = 0 from by (first | (apply Int.le_antisymm <;> omega) | omega)]; rfl)), va_P.he ht.symm hP9, va_K.moved hW.alike hK, hD9⟩, hS.F ht⟩) hS.2.2 d_JT_hashCode_51
  · skip
    by_cases g2_32 : x1.toInt = 1
    · have ho2 : Op.lookupswitch.offset [(0, 26), (1, 30)] 40 x1.toInt = 30 := by rw [g2_32]; rfl
      refine lv_lookup (tgt := 32) hx hb d_JT_hashCode_2 (by decide) ho2 (by decide) ?_
      clear ho2
      refine lv_aload_n hx hb d_JT_hashCode_32 rfl (lv_at hl 0 rfl) ?_
      refine lv_iconst (v := 0) hx hb d_JT_hashCode_33 (by decide) ?_
      have g34 : vp_in 0 nva := vp_in_iff.mpr ⟨by (first | (apply Int.le_antisymm <;> omega) | omega), by (first | (apply Int.le_antisymm <;> omega) | omega)⟩
      refine va_bald hx hb hK hP 0 0 rfl rfl g34 d_JT_hashCode_34 ?_
      refine lv_topi (fun x2 ex2 => ?_)
      have tx2 := b_gva (0 : Int32).toNatClampNeg
      rw [← ex2] at tx2
      refine lv_sipush (v := 255) hx hb d_JT_hashCode_35 (by decide) ?_
      refine lv_iand hx hb d_JT_hashCode_38 ?_
      refine lv_topi (fun x3 ex3 => ?_)
      refine lv_goto (tgt := 51) hx hb d_JT_hashCode_39 (by decide) ?_
      have hP9 := hP.sb (wq := [(va, .inl (cpb, nva, .inl gva))]) [0] rfl
      have hD9 := hD.sb (wq := [(va, .inl (cpb, nva, .inl gva))]) [0] (by decide) rfl
      exact W.iret (v := x3) hx hb hr (fun t ht hW => ⟨⟨x3, (), rfl, ((by rw [show nva = 1 from by (first | (apply Int.le_antisymm <;> omega) | omega), hs9_1, ex3, ex2, sbl_get (by (first | (apply Int.le_antisymm <;> omega) | omega))]; rfl)), va_P.he ht.symm hP9, va_K.moved hW.alike hK, hD9⟩, hS.F ht⟩) hS.2.2 d_JT_hashCode_51
    · skip
      have ho2 : Op.lookupswitch.offset [(0, 26), (1, 30)] 40 x1.toInt = 40 := lk_def _ _ _ (by intro q hq; simp only [List.mem_cons, List.not_mem_nil, or_false] at hq; rcases hq with rfl | rfl <;> (dsimp only; (first | (apply Int.le_antisymm <;> omega) | omega)))
      refine lv_lookup (tgt := 42) hx hb d_JT_hashCode_2 (by decide) ho2 (by decide) ?_
      clear ho2
      refine lv_aload_n hx hb d_JT_hashCode_42 rfl (lv_at hl 0 rfl) ?_
      refine lv_iconst (v := 0) hx hb d_JT_hashCode_43 (by decide) ?_
      refine lv_aload_n hx hb d_JT_hashCode_44 rfl (lv_at hl 0 rfl) ?_
      refine va_alen hx hb hK hP 0 0 rfl rfl rfl d_JT_hashCode_45 ?_
      refine lv_topi (fun x4 ex4 => ?_)
      have tx4 : x4.toInt = nva := by rw [ex4]; exact i32_len (by (first | (apply Int.le_antisymm <;> omega) | omega))
      refine lv_iconst (v := 0) hx hb d_JT_hashCode_46 (by decide) ?_
      refine lv_iconst (v := 4) hx hb d_JT_hashCode_47 (by decide) ?_
      have hPc := hP.sb (wq := [(va, .inl (cpb, nva, .inl gva))]) [0] rfl
      have hDc := hD.sb (wq := [(va, .inl (cpb, nva, .inl gva))]) [0] (by decide) rfl
      have hKc := hK.sb (tyq := [(cpb, .byte)]) [0] rfl
      have hFc := va_free (wc := [(va, .inl (cpb, nva, .inl gva))]) hD hS hA [0] rfl
      refine va_calli (va_runS (As := [.ref va, .int 0, .int x4, .int 0, .int 4]) (rest := []) ⟨hx, hb, hml, hown, hts⟩ (c_JU_vectorizedHashCode l hlt dC dI H.size va cpb nva gva (b_gva) 0 x4 0 4 (hbl) (by (first | (apply Int.le_antisymm <;> omega) | omega)) (rfl)) ⟨callB_of 5 hts (gW kC_JU_vectorizedHashCode) rfl rfl rfl (hts _ kI_JU) (hts _ kM_JT_84) (by decide +kernel) ⟨Nat.le_of_ble_eq_true rfl, Nat.le_of_ble_eq_true rfl⟩, hts _ kT_JU_vectorizedHashCode⟩ ⟨fun a U g mk z => by obtain ⟨z0, z1, zP, zK, zD⟩ := z; exact ⟨z0, z1, zP, va_K.moved (u := U) (U := U.calling g mk a) (Vm.Alike.refl U.vm) zK, zD⟩, fun U hU hW => ⟨rfl, by rw [hU], va_P.he hU.symm hPc, va_K.moved hW.alike hKc, hDc.weaken (fun _ _ _ _ => trivial)⟩⟩ rfl rfl hl.1 rfl (lv_room (Nat.le_of_ble_eq_true rfl)) d_JT_hashCode_48 ⟨(Nat.zero_le _), (Nat.zero_le _)⟩) hS (fun q _ h => hFc q h) hFc (fun r5 u t H1 locs ht hvm hw hB hz1 hk1 hS => ?_)
      try dsimp only at hw
      have xr5 := hw
      try clear hw
      obtain ⟨hP1, hK1, hD1⟩ := hB
      replace hP1 := va_P.he ht hP1
      obtain ⟨hP, hD⟩ := va_join (wr := []) (w1 := [(va, .inl (cpb, nva, .inl gva))]) hP hD [0] [] rfl rfl (by decide) (by decide) hk1 hFc hP1 hD1
      clear hPc hDc hKc hFc hz1 hk1 hP1 hK1 hD1
      rename Heap => H
      have hP : va_P (dC, dI) cls2 [(va, .inl (cpb, nva, .inl gva))] H := hP
      have hD : va_D A [(va, .inl (cpb, nva, .inl gva))] := hD
      have hP9 := hP.sb (wq := [(va, .inl (cpb, nva, .inl gva))]) [0] rfl
      have hD9 := hD.sb (wq := [(va, .inl (cpb, nva, .inl gva))]) [0] (by decide) rfl
      exact W.iret (v := r5) hx hb hr (fun t ht hW => ⟨⟨r5, (), rfl, (xr5), va_P.he ht.symm hP9, va_K.moved hW.alike hK, hD9⟩, hS.F ht⟩) hS.2.2 d_JT_hashCode_51
abbrev b_JS_hashCode : ByteArray := prog_33_method_78_code
def y_JS_hashCode : MethodName := ⟨R_JS, "hashCode", "()I"⟩
abbrev w_JS_hashCode : List Cond := .code y_JS_hashCode b_JS_hashCode 2 (Option.some .int) :: lw_g
theorem kC_JS_hashCode : Cond.code y_JS_hashCode b_JS_hashCode 2 (Option.some .int) ∈ lw_g := in_c12 161 rfl rfl
theorem d_JS_hashCode_0 : decode b_JS_hashCode 0 = .ok (.aload_n 0, 1) := bz_c42 (by decide +kernel)
theorem d_JS_hashCode_1 : decode b_JS_hashCode 1 = .ok (.getfield 19, 3) := bz_c180 (by decide +kernel)
theorem d_JS_hashCode_4 : decode b_JS_hashCode 4 = .ok (.istore_n 1, 1) := bz_c60 (by decide +kernel)
theorem d_JS_hashCode_5 : decode b_JS_hashCode 5 = .ok (.iload_n 1, 1) := bz_c27 (by decide +kernel)
theorem d_JS_hashCode_6 : decode b_JS_hashCode 6 = .ok (.ifCond .ne 52, 3) := bz_c154 (by decide +kernel)
theorem d_JS_hashCode_9 : decode b_JS_hashCode 9 = .ok (.aload_n 0, 1) := bz_c42 (by decide +kernel)
theorem d_JS_hashCode_10 : decode b_JS_hashCode 10 = .ok (.getfield 23, 3) := bz_c180 (by decide +kernel)
theorem d_JS_hashCode_13 : decode b_JS_hashCode 13 = .ok (.ifCond .ne 45, 3) := bz_c154 (by decide +kernel)
theorem d_JS_hashCode_16 : decode b_JS_hashCode 16 = .ok (.aload_n 0, 1) := bz_c42 (by decide +kernel)
theorem d_JS_hashCode_17 : decode b_JS_hashCode 17 = .ok (.invokevirtual 492, 3) := bz_c182 (by decide +kernel)
theorem d_JS_hashCode_20 : decode b_JS_hashCode 20 = .ok (.ifCond .eq 13, 3) := bz_c153 (by decide +kernel)
theorem d_JS_hashCode_23 : decode b_JS_hashCode 23 = .ok (.aload_n 0, 1) := bz_c42 (by decide +kernel)
theorem d_JS_hashCode_24 : decode b_JS_hashCode 24 = .ok (.getfield 9, 3) := bz_c180 (by decide +kernel)
theorem d_JS_hashCode_27 : decode b_JS_hashCode 27 = .ok (.invokestatic 628, 3) := bz_c184 (by decide +kernel)
theorem d_JS_hashCode_30 : decode b_JS_hashCode 30 = .ok (.goto 10, 3) := bz_c167 (by decide +kernel)
theorem d_JS_hashCode_33 : decode b_JS_hashCode 33 = .ok (.aload_n 0, 1) := bz_c42 (by decide +kernel)
theorem d_JS_hashCode_34 : decode b_JS_hashCode 34 = .ok (.getfield 9, 3) := bz_c180 (by decide +kernel)
theorem d_JS_hashCode_37 : decode b_JS_hashCode 37 = .ok (.invokestatic 632, 3) := bz_c184 (by decide +kernel)
theorem d_JS_hashCode_40 : decode b_JS_hashCode 40 = .ok (.istore_n 1, 1) := bz_c60 (by decide +kernel)
theorem d_JS_hashCode_41 : decode b_JS_hashCode 41 = .ok (.iload_n 1, 1) := bz_c27 (by decide +kernel)
theorem d_JS_hashCode_42 : decode b_JS_hashCode 42 = .ok (.ifCond .ne 11, 3) := bz_c154 (by decide +kernel)
theorem d_JS_hashCode_45 : decode b_JS_hashCode 45 = .ok (.aload_n 0, 1) := bz_c42 (by decide +kernel)
theorem d_JS_hashCode_46 : decode b_JS_hashCode 46 = .ok (.iconst 1, 1) := bz_c4 (by decide +kernel)
theorem d_JS_hashCode_47 : decode b_JS_hashCode 47 = .ok (.putfield 23, 3) := bz_c181 (by decide +kernel)
theorem d_JS_hashCode_50 : decode b_JS_hashCode 50 = .ok (.goto 8, 3) := bz_c167 (by decide +kernel)
theorem d_JS_hashCode_53 : decode b_JS_hashCode 53 = .ok (.aload_n 0, 1) := bz_c42 (by decide +kernel)
theorem d_JS_hashCode_54 : decode b_JS_hashCode 54 = .ok (.iload_n 1, 1) := bz_c27 (by decide +kernel)
theorem d_JS_hashCode_55 : decode b_JS_hashCode 55 = .ok (.putfield 19, 3) := bz_c181 (by decide +kernel)
theorem d_JS_hashCode_58 : decode b_JS_hashCode 58 = .ok (.iload_n 1, 1) := bz_c27 (by decide +kernel)
theorem d_JS_hashCode_59 : decode b_JS_hashCode 59 = .ok (.ireturn, 1) := bz_c172 (by decide +kernel)
theorem kM_JS_628 : Cond.methodLink R_JS 628 y_JT_hashCode ∈ lw_g := in_c12 162 rfl rfl
theorem kT_JT_hashCode : Cond.static y_JT_hashCode ∈ lw_g := in_c12 163 rfl rfl
abbrev b_JF_hashCode : ByteArray := prog_36_method_39_code
def y_JF_hashCode : MethodName := ⟨R_JF, "hashCode", "([B)I"⟩
abbrev w_JF_hashCode : List Cond := .code y_JF_hashCode b_JF_hashCode 1 (Option.some .int) :: lw_g
theorem kC_JF_hashCode : Cond.code y_JF_hashCode b_JF_hashCode 1 (Option.some .int) ∈ lw_g := in_c12 202 rfl rfl
theorem kM_JS_632 : Cond.methodLink R_JS 632 y_JF_hashCode ∈ lw_g := in_c12 200 rfl rfl
theorem kT_JF_hashCode : Cond.static y_JF_hashCode ∈ lw_g := in_c12 201 rfl rfl
theorem kF_JS_19 : Cond.fieldLink R_JS 19 "java/lang/String" "hash" "I" ∈ lw_g := in_c10 213 rfl rfl
theorem kF_JS_23 : Cond.fieldLink R_JS 23 "java/lang/String" "hashIsZero" "Z" ∈ lw_g := in_c10 214 rfl rfl
abbrev at_JS_hashCode (dC : Nat → ClassId) (dI : Nat → Nat → Nat) (sa : Nat → Nat) (h0 va : Nat) (cpb : ClassId) (nva : Nat) (gva : Nat → Int32) (A : Nat → Prop) (u : Int32 × Int32) (t : State) : Prop := match u with | (h0_hash, h0_hashIsZero) => va_P (dC, dI) cls2 (wz_494 h0 va 0 h0_hash h0_hashIsZero va cpb nva gva) t.heap ∧ va_K (dC, dI) cls2 [(cpb, .byte)] t ∧ va_D A (wz_494 h0 va 0 h0_hash h0_hashIsZero va cpb nva gva)
set_option maxHeartbeats 4000000 in
set_option maxRecDepth 100000 in
theorem c_JS_hashCode (l : Launch) (hlt : l.stackTraces = false) (dC : Nat → ClassId) (dI : Nat → Nat → Nat) (sz : Nat) (sa : Nat → Nat) (h0 va : Nat) (cpb : ClassId) (h0_hash : Int32) (h0_hashIsZero : Int32) (nva : Nat) (gva : Nat → Int32)  (b_gva : ∀ j : Nat, -128 ≤ (gva j).toInt ∧ (gva j).toInt ≤ 127)   (hbl : (nva : Int) < 1000000) (hr9 : rht (sbl gva nva) h0_hash h0_hashIsZero) : Met l y_JS_hashCode w_JS_hashCode ({ frames := 3, cells := 0, slots := 0, locals := 69 }) (va_Pc [.ref h0] (fun U => U.heap.size = sz ∧ va_P (dC, dI) cls2 (wz_494 h0 va 0 h0_hash h0_hashIsZero va cpb nva gva) U.heap ∧ va_K (dC, dI) cls2 [(cpb, .byte)] U ∧ va_D (fun _ => True) (wz_494 h0 va 0 h0_hash h0_hashIsZero va cpb nva gva) ∧ sm sa (va_A (wz_494 h0 va 0 h0_hash h0_hashIsZero va cpb nva gva) sz) U U.heap)) (va_Qi (fun (r : Int32) (u : Int32 × Int32) => match u with | (h0_hash2, h0_hashIsZero2) => (r = hs9 (sbl gva nva) nva ∧ rht (sbl gva nva) h0_hash2 h0_hashIsZero2)) (at_JS_hashCode dC dI sa h0 va cpb nva gva (va_A (wz_494 h0 va 0 h0_hash h0_hashIsZero va cpb nva gva) sz)) (va_A (wz_494 h0 va 0 h0_hash h0_hashIsZero va cpb nva gva) sz)) 0 0 (va_A (wz_494 h0 va 0 h0_hash h0_hashIsZero va cpb nva gva) sz) := by
  refine Met.ofW (cc := b_JS_hashCode) (maxL := 2) (ret := (Option.some .int)) (by decide) rfl ?_
  intro p e s m args below meth c s₁ B hml hv
  obtain ⟨rfl, hsz, hP, hK, hD0, hSW⟩ := hv
  have hx := B.exec
  have hb := B.bytes
  have hr := B.returns
  have hts0 := atoms_spec (ws := w_JS_hashCode) B.pre
  have hts : ∀ w ∈ lw_g, w.before _ s = true := fun w h => hts0 w (List.mem_cons_of_mem _ h)
  have hown : s.vm.findClass R_JS = some m.cls := findClass_of_methodNamed B.named
  have hlocks := B.notSynchronized
  clear hts0
  subst hsz
  have hD := hD0.self (sz := s.heap.size)
  generalize hAe : va_A (wz_494 h0 va 0 h0_hash h0_hashIsZero va cpb nva gva) s.heap.size = A at hD hSW ⊢
  have hA : ∀ q : Nat, s.heap.size ≤ q → A q := fun q h => by rw [← hAe]; exact Or.inr h
  clear hAe
  have hP : va_P (dC, dI) cls2 (wz_494 h0 va 0 h0_hash h0_hashIsZero va cpb nva gva) s.heap := hP
  have hl := lv_entry ([.ref h0]) (n := 2) (Nat.le_of_ble_eq_true rfl)
  rw [lg_entry_eq]
  generalize (lg_sl ([.ref h0]) ++ List.replicate (2 - (lg_sl ([.ref h0])).length) Slot.unset).toArray = ls at hl ⊢
  have hl : lv_has ls 2 [(0, .ref h0)] := hl
  have k0 : (0 : Int32).toInt = 0 := by decide
  refine w_gen (A := A) hP (fun H locs hP hS => ?_)
  have k1 : (1 : Int32).toInt = 1 := by decide
  refine lv_aload_n hx hb d_JS_hashCode_0 rfl (lv_at hl 0 rfl) ?_
  refine va_get (D := (dC, dI)) (ci := 16) (v := .int h0_hash) (C := R_JS) (T := F_JS) (N := 4) hx hb hts i_JS hown hK hP 0 rfl rfl 2 (by decide) (hts _ kF_JS_19) (fun _ h9 => h9) rfl d_JS_hashCode_1 ?_
  refine lv_istore_n (lv' := [(1, .int h0_hash), (0, .ref h0)]) hx hb d_JS_hashCode_4 rfl hl (by decide) rfl (fun ls hl => ?_)
  refine lv_iload_n hx hb d_JS_hashCode_5 rfl (lv_at hl 0 rfl) ?_
  refine lv_if_ne (tgt := 58) hx hb d_JS_hashCode_6 (by decide) (fun c6 => ?_) (fun c6 => ?_)
  · have q6 := neI c6
    refine lv_iload_n hx hb d_JS_hashCode_58 rfl (lv_at hl 0 rfl) ?_
    have hP9 := hP.sb (wq := (wz_494 h0 va 0 h0_hash h0_hashIsZero va cpb nva gva)) [0, 1] rfl
    have hD9 := hD.sb (wq := (wz_494 h0 va 0 h0_hash h0_hashIsZero va cpb nva gva)) [0, 1] (by decide) rfl
    exact W.iret (v := h0_hash) hx hb hr (fun t ht hW => ⟨⟨h0_hash, (h0_hash, h0_hashIsZero), rfl, (⟨hash_a hr9 (by (first | (apply Int.le_antisymm <;> omega) | omega)), hr9⟩), va_P.he ht.symm hP9, va_K.moved hW.alike hK, hD9⟩, hS.F ht⟩) hS.2.2 d_JS_hashCode_59
  · have q6 := eqI c6
    refine lv_aload_n hx hb d_JS_hashCode_9 rfl (lv_at hl 1 rfl) ?_
    refine va_get (D := (dC, dI)) (ci := 16) (v := .int h0_hashIsZero) (C := R_JS) (T := F_JS) (N := 4) hx hb hts i_JS hown hK hP 0 rfl rfl 3 (by decide) (hts _ kF_JS_23) (fun _ h9 => h9) rfl d_JS_hashCode_10 ?_
    refine lv_if_ne (tgt := 58) hx hb d_JS_hashCode_13 (by decide) (fun c13 => ?_) (fun c13 => ?_)
    · have q13 := neI c13
      refine lv_iload_n hx hb d_JS_hashCode_58 rfl (lv_at hl 0 rfl) ?_
      have hP9 := hP.sb (wq := (wz_494 h0 va 0 h0_hash h0_hashIsZero va cpb nva gva)) [0, 1] rfl
      have hD9 := hD.sb (wq := (wz_494 h0 va 0 h0_hash h0_hashIsZero va cpb nva gva)) [0, 1] (by decide) rfl
      exact W.iret (v := h0_hash) hx hb hr (fun t ht hW => ⟨⟨h0_hash, (h0_hash, h0_hashIsZero), rfl, (⟨hash_b hr9 (by (first | (apply Int.le_antisymm <;> omega) | omega)) (by (first | (apply Int.le_antisymm <;> omega) | omega)), hr9⟩), va_P.he ht.symm hP9, va_K.moved hW.alike hK, hD9⟩, hS.F ht⟩) hS.2.2 d_JS_hashCode_59
    · have q13 := eqI c13
      refine lv_aload_n hx hb d_JS_hashCode_16 rfl (lv_at hl 1 rfl) ?_
      have hPc := @vp_nil
      have hDc := hD.sb (wq := []) [] (by decide) rfl
      have hKc := (k2_of hK).sb (tyq := []) [] rfl
      have hFc := va_free (wc := []) hD hS hA [] rfl
      refine va_calli (va_runV (As := []) (rest := []) ⟨hx, hb, hml, hown, hts⟩ (c_JS_isLatin1 l dC dI H.size sa h0 va ((sbl gva nva)) ) (cwV 0 hts (gV kM_JS_492 kV_JS_isLatin1 kS_JS_isLatin1 kI_JS kC_JS_isLatin1) rfl rfl rfl (by decide +kernel) ⟨Nat.le_of_ble_eq_true rfl, Nat.le_of_ble_eq_true rfl⟩) ⟨fun a U g mk z => by obtain ⟨z0, z1, zP, zK, zD, zS, zR0⟩ := z; exact ⟨z0, z1, zP, va_K.moved (u := U) (U := U.calling g mk a) (Vm.Alike.refl U.vm) zK, zD, sw.same (u := U) (U := U.calling g mk a) rfl zS, zR0.moved (u := U) (U := U.calling g mk a) (Vm.Alike.refl U.vm)⟩, ro_rv (ro_Sx (k := 0) (k2 := 1) hts hK hP (t0 := 0) rfl rfl rfl sbl_len (fun j hj => (sbl_get hj).symm) (no_A0 (k := 0) hP rfl) (no_A0 (k := 1) hP rfl)).1, fun U hU hW => ⟨rfl, by rw [hU], va_P.he hU.symm hPc, va_K.moved hW.alike hKc, hDc.weaken (fun _ _ _ _ => trivial), hSW.1.call hS hFc hW hU, by rw [hU]; exact (ro_Sx (k := 0) (k2 := 1) hts hK hP (t0 := 0) rfl rfl rfl sbl_len (fun j hj => (sbl_get hj).symm) (no_A0 (k := 0) hP rfl) (no_A0 (k := 1) hP rfl)).moved hW.alike⟩⟩ rfl rfl hl.1 rfl (lv_room (Nat.le_of_ble_eq_true rfl)) d_JS_hashCode_17 ⟨(Nat.zero_le _), (Nat.zero_le _)⟩) hS (fun q _ h => hFc q h) hFc (fun r1 u t H1 locs ht hvm hw hB hz1 hk1 hS => ?_)
      try dsimp only at hw
      obtain ⟨br1, xr1⟩ := hw
      try clear hw
      have tr1 := b01 br1
      have tr1 : r1.toInt = 1 := by rw [xr1]; decide
      obtain ⟨hP1, hK1, hD1⟩ := hB
      replace hP1 := va_P.he ht hP1
      replace hP1 := @vp_nil (dC, dI) cls2 H1
      obtain ⟨hP, hD⟩ := va_join (wr := (wz_494 h0 va 0 h0_hash h0_hashIsZero va cpb nva gva)) (w1 := []) hP hD [] [0, 1] rfl rfl (by decide) (by decide) hk1 hFc hP1 hD1
      clear hPc hDc hKc hFc hz1 hk1 hP1 hK1 hD1
      rename Heap => H
      have hP : va_P (dC, dI) cls2 (wz_494 h0 va 0 h0_hash h0_hashIsZero va cpb nva gva) H := hP
      have hD : va_D A (wz_494 h0 va 0 h0_hash h0_hashIsZero va cpb nva gva) := hD
      refine lv_if_eq (tgt := 33) hx hb d_JS_hashCode_20 (by decide) (fun c20 => absurd (eqI c20) (by (first | (apply Int.le_antisymm <;> omega) | omega))) (fun c20 => ?_)
      have q20 := neI c20
      refine lv_aload_n hx hb d_JS_hashCode_23 rfl (lv_at hl 1 rfl) ?_
      refine va_get (D := (dC, dI)) (ci := 16) (v := .ref va) (C := R_JS) (T := F_JS) (N := 4) hx hb hts i_JS hown hK hP 0 rfl rfl 0 (by decide) (hts _ kF_JS_9) (fun _ h9 => h9) rfl d_JS_hashCode_24 ?_
      have hPc := hP.sb (wq := [(va, .inl (cpb, nva, .inl gva))]) [1] rfl
      have hDc := hD.sb (wq := [(va, .inl (cpb, nva, .inl gva))]) [1] (by decide) rfl
      have hKc := hK.sb (tyq := [(cpb, .byte)]) [0] rfl
      have hFc := va_free (wc := [(va, .inl (cpb, nva, .inl gva))]) hD hS hA [1] rfl
      refine va_calli (va_runS (As := [.ref va]) (rest := []) ⟨hx, hb, hml, hown, hts⟩ (c_JT_hashCode l hlt dC dI H.size va cpb nva gva (b_gva) (hbl)) ⟨callB_of 1 hts (gW kC_JT_hashCode) rfl rfl rfl (hts _ kI_JT) (hts _ kM_JS_628) (by decide +kernel) ⟨Nat.le_of_ble_eq_true rfl, Nat.le_of_ble_eq_true rfl⟩, hts _ kT_JT_hashCode⟩ ⟨fun a U g mk z => by obtain ⟨z0, z1, zP, zK, zD⟩ := z; exact ⟨z0, z1, zP, va_K.moved (u := U) (U := U.calling g mk a) (Vm.Alike.refl U.vm) zK, zD⟩, fun U hU hW => ⟨rfl, by rw [hU], va_P.he hU.symm hPc, va_K.moved hW.alike hKc, hDc.weaken (fun _ _ _ _ => trivial)⟩⟩ rfl rfl hl.1 rfl (lv_room (Nat.le_of_ble_eq_true rfl)) d_JS_hashCode_27 ⟨(Nat.zero_le _), (Nat.zero_le _)⟩) hS (fun q _ h => hFc q h) hFc (fun r2 u t H1 locs ht hvm hw hB hz1 hk1 hS => ?_)
      try dsimp only at hw
      have xr2 := hw
      try clear hw
      have y27 : r2 = hs9 (sbl gva nva) nva := xr2
      obtain ⟨hP1, hK1, hD1⟩ := hB
      replace hP1 := va_P.he ht hP1
      obtain ⟨hP, hD⟩ := va_join (wr := [(h0, .inr (16, [.ref va, .int 0, .int h0_hash, .int h0_hashIsZero]))]) (w1 := [(va, .inl (cpb, nva, .inl gva))]) hP hD [1] [0] rfl rfl (by decide) (by decide) hk1 hFc hP1 hD1
      clear hPc hDc hKc hFc hz1 hk1 hP1 hK1 hD1
      rename Heap => H
      have hP : va_P (dC, dI) cls2 (wz_494 h0 va 0 h0_hash h0_hashIsZero va cpb nva gva) H := hP
      have hD : va_D A (wz_494 h0 va 0 h0_hash h0_hashIsZero va cpb nva gva) := hD
      refine lv_goto (tgt := 40) hx hb d_JS_hashCode_30 (by decide) ?_
      refine lv_istore_n (lv' := [(1, .int r2), (0, .ref h0)]) hx hb d_JS_hashCode_40 rfl hl (by decide) rfl (fun ls hl => ?_)
      refine lv_iload_n hx hb d_JS_hashCode_41 rfl (lv_at hl 0 rfl) ?_
      refine lv_if_ne (tgt := 53) hx hb d_JS_hashCode_42 (by decide) (fun c42 => ?_) (fun c42 => ?_)
      · have q42 := neI c42
        refine lv_aload_n hx hb d_JS_hashCode_53 rfl (lv_at hl 1 rfl) ?_
        refine lv_iload_n hx hb d_JS_hashCode_54 rfl (lv_at hl 0 rfl) ?_
        refine va_put (D := (dC, dI)) (ci := 16) (v := .int r2) (ty := .int) (C := R_JS) (T := F_JS) (N := 4) hx hb hts i_JS t_JS t_JS_ok n_JS hown hK hP hD hS 0 rfl rfl 2 (by decide) (hts _ kF_JS_19) (fun _ h9 => h9) rfl (by decide +kernel) rfl rfl (Nat.le_of_ble_eq_true rfl) d_JS_hashCode_55 (fun H locs hP hD hS => ?_)
        refine lv_iload_n hx hb d_JS_hashCode_58 rfl (lv_at hl 0 rfl) ?_
        have hP9 := hP.sb (wq := (wz_494 h0 va 0 r2 h0_hashIsZero va cpb nva gva)) [0, 1] rfl
        have hD9 := hD.sb (wq := (wz_494 h0 va 0 r2 h0_hashIsZero va cpb nva gva)) [0, 1] (by decide) rfl
        exact W.iret (v := r2) hx hb hr (fun t ht hW => ⟨⟨r2, (r2, h0_hashIsZero), rfl, (⟨y27, hash_d y27 hr9⟩), va_P.he ht.symm hP9, va_K.moved hW.alike hK, hD9⟩, hS.F ht⟩) hS.2.2 d_JS_hashCode_59
      · have q42 := eqI c42
        refine lv_aload_n hx hb d_JS_hashCode_45 rfl (lv_at hl 1 rfl) ?_
        refine lv_iconst (v := 1) hx hb d_JS_hashCode_46 (by decide) ?_
        refine va_put (D := (dC, dI)) (ci := 16) (v := .int 1) (ty := .boolean) (C := R_JS) (T := F_JS) (N := 4) hx hb hts i_JS t_JS t_JS_ok n_JS hown hK hP hD hS 0 rfl rfl 3 (by decide) (hts _ kF_JS_23) (fun _ h9 => h9) rfl (by decide +kernel) rfl rfl (Nat.le_of_ble_eq_true rfl) d_JS_hashCode_47 (fun H locs hP hD hS => ?_)
        refine lv_goto (tgt := 58) hx hb d_JS_hashCode_50 (by decide) ?_
        refine lv_iload_n hx hb d_JS_hashCode_58 rfl (lv_at hl 0 rfl) ?_
        have hP9 := hP.sb (wq := (wz_494 h0 va 0 h0_hash 1 va cpb nva gva)) [0, 1] rfl
        have hD9 := hD.sb (wq := (wz_494 h0 va 0 h0_hash 1 va cpb nva gva)) [0, 1] (by decide) rfl
        exact W.iret (v := r2) hx hb hr (fun t ht hW => ⟨⟨r2, (h0_hash, 1), rfl, (⟨y27, hash_c y27 (by (first | (apply Int.le_antisymm <;> omega) | omega)) hr9⟩), va_P.he ht.symm hP9, va_K.moved hW.alike hK, hD9⟩, hS.F ht⟩) hS.2.2 d_JS_hashCode_59

/-! Coder: a name assigned; alignments -/
theorem un_pos {y : Int32} (h : un y < 2147483648) : y.toInt = un y := by
  have e : y.toInt = y.toBitVec.toInt := rfl
  unfold un at *
  rw [e, BitVec.toInt_eq_toNat_cond, if_pos (by omega)]
theorem ushr_t {x y s : Int32} {k : Nat} (e : y = (x.toUInt32 >>> (s.toUInt32 &&& Int32.toUInt32 31)).toInt32) (hs : ((s.toUInt32 &&& Int32.toUInt32 31).toBitVec % 32).toNat = k) (h : 0 ≤ x.toInt) : (y.toInt = (x.toInt.toNat / 2 ^ k : Nat)) := by
  have q : un y = un x / 2 ^ k := by rw [e]; exact pk_ushr x s k hs
  rw [un_nat h] at q
  have l := Int32.toInt_lt x
  have : x.toInt.toNat / 2 ^ k ≤ x.toInt.toNat := Nat.div_le_self _ _
  rw [un_pos (by omega), q]
theorem and32 (x : Int32) : 0 ≤ (x &&& 32).toInt ∧ (x &&& 32).toInt ≤ 32 := by
  have q : un (x &&& 32) ≤ 32 := by
    unfold un
    rw [Int32.toBitVec_and, BitVec.toNat_and]
    exact Nat.and_le_right
  rw [un_pos (by omega)]
  omega
abbrev at_JI_numberOfTrailingZerosr (dC : Nat → ClassId) (dI : Nat → Nat → Nat)  (A : Nat → Prop) (u : Unit) (t : State) : Prop := match u with | _ => va_P (dC, dI) cls [] t.heap ∧ va_K (dC, dI) cls [] t ∧ va_D A []
set_option maxHeartbeats 4000000 in
set_option maxRecDepth 100000 in
theorem c_JI_numberOfTrailingZerosr (l : Launch) (dC : Nat → ClassId) (dI : Nat → Nat → Nat) (sz : Nat)    (p0 : Int32)   : Met l y_JI_numberOfTrailingZeros w_JI_numberOfTrailingZeros ({ frames := 0, cells := 0, slots := 0, locals := 0 }) (va_Pc [.int p0] (fun U => U.heap.size = sz ∧ va_P (dC, dI) cls [] U.heap ∧ va_K (dC, dI) cls [] U ∧ va_D (fun _ => True) [])) (va_Qi (fun (r : Int32) (u : Unit) => match u with | _ => (0 ≤ r.toInt ∧ r.toInt ≤ 40)) (at_JI_numberOfTrailingZerosr dC dI  (va_A [] sz)) (va_A [] sz)) 0 0 (va_A [] sz) := by
  refine Met.ofW (cc := b_JI_numberOfTrailingZeros) (maxL := 2) (ret := (Option.some .int)) (by decide) rfl ?_
  intro p e s m args below meth c s₁ B hml hv
  obtain ⟨rfl, hsz, hP, hK, hD0⟩ := hv
  have hx := B.exec
  have hb := B.bytes
  have hr := B.returns
  have hts0 := atoms_spec (ws := w_JI_numberOfTrailingZeros) B.pre
  have hts : ∀ w ∈ lw_g, w.before _ s = true := fun w h => hts0 w (List.mem_cons_of_mem _ h)
  have hown : s.vm.findClass R_JI = some m.cls := findClass_of_methodNamed B.named
  have hlocks := B.notSynchronized
  clear hts0
  subst hsz
  have hD := hD0.self (sz := s.heap.size)
  generalize hAe : va_A [] s.heap.size = A at hD ⊢
  have hA : ∀ q : Nat, s.heap.size ≤ q → A q := fun q h => by rw [← hAe]; exact Or.inr h
  clear hAe
  have hP : va_P (dC, dI) cls [] s.heap := hP
  have hl := lv_entry ([.int p0]) (n := 2) (Nat.le_of_ble_eq_true rfl)
  rw [lg_entry_eq]
  generalize (lg_sl ([.int p0]) ++ List.replicate (2 - (lg_sl ([.int p0])).length) Slot.unset).toArray = ls at hl ⊢
  have hl : lv_has ls 2 [(0, .int p0)] := hl
  have k0 : (0 : Int32).toInt = 0 := by decide
  refine w_gen (A := A) hP (fun H locs hP hS => ?_)
  have km1 : (-1 : Int32).toInt = -1 := by decide
  have k1 : (1 : Int32).toInt = 1 := by decide
  have k2 : (2 : Int32).toInt = 2 := by decide
  have k4 : (4 : Int32).toInt = 4 := by decide
  have k8 : (8 : Int32).toInt = 8 := by decide
  have k16 : (16 : Int32).toInt = 16 := by decide
  have k32 : (32 : Int32).toInt = 32 := by decide
  have k256 : (256 : Int32).toInt = 256 := by decide
  have lo_p0 := i32_lo p0
  have hi_p0 := i32_hi p0
  refine lv_iload_n hx hb d_JI_numberOfTrailingZeros_0 rfl (lv_at hl 0 rfl) ?_
  refine lv_iconst (v := (-1)) hx hb d_JI_numberOfTrailingZeros_1 (by decide) ?_
  refine lv_ixor hx hb d_JI_numberOfTrailingZeros_2 ?_
  refine lv_topi (fun x1 ex1 => ?_)
  refine lv_iload_n hx hb d_JI_numberOfTrailingZeros_3 rfl (lv_at hl 0 rfl) ?_
  refine lv_iconst (v := 1) hx hb d_JI_numberOfTrailingZeros_4 (by decide) ?_
  refine lv_isub hx hb d_JI_numberOfTrailingZeros_5 ?_
  refine lv_topi (fun x2 ex2 => ?_)
  refine lv_iand hx hb d_JI_numberOfTrailingZeros_6 ?_
  refine lv_topi (fun x3 ex3 => ?_)
  have tx3 : x3.toInt ≤ 2147483647 := by have := Int32.toInt_lt x3; omega
  refine lv_istore_n (lv' := [(0, .int x3)]) hx hb d_JI_numberOfTrailingZeros_7 rfl hl (by decide) rfl (fun ls hl => ?_)
  refine lv_iload_n hx hb d_JI_numberOfTrailingZeros_8 rfl (lv_at hl 0 rfl) ?_
  refine lv_if_gt (tgt := 17) hx hb d_JI_numberOfTrailingZeros_9 (by decide) (fun c9 => ?_) (fun c9 => ?_)
  · have q9 := ltI c9
    refine lv_iconst (v := 1) hx hb d_JI_numberOfTrailingZeros_17 (by decide) ?_
    refine lv_istore_n (lv' := [(1, .int 1), (0, .int x3)]) hx hb d_JI_numberOfTrailingZeros_18 rfl hl (by decide) rfl (fun ls hl => ?_)
    refine lv_iload_n hx hb d_JI_numberOfTrailingZeros_19 rfl (lv_at hl 1 rfl) ?_
    refine lv_ldcw hx hb hown (hts _ kJ_JI_264) d_JI_numberOfTrailingZeros_20 ?_
    refine lv_topi (fun x4 ex4 => ?_)
    have tx4 : x4.toInt = 65536 := by rw [ex4]; decide
    refine w_cut (pc2 := 34) (σ := Int32 × Int32) (fun u H locs ls => match u with | (j34_l0, j34_l1) => (0 < j34_l0.toInt ∧ j34_l0.toInt ≤ 65536 ∧ 1 ≤ j34_l1.toInt ∧ j34_l1.toInt ≤ 17) ∧ va_P (dC, dI) cls [] H ∧ va_D A [] ∧ va_S A s.heap H locs ∧ lv_has ls 2 [(0, .int j34_l0), (1, .int j34_l1)]) (fun u => match u with | (j34_l0, j34_l1) => []) ?_ (fun jn34 => ?_)
    · intro u H locs ls hI
      obtain ⟨j34_l0, j34_l1⟩ := u
      obtain ⟨v34, hP, hD, hS, hl⟩ := hI
      refine lv_iload_n hx hb d_JI_numberOfTrailingZeros_34 rfl (lv_at hl 0 rfl) ?_
      refine lv_sipush (v := 256) hx hb d_JI_numberOfTrailingZeros_35 (by decide) ?_
      refine w_cut (pc2 := 49) (σ := Int32 × Int32) (fun u H locs ls => match u with | (j49_l0, j49_l1) => (0 < j49_l0.toInt ∧ j49_l0.toInt ≤ 256 ∧ 1 ≤ j49_l1.toInt ∧ j49_l1.toInt ≤ 25) ∧ va_P (dC, dI) cls [] H ∧ va_D A [] ∧ va_S A s.heap H locs ∧ lv_has ls 2 [(0, .int j49_l0), (1, .int j49_l1)]) (fun u => match u with | (j49_l0, j49_l1) => []) ?_ (fun jn49 => ?_)
      · intro u H locs ls hI
        obtain ⟨j49_l0, j49_l1⟩ := u
        obtain ⟨v49, hP, hD, hS, hl⟩ := hI
        refine lv_iload_n hx hb d_JI_numberOfTrailingZeros_49 rfl (lv_at hl 0 rfl) ?_
        refine lv_bipush (v := 16) hx hb d_JI_numberOfTrailingZeros_50 (by decide) ?_
        refine w_cut (pc2 := 62) (σ := Int32 × Int32) (fun u H locs ls => match u with | (j62_l0, j62_l1) => (0 < j62_l0.toInt ∧ j62_l0.toInt ≤ 16 ∧ 1 ≤ j62_l1.toInt ∧ j62_l1.toInt ≤ 29) ∧ va_P (dC, dI) cls [] H ∧ va_D A [] ∧ va_S A s.heap H locs ∧ lv_has ls 2 [(0, .int j62_l0), (1, .int j62_l1)]) (fun u => match u with | (j62_l0, j62_l1) => []) ?_ (fun jn62 => ?_)
        · intro u H locs ls hI
          obtain ⟨j62_l0, j62_l1⟩ := u
          obtain ⟨v62, hP, hD, hS, hl⟩ := hI
          refine lv_iload_n hx hb d_JI_numberOfTrailingZeros_62 rfl (lv_at hl 0 rfl) ?_
          refine lv_iconst (v := 4) hx hb d_JI_numberOfTrailingZeros_63 (by decide) ?_
          refine w_cut (pc2 := 74) (σ := Int32 × Int32) (fun u H locs ls => match u with | (j74_l0, j74_l1) => (0 < j74_l0.toInt ∧ j74_l0.toInt ≤ 4 ∧ 1 ≤ j74_l1.toInt ∧ j74_l1.toInt ≤ 31) ∧ va_P (dC, dI) cls [] H ∧ va_D A [] ∧ va_S A s.heap H locs ∧ lv_has ls 2 [(0, .int j74_l0), (1, .int j74_l1)]) (fun u => match u with | (j74_l0, j74_l1) => []) ?_ (fun jn74 => ?_)
          · intro u H locs ls hI
            obtain ⟨j74_l0, j74_l1⟩ := u
            obtain ⟨v74, hP, hD, hS, hl⟩ := hI
            refine lv_iload_n hx hb d_JI_numberOfTrailingZeros_74 rfl (lv_at hl 1 rfl) ?_
            refine lv_iload_n hx hb d_JI_numberOfTrailingZeros_75 rfl (lv_at hl 0 rfl) ?_
            refine lv_iconst (v := 1) hx hb d_JI_numberOfTrailingZeros_76 (by decide) ?_
            refine lv_iushr hx hb d_JI_numberOfTrailingZeros_77 rfl ?_
            refine lv_topi (fun x5 ex5 => ?_)
            have tx5 := ushr_t (k := 1) ex5 (by decide) (by omega)
            rw [show (2 : Nat) ^ 1 = 2 from rfl] at tx5
            refine lv_iadd hx hb d_JI_numberOfTrailingZeros_78 ?_
            refine lv_topi (fun x6 ex6 => ?_)
            have tx6 : x6.toInt = j74_l1.toInt + x5.toInt := by have z := i32_add ex6 (by omega) (by omega); omega
            have hP9 := hP.sub (ws' := []) [] rfl
            have hD9 := hD.sub (ws' := []) [] (by decide) rfl
            exact W.iret (v := x6) hx hb hr (fun t ht hW => ⟨⟨x6, (), rfl, (by (try dsimp only) <;> omega), by rw [ht]; exact hP9, va_K.moved hW.alike hK, hD9⟩, hS.F ht⟩) hS.2.2 d_JI_numberOfTrailingZeros_79
          · skip
            refine lv_icmp_le (tgt := 74) hx hb d_JI_numberOfTrailingZeros_64 (by decide) (fun c64 => ?_) (fun c64 => ?_)
            · have q64 := leI c64
              exact jn74 (j62_l0, j62_l1) _ _ _ ⟨by (try dsimp only) <;> omega, hP, hD, hS, lv_sub hl [0, 1] rfl⟩
            · have q64 := nleI c64
              obtain ⟨x7, ex7⟩ : ∃ z : Int32, z = j62_l1 + 2 := ⟨_, rfl⟩
              have tx7 : x7.toInt = j62_l1.toInt + 2 := by have z := i32_add ex7 (by omega) (by omega); omega
              refine lv_iinc (v := x7) (lv' := [(1, .int x7), (0, .int j62_l0)]) hx hb d_JI_numberOfTrailingZeros_67 hl (k := 1) rfl (by rw [ex7]; rfl) (by decide) rfl (fun ls hl => ?_)
              refine lv_iload_n hx hb d_JI_numberOfTrailingZeros_70 rfl (lv_at hl 1 rfl) ?_
              refine lv_iconst (v := 2) hx hb d_JI_numberOfTrailingZeros_71 (by decide) ?_
              refine lv_iushr hx hb d_JI_numberOfTrailingZeros_72 rfl ?_
              refine lv_topi (fun x8 ex8 => ?_)
              have tx8 := ushr_t (k := 2) ex8 (by decide) (by omega)
              rw [show (2 : Nat) ^ 2 = 4 from rfl] at tx8
              refine lv_istore_n (lv' := [(0, .int x8), (1, .int x7)]) hx hb d_JI_numberOfTrailingZeros_73 rfl hl (by decide) rfl (fun ls hl => ?_)
              exact jn74 (x8, x7) _ _ _ ⟨by (try dsimp only) <;> omega, hP, hD, hS, lv_sub hl [0, 1] rfl⟩
        · skip
          refine lv_icmp_le (tgt := 62) hx hb d_JI_numberOfTrailingZeros_52 (by decide) (fun c52 => ?_) (fun c52 => ?_)
          · have q52 := leI c52
            exact jn62 (j49_l0, j49_l1) _ _ _ ⟨by (try dsimp only) <;> omega, hP, hD, hS, lv_sub hl [0, 1] rfl⟩
          · have q52 := nleI c52
            obtain ⟨x9, ex9⟩ : ∃ z : Int32, z = j49_l1 + 4 := ⟨_, rfl⟩
            have tx9 : x9.toInt = j49_l1.toInt + 4 := by have z := i32_add ex9 (by omega) (by omega); omega
            refine lv_iinc (v := x9) (lv' := [(1, .int x9), (0, .int j49_l0)]) hx hb d_JI_numberOfTrailingZeros_55 hl (k := 1) rfl (by rw [ex9]; rfl) (by decide) rfl (fun ls hl => ?_)
            refine lv_iload_n hx hb d_JI_numberOfTrailingZeros_58 rfl (lv_at hl 1 rfl) ?_
            refine lv_iconst (v := 4) hx hb d_JI_numberOfTrailingZeros_59 (by decide) ?_
            refine lv_iushr hx hb d_JI_numberOfTrailingZeros_60 rfl ?_
            refine lv_topi (fun x10 ex10 => ?_)
            have tx10 := ushr_t (k := 4) ex10 (by decide) (by omega)
            rw [show (2 : Nat) ^ 4 = 16 from rfl] at tx10
            refine lv_istore_n (lv' := [(0, .int x10), (1, .int x9)]) hx hb d_JI_numberOfTrailingZeros_61 rfl hl (by decide) rfl (fun ls hl => ?_)
            exact jn62 (x10, x9) _ _ _ ⟨by (try dsimp only) <;> omega, hP, hD, hS, lv_sub hl [0, 1] rfl⟩
      · skip
        refine lv_icmp_le (tgt := 49) hx hb d_JI_numberOfTrailingZeros_38 (by decide) (fun c38 => ?_) (fun c38 => ?_)
        · have q38 := leI c38
          exact jn49 (j34_l0, j34_l1) _ _ _ ⟨by (try dsimp only) <;> omega, hP, hD, hS, lv_sub hl [0, 1] rfl⟩
        · have q38 := nleI c38
          obtain ⟨x11, ex11⟩ : ∃ z : Int32, z = j34_l1 + 8 := ⟨_, rfl⟩
          have tx11 : x11.toInt = j34_l1.toInt + 8 := by have z := i32_add ex11 (by omega) (by omega); omega
          refine lv_iinc (v := x11) (lv' := [(1, .int x11), (0, .int j34_l0)]) hx hb d_JI_numberOfTrailingZeros_41 hl (k := 1) rfl (by rw [ex11]; rfl) (by decide) rfl (fun ls hl => ?_)
          refine lv_iload_n hx hb d_JI_numberOfTrailingZeros_44 rfl (lv_at hl 1 rfl) ?_
          refine lv_bipush (v := 8) hx hb d_JI_numberOfTrailingZeros_45 (by decide) ?_
          refine lv_iushr hx hb d_JI_numberOfTrailingZeros_47 rfl ?_
          refine lv_topi (fun x12 ex12 => ?_)
          have tx12 := ushr_t (k := 8) ex12 (by decide) (by omega)
          rw [show (2 : Nat) ^ 8 = 256 from rfl] at tx12
          refine lv_istore_n (lv' := [(0, .int x12), (1, .int x11)]) hx hb d_JI_numberOfTrailingZeros_48 rfl hl (by decide) rfl (fun ls hl => ?_)
          exact jn49 (x12, x11) _ _ _ ⟨by (try dsimp only) <;> omega, hP, hD, hS, lv_sub hl [0, 1] rfl⟩
    · skip
      refine lv_icmp_le (tgt := 34) hx hb d_JI_numberOfTrailingZeros_23 (by decide) (fun c23 => ?_) (fun c23 => ?_)
      · have q23 := leI c23
        exact jn34 (x3, 1) _ _ _ ⟨by (try dsimp only) <;> omega, hP, hD, hS, lv_sub hl [1, 0] rfl⟩
      · have q23 := nleI c23
        obtain ⟨x13, ex13⟩ : ∃ z : Int32, z = 1 + 16 := ⟨_, rfl⟩
        have tx13 : x13.toInt = 1 + 16 := by have z := i32_add ex13 (by omega) (by omega); omega
        refine lv_iinc (v := x13) (lv' := [(1, .int x13), (0, .int x3)]) hx hb d_JI_numberOfTrailingZeros_26 hl (k := 0) rfl (by rw [ex13]; rfl) (by decide) rfl (fun ls hl => ?_)
        refine lv_iload_n hx hb d_JI_numberOfTrailingZeros_29 rfl (lv_at hl 1 rfl) ?_
        refine lv_bipush (v := 16) hx hb d_JI_numberOfTrailingZeros_30 (by decide) ?_
        refine lv_iushr hx hb d_JI_numberOfTrailingZeros_32 rfl ?_
        refine lv_topi (fun x14 ex14 => ?_)
        have tx14 := ushr_t (k := 16) ex14 (by decide) (by omega)
        rw [show (2 : Nat) ^ 16 = 65536 from rfl] at tx14
        refine lv_istore_n (lv' := [(0, .int x14), (1, .int x13)]) hx hb d_JI_numberOfTrailingZeros_33 rfl hl (by decide) rfl (fun ls hl => ?_)
        exact jn34 (x14, x13) _ _ _ ⟨by (try dsimp only) <;> omega, hP, hD, hS, lv_sub hl [0, 1] rfl⟩
  · have q9 := nltI c9
    refine lv_iload_n hx hb d_JI_numberOfTrailingZeros_12 rfl (lv_at hl 0 rfl) ?_
    refine lv_bipush (v := 32) hx hb d_JI_numberOfTrailingZeros_13 (by decide) ?_
    refine lv_iand hx hb d_JI_numberOfTrailingZeros_15 ?_
    refine lv_topi (fun x15 ex15 => ?_)
    have tx15 := and32 x3
    rw [← ex15] at tx15
    have hP9 := hP.sub (ws' := []) [] rfl
    have hD9 := hD.sub (ws' := []) [] (by decide) rfl
    exact W.iret (v := x15) hx hb hr (fun t ht hW => ⟨⟨x15, (), rfl, (by (try dsimp only) <;> omega), by rw [ht]; exact hP9, va_K.moved hW.alike hK, hD9⟩, hS.F ht⟩) hS.2.2 d_JI_numberOfTrailingZeros_16
abbrev at_CD_greatestAlignmentr (dC : Nat → ClassId) (dI : Nat → Nat → Nat)  (A : Nat → Prop) (u : Unit) (t : State) : Prop := match u with | _ => va_P (dC, dI) cls [] t.heap ∧ va_K (dC, dI) cls [] t ∧ va_D A []
set_option maxHeartbeats 4000000 in
set_option maxRecDepth 100000 in
theorem c_CD_greatestAlignmentr (l : Launch) (dC : Nat → ClassId) (dI : Nat → Nat → Nat) (sz : Nat)    (p0 : Int32)   : Met l y_CD_greatestAlignment w_CD_greatestAlignment ({ frames := 1, cells := 0, slots := 0, locals := 21 }) (va_Pc [.int p0] (fun U => U.heap.size = sz ∧ va_P (dC, dI) cls [] U.heap ∧ va_K (dC, dI) cls [] U ∧ va_D (fun _ => True) [])) (va_Qi (fun (r : Int32) (u : Unit) => match u with | _ => (0 ≤ r.toInt ∧ r.toInt ≤ 40)) (at_CD_greatestAlignmentr dC dI  (va_A [] sz)) (va_A [] sz)) 0 0 (va_A [] sz) := by
  refine Met.ofW (cc := b_CD_greatestAlignment) (maxL := 1) (ret := (Option.some .int)) (by decide) rfl ?_
  intro p e s m args below meth c s₁ B hml hv
  obtain ⟨rfl, hsz, hP, hK, hD0⟩ := hv
  have hx := B.exec
  have hb := B.bytes
  have hr := B.returns
  have hts0 := atoms_spec (ws := w_CD_greatestAlignment) B.pre
  have hts : ∀ w ∈ lw_g, w.before _ s = true := fun w h => hts0 w (List.mem_cons_of_mem _ h)
  have hown : s.vm.findClass R_CD = some m.cls := findClass_of_methodNamed B.named
  have hlocks := B.notSynchronized
  clear hts0
  subst hsz
  have hD := hD0.self (sz := s.heap.size)
  generalize hAe : va_A [] s.heap.size = A at hD ⊢
  have hA : ∀ q : Nat, s.heap.size ≤ q → A q := fun q h => by rw [← hAe]; exact Or.inr h
  clear hAe
  have hP : va_P (dC, dI) cls [] s.heap := hP
  have hl := lv_entry ([.int p0]) (n := 1) (Nat.le_of_ble_eq_true rfl)
  rw [lg_entry_eq]
  generalize (lg_sl ([.int p0]) ++ List.replicate (1 - (lg_sl ([.int p0])).length) Slot.unset).toArray = ls at hl ⊢
  have hl : lv_has ls 1 [(0, .int p0)] := hl
  have k0 : (0 : Int32).toInt = 0 := by decide
  refine w_gen (A := A) hP (fun H locs hP hS => ?_)
  have lo_p0 := i32_lo p0
  have hi_p0 := i32_hi p0
  refine lv_iload_n hx hb d_CD_greatestAlignment_0 rfl (lv_at hl 0 rfl) ?_
  have hPc := hP.sub (ws' := []) [] rfl
  have hDc := hD.sub (ws' := []) [] (by decide) rfl
  have hKc := hK.sub (tys' := []) [] rfl
  have hFc := va_free (wc := []) hD hS hA [] rfl
  refine va_calli (va_runS (As := [.int p0]) (rest := []) ⟨hx, hb, hml, hown, hts⟩ (c_CD_accessBytes l dC dI H.size p0) ⟨callB_of 1 hts (gW kC_CD_accessBytes) rfl rfl rfl (hts _ kI_CD) (hts _ kM_CD_37) (by decide +kernel) ⟨Nat.le_of_ble_eq_true rfl, Nat.le_of_ble_eq_true rfl⟩, hts _ kT_CD_accessBytes⟩ ⟨fun a U g mk z => by obtain ⟨z0, z1, zP, zK, zD⟩ := z; exact ⟨z0, z1, zP, va_K.moved (u := U) (U := U.calling g mk a) (Vm.Alike.refl U.vm) zK, zD⟩, fun U hU hW => ⟨rfl, by rw [hU], by rw [hU]; exact hPc, va_K.moved hW.alike hKc, hDc.weaken (fun _ _ _ _ => trivial)⟩⟩ rfl rfl hl.1 rfl (lv_room (Nat.le_of_ble_eq_true rfl)) d_CD_greatestAlignment_1 ⟨(Nat.zero_le _), (Nat.zero_le _)⟩) hS (fun q _ h => hFc q h) hFc (fun r1 u t H1 locs ht hvm hw hB hz1 hk1 hS => ?_)
  try dsimp only at hw
  have tr1 := hw
  obtain ⟨hP1, hK1, hD1⟩ := hB
  rw [ht] at hP1
  obtain ⟨hP, hD⟩ := va_join (wr := []) (w1 := []) hP hD [] [] rfl rfl (by decide) (by decide) hk1 hFc hP1 hD1
  clear hPc hDc hKc hFc hz1 hk1 hP1 hK1 hD1
  generalize H1 = H at hP hS ⊢
  have hP : va_P (dC, dI) cls [] H := hP
  have hD : va_D A [] := hD
  have hPc := hP.sub (ws' := []) [] rfl
  have hDc := hD.sub (ws' := []) [] (by decide) rfl
  have hKc := hK.sub (tys' := []) [] rfl
  have hFc := va_free (wc := []) hD hS hA [] rfl
  refine va_calli (va_runS (As := [.int r1]) (rest := []) ⟨hx, hb, hml, hown, hts⟩ (c_JI_numberOfTrailingZerosr l dC dI H.size r1) ⟨callB_of 1 hts (gW kC_JI_numberOfTrailingZeros) rfl rfl rfl (hts _ kI_JI) (hts _ kM_CD_41) (by decide +kernel) ⟨Nat.le_of_ble_eq_true rfl, Nat.le_of_ble_eq_true rfl⟩, hts _ kT_JI_numberOfTrailingZeros⟩ ⟨fun a U g mk z => by obtain ⟨z0, z1, zP, zK, zD⟩ := z; exact ⟨z0, z1, zP, va_K.moved (u := U) (U := U.calling g mk a) (Vm.Alike.refl U.vm) zK, zD⟩, fun U hU hW => ⟨rfl, by rw [hU], by rw [hU]; exact hPc, va_K.moved hW.alike hKc, hDc.weaken (fun _ _ _ _ => trivial)⟩⟩ rfl rfl hl.1 rfl (lv_room (Nat.le_of_ble_eq_true rfl)) d_CD_greatestAlignment_4 ⟨(Nat.zero_le _), (Nat.zero_le _)⟩) hS (fun q _ h => hFc q h) hFc (fun r2 u t H1 locs ht hvm hw hB hz1 hk1 hS => ?_)
  try dsimp only at hw
  have xr2 := hw
  try clear hw
  obtain ⟨hP1, hK1, hD1⟩ := hB
  rw [ht] at hP1
  obtain ⟨hP, hD⟩ := va_join (wr := []) (w1 := []) hP hD [] [] rfl rfl (by decide) (by decide) hk1 hFc hP1 hD1
  clear hPc hDc hKc hFc hz1 hk1 hP1 hK1 hD1
  generalize H1 = H at hP hS ⊢
  have hP : va_P (dC, dI) cls [] H := hP
  have hD : va_D A [] := hD
  have hP9 := hP.sub (ws' := []) [] rfl
  have hD9 := hD.sub (ws' := []) [] (by decide) rfl
  exact W.iret (v := r2) hx hb hr (fun t ht hW => ⟨⟨r2, (), rfl, (by (try dsimp only) <;> omega), by rw [ht]; exact hP9, va_K.moved hW.alike hK, hD9⟩, hS.F ht⟩) hS.2.2 d_CD_greatestAlignment_7
abbrev b_CO_codeAssign : ByteArray := prog_4_method_15_code
def y_CO_codeAssign : MethodName := ⟨R_CO, "codeAssign", "(I)V"⟩
abbrev w_CO_codeAssign : List Cond := .code y_CO_codeAssign b_CO_codeAssign 6 none :: lw_g
theorem kC_CO_codeAssign : Cond.code y_CO_codeAssign b_CO_codeAssign 6 none ∈ lw_g := in_g 1194 (by decide +kernel) rfl
theorem d_CO_codeAssign_0 : decode b_CO_codeAssign 0 = .ok (.aload_n 0, 1) := by decide +kernel
theorem d_CO_codeAssign_1 : decode b_CO_codeAssign 1 = .ok (.getfield 36, 3) := by decide +kernel
theorem d_CO_codeAssign_4 : decode b_CO_codeAssign 4 = .ok (.getfield 193, 3) := by decide +kernel
theorem d_CO_codeAssign_7 : decode b_CO_codeAssign 7 = .ok (.iload_n 1, 1) := by decide +kernel
theorem d_CO_codeAssign_8 : decode b_CO_codeAssign 8 = .ok (.iaload, 1) := by decide +kernel
theorem d_CO_codeAssign_9 : decode b_CO_codeAssign 9 = .ok (.istore_n 2, 1) := by decide +kernel
theorem d_CO_codeAssign_10 : decode b_CO_codeAssign 10 = .ok (.aload_n 0, 1) := by decide +kernel
theorem d_CO_codeAssign_11 : decode b_CO_codeAssign 11 = .ok (.getfield 54, 3) := by decide +kernel
theorem d_CO_codeAssign_14 : decode b_CO_codeAssign 14 = .ok (.iload_n 2, 1) := by decide +kernel
theorem d_CO_codeAssign_15 : decode b_CO_codeAssign 15 = .ok (.aload_n 0, 1) := by decide +kernel
theorem d_CO_codeAssign_16 : decode b_CO_codeAssign 16 = .ok (.getfield 36, 3) := by decide +kernel
theorem d_CO_codeAssign_19 : decode b_CO_codeAssign 19 = .ok (.getfield 216, 3) := by decide +kernel
theorem d_CO_codeAssign_22 : decode b_CO_codeAssign 22 = .ok (.iload_n 1, 1) := by decide +kernel
theorem d_CO_codeAssign_23 : decode b_CO_codeAssign 23 = .ok (.iaload, 1) := by decide +kernel
theorem d_CO_codeAssign_24 : decode b_CO_codeAssign 24 = .ok (.invokevirtual 158, 3) := by decide +kernel
theorem d_CO_codeAssign_27 : decode b_CO_codeAssign 27 = .ok (.istore_n 3, 1) := by decide +kernel
theorem d_CO_codeAssign_28 : decode b_CO_codeAssign 28 = .ok (.aload_n 0, 1) := by decide +kernel
theorem d_CO_codeAssign_29 : decode b_CO_codeAssign 29 = .ok (.getfield 36, 3) := by decide +kernel
theorem d_CO_codeAssign_32 : decode b_CO_codeAssign 32 = .ok (.getfield 42, 3) := by decide +kernel
theorem d_CO_codeAssign_35 : decode b_CO_codeAssign 35 = .ok (.iload_n 2, 1) := by decide +kernel
theorem d_CO_codeAssign_36 : decode b_CO_codeAssign 36 = .ok (.aload_n 0, 1) := by decide +kernel
theorem d_CO_codeAssign_37 : decode b_CO_codeAssign 37 = .ok (.getfield 36, 3) := by decide +kernel
theorem d_CO_codeAssign_40 : decode b_CO_codeAssign 40 = .ok (.getfield 216, 3) := by decide +kernel
theorem d_CO_codeAssign_43 : decode b_CO_codeAssign 43 = .ok (.iload_n 1, 1) := by decide +kernel
theorem d_CO_codeAssign_44 : decode b_CO_codeAssign 44 = .ok (.iaload, 1) := by decide +kernel
theorem d_CO_codeAssign_45 : decode b_CO_codeAssign 45 = .ok (.invokevirtual 158, 3) := by decide +kernel
theorem d_CO_codeAssign_48 : decode b_CO_codeAssign 48 = .ok (.istore 4, 2) := by decide +kernel
theorem d_CO_codeAssign_50 : decode b_CO_codeAssign 50 = .ok (.aload_n 0, 1) := by decide +kernel
theorem d_CO_codeAssign_51 : decode b_CO_codeAssign 51 = .ok (.invokevirtual 224, 3) := by decide +kernel
theorem d_CO_codeAssign_54 : decode b_CO_codeAssign 54 = .ok (.istore 5, 2) := by decide +kernel
theorem d_CO_codeAssign_56 : decode b_CO_codeAssign 56 = .ok (.iload_n 3, 1) := by decide +kernel
theorem d_CO_codeAssign_57 : decode b_CO_codeAssign 57 = .ok (.ifCond .ge 18, 3) := by decide +kernel
theorem d_CO_codeAssign_60 : decode b_CO_codeAssign 60 = .ok (.iload 4, 2) := by decide +kernel
theorem d_CO_codeAssign_62 : decode b_CO_codeAssign 62 = .ok (.ifCond .ge 13, 3) := by decide +kernel
theorem d_CO_codeAssign_65 : decode b_CO_codeAssign 65 = .ok (.aload_n 0, 1) := by decide +kernel
theorem d_CO_codeAssign_66 : decode b_CO_codeAssign 66 = .ok (.getfield 36, 3) := by decide +kernel
theorem d_CO_codeAssign_69 : decode b_CO_codeAssign 69 = .ok (.iconst 2, 1) := by decide +kernel
theorem d_CO_codeAssign_70 : decode b_CO_codeAssign 70 = .ok (.iload_n 2, 1) := by decide +kernel
theorem d_CO_codeAssign_71 : decode b_CO_codeAssign 71 = .ok (.invokevirtual 105, 3) := by decide +kernel
theorem d_CO_codeAssign_74 : decode b_CO_codeAssign 74 = .ok (.return_, 1) := by decide +kernel
theorem d_CO_codeAssign_75 : decode b_CO_codeAssign 75 = .ok (.iload 5, 2) := by decide +kernel
theorem d_CO_codeAssign_77 : decode b_CO_codeAssign 77 = .ok (.iload_n 3, 1) := by decide +kernel
theorem d_CO_codeAssign_78 : decode b_CO_codeAssign 78 = .ok (.ifCond .lt 15, 3) := by decide +kernel
theorem d_CO_codeAssign_81 : decode b_CO_codeAssign 81 = .ok (.aload_n 0, 1) := by decide +kernel
theorem d_CO_codeAssign_82 : decode b_CO_codeAssign 82 = .ok (.getfield 54, 3) := by decide +kernel
theorem d_CO_codeAssign_85 : decode b_CO_codeAssign 85 = .ok (.getfield 121, 3) := by decide +kernel
theorem d_CO_codeAssign_88 : decode b_CO_codeAssign 88 = .ok (.iload_n 3, 1) := by decide +kernel
theorem d_CO_codeAssign_89 : decode b_CO_codeAssign 89 = .ok (.iaload, 1) := by decide +kernel
theorem d_CO_codeAssign_90 : decode b_CO_codeAssign 90 = .ok (.goto 16, 3) := by decide +kernel
theorem d_CO_codeAssign_93 : decode b_CO_codeAssign 93 = .ok (.aload_n 0, 1) := by decide +kernel
theorem d_CO_codeAssign_94 : decode b_CO_codeAssign 94 = .ok (.getfield 36, 3) := by decide +kernel
theorem d_CO_codeAssign_97 : decode b_CO_codeAssign 97 = .ok (.getfield 42, 3) := by decide +kernel
theorem d_CO_codeAssign_100 : decode b_CO_codeAssign 100 = .ok (.getfield 121, 3) := by decide +kernel
theorem d_CO_codeAssign_103 : decode b_CO_codeAssign 103 = .ok (.iload 4, 2) := by decide +kernel
theorem d_CO_codeAssign_105 : decode b_CO_codeAssign 105 = .ok (.iaload, 1) := by decide +kernel
theorem d_CO_codeAssign_106 : decode b_CO_codeAssign 106 = .ok (.if_icmp .eq 12, 3) := by decide +kernel
theorem d_CO_codeAssign_109 : decode b_CO_codeAssign 109 = .ok (.aload_n 0, 1) := by decide +kernel
theorem d_CO_codeAssign_110 : decode b_CO_codeAssign 110 = .ok (.getfield 36, 3) := by decide +kernel
theorem d_CO_codeAssign_113 : decode b_CO_codeAssign 113 = .ok (.iconst 3, 1) := by decide +kernel
theorem d_CO_codeAssign_114 : decode b_CO_codeAssign 114 = .ok (.iload_n 2, 1) := by decide +kernel
theorem d_CO_codeAssign_115 : decode b_CO_codeAssign 115 = .ok (.invokevirtual 105, 3) := by decide +kernel
theorem d_CO_codeAssign_118 : decode b_CO_codeAssign 118 = .ok (.aload_n 0, 1) := by decide +kernel
theorem d_CO_codeAssign_119 : decode b_CO_codeAssign 119 = .ok (.getfield 26, 3) := by decide +kernel
theorem d_CO_codeAssign_122 : decode b_CO_codeAssign 122 = .ok (.iload_n 3, 1) := by decide +kernel
theorem d_CO_codeAssign_123 : decode b_CO_codeAssign 123 = .ok (.ifCond .lt 8, 3) := by decide +kernel
theorem d_CO_codeAssign_126 : decode b_CO_codeAssign 126 = .ok (.bipush 33, 2) := by decide +kernel
theorem d_CO_codeAssign_128 : decode b_CO_codeAssign 128 = .ok (.goto 5, 3) := by decide +kernel
theorem d_CO_codeAssign_131 : decode b_CO_codeAssign 131 = .ok (.bipush 36, 2) := by decide +kernel
theorem d_CO_codeAssign_133 : decode b_CO_codeAssign 133 = .ok (.invokevirtual 76, 3) := by decide +kernel
theorem d_CO_codeAssign_136 : decode b_CO_codeAssign 136 = .ok (.aload_n 0, 1) := by decide +kernel
theorem d_CO_codeAssign_137 : decode b_CO_codeAssign 137 = .ok (.getfield 26, 3) := by decide +kernel
theorem d_CO_codeAssign_140 : decode b_CO_codeAssign 140 = .ok (.iload_n 3, 1) := by decide +kernel
theorem d_CO_codeAssign_141 : decode b_CO_codeAssign 141 = .ok (.ifCond .lt 16, 3) := by decide +kernel
theorem d_CO_codeAssign_144 : decode b_CO_codeAssign 144 = .ok (.aload_n 0, 1) := by decide +kernel
theorem d_CO_codeAssign_145 : decode b_CO_codeAssign 145 = .ok (.getfield 54, 3) := by decide +kernel
theorem d_CO_codeAssign_148 : decode b_CO_codeAssign 148 = .ok (.getfield 217, 3) := by decide +kernel
theorem d_CO_codeAssign_151 : decode b_CO_codeAssign 151 = .ok (.iload_n 3, 1) := by decide +kernel
theorem d_CO_codeAssign_152 : decode b_CO_codeAssign 152 = .ok (.laload, 1) := by decide +kernel
theorem d_CO_codeAssign_153 : decode b_CO_codeAssign 153 = .ok (.l2i, 1) := by decide +kernel
theorem d_CO_codeAssign_154 : decode b_CO_codeAssign 154 = .ok (.goto 5, 3) := by decide +kernel
theorem d_CO_codeAssign_157 : decode b_CO_codeAssign 157 = .ok (.iload 4, 2) := by decide +kernel
theorem d_CO_codeAssign_159 : decode b_CO_codeAssign 159 = .ok (.invokevirtual 218, 3) := by decide +kernel
theorem d_CO_codeAssign_162 : decode b_CO_codeAssign 162 = .ok (.return_, 1) := by decide +kernel
abbrev at_CO_codeAssign (dC : Nat → ClassId) (dI : Nat → Nat → Nat) (sa : Nat → Nat) (h0 pr kn lt pe to bo cs se gl fu pa pf sf pk pg pp pz pv pr_scanner_r pr_waiting_r pr_waitingPlaces_r bob tr kns knz knt knv tx gls glz glt glv : Nat) (cpe cbob ckns cknz cknt cknv ctx cpp cpz cgls cglz cglt : ClassId) (h0_localCount : Int32) (h0_gives : Int32) (h0_depth : Int32) (h0_loopDepth : Int32) (pr_stepCount : Int32) (pr_open : Int32) (pr_twoSides : Int32) (pr_waitingCount : Int32) (gpe : Nat → Int32) (kn_length : Int32) (gkns : Nat → Int32) (gknz : Nat → Int32) (gknt : Nat → Int32) (gknv : Nat → Int64) (tr_length : Int32) (gtx : Nat → Int32) (gpp : Nat → Int32) (gpz : Nat → Int32) (gl_length : Int32) (ggls : Nat → Int32) (gglz : Nat → Int32) (gglt : Nat → Int32) (A : Nat → Prop) (u : (Nat → Int32) × Int32 × Int32 × Int32 × Int32) (t : State) : Prop := match u with | (gbob, bo_length, h0_pendingCount, pr_place, pr_reason) => va_P (dC, dI) cls [(h0, .inr (2, [.ref pr, .ref kn, .ref lt, .int h0_localCount, .ref pe, .int h0_pendingCount, .int h0_gives, .int h0_depth, .int h0_loopDepth, .ref to, .ref bo, .ref cs, .ref se])), (pr, .inr (6, [.ref gl, .ref fu, .ref pa, .ref pf, .ref sf, .ref pk, .ref pg, .ref pp, .ref pz, .ref pv, .int pr_reason, .int pr_place, .ref pr_scanner_r, .int pr_stepCount, .int pr_open, .int pr_twoSides, .ref pr_waiting_r, .ref pr_waitingPlaces_r, .int pr_waitingCount])), (pe, .inl (cpe, 680, .inl gpe)), (bo, .inr (1, [.ref bob, .int bo_length])), (bob, .inl (cbob, 8192, .inl gbob)), (kn, .inr (5, [.ref tr, .ref kns, .ref knz, .ref knt, .ref knv, .int kn_length])), (kns, .inl (ckns, 50, .inl gkns)), (knz, .inl (cknz, 50, .inl gknz)), (knt, .inl (cknt, 50, .inl gknt)), (knv, .inl (cknv, 50, .inr (.inl gknv))), (tr, .inr (1, [.ref tx, .int tr_length])), (tx, .inl (ctx, 2000, .inl gtx)), (pp, .inl (cpp, 4100, .inl gpp)), (pz, .inl (cpz, 4100, .inl gpz)), (gl, .inr (5, [.ref tr, .ref gls, .ref glz, .ref glt, .ref glv, .int gl_length])), (gls, .inl (cgls, 20, .inl ggls)), (glz, .inl (cglz, 20, .inl gglz)), (glt, .inl (cglt, 20, .inl gglt))] t.heap ∧ va_K (dC, dI) cls [(cpe, .int), (cbob, .byte), (ckns, .int), (cknz, .int), (cknt, .int), (cknv, .long), (ctx, .byte), (cpp, .int), (cpz, .int), (cgls, .int), (cglz, .int), (cglt, .int)] t ∧ va_D A [(h0, .inr (2, [.ref pr, .ref kn, .ref lt, .int h0_localCount, .ref pe, .int h0_pendingCount, .int h0_gives, .int h0_depth, .int h0_loopDepth, .ref to, .ref bo, .ref cs, .ref se])), (pr, .inr (6, [.ref gl, .ref fu, .ref pa, .ref pf, .ref sf, .ref pk, .ref pg, .ref pp, .ref pz, .ref pv, .int pr_reason, .int pr_place, .ref pr_scanner_r, .int pr_stepCount, .int pr_open, .int pr_twoSides, .ref pr_waiting_r, .ref pr_waitingPlaces_r, .int pr_waitingCount])), (pe, .inl (cpe, 680, .inl gpe)), (bo, .inr (1, [.ref bob, .int bo_length])), (bob, .inl (cbob, 8192, .inl gbob)), (kn, .inr (5, [.ref tr, .ref kns, .ref knz, .ref knt, .ref knv, .int kn_length])), (kns, .inl (ckns, 50, .inl gkns)), (knz, .inl (cknz, 50, .inl gknz)), (knt, .inl (cknt, 50, .inl gknt)), (knv, .inl (cknv, 50, .inr (.inl gknv))), (tr, .inr (1, [.ref tx, .int tr_length])), (tx, .inl (ctx, 2000, .inl gtx)), (pp, .inl (cpp, 4100, .inl gpp)), (pz, .inl (cpz, 4100, .inl gpz)), (gl, .inr (5, [.ref tr, .ref gls, .ref glz, .ref glt, .ref glv, .int gl_length])), (gls, .inl (cgls, 20, .inl ggls)), (glz, .inl (cglz, 20, .inl gglz)), (glt, .inl (cglt, 20, .inl gglt))]
set_option maxHeartbeats 4000000 in
set_option maxRecDepth 100000 in
theorem c_CO_codeAssign (l : Launch) (hlt : l.stackTraces = false) (dC : Nat → ClassId) (dI : Nat → Nat → Nat) (sz : Nat) (sa : Nat → Nat) (h0 pr kn lt pe to bo cs se gl fu pa pf sf pk pg pp pz pv pr_scanner_r pr_waiting_r pr_waitingPlaces_r bob tr kns knz knt knv tx gls glz glt glv : Nat) (cpe cbob ckns cknz cknt cknv ctx cpp cpz cgls cglz cglt : ClassId) (h0_localCount : Int32) (h0_pendingCount : Int32) (h0_gives : Int32) (h0_depth : Int32) (h0_loopDepth : Int32) (pr_reason : Int32) (pr_place : Int32) (pr_stepCount : Int32) (pr_open : Int32) (pr_twoSides : Int32) (pr_waitingCount : Int32) (gpe : Nat → Int32) (bo_length : Int32) (gbob : Nat → Int32) (kn_length : Int32) (gkns : Nat → Int32) (gknz : Nat → Int32) (gknt : Nat → Int32) (gknv : Nat → Int64) (tr_length : Int32) (gtx : Nat → Int32) (gpp : Nat → Int32) (gpz : Nat → Int32) (gl_length : Int32) (ggls : Nat → Int32) (gglz : Nat → Int32) (gglt : Nat → Int32)  (b_h0_localCount : 0 ≤ h0_localCount.toInt ∧ h0_localCount.toInt ≤ 50) (b_h0_pendingCount : 0 ≤ h0_pendingCount.toInt ∧ h0_pendingCount.toInt ≤ 680) (b_bo_length : 0 ≤ bo_length.toInt ∧ bo_length.toInt ≤ 8192) (b_kn_length : 0 ≤ kn_length.toInt ∧ kn_length.toInt ≤ 50) (b_tr_length : 0 ≤ tr_length.toInt ∧ tr_length.toInt ≤ 2000) (b_gl_length : 0 ≤ gl_length.toInt ∧ gl_length.toInt ≤ 20) (p0 : Int32)  (hi : 0 ≤ p0.toInt ∧ p0.toInt < 4100) (hz : 0 ≤ (gpz p0.toNatClampNeg).toInt) (hkq : kq kn_length.toInt gknt gknv h0_localCount.toInt) (hgq : gq gl_length.toInt gglt) (hpc : 1 ≤ h0_pendingCount.toInt) (hbo : bo_length.toInt + 7 ≤ 8192) : tz_Met l y_CO_codeAssign w_CO_codeAssign ({ frames := 7, cells := 1, slots := 6, locals := 112 }) (va_Pc [.ref h0, .int p0] (fun U => U.heap.size = sz ∧ va_P (dC, dI) cls [(h0, .inr (2, [.ref pr, .ref kn, .ref lt, .int h0_localCount, .ref pe, .int h0_pendingCount, .int h0_gives, .int h0_depth, .int h0_loopDepth, .ref to, .ref bo, .ref cs, .ref se])), (pr, .inr (6, [.ref gl, .ref fu, .ref pa, .ref pf, .ref sf, .ref pk, .ref pg, .ref pp, .ref pz, .ref pv, .int pr_reason, .int pr_place, .ref pr_scanner_r, .int pr_stepCount, .int pr_open, .int pr_twoSides, .ref pr_waiting_r, .ref pr_waitingPlaces_r, .int pr_waitingCount])), (pe, .inl (cpe, 680, .inl gpe)), (bo, .inr (1, [.ref bob, .int bo_length])), (bob, .inl (cbob, 8192, .inl gbob)), (kn, .inr (5, [.ref tr, .ref kns, .ref knz, .ref knt, .ref knv, .int kn_length])), (kns, .inl (ckns, 50, .inl gkns)), (knz, .inl (cknz, 50, .inl gknz)), (knt, .inl (cknt, 50, .inl gknt)), (knv, .inl (cknv, 50, .inr (.inl gknv))), (tr, .inr (1, [.ref tx, .int tr_length])), (tx, .inl (ctx, 2000, .inl gtx)), (pp, .inl (cpp, 4100, .inl gpp)), (pz, .inl (cpz, 4100, .inl gpz)), (gl, .inr (5, [.ref tr, .ref gls, .ref glz, .ref glt, .ref glv, .int gl_length])), (gls, .inl (cgls, 20, .inl ggls)), (glz, .inl (cglz, 20, .inl gglz)), (glt, .inl (cglt, 20, .inl gglt))] U.heap ∧ va_K (dC, dI) cls [(cpe, .int), (cbob, .byte), (ckns, .int), (cknz, .int), (cknt, .int), (cknv, .long), (ctx, .byte), (cpp, .int), (cpz, .int), (cgls, .int), (cglz, .int), (cglt, .int)] U ∧ va_D (fun _ => True) [(h0, .inr (2, [.ref pr, .ref kn, .ref lt, .int h0_localCount, .ref pe, .int h0_pendingCount, .int h0_gives, .int h0_depth, .int h0_loopDepth, .ref to, .ref bo, .ref cs, .ref se])), (pr, .inr (6, [.ref gl, .ref fu, .ref pa, .ref pf, .ref sf, .ref pk, .ref pg, .ref pp, .ref pz, .ref pv, .int pr_reason, .int pr_place, .ref pr_scanner_r, .int pr_stepCount, .int pr_open, .int pr_twoSides, .ref pr_waiting_r, .ref pr_waitingPlaces_r, .int pr_waitingCount])), (pe, .inl (cpe, 680, .inl gpe)), (bo, .inr (1, [.ref bob, .int bo_length])), (bob, .inl (cbob, 8192, .inl gbob)), (kn, .inr (5, [.ref tr, .ref kns, .ref knz, .ref knt, .ref knv, .int kn_length])), (kns, .inl (ckns, 50, .inl gkns)), (knz, .inl (cknz, 50, .inl gknz)), (knt, .inl (cknt, 50, .inl gknt)), (knv, .inl (cknv, 50, .inr (.inl gknv))), (tr, .inr (1, [.ref tx, .int tr_length])), (tx, .inl (ctx, 2000, .inl gtx)), (pp, .inl (cpp, 4100, .inl gpp)), (pz, .inl (cpz, 4100, .inl gpz)), (gl, .inr (5, [.ref tr, .ref gls, .ref glz, .ref glt, .ref glv, .int gl_length])), (gls, .inl (cgls, 20, .inl ggls)), (glz, .inl (cglz, 20, .inl gglz)), (glt, .inl (cglt, 20, .inl gglt))] ∧ sw sa (va_A [(h0, .inr (2, [.ref pr, .ref kn, .ref lt, .int h0_localCount, .ref pe, .int h0_pendingCount, .int h0_gives, .int h0_depth, .int h0_loopDepth, .ref to, .ref bo, .ref cs, .ref se])), (pr, .inr (6, [.ref gl, .ref fu, .ref pa, .ref pf, .ref sf, .ref pk, .ref pg, .ref pp, .ref pz, .ref pv, .int pr_reason, .int pr_place, .ref pr_scanner_r, .int pr_stepCount, .int pr_open, .int pr_twoSides, .ref pr_waiting_r, .ref pr_waitingPlaces_r, .int pr_waitingCount])), (pe, .inl (cpe, 680, .inl gpe)), (bo, .inr (1, [.ref bob, .int bo_length])), (bob, .inl (cbob, 8192, .inl gbob)), (kn, .inr (5, [.ref tr, .ref kns, .ref knz, .ref knt, .ref knv, .int kn_length])), (kns, .inl (ckns, 50, .inl gkns)), (knz, .inl (cknz, 50, .inl gknz)), (knt, .inl (cknt, 50, .inl gknt)), (knv, .inl (cknv, 50, .inr (.inl gknv))), (tr, .inr (1, [.ref tx, .int tr_length])), (tx, .inl (ctx, 2000, .inl gtx)), (pp, .inl (cpp, 4100, .inl gpp)), (pz, .inl (cpz, 4100, .inl gpz)), (gl, .inr (5, [.ref tr, .ref gls, .ref glz, .ref glt, .ref glv, .int gl_length])), (gls, .inl (cgls, 20, .inl ggls)), (glz, .inl (cglz, 20, .inl gglz)), (glt, .inl (cglt, 20, .inl gglt))] sz) U U.heap)) (tq_Q (tq_v (fun (u : (Nat → Int32) × Int32 × Int32 × Int32 × Int32) => match u with | (gbob2, bo_length2, h0_pendingCount2, pr_place2, pr_reason2) => (0 ≤ bo_length2.toInt ∧ bo_length2.toInt ≤ 8192) ∧ (0 ≤ h0_pendingCount2.toInt ∧ h0_pendingCount2.toInt ≤ 680) ∧ (h0_pendingCount2.toInt = h0_pendingCount.toInt - 1 ∧ (gpe (h0_pendingCount.toInt - 1).toNat).toInt ≠ 64 ∧ ∃ (op v : Int), ((op = 33 ∧ 0 ≤ v ∧ v < h0_localCount.toInt) ∨ (op = 36 ∧ 0 ≤ v ∧ v < gl_length.toInt)) ∧ bo_length2.toInt = bo_length.toInt + 2 ∧ bl gbob2 bo_length2.toNatClampNeg = bl gbob bo_length.toNatClampNeg ++ [op.toNat, v.toNat])) "java/lang/UnsupportedOperationException" (fun (u : (Nat → Int32) × Int32 × Int32 × Int32 × Int32) => match u with | (gbob2, bo_length2, h0_pendingCount2, pr_place2, pr_reason2) => (0 ≤ bo_length2.toInt ∧ bo_length2.toInt ≤ 8192) ∧ (0 ≤ h0_pendingCount2.toInt ∧ h0_pendingCount2.toInt ≤ 680))) (at_CO_codeAssign dC dI sa h0 pr kn lt pe to bo cs se gl fu pa pf sf pk pg pp pz pv pr_scanner_r pr_waiting_r pr_waitingPlaces_r bob tr kns knz knt knv tx gls glz glt glv cpe cbob ckns cknz cknt cknv ctx cpp cpz cgls cglz cglt h0_localCount h0_gives h0_depth h0_loopDepth pr_stepCount pr_open pr_twoSides pr_waitingCount gpe kn_length gkns gknz gknt gknv tr_length gtx gpp gpz gl_length ggls gglz gglt (va_A [(h0, .inr (2, [.ref pr, .ref kn, .ref lt, .int h0_localCount, .ref pe, .int h0_pendingCount, .int h0_gives, .int h0_depth, .int h0_loopDepth, .ref to, .ref bo, .ref cs, .ref se])), (pr, .inr (6, [.ref gl, .ref fu, .ref pa, .ref pf, .ref sf, .ref pk, .ref pg, .ref pp, .ref pz, .ref pv, .int pr_reason, .int pr_place, .ref pr_scanner_r, .int pr_stepCount, .int pr_open, .int pr_twoSides, .ref pr_waiting_r, .ref pr_waitingPlaces_r, .int pr_waitingCount])), (pe, .inl (cpe, 680, .inl gpe)), (bo, .inr (1, [.ref bob, .int bo_length])), (bob, .inl (cbob, 8192, .inl gbob)), (kn, .inr (5, [.ref tr, .ref kns, .ref knz, .ref knt, .ref knv, .int kn_length])), (kns, .inl (ckns, 50, .inl gkns)), (knz, .inl (cknz, 50, .inl gknz)), (knt, .inl (cknt, 50, .inl gknt)), (knv, .inl (cknv, 50, .inr (.inl gknv))), (tr, .inr (1, [.ref tx, .int tr_length])), (tx, .inl (ctx, 2000, .inl gtx)), (pp, .inl (cpp, 4100, .inl gpp)), (pz, .inl (cpz, 4100, .inl gpz)), (gl, .inr (5, [.ref tr, .ref gls, .ref glz, .ref glt, .ref glv, .int gl_length])), (gls, .inl (cgls, 20, .inl ggls)), (glz, .inl (cglz, 20, .inl gglz)), (glt, .inl (cglt, 20, .inl gglt))] sz)) (va_A [(h0, .inr (2, [.ref pr, .ref kn, .ref lt, .int h0_localCount, .ref pe, .int h0_pendingCount, .int h0_gives, .int h0_depth, .int h0_loopDepth, .ref to, .ref bo, .ref cs, .ref se])), (pr, .inr (6, [.ref gl, .ref fu, .ref pa, .ref pf, .ref sf, .ref pk, .ref pg, .ref pp, .ref pz, .ref pv, .int pr_reason, .int pr_place, .ref pr_scanner_r, .int pr_stepCount, .int pr_open, .int pr_twoSides, .ref pr_waiting_r, .ref pr_waitingPlaces_r, .int pr_waitingCount])), (pe, .inl (cpe, 680, .inl gpe)), (bo, .inr (1, [.ref bob, .int bo_length])), (bob, .inl (cbob, 8192, .inl gbob)), (kn, .inr (5, [.ref tr, .ref kns, .ref knz, .ref knt, .ref knv, .int kn_length])), (kns, .inl (ckns, 50, .inl gkns)), (knz, .inl (cknz, 50, .inl gknz)), (knt, .inl (cknt, 50, .inl gknt)), (knv, .inl (cknv, 50, .inr (.inl gknv))), (tr, .inr (1, [.ref tx, .int tr_length])), (tx, .inl (ctx, 2000, .inl gtx)), (pp, .inl (cpp, 4100, .inl gpp)), (pz, .inl (cpz, 4100, .inl gpz)), (gl, .inr (5, [.ref tr, .ref gls, .ref glz, .ref glt, .ref glv, .int gl_length])), (gls, .inl (cgls, 20, .inl ggls)), (glz, .inl (cglz, 20, .inl gglz)), (glt, .inl (cglt, 20, .inl gglt))] sz)) (tz_k 0 0 1 6) (va_A [(h0, .inr (2, [.ref pr, .ref kn, .ref lt, .int h0_localCount, .ref pe, .int h0_pendingCount, .int h0_gives, .int h0_depth, .int h0_loopDepth, .ref to, .ref bo, .ref cs, .ref se])), (pr, .inr (6, [.ref gl, .ref fu, .ref pa, .ref pf, .ref sf, .ref pk, .ref pg, .ref pp, .ref pz, .ref pv, .int pr_reason, .int pr_place, .ref pr_scanner_r, .int pr_stepCount, .int pr_open, .int pr_twoSides, .ref pr_waiting_r, .ref pr_waitingPlaces_r, .int pr_waitingCount])), (pe, .inl (cpe, 680, .inl gpe)), (bo, .inr (1, [.ref bob, .int bo_length])), (bob, .inl (cbob, 8192, .inl gbob)), (kn, .inr (5, [.ref tr, .ref kns, .ref knz, .ref knt, .ref knv, .int kn_length])), (kns, .inl (ckns, 50, .inl gkns)), (knz, .inl (cknz, 50, .inl gknz)), (knt, .inl (cknt, 50, .inl gknt)), (knv, .inl (cknv, 50, .inr (.inl gknv))), (tr, .inr (1, [.ref tx, .int tr_length])), (tx, .inl (ctx, 2000, .inl gtx)), (pp, .inl (cpp, 4100, .inl gpp)), (pz, .inl (cpz, 4100, .inl gpz)), (gl, .inr (5, [.ref tr, .ref gls, .ref glz, .ref glt, .ref glv, .int gl_length])), (gls, .inl (cgls, 20, .inl ggls)), (glz, .inl (cglz, 20, .inl gglz)), (glt, .inl (cglt, 20, .inl gglt))] sz) := by
  refine tz_ofW (cc := b_CO_codeAssign) (maxL := 6) (ret := none) (by decide) rfl ?_
  intro p e s m args below meth c s₁ B hml hno hv
  obtain ⟨rfl, hsz, hP, hK, hD0, hSW⟩ := hv
  have hx := B.exec
  have hb := B.bytes
  have hr := B.returns
  have hts0 := atoms_spec (ws := w_CO_codeAssign) B.pre
  have hts : ∀ w ∈ lw_g, w.before _ s = true := fun w h => hts0 w (List.mem_cons_of_mem _ h)
  have hown : s.vm.findClass R_CO = some m.cls := findClass_of_methodNamed B.named
  have hlocks := B.notSynchronized
  clear hts0
  subst hsz
  have hD := hD0.self (sz := s.heap.size)
  generalize hAe : va_A [(h0, .inr (2, [.ref pr, .ref kn, .ref lt, .int h0_localCount, .ref pe, .int h0_pendingCount, .int h0_gives, .int h0_depth, .int h0_loopDepth, .ref to, .ref bo, .ref cs, .ref se])), (pr, .inr (6, [.ref gl, .ref fu, .ref pa, .ref pf, .ref sf, .ref pk, .ref pg, .ref pp, .ref pz, .ref pv, .int pr_reason, .int pr_place, .ref pr_scanner_r, .int pr_stepCount, .int pr_open, .int pr_twoSides, .ref pr_waiting_r, .ref pr_waitingPlaces_r, .int pr_waitingCount])), (pe, .inl (cpe, 680, .inl gpe)), (bo, .inr (1, [.ref bob, .int bo_length])), (bob, .inl (cbob, 8192, .inl gbob)), (kn, .inr (5, [.ref tr, .ref kns, .ref knz, .ref knt, .ref knv, .int kn_length])), (kns, .inl (ckns, 50, .inl gkns)), (knz, .inl (cknz, 50, .inl gknz)), (knt, .inl (cknt, 50, .inl gknt)), (knv, .inl (cknv, 50, .inr (.inl gknv))), (tr, .inr (1, [.ref tx, .int tr_length])), (tx, .inl (ctx, 2000, .inl gtx)), (pp, .inl (cpp, 4100, .inl gpp)), (pz, .inl (cpz, 4100, .inl gpz)), (gl, .inr (5, [.ref tr, .ref gls, .ref glz, .ref glt, .ref glv, .int gl_length])), (gls, .inl (cgls, 20, .inl ggls)), (glz, .inl (cglz, 20, .inl gglz)), (glt, .inl (cglt, 20, .inl gglt))] s.heap.size = A at hD hSW ⊢
  have hA : ∀ q : Nat, s.heap.size ≤ q → A q := fun q h => by rw [← hAe]; exact Or.inr h
  clear hAe
  have hP : va_P (dC, dI) cls [(h0, .inr (2, [.ref pr, .ref kn, .ref lt, .int h0_localCount, .ref pe, .int h0_pendingCount, .int h0_gives, .int h0_depth, .int h0_loopDepth, .ref to, .ref bo, .ref cs, .ref se])), (pr, .inr (6, [.ref gl, .ref fu, .ref pa, .ref pf, .ref sf, .ref pk, .ref pg, .ref pp, .ref pz, .ref pv, .int pr_reason, .int pr_place, .ref pr_scanner_r, .int pr_stepCount, .int pr_open, .int pr_twoSides, .ref pr_waiting_r, .ref pr_waitingPlaces_r, .int pr_waitingCount])), (pe, .inl (cpe, 680, .inl gpe)), (bo, .inr (1, [.ref bob, .int bo_length])), (bob, .inl (cbob, 8192, .inl gbob)), (kn, .inr (5, [.ref tr, .ref kns, .ref knz, .ref knt, .ref knv, .int kn_length])), (kns, .inl (ckns, 50, .inl gkns)), (knz, .inl (cknz, 50, .inl gknz)), (knt, .inl (cknt, 50, .inl gknt)), (knv, .inl (cknv, 50, .inr (.inl gknv))), (tr, .inr (1, [.ref tx, .int tr_length])), (tx, .inl (ctx, 2000, .inl gtx)), (pp, .inl (cpp, 4100, .inl gpp)), (pz, .inl (cpz, 4100, .inl gpz)), (gl, .inr (5, [.ref tr, .ref gls, .ref glz, .ref glt, .ref glv, .int gl_length])), (gls, .inl (cgls, 20, .inl ggls)), (glz, .inl (cglz, 20, .inl gglz)), (glt, .inl (cglt, 20, .inl gglt))] s.heap := hP
  have hl := lv_entry ([.ref h0, .int p0]) (n := 6) (Nat.le_of_ble_eq_true rfl)
  rw [lg_entry_eq]
  generalize (lg_sl ([.ref h0, .int p0]) ++ List.replicate (6 - (lg_sl ([.ref h0, .int p0])).length) Slot.unset).toArray = ls at hl ⊢
  have hl : lv_has ls 6 [(0, .ref h0), (1, .int p0)] := hl
  have k0 : (0 : Int32).toInt = 0 := by decide
  refine w_gen (A := A) hP (fun H locs hP hS => ?_)
  have k2 : (2 : Int32).toInt = 2 := by decide
  have k3 : (3 : Int32).toInt = 3 := by decide
  have k33 : (33 : Int32).toInt = 33 := by decide
  have k36 : (36 : Int32).toInt = 36 := by decide
  have lo_p0 := i32_lo p0
  have hi_p0 := i32_hi p0
  refine lv_aload_n hx hb d_CO_codeAssign_0 rfl (lv_at hl 0 rfl) ?_
  refine va_get (D := (dC, dI)) (ci := 2) (v := .ref pr) (C := R_CO) (T := F_CO) (N := 13) hx hb hts i_CO hown hK hP 0 rfl rfl 0 (by decide) (hts _ kF_CO_36) (fun _ h9 => h9) rfl d_CO_codeAssign_1 ?_
  refine va_get (D := (dC, dI)) (ci := 6) (v := .ref pp) (C := R_PR) (T := F_PR) (N := 19) hx hb hts i_PR hown hK hP 1 rfl rfl 7 (by decide) (hts _ kF_CO_193) (fun _ h9 => h9) rfl d_CO_codeAssign_4 ?_
  refine lv_iload_n hx hb d_CO_codeAssign_7 rfl (lv_at hl 1 rfl) ?_
  have g8 : vp_in p0 4100 := vp_in_iff.mpr ⟨by omega, by omega⟩
  refine va_iald hx hb hK hP 12 7 rfl rfl g8 d_CO_codeAssign_8 ?_
  refine lv_topi (fun x1 ex1 => ?_)
  refine lv_istore_n (lv' := [(2, .int x1), (0, .ref h0), (1, .int p0)]) hx hb d_CO_codeAssign_9 rfl hl (by decide) rfl (fun ls hl => ?_)
  refine lv_aload_n hx hb d_CO_codeAssign_10 rfl (lv_at hl 1 rfl) ?_
  refine va_get (D := (dC, dI)) (ci := 2) (v := .ref kn) (C := R_CO) (T := F_CO) (N := 13) hx hb hts i_CO hown hK hP 0 rfl rfl 1 (by decide) (hts _ kF_CO_54) (fun _ h9 => h9) rfl d_CO_codeAssign_11 ?_
  refine lv_iload_n hx hb d_CO_codeAssign_14 rfl (lv_at hl 0 rfl) ?_
  refine lv_aload_n hx hb d_CO_codeAssign_15 rfl (lv_at hl 1 rfl) ?_
  refine va_get (D := (dC, dI)) (ci := 2) (v := .ref pr) (C := R_CO) (T := F_CO) (N := 13) hx hb hts i_CO hown hK hP 0 rfl rfl 0 (by decide) (hts _ kF_CO_36) (fun _ h9 => h9) rfl d_CO_codeAssign_16 ?_
  refine va_get (D := (dC, dI)) (ci := 6) (v := .ref pz) (C := R_PR) (T := F_PR) (N := 19) hx hb hts i_PR hown hK hP 1 rfl rfl 8 (by decide) (hts _ kF_CO_216) (fun _ h9 => h9) rfl d_CO_codeAssign_19 ?_
  refine lv_iload_n hx hb d_CO_codeAssign_22 rfl (lv_at hl 2 rfl) ?_
  have g23 : vp_in p0 4100 := vp_in_iff.mpr ⟨by omega, by omega⟩
  refine va_iald hx hb hK hP 13 8 rfl rfl g23 d_CO_codeAssign_23 ?_
  refine lv_topi (fun x2 ex2 => ?_)
  have tx2 := hz
  rw [← ex2] at tx2
  have hPc := hP.sub (ws' := [(kn, .inr (5, [.ref tr, .ref kns, .ref knz, .ref knt, .ref knv, .int kn_length])), (tr, .inr (1, [.ref tx, .int tr_length])), (tx, .inl (ctx, 2000, .inl gtx)), (kns, .inl (ckns, 50, .inl gkns)), (knz, .inl (cknz, 50, .inl gknz))]) [5, 10, 11, 6, 7] rfl
  have hDc := hD.sub (ws' := [(kn, .inr (5, [.ref tr, .ref kns, .ref knz, .ref knt, .ref knv, .int kn_length])), (tr, .inr (1, [.ref tx, .int tr_length])), (tx, .inl (ctx, 2000, .inl gtx)), (kns, .inl (ckns, 50, .inl gkns)), (knz, .inl (cknz, 50, .inl gknz))]) [5, 10, 11, 6, 7] (by decide) rfl
  have hKc := hK.sub (tys' := [(ctx, .byte), (ckns, .int), (cknz, .int)]) [6, 2, 3] rfl
  have hFc := va_free (wc := [(kn, .inr (5, [.ref tr, .ref kns, .ref knz, .ref knt, .ref knv, .int kn_length])), (tr, .inr (1, [.ref tx, .int tr_length])), (tx, .inl (ctx, 2000, .inl gtx)), (kns, .inl (ckns, 50, .inl gkns)), (knz, .inl (cknz, 50, .inl gknz))]) hD hS hA [5, 10, 11, 6, 7] rfl
  refine va_calli (va_runV (As := [.int x1, .int x2]) (rest := []) ⟨hx, hb, hml, hown, hts⟩ (c_NA_indexOf l dC dI H.size kn tr kns knz knt knv tx ctx ckns cknz kn_length tr_length gtx 50 gkns gknz (b_tr_length) x1 x2 (by omega) (by omega)) (cwV 2 hts (gV kM_CO_158 kV_NA_indexOf kS_NA_indexOf kI_NA kC_NA_indexOf) rfl rfl rfl (by decide +kernel) ⟨Nat.le_of_ble_eq_true rfl, Nat.le_of_ble_eq_true rfl⟩) ⟨fun a U g mk z => by obtain ⟨z0, z1, zP, zK, zD⟩ := z; exact ⟨z0, z1, zP, va_K.moved (u := U) (U := U.calling g mk a) (Vm.Alike.refl U.vm) zK, zD⟩, va_recv hKc hPc (ci := 5) (q0 := 0) rfl rfl, fun U hU hW => ⟨rfl, by rw [hU], by rw [hU]; exact hPc, va_K.moved hW.alike hKc, hDc.weaken (fun _ _ _ _ => trivial)⟩⟩ rfl rfl hl.1 rfl (lv_room (Nat.le_of_ble_eq_true rfl)) d_CO_codeAssign_24 ⟨(Nat.zero_le _), (Nat.zero_le _)⟩) hS (fun q _ h => hFc q h) hFc (fun r3 u t H1 locs ht hvm hw hB hz1 hk1 hS => ?_)
  try dsimp only at hw
  have xr3 := hw
  try clear hw
  obtain ⟨hP1, hK1, hD1⟩ := hB
  rw [ht] at hP1
  obtain ⟨hP, hD⟩ := va_join (wr := [(h0, .inr (2, [.ref pr, .ref kn, .ref lt, .int h0_localCount, .ref pe, .int h0_pendingCount, .int h0_gives, .int h0_depth, .int h0_loopDepth, .ref to, .ref bo, .ref cs, .ref se])), (pr, .inr (6, [.ref gl, .ref fu, .ref pa, .ref pf, .ref sf, .ref pk, .ref pg, .ref pp, .ref pz, .ref pv, .int pr_reason, .int pr_place, .ref pr_scanner_r, .int pr_stepCount, .int pr_open, .int pr_twoSides, .ref pr_waiting_r, .ref pr_waitingPlaces_r, .int pr_waitingCount])), (pe, .inl (cpe, 680, .inl gpe)), (bo, .inr (1, [.ref bob, .int bo_length])), (bob, .inl (cbob, 8192, .inl gbob)), (knt, .inl (cknt, 50, .inl gknt)), (knv, .inl (cknv, 50, .inr (.inl gknv))), (pp, .inl (cpp, 4100, .inl gpp)), (pz, .inl (cpz, 4100, .inl gpz)), (gl, .inr (5, [.ref tr, .ref gls, .ref glz, .ref glt, .ref glv, .int gl_length])), (gls, .inl (cgls, 20, .inl ggls)), (glz, .inl (cglz, 20, .inl gglz)), (glt, .inl (cglt, 20, .inl gglt))]) (w1 := [(kn, .inr (5, [.ref tr, .ref kns, .ref knz, .ref knt, .ref knv, .int kn_length])), (tr, .inr (1, [.ref tx, .int tr_length])), (tx, .inl (ctx, 2000, .inl gtx)), (kns, .inl (ckns, 50, .inl gkns)), (knz, .inl (cknz, 50, .inl gknz))]) hP hD [5, 10, 11, 6, 7] [0, 1, 2, 3, 4, 8, 9, 12, 13, 14, 15, 16, 17] rfl rfl (by decide) (by decide) hk1 hFc hP1 hD1
  clear hPc hDc hKc hFc hz1 hk1 hP1 hK1 hD1
  generalize H1 = H at hP hS ⊢
  have hP : va_P (dC, dI) cls [(h0, .inr (2, [.ref pr, .ref kn, .ref lt, .int h0_localCount, .ref pe, .int h0_pendingCount, .int h0_gives, .int h0_depth, .int h0_loopDepth, .ref to, .ref bo, .ref cs, .ref se])), (pr, .inr (6, [.ref gl, .ref fu, .ref pa, .ref pf, .ref sf, .ref pk, .ref pg, .ref pp, .ref pz, .ref pv, .int pr_reason, .int pr_place, .ref pr_scanner_r, .int pr_stepCount, .int pr_open, .int pr_twoSides, .ref pr_waiting_r, .ref pr_waitingPlaces_r, .int pr_waitingCount])), (pe, .inl (cpe, 680, .inl gpe)), (bo, .inr (1, [.ref bob, .int bo_length])), (bob, .inl (cbob, 8192, .inl gbob)), (knt, .inl (cknt, 50, .inl gknt)), (knv, .inl (cknv, 50, .inr (.inl gknv))), (pp, .inl (cpp, 4100, .inl gpp)), (pz, .inl (cpz, 4100, .inl gpz)), (gl, .inr (5, [.ref tr, .ref gls, .ref glz, .ref glt, .ref glv, .int gl_length])), (gls, .inl (cgls, 20, .inl ggls)), (glz, .inl (cglz, 20, .inl gglz)), (glt, .inl (cglt, 20, .inl gglt)), (kn, .inr (5, [.ref tr, .ref kns, .ref knz, .ref knt, .ref knv, .int kn_length])), (tr, .inr (1, [.ref tx, .int tr_length])), (tx, .inl (ctx, 2000, .inl gtx)), (kns, .inl (ckns, 50, .inl gkns)), (knz, .inl (cknz, 50, .inl gknz))] H := hP
  have hD : va_D A [(h0, .inr (2, [.ref pr, .ref kn, .ref lt, .int h0_localCount, .ref pe, .int h0_pendingCount, .int h0_gives, .int h0_depth, .int h0_loopDepth, .ref to, .ref bo, .ref cs, .ref se])), (pr, .inr (6, [.ref gl, .ref fu, .ref pa, .ref pf, .ref sf, .ref pk, .ref pg, .ref pp, .ref pz, .ref pv, .int pr_reason, .int pr_place, .ref pr_scanner_r, .int pr_stepCount, .int pr_open, .int pr_twoSides, .ref pr_waiting_r, .ref pr_waitingPlaces_r, .int pr_waitingCount])), (pe, .inl (cpe, 680, .inl gpe)), (bo, .inr (1, [.ref bob, .int bo_length])), (bob, .inl (cbob, 8192, .inl gbob)), (knt, .inl (cknt, 50, .inl gknt)), (knv, .inl (cknv, 50, .inr (.inl gknv))), (pp, .inl (cpp, 4100, .inl gpp)), (pz, .inl (cpz, 4100, .inl gpz)), (gl, .inr (5, [.ref tr, .ref gls, .ref glz, .ref glt, .ref glv, .int gl_length])), (gls, .inl (cgls, 20, .inl ggls)), (glz, .inl (cglz, 20, .inl gglz)), (glt, .inl (cglt, 20, .inl gglt)), (kn, .inr (5, [.ref tr, .ref kns, .ref knz, .ref knt, .ref knv, .int kn_length])), (tr, .inr (1, [.ref tx, .int tr_length])), (tx, .inl (ctx, 2000, .inl gtx)), (kns, .inl (ckns, 50, .inl gkns)), (knz, .inl (cknz, 50, .inl gknz))] := hD
  refine lv_istore_n (lv' := [(3, .int r3), (2, .int x1), (0, .ref h0), (1, .int p0)]) hx hb d_CO_codeAssign_27 rfl hl (by decide) rfl (fun ls hl => ?_)
  refine lv_aload_n hx hb d_CO_codeAssign_28 rfl (lv_at hl 2 rfl) ?_
  refine va_get (D := (dC, dI)) (ci := 2) (v := .ref pr) (C := R_CO) (T := F_CO) (N := 13) hx hb hts i_CO hown hK hP 0 rfl rfl 0 (by decide) (hts _ kF_CO_36) (fun _ h9 => h9) rfl d_CO_codeAssign_29 ?_
  refine va_get (D := (dC, dI)) (ci := 6) (v := .ref gl) (C := R_PR) (T := F_PR) (N := 19) hx hb hts i_PR hown hK hP 1 rfl rfl 0 (by decide) (hts _ kF_CO_42) (fun _ h9 => h9) rfl d_CO_codeAssign_32 ?_
  refine lv_iload_n hx hb d_CO_codeAssign_35 rfl (lv_at hl 1 rfl) ?_
  refine lv_aload_n hx hb d_CO_codeAssign_36 rfl (lv_at hl 2 rfl) ?_
  refine va_get (D := (dC, dI)) (ci := 2) (v := .ref pr) (C := R_CO) (T := F_CO) (N := 13) hx hb hts i_CO hown hK hP 0 rfl rfl 0 (by decide) (hts _ kF_CO_36) (fun _ h9 => h9) rfl d_CO_codeAssign_37 ?_
  refine va_get (D := (dC, dI)) (ci := 6) (v := .ref pz) (C := R_PR) (T := F_PR) (N := 19) hx hb hts i_PR hown hK hP 1 rfl rfl 8 (by decide) (hts _ kF_CO_216) (fun _ h9 => h9) rfl d_CO_codeAssign_40 ?_
  refine lv_iload_n hx hb d_CO_codeAssign_43 rfl (lv_at hl 3 rfl) ?_
  have g44 : vp_in p0 4100 := vp_in_iff.mpr ⟨by omega, by omega⟩
  refine va_iald hx hb hK hP 8 8 rfl rfl g44 d_CO_codeAssign_44 ?_
  refine lv_topi (fun x4 ex4 => ?_)
  have tx4 := hz
  rw [← ex4] at tx4
  have hPc := hP.sub (ws' := [(gl, .inr (5, [.ref tr, .ref gls, .ref glz, .ref glt, .ref glv, .int gl_length])), (tr, .inr (1, [.ref tx, .int tr_length])), (tx, .inl (ctx, 2000, .inl gtx)), (gls, .inl (cgls, 20, .inl ggls)), (glz, .inl (cglz, 20, .inl gglz))]) [9, 14, 15, 10, 11] rfl
  have hDc := hD.sub (ws' := [(gl, .inr (5, [.ref tr, .ref gls, .ref glz, .ref glt, .ref glv, .int gl_length])), (tr, .inr (1, [.ref tx, .int tr_length])), (tx, .inl (ctx, 2000, .inl gtx)), (gls, .inl (cgls, 20, .inl ggls)), (glz, .inl (cglz, 20, .inl gglz))]) [9, 14, 15, 10, 11] (by decide) rfl
  have hKc := hK.sub (tys' := [(ctx, .byte), (cgls, .int), (cglz, .int)]) [6, 9, 10] rfl
  have hFc := va_free (wc := [(gl, .inr (5, [.ref tr, .ref gls, .ref glz, .ref glt, .ref glv, .int gl_length])), (tr, .inr (1, [.ref tx, .int tr_length])), (tx, .inl (ctx, 2000, .inl gtx)), (gls, .inl (cgls, 20, .inl ggls)), (glz, .inl (cglz, 20, .inl gglz))]) hD hS hA [9, 14, 15, 10, 11] rfl
  refine va_calli (va_runV (As := [.int x1, .int x4]) (rest := []) ⟨hx, hb, hml, hown, hts⟩ (c_NA_indexOf l dC dI H.size gl tr gls glz glt glv tx ctx cgls cglz gl_length tr_length gtx 20 ggls gglz (b_tr_length) x1 x4 (by omega) (by omega)) (cwV 2 hts (gV kM_CO_158 kV_NA_indexOf kS_NA_indexOf kI_NA kC_NA_indexOf) rfl rfl rfl (by decide +kernel) ⟨Nat.le_of_ble_eq_true rfl, Nat.le_of_ble_eq_true rfl⟩) ⟨fun a U g mk z => by obtain ⟨z0, z1, zP, zK, zD⟩ := z; exact ⟨z0, z1, zP, va_K.moved (u := U) (U := U.calling g mk a) (Vm.Alike.refl U.vm) zK, zD⟩, va_recv hKc hPc (ci := 5) (q0 := 0) rfl rfl, fun U hU hW => ⟨rfl, by rw [hU], by rw [hU]; exact hPc, va_K.moved hW.alike hKc, hDc.weaken (fun _ _ _ _ => trivial)⟩⟩ rfl rfl hl.1 rfl (lv_room (Nat.le_of_ble_eq_true rfl)) d_CO_codeAssign_45 ⟨(Nat.zero_le _), (Nat.zero_le _)⟩) hS (fun q _ h => hFc q h) hFc (fun r5 u t H1 locs ht hvm hw hB hz1 hk1 hS => ?_)
  try dsimp only at hw
  have xr5 := hw
  try clear hw
  obtain ⟨hP1, hK1, hD1⟩ := hB
  rw [ht] at hP1
  obtain ⟨hP, hD⟩ := va_join (wr := [(h0, .inr (2, [.ref pr, .ref kn, .ref lt, .int h0_localCount, .ref pe, .int h0_pendingCount, .int h0_gives, .int h0_depth, .int h0_loopDepth, .ref to, .ref bo, .ref cs, .ref se])), (pr, .inr (6, [.ref gl, .ref fu, .ref pa, .ref pf, .ref sf, .ref pk, .ref pg, .ref pp, .ref pz, .ref pv, .int pr_reason, .int pr_place, .ref pr_scanner_r, .int pr_stepCount, .int pr_open, .int pr_twoSides, .ref pr_waiting_r, .ref pr_waitingPlaces_r, .int pr_waitingCount])), (pe, .inl (cpe, 680, .inl gpe)), (bo, .inr (1, [.ref bob, .int bo_length])), (bob, .inl (cbob, 8192, .inl gbob)), (knt, .inl (cknt, 50, .inl gknt)), (knv, .inl (cknv, 50, .inr (.inl gknv))), (pp, .inl (cpp, 4100, .inl gpp)), (pz, .inl (cpz, 4100, .inl gpz)), (glt, .inl (cglt, 20, .inl gglt)), (kn, .inr (5, [.ref tr, .ref kns, .ref knz, .ref knt, .ref knv, .int kn_length])), (kns, .inl (ckns, 50, .inl gkns)), (knz, .inl (cknz, 50, .inl gknz))]) (w1 := [(gl, .inr (5, [.ref tr, .ref gls, .ref glz, .ref glt, .ref glv, .int gl_length])), (tr, .inr (1, [.ref tx, .int tr_length])), (tx, .inl (ctx, 2000, .inl gtx)), (gls, .inl (cgls, 20, .inl ggls)), (glz, .inl (cglz, 20, .inl gglz))]) hP hD [9, 14, 15, 10, 11] [0, 1, 2, 3, 4, 5, 6, 7, 8, 12, 13, 16, 17] rfl rfl (by decide) (by decide) hk1 hFc hP1 hD1
  clear hPc hDc hKc hFc hz1 hk1 hP1 hK1 hD1
  generalize H1 = H at hP hS ⊢
  have hP : va_P (dC, dI) cls [(h0, .inr (2, [.ref pr, .ref kn, .ref lt, .int h0_localCount, .ref pe, .int h0_pendingCount, .int h0_gives, .int h0_depth, .int h0_loopDepth, .ref to, .ref bo, .ref cs, .ref se])), (pr, .inr (6, [.ref gl, .ref fu, .ref pa, .ref pf, .ref sf, .ref pk, .ref pg, .ref pp, .ref pz, .ref pv, .int pr_reason, .int pr_place, .ref pr_scanner_r, .int pr_stepCount, .int pr_open, .int pr_twoSides, .ref pr_waiting_r, .ref pr_waitingPlaces_r, .int pr_waitingCount])), (pe, .inl (cpe, 680, .inl gpe)), (bo, .inr (1, [.ref bob, .int bo_length])), (bob, .inl (cbob, 8192, .inl gbob)), (knt, .inl (cknt, 50, .inl gknt)), (knv, .inl (cknv, 50, .inr (.inl gknv))), (pp, .inl (cpp, 4100, .inl gpp)), (pz, .inl (cpz, 4100, .inl gpz)), (glt, .inl (cglt, 20, .inl gglt)), (kn, .inr (5, [.ref tr, .ref kns, .ref knz, .ref knt, .ref knv, .int kn_length])), (kns, .inl (ckns, 50, .inl gkns)), (knz, .inl (cknz, 50, .inl gknz)), (gl, .inr (5, [.ref tr, .ref gls, .ref glz, .ref glt, .ref glv, .int gl_length])), (tr, .inr (1, [.ref tx, .int tr_length])), (tx, .inl (ctx, 2000, .inl gtx)), (gls, .inl (cgls, 20, .inl ggls)), (glz, .inl (cglz, 20, .inl gglz))] H := hP
  have hD : va_D A [(h0, .inr (2, [.ref pr, .ref kn, .ref lt, .int h0_localCount, .ref pe, .int h0_pendingCount, .int h0_gives, .int h0_depth, .int h0_loopDepth, .ref to, .ref bo, .ref cs, .ref se])), (pr, .inr (6, [.ref gl, .ref fu, .ref pa, .ref pf, .ref sf, .ref pk, .ref pg, .ref pp, .ref pz, .ref pv, .int pr_reason, .int pr_place, .ref pr_scanner_r, .int pr_stepCount, .int pr_open, .int pr_twoSides, .ref pr_waiting_r, .ref pr_waitingPlaces_r, .int pr_waitingCount])), (pe, .inl (cpe, 680, .inl gpe)), (bo, .inr (1, [.ref bob, .int bo_length])), (bob, .inl (cbob, 8192, .inl gbob)), (knt, .inl (cknt, 50, .inl gknt)), (knv, .inl (cknv, 50, .inr (.inl gknv))), (pp, .inl (cpp, 4100, .inl gpp)), (pz, .inl (cpz, 4100, .inl gpz)), (glt, .inl (cglt, 20, .inl gglt)), (kn, .inr (5, [.ref tr, .ref kns, .ref knz, .ref knt, .ref knv, .int kn_length])), (kns, .inl (ckns, 50, .inl gkns)), (knz, .inl (cknz, 50, .inl gknz)), (gl, .inr (5, [.ref tr, .ref gls, .ref glz, .ref glt, .ref glv, .int gl_length])), (tr, .inr (1, [.ref tx, .int tr_length])), (tx, .inl (ctx, 2000, .inl gtx)), (gls, .inl (cgls, 20, .inl ggls)), (glz, .inl (cglz, 20, .inl gglz))] := hD
  refine lv_istore (lv' := [(4, .int r5), (3, .int r3), (2, .int x1), (0, .ref h0), (1, .int p0)]) hx hb d_CO_codeAssign_48 hl (by decide) rfl (fun ls hl => ?_)
  refine lv_aload_n hx hb d_CO_codeAssign_50 rfl (lv_at hl 3 rfl) ?_
  have hPc := hP.sub (ws' := [(h0, .inr (2, [.ref pr, .ref kn, .ref lt, .int h0_localCount, .ref pe, .int h0_pendingCount, .int h0_gives, .int h0_depth, .int h0_loopDepth, .ref to, .ref bo, .ref cs, .ref se])), (pe, .inl (cpe, 680, .inl gpe))]) [0, 2] rfl
  have hDc := hD.sub (ws' := [(h0, .inr (2, [.ref pr, .ref kn, .ref lt, .int h0_localCount, .ref pe, .int h0_pendingCount, .int h0_gives, .int h0_depth, .int h0_loopDepth, .ref to, .ref bo, .ref cs, .ref se])), (pe, .inl (cpe, 680, .inl gpe))]) [0, 2] (by decide) rfl
  have hKc := hK.sub (tys' := [(cpe, .int)]) [0] rfl
  have hFc := va_free (wc := [(h0, .inr (2, [.ref pr, .ref kn, .ref lt, .int h0_localCount, .ref pe, .int h0_pendingCount, .int h0_gives, .int h0_depth, .int h0_loopDepth, .ref to, .ref bo, .ref cs, .ref se])), (pe, .inl (cpe, 680, .inl gpe))]) hD hS hA [0, 2] rfl
  refine va_calli (va_runV (As := []) (rest := []) ⟨hx, hb, hml, hown, hts⟩ (c_CO_pop l dC dI H.size h0 pr kn lt pe to bo cs se cpe h0_localCount h0_pendingCount h0_gives h0_depth h0_loopDepth gpe (b_h0_pendingCount) (by (try dsimp only) <;> omega)) (cwV 0 hts (gV kM_CO_224 kV_CO_pop kS_CO_pop kI_CO kC_CO_pop) rfl rfl rfl (by decide +kernel) ⟨Nat.le_of_ble_eq_true rfl, Nat.le_of_ble_eq_true rfl⟩) ⟨fun a U g mk z => by obtain ⟨z0, z1, zP, zK, zD⟩ := z; exact ⟨z0, z1, zP, va_K.moved (u := U) (U := U.calling g mk a) (Vm.Alike.refl U.vm) zK, zD⟩, va_recv hKc hPc (ci := 2) (q0 := 0) rfl rfl, fun U hU hW => ⟨rfl, by rw [hU], by rw [hU]; exact hPc, va_K.moved hW.alike hKc, hDc.weaken (fun _ _ _ _ => trivial)⟩⟩ rfl rfl hl.1 rfl (lv_room (Nat.le_of_ble_eq_true rfl)) d_CO_codeAssign_51 ⟨(Nat.zero_le _), (Nat.zero_le _)⟩) hS (fun q _ h => hFc q h) hFc (fun r6 u t H1 locs ht hvm hw hB hz1 hk1 hS => ?_)
  obtain ⟨n7, rfl⟩ : ∃ z, z = u := ⟨_, rfl⟩
  try dsimp only at hw
  obtain ⟨bn7, xr6⟩ := hw
  try clear hw
  obtain ⟨hP1, hK1, hD1⟩ := hB
  rw [ht] at hP1
  obtain ⟨hP, hD⟩ := va_join (wr := [(pr, .inr (6, [.ref gl, .ref fu, .ref pa, .ref pf, .ref sf, .ref pk, .ref pg, .ref pp, .ref pz, .ref pv, .int pr_reason, .int pr_place, .ref pr_scanner_r, .int pr_stepCount, .int pr_open, .int pr_twoSides, .ref pr_waiting_r, .ref pr_waitingPlaces_r, .int pr_waitingCount])), (bo, .inr (1, [.ref bob, .int bo_length])), (bob, .inl (cbob, 8192, .inl gbob)), (knt, .inl (cknt, 50, .inl gknt)), (knv, .inl (cknv, 50, .inr (.inl gknv))), (pp, .inl (cpp, 4100, .inl gpp)), (pz, .inl (cpz, 4100, .inl gpz)), (glt, .inl (cglt, 20, .inl gglt)), (kn, .inr (5, [.ref tr, .ref kns, .ref knz, .ref knt, .ref knv, .int kn_length])), (kns, .inl (ckns, 50, .inl gkns)), (knz, .inl (cknz, 50, .inl gknz)), (gl, .inr (5, [.ref tr, .ref gls, .ref glz, .ref glt, .ref glv, .int gl_length])), (tr, .inr (1, [.ref tx, .int tr_length])), (tx, .inl (ctx, 2000, .inl gtx)), (gls, .inl (cgls, 20, .inl ggls)), (glz, .inl (cglz, 20, .inl gglz))]) (w1 := [(h0, .inr (2, [.ref pr, .ref kn, .ref lt, .int h0_localCount, .ref pe, .int n7, .int h0_gives, .int h0_depth, .int h0_loopDepth, .ref to, .ref bo, .ref cs, .ref se])), (pe, .inl (cpe, 680, .inl gpe))]) hP hD [0, 2] [1, 3, 4, 5, 6, 7, 8, 9, 10, 11, 12, 13, 14, 15, 16, 17] rfl rfl (by decide) (by decide) hk1 hFc hP1 hD1
  clear hPc hDc hKc hFc hz1 hk1 hP1 hK1 hD1
  generalize H1 = H at hP hS ⊢
  have hP : va_P (dC, dI) cls [(pr, .inr (6, [.ref gl, .ref fu, .ref pa, .ref pf, .ref sf, .ref pk, .ref pg, .ref pp, .ref pz, .ref pv, .int pr_reason, .int pr_place, .ref pr_scanner_r, .int pr_stepCount, .int pr_open, .int pr_twoSides, .ref pr_waiting_r, .ref pr_waitingPlaces_r, .int pr_waitingCount])), (bo, .inr (1, [.ref bob, .int bo_length])), (bob, .inl (cbob, 8192, .inl gbob)), (knt, .inl (cknt, 50, .inl gknt)), (knv, .inl (cknv, 50, .inr (.inl gknv))), (pp, .inl (cpp, 4100, .inl gpp)), (pz, .inl (cpz, 4100, .inl gpz)), (glt, .inl (cglt, 20, .inl gglt)), (kn, .inr (5, [.ref tr, .ref kns, .ref knz, .ref knt, .ref knv, .int kn_length])), (kns, .inl (ckns, 50, .inl gkns)), (knz, .inl (cknz, 50, .inl gknz)), (gl, .inr (5, [.ref tr, .ref gls, .ref glz, .ref glt, .ref glv, .int gl_length])), (tr, .inr (1, [.ref tx, .int tr_length])), (tx, .inl (ctx, 2000, .inl gtx)), (gls, .inl (cgls, 20, .inl ggls)), (glz, .inl (cglz, 20, .inl gglz)), (h0, .inr (2, [.ref pr, .ref kn, .ref lt, .int h0_localCount, .ref pe, .int n7, .int h0_gives, .int h0_depth, .int h0_loopDepth, .ref to, .ref bo, .ref cs, .ref se])), (pe, .inl (cpe, 680, .inl gpe))] H := hP
  have hD : va_D A [(pr, .inr (6, [.ref gl, .ref fu, .ref pa, .ref pf, .ref sf, .ref pk, .ref pg, .ref pp, .ref pz, .ref pv, .int pr_reason, .int pr_place, .ref pr_scanner_r, .int pr_stepCount, .int pr_open, .int pr_twoSides, .ref pr_waiting_r, .ref pr_waitingPlaces_r, .int pr_waitingCount])), (bo, .inr (1, [.ref bob, .int bo_length])), (bob, .inl (cbob, 8192, .inl gbob)), (knt, .inl (cknt, 50, .inl gknt)), (knv, .inl (cknv, 50, .inr (.inl gknv))), (pp, .inl (cpp, 4100, .inl gpp)), (pz, .inl (cpz, 4100, .inl gpz)), (glt, .inl (cglt, 20, .inl gglt)), (kn, .inr (5, [.ref tr, .ref kns, .ref knz, .ref knt, .ref knv, .int kn_length])), (kns, .inl (ckns, 50, .inl gkns)), (knz, .inl (cknz, 50, .inl gknz)), (gl, .inr (5, [.ref tr, .ref gls, .ref glz, .ref glt, .ref glv, .int gl_length])), (tr, .inr (1, [.ref tx, .int tr_length])), (tx, .inl (ctx, 2000, .inl gtx)), (gls, .inl (cgls, 20, .inl ggls)), (glz, .inl (cglz, 20, .inl gglz)), (h0, .inr (2, [.ref pr, .ref kn, .ref lt, .int h0_localCount, .ref pe, .int n7, .int h0_gives, .int h0_depth, .int h0_loopDepth, .ref to, .ref bo, .ref cs, .ref se])), (pe, .inl (cpe, 680, .inl gpe))] := hD
  refine lv_istore (lv' := [(5, .int r6), (4, .int r5), (3, .int r3), (2, .int x1), (0, .ref h0), (1, .int p0)]) hx hb d_CO_codeAssign_54 hl (by decide) rfl (fun ls hl => ?_)
  refine lv_iload_n hx hb d_CO_codeAssign_56 rfl (lv_at hl 2 rfl) ?_
  refine w_cut (pc2 := 75) (σ := Unit) (fun u H locs ls => match u with | _ => (0 ≤ r3.toInt ∨ 0 ≤ r5.toInt) ∧ va_P (dC, dI) cls [(pr, .inr (6, [.ref gl, .ref fu, .ref pa, .ref pf, .ref sf, .ref pk, .ref pg, .ref pp, .ref pz, .ref pv, .int pr_reason, .int pr_place, .ref pr_scanner_r, .int pr_stepCount, .int pr_open, .int pr_twoSides, .ref pr_waiting_r, .ref pr_waitingPlaces_r, .int pr_waitingCount])), (bo, .inr (1, [.ref bob, .int bo_length])), (bob, .inl (cbob, 8192, .inl gbob)), (knt, .inl (cknt, 50, .inl gknt)), (knv, .inl (cknv, 50, .inr (.inl gknv))), (pp, .inl (cpp, 4100, .inl gpp)), (pz, .inl (cpz, 4100, .inl gpz)), (glt, .inl (cglt, 20, .inl gglt)), (kn, .inr (5, [.ref tr, .ref kns, .ref knz, .ref knt, .ref knv, .int kn_length])), (kns, .inl (ckns, 50, .inl gkns)), (knz, .inl (cknz, 50, .inl gknz)), (gl, .inr (5, [.ref tr, .ref gls, .ref glz, .ref glt, .ref glv, .int gl_length])), (tr, .inr (1, [.ref tx, .int tr_length])), (tx, .inl (ctx, 2000, .inl gtx)), (gls, .inl (cgls, 20, .inl ggls)), (glz, .inl (cglz, 20, .inl gglz)), (h0, .inr (2, [.ref pr, .ref kn, .ref lt, .int h0_localCount, .ref pe, .int n7, .int h0_gives, .int h0_depth, .int h0_loopDepth, .ref to, .ref bo, .ref cs, .ref se])), (pe, .inl (cpe, 680, .inl gpe))] H ∧ va_D A [(pr, .inr (6, [.ref gl, .ref fu, .ref pa, .ref pf, .ref sf, .ref pk, .ref pg, .ref pp, .ref pz, .ref pv, .int pr_reason, .int pr_place, .ref pr_scanner_r, .int pr_stepCount, .int pr_open, .int pr_twoSides, .ref pr_waiting_r, .ref pr_waitingPlaces_r, .int pr_waitingCount])), (bo, .inr (1, [.ref bob, .int bo_length])), (bob, .inl (cbob, 8192, .inl gbob)), (knt, .inl (cknt, 50, .inl gknt)), (knv, .inl (cknv, 50, .inr (.inl gknv))), (pp, .inl (cpp, 4100, .inl gpp)), (pz, .inl (cpz, 4100, .inl gpz)), (glt, .inl (cglt, 20, .inl gglt)), (kn, .inr (5, [.ref tr, .ref kns, .ref knz, .ref knt, .ref knv, .int kn_length])), (kns, .inl (ckns, 50, .inl gkns)), (knz, .inl (cknz, 50, .inl gknz)), (gl, .inr (5, [.ref tr, .ref gls, .ref glz, .ref glt, .ref glv, .int gl_length])), (tr, .inr (1, [.ref tx, .int tr_length])), (tx, .inl (ctx, 2000, .inl gtx)), (gls, .inl (cgls, 20, .inl ggls)), (glz, .inl (cglz, 20, .inl gglz)), (h0, .inr (2, [.ref pr, .ref kn, .ref lt, .int h0_localCount, .ref pe, .int n7, .int h0_gives, .int h0_depth, .int h0_loopDepth, .ref to, .ref bo, .ref cs, .ref se])), (pe, .inl (cpe, 680, .inl gpe))] ∧ va_S A s.heap H locs ∧ lv_has ls 6 [(0, .ref h0), (2, .int x1), (3, .int r3), (4, .int r5), (5, .int r6)]) (fun u => match u with | _ => []) ?_ (fun jn75 => ?_)
  · intro u H locs ls hI
    obtain ⟨y75, hP, hD, hS, hl⟩ := hI
    refine lv_iload hx hb d_CO_codeAssign_75 (lv_at hl 4 rfl) ?_
    refine lv_iload_n hx hb d_CO_codeAssign_77 rfl (lv_at hl 2 rfl) ?_
    refine w_cut (pc2 := 106) (σ := Int32) (fun u H locs ls => match u with | j106_s0 => (j106_s0.toInt = 127 ∨ j106_s0.toInt = 126) ∧ va_P (dC, dI) cls [(pr, .inr (6, [.ref gl, .ref fu, .ref pa, .ref pf, .ref sf, .ref pk, .ref pg, .ref pp, .ref pz, .ref pv, .int pr_reason, .int pr_place, .ref pr_scanner_r, .int pr_stepCount, .int pr_open, .int pr_twoSides, .ref pr_waiting_r, .ref pr_waitingPlaces_r, .int pr_waitingCount])), (bo, .inr (1, [.ref bob, .int bo_length])), (bob, .inl (cbob, 8192, .inl gbob)), (knt, .inl (cknt, 50, .inl gknt)), (knv, .inl (cknv, 50, .inr (.inl gknv))), (pp, .inl (cpp, 4100, .inl gpp)), (pz, .inl (cpz, 4100, .inl gpz)), (glt, .inl (cglt, 20, .inl gglt)), (kn, .inr (5, [.ref tr, .ref kns, .ref knz, .ref knt, .ref knv, .int kn_length])), (kns, .inl (ckns, 50, .inl gkns)), (knz, .inl (cknz, 50, .inl gknz)), (gl, .inr (5, [.ref tr, .ref gls, .ref glz, .ref glt, .ref glv, .int gl_length])), (tr, .inr (1, [.ref tx, .int tr_length])), (tx, .inl (ctx, 2000, .inl gtx)), (gls, .inl (cgls, 20, .inl ggls)), (glz, .inl (cglz, 20, .inl gglz)), (h0, .inr (2, [.ref pr, .ref kn, .ref lt, .int h0_localCount, .ref pe, .int n7, .int h0_gives, .int h0_depth, .int h0_loopDepth, .ref to, .ref bo, .ref cs, .ref se])), (pe, .inl (cpe, 680, .inl gpe))] H ∧ va_D A [(pr, .inr (6, [.ref gl, .ref fu, .ref pa, .ref pf, .ref sf, .ref pk, .ref pg, .ref pp, .ref pz, .ref pv, .int pr_reason, .int pr_place, .ref pr_scanner_r, .int pr_stepCount, .int pr_open, .int pr_twoSides, .ref pr_waiting_r, .ref pr_waitingPlaces_r, .int pr_waitingCount])), (bo, .inr (1, [.ref bob, .int bo_length])), (bob, .inl (cbob, 8192, .inl gbob)), (knt, .inl (cknt, 50, .inl gknt)), (knv, .inl (cknv, 50, .inr (.inl gknv))), (pp, .inl (cpp, 4100, .inl gpp)), (pz, .inl (cpz, 4100, .inl gpz)), (glt, .inl (cglt, 20, .inl gglt)), (kn, .inr (5, [.ref tr, .ref kns, .ref knz, .ref knt, .ref knv, .int kn_length])), (kns, .inl (ckns, 50, .inl gkns)), (knz, .inl (cknz, 50, .inl gknz)), (gl, .inr (5, [.ref tr, .ref gls, .ref glz, .ref glt, .ref glv, .int gl_length])), (tr, .inr (1, [.ref tx, .int tr_length])), (tx, .inl (ctx, 2000, .inl gtx)), (gls, .inl (cgls, 20, .inl ggls)), (glz, .inl (cglz, 20, .inl gglz)), (h0, .inr (2, [.ref pr, .ref kn, .ref lt, .int h0_localCount, .ref pe, .int n7, .int h0_gives, .int h0_depth, .int h0_loopDepth, .ref to, .ref bo, .ref cs, .ref se])), (pe, .inl (cpe, 680, .inl gpe))] ∧ va_S A s.heap H locs ∧ lv_has ls 6 [(0, .ref h0), (2, .int x1), (3, .int r3), (4, .int r5)]) (fun u => match u with | j106_s0 => [.int j106_s0, .int r6]) ?_ (fun jn106 => ?_)
    · intro u H locs ls hI
      obtain ⟨j106_s0, rfl⟩ : ∃ z, z = u := ⟨_, rfl⟩
      obtain ⟨y106, hP, hD, hS, hl⟩ := hI
      refine lv_icmp_eq (tgt := 118) hx hb d_CO_codeAssign_106 (by decide) (fun c106 => ?_) (fun c106 => ?_)
      · have q106 := eqI c106
        refine lv_aload_n hx hb d_CO_codeAssign_118 rfl (lv_at hl 0 rfl) ?_
        refine va_get (D := (dC, dI)) (ci := 2) (v := .ref bo) (C := R_CO) (T := F_CO) (N := 13) hx hb hts i_CO hown hK hP 16 rfl rfl 10 (by decide) (hts _ kF_CO_26) (fun _ h9 => h9) rfl d_CO_codeAssign_119 ?_
        refine lv_iload_n hx hb d_CO_codeAssign_122 rfl (lv_at hl 2 rfl) ?_
        refine w_cut (pc2 := 133) (σ := Int32) (fun u H locs ls => match u with | j133_s0 => ((0 ≤ r3.toInt ∧ j133_s0.toInt = 33) ∨ (r3.toInt < 0 ∧ j133_s0.toInt = 36)) ∧ va_P (dC, dI) cls [(pr, .inr (6, [.ref gl, .ref fu, .ref pa, .ref pf, .ref sf, .ref pk, .ref pg, .ref pp, .ref pz, .ref pv, .int pr_reason, .int pr_place, .ref pr_scanner_r, .int pr_stepCount, .int pr_open, .int pr_twoSides, .ref pr_waiting_r, .ref pr_waitingPlaces_r, .int pr_waitingCount])), (bo, .inr (1, [.ref bob, .int bo_length])), (bob, .inl (cbob, 8192, .inl gbob)), (knt, .inl (cknt, 50, .inl gknt)), (knv, .inl (cknv, 50, .inr (.inl gknv))), (pp, .inl (cpp, 4100, .inl gpp)), (pz, .inl (cpz, 4100, .inl gpz)), (glt, .inl (cglt, 20, .inl gglt)), (kn, .inr (5, [.ref tr, .ref kns, .ref knz, .ref knt, .ref knv, .int kn_length])), (kns, .inl (ckns, 50, .inl gkns)), (knz, .inl (cknz, 50, .inl gknz)), (gl, .inr (5, [.ref tr, .ref gls, .ref glz, .ref glt, .ref glv, .int gl_length])), (tr, .inr (1, [.ref tx, .int tr_length])), (tx, .inl (ctx, 2000, .inl gtx)), (gls, .inl (cgls, 20, .inl ggls)), (glz, .inl (cglz, 20, .inl gglz)), (h0, .inr (2, [.ref pr, .ref kn, .ref lt, .int h0_localCount, .ref pe, .int n7, .int h0_gives, .int h0_depth, .int h0_loopDepth, .ref to, .ref bo, .ref cs, .ref se])), (pe, .inl (cpe, 680, .inl gpe))] H ∧ va_D A [(pr, .inr (6, [.ref gl, .ref fu, .ref pa, .ref pf, .ref sf, .ref pk, .ref pg, .ref pp, .ref pz, .ref pv, .int pr_reason, .int pr_place, .ref pr_scanner_r, .int pr_stepCount, .int pr_open, .int pr_twoSides, .ref pr_waiting_r, .ref pr_waitingPlaces_r, .int pr_waitingCount])), (bo, .inr (1, [.ref bob, .int bo_length])), (bob, .inl (cbob, 8192, .inl gbob)), (knt, .inl (cknt, 50, .inl gknt)), (knv, .inl (cknv, 50, .inr (.inl gknv))), (pp, .inl (cpp, 4100, .inl gpp)), (pz, .inl (cpz, 4100, .inl gpz)), (glt, .inl (cglt, 20, .inl gglt)), (kn, .inr (5, [.ref tr, .ref kns, .ref knz, .ref knt, .ref knv, .int kn_length])), (kns, .inl (ckns, 50, .inl gkns)), (knz, .inl (cknz, 50, .inl gknz)), (gl, .inr (5, [.ref tr, .ref gls, .ref glz, .ref glt, .ref glv, .int gl_length])), (tr, .inr (1, [.ref tx, .int tr_length])), (tx, .inl (ctx, 2000, .inl gtx)), (gls, .inl (cgls, 20, .inl ggls)), (glz, .inl (cglz, 20, .inl gglz)), (h0, .inr (2, [.ref pr, .ref kn, .ref lt, .int h0_localCount, .ref pe, .int n7, .int h0_gives, .int h0_depth, .int h0_loopDepth, .ref to, .ref bo, .ref cs, .ref se])), (pe, .inl (cpe, 680, .inl gpe))] ∧ va_S A s.heap H locs ∧ lv_has ls 6 [(0, .ref h0), (3, .int r3), (4, .int r5)]) (fun u => match u with | j133_s0 => [.int j133_s0, .ref bo]) ?_ (fun jn133 => ?_)
        · intro u H locs ls hI
          obtain ⟨j133_s0, rfl⟩ : ∃ z, z = u := ⟨_, rfl⟩
          obtain ⟨y133, hP, hD, hS, hl⟩ := hI
          have hPc := hP.sub (ws' := [(bo, .inr (1, [.ref bob, .int bo_length])), (bob, .inl (cbob, 8192, .inl gbob))]) [1, 2] rfl
          have hDc := hD.sub (ws' := [(bo, .inr (1, [.ref bob, .int bo_length])), (bob, .inl (cbob, 8192, .inl gbob))]) [1, 2] (by decide) rfl
          have hKc := hK.sub (tys' := [(cbob, .byte)]) [1] rfl
          have hFc := va_free (wc := [(bo, .inr (1, [.ref bob, .int bo_length])), (bob, .inl (cbob, 8192, .inl gbob))]) hD hS hA [1, 2] rfl
          refine va_callv (va_runV (As := [.int j133_s0]) (rest := []) ⟨hx, hb, hml, hown, hts⟩ (c_BR_put l dC dI bo bob H.size cbob 8192 bo_length gbob (by omega) (by omega) (by omega) j133_s0) (cwV 1 hts (gV kM_CO_76 kV_BR_put kS_BR_put kI_BR kC_BR_put) rfl rfl rfl (by decide +kernel) ⟨Nat.le_of_ble_eq_true rfl, Nat.le_of_ble_eq_true rfl⟩) ⟨fun a U g mk z => by obtain ⟨z0, z1, zP, zK, zD⟩ := z; exact ⟨z0, z1, zP, va_K.moved (u := U) (U := U.calling g mk a) (Vm.Alike.refl U.vm) zK, zD⟩, va_recv hKc hPc (ci := 1) (q0 := 0) rfl rfl, fun U hU hW => ⟨rfl, by rw [hU], by rw [hU]; exact hPc, va_K.moved hW.alike hKc, hDc.weaken (fun _ _ _ _ => trivial)⟩⟩ rfl rfl hl.1 rfl (lv_room (Nat.le_of_ble_eq_true rfl)) d_CO_codeAssign_133 ⟨(Nat.zero_le _), (Nat.zero_le _)⟩) hS (fun q _ h => hFc q h) hFc (fun u t H1 locs ht hvm hw hB hz1 hk1 hS => ?_)
          obtain ⟨n9, f10⟩ := u
          try dsimp only at hw
          have tn9 := br_put_in (by omega) (by omega) (by omega) hw
          have bn9 := br_put_bl (by omega) (by omega) (by omega) hw
          obtain ⟨hP1, hK1, hD1⟩ := hB
          rw [ht] at hP1
          obtain ⟨hP, hD⟩ := va_join (wr := [(pr, .inr (6, [.ref gl, .ref fu, .ref pa, .ref pf, .ref sf, .ref pk, .ref pg, .ref pp, .ref pz, .ref pv, .int pr_reason, .int pr_place, .ref pr_scanner_r, .int pr_stepCount, .int pr_open, .int pr_twoSides, .ref pr_waiting_r, .ref pr_waitingPlaces_r, .int pr_waitingCount])), (knt, .inl (cknt, 50, .inl gknt)), (knv, .inl (cknv, 50, .inr (.inl gknv))), (pp, .inl (cpp, 4100, .inl gpp)), (pz, .inl (cpz, 4100, .inl gpz)), (glt, .inl (cglt, 20, .inl gglt)), (kn, .inr (5, [.ref tr, .ref kns, .ref knz, .ref knt, .ref knv, .int kn_length])), (kns, .inl (ckns, 50, .inl gkns)), (knz, .inl (cknz, 50, .inl gknz)), (gl, .inr (5, [.ref tr, .ref gls, .ref glz, .ref glt, .ref glv, .int gl_length])), (tr, .inr (1, [.ref tx, .int tr_length])), (tx, .inl (ctx, 2000, .inl gtx)), (gls, .inl (cgls, 20, .inl ggls)), (glz, .inl (cglz, 20, .inl gglz)), (h0, .inr (2, [.ref pr, .ref kn, .ref lt, .int h0_localCount, .ref pe, .int n7, .int h0_gives, .int h0_depth, .int h0_loopDepth, .ref to, .ref bo, .ref cs, .ref se])), (pe, .inl (cpe, 680, .inl gpe))]) (w1 := [(bo, .inr (1, [.ref bob, .int n9])), (bob, .inl (cbob, 8192, .inl f10))]) hP hD [1, 2] [0, 3, 4, 5, 6, 7, 8, 9, 10, 11, 12, 13, 14, 15, 16, 17] rfl rfl (by decide) (by decide) hk1 hFc hP1 hD1
          clear hPc hDc hKc hFc hz1 hk1 hP1 hK1 hD1
          generalize H1 = H at hP hS ⊢
          have hP : va_P (dC, dI) cls [(pr, .inr (6, [.ref gl, .ref fu, .ref pa, .ref pf, .ref sf, .ref pk, .ref pg, .ref pp, .ref pz, .ref pv, .int pr_reason, .int pr_place, .ref pr_scanner_r, .int pr_stepCount, .int pr_open, .int pr_twoSides, .ref pr_waiting_r, .ref pr_waitingPlaces_r, .int pr_waitingCount])), (knt, .inl (cknt, 50, .inl gknt)), (knv, .inl (cknv, 50, .inr (.inl gknv))), (pp, .inl (cpp, 4100, .inl gpp)), (pz, .inl (cpz, 4100, .inl gpz)), (glt, .inl (cglt, 20, .inl gglt)), (kn, .inr (5, [.ref tr, .ref kns, .ref knz, .ref knt, .ref knv, .int kn_length])), (kns, .inl (ckns, 50, .inl gkns)), (knz, .inl (cknz, 50, .inl gknz)), (gl, .inr (5, [.ref tr, .ref gls, .ref glz, .ref glt, .ref glv, .int gl_length])), (tr, .inr (1, [.ref tx, .int tr_length])), (tx, .inl (ctx, 2000, .inl gtx)), (gls, .inl (cgls, 20, .inl ggls)), (glz, .inl (cglz, 20, .inl gglz)), (h0, .inr (2, [.ref pr, .ref kn, .ref lt, .int h0_localCount, .ref pe, .int n7, .int h0_gives, .int h0_depth, .int h0_loopDepth, .ref to, .ref bo, .ref cs, .ref se])), (pe, .inl (cpe, 680, .inl gpe)), (bo, .inr (1, [.ref bob, .int n9])), (bob, .inl (cbob, 8192, .inl f10))] H := hP
          have hD : va_D A [(pr, .inr (6, [.ref gl, .ref fu, .ref pa, .ref pf, .ref sf, .ref pk, .ref pg, .ref pp, .ref pz, .ref pv, .int pr_reason, .int pr_place, .ref pr_scanner_r, .int pr_stepCount, .int pr_open, .int pr_twoSides, .ref pr_waiting_r, .ref pr_waitingPlaces_r, .int pr_waitingCount])), (knt, .inl (cknt, 50, .inl gknt)), (knv, .inl (cknv, 50, .inr (.inl gknv))), (pp, .inl (cpp, 4100, .inl gpp)), (pz, .inl (cpz, 4100, .inl gpz)), (glt, .inl (cglt, 20, .inl gglt)), (kn, .inr (5, [.ref tr, .ref kns, .ref knz, .ref knt, .ref knv, .int kn_length])), (kns, .inl (ckns, 50, .inl gkns)), (knz, .inl (cknz, 50, .inl gknz)), (gl, .inr (5, [.ref tr, .ref gls, .ref glz, .ref glt, .ref glv, .int gl_length])), (tr, .inr (1, [.ref tx, .int tr_length])), (tx, .inl (ctx, 2000, .inl gtx)), (gls, .inl (cgls, 20, .inl ggls)), (glz, .inl (cglz, 20, .inl gglz)), (h0, .inr (2, [.ref pr, .ref kn, .ref lt, .int h0_localCount, .ref pe, .int n7, .int h0_gives, .int h0_depth, .int h0_loopDepth, .ref to, .ref bo, .ref cs, .ref se])), (pe, .inl (cpe, 680, .inl gpe)), (bo, .inr (1, [.ref bob, .int n9])), (bob, .inl (cbob, 8192, .inl f10))] := hD
          refine lv_aload_n hx hb d_CO_codeAssign_136 rfl (lv_at hl 0 rfl) ?_
          refine va_get (D := (dC, dI)) (ci := 2) (v := .ref bo) (C := R_CO) (T := F_CO) (N := 13) hx hb hts i_CO hown hK hP 14 rfl rfl 10 (by decide) (hts _ kF_CO_26) (fun _ h9 => h9) rfl d_CO_codeAssign_137 ?_
          refine lv_iload_n hx hb d_CO_codeAssign_140 rfl (lv_at hl 1 rfl) ?_
          refine w_cut (pc2 := 159) (σ := Int32) (fun u H locs ls => match u with | j159_s0 => ((0 ≤ r3.toInt ∧ 0 ≤ j159_s0.toInt ∧ j159_s0.toInt < h0_localCount.toInt) ∨ (r3.toInt < 0 ∧ 0 ≤ j159_s0.toInt ∧ j159_s0.toInt < gl_length.toInt)) ∧ va_P (dC, dI) cls [(pr, .inr (6, [.ref gl, .ref fu, .ref pa, .ref pf, .ref sf, .ref pk, .ref pg, .ref pp, .ref pz, .ref pv, .int pr_reason, .int pr_place, .ref pr_scanner_r, .int pr_stepCount, .int pr_open, .int pr_twoSides, .ref pr_waiting_r, .ref pr_waitingPlaces_r, .int pr_waitingCount])), (knt, .inl (cknt, 50, .inl gknt)), (knv, .inl (cknv, 50, .inr (.inl gknv))), (pp, .inl (cpp, 4100, .inl gpp)), (pz, .inl (cpz, 4100, .inl gpz)), (glt, .inl (cglt, 20, .inl gglt)), (kn, .inr (5, [.ref tr, .ref kns, .ref knz, .ref knt, .ref knv, .int kn_length])), (kns, .inl (ckns, 50, .inl gkns)), (knz, .inl (cknz, 50, .inl gknz)), (gl, .inr (5, [.ref tr, .ref gls, .ref glz, .ref glt, .ref glv, .int gl_length])), (tr, .inr (1, [.ref tx, .int tr_length])), (tx, .inl (ctx, 2000, .inl gtx)), (gls, .inl (cgls, 20, .inl ggls)), (glz, .inl (cglz, 20, .inl gglz)), (h0, .inr (2, [.ref pr, .ref kn, .ref lt, .int h0_localCount, .ref pe, .int n7, .int h0_gives, .int h0_depth, .int h0_loopDepth, .ref to, .ref bo, .ref cs, .ref se])), (pe, .inl (cpe, 680, .inl gpe)), (bo, .inr (1, [.ref bob, .int n9])), (bob, .inl (cbob, 8192, .inl f10))] H ∧ va_D A [(pr, .inr (6, [.ref gl, .ref fu, .ref pa, .ref pf, .ref sf, .ref pk, .ref pg, .ref pp, .ref pz, .ref pv, .int pr_reason, .int pr_place, .ref pr_scanner_r, .int pr_stepCount, .int pr_open, .int pr_twoSides, .ref pr_waiting_r, .ref pr_waitingPlaces_r, .int pr_waitingCount])), (knt, .inl (cknt, 50, .inl gknt)), (knv, .inl (cknv, 50, .inr (.inl gknv))), (pp, .inl (cpp, 4100, .inl gpp)), (pz, .inl (cpz, 4100, .inl gpz)), (glt, .inl (cglt, 20, .inl gglt)), (kn, .inr (5, [.ref tr, .ref kns, .ref knz, .ref knt, .ref knv, .int kn_length])), (kns, .inl (ckns, 50, .inl gkns)), (knz, .inl (cknz, 50, .inl gknz)), (gl, .inr (5, [.ref tr, .ref gls, .ref glz, .ref glt, .ref glv, .int gl_length])), (tr, .inr (1, [.ref tx, .int tr_length])), (tx, .inl (ctx, 2000, .inl gtx)), (gls, .inl (cgls, 20, .inl ggls)), (glz, .inl (cglz, 20, .inl gglz)), (h0, .inr (2, [.ref pr, .ref kn, .ref lt, .int h0_localCount, .ref pe, .int n7, .int h0_gives, .int h0_depth, .int h0_loopDepth, .ref to, .ref bo, .ref cs, .ref se])), (pe, .inl (cpe, 680, .inl gpe)), (bo, .inr (1, [.ref bob, .int n9])), (bob, .inl (cbob, 8192, .inl f10))] ∧ va_S A s.heap H locs ∧ lv_has ls 6 []) (fun u => match u with | j159_s0 => [.int j159_s0, .ref bo]) ?_ (fun jn159 => ?_)
          · intro u H locs ls hI
            obtain ⟨j159_s0, rfl⟩ : ∃ z, z = u := ⟨_, rfl⟩
            obtain ⟨y159, hP, hD, hS, hl⟩ := hI
            have hPc := hP.sub (ws' := [(bo, .inr (1, [.ref bob, .int n9])), (bob, .inl (cbob, 8192, .inl f10))]) [16, 17] rfl
            have hDc := hD.sub (ws' := [(bo, .inr (1, [.ref bob, .int n9])), (bob, .inl (cbob, 8192, .inl f10))]) [16, 17] (by decide) rfl
            have hKc := hK.sub (tys' := [(cbob, .byte)]) [1] rfl
            have hFc := va_free (wc := [(bo, .inr (1, [.ref bob, .int n9])), (bob, .inl (cbob, 8192, .inl f10))]) hD hS hA [16, 17] rfl
            refine va_callv (va_runV (As := [.int j159_s0]) (rest := []) ⟨hx, hb, hml, hown, hts⟩ (c_BR_putUnsigned l dC dI bo bob H.size cbob 8192 n9 f10 (by omega) (by omega) (by omega) j159_s0 (by omega)) (cwV 1 hts (gV kM_CO_218 kV_BR_putUnsigned kS_BR_putUnsigned kI_BR kC_BR_putUnsigned) rfl rfl rfl (by decide +kernel) ⟨Nat.le_of_ble_eq_true rfl, Nat.le_of_ble_eq_true rfl⟩) ⟨fun a U g mk z => by obtain ⟨z0, z1, zP, zK, zD⟩ := z; exact ⟨z0, z1, zP, va_K.moved (u := U) (U := U.calling g mk a) (Vm.Alike.refl U.vm) zK, zD⟩, va_recv hKc hPc (ci := 1) (q0 := 0) rfl rfl, fun U hU hW => ⟨rfl, by rw [hU], by rw [hU]; exact hPc, va_K.moved hW.alike hKc, hDc.weaken (fun _ _ _ _ => trivial)⟩⟩ rfl rfl hl.1 rfl (lv_room (Nat.le_of_ble_eq_true rfl)) d_CO_codeAssign_159 ⟨(Nat.zero_le _), (Nat.zero_le _)⟩) hS (fun q _ h => hFc q h) hFc (fun u t H1 locs ht hvm hw hB hz1 hk1 hS => ?_)
            obtain ⟨n12, f13⟩ := u
            try dsimp only at hw
            obtain ⟨tn12, bn12⟩ := hw
            have ln12 := leb_len 5 (un j159_s0)
            obtain ⟨hP1, hK1, hD1⟩ := hB
            rw [ht] at hP1
            obtain ⟨hP, hD⟩ := va_join (wr := [(pr, .inr (6, [.ref gl, .ref fu, .ref pa, .ref pf, .ref sf, .ref pk, .ref pg, .ref pp, .ref pz, .ref pv, .int pr_reason, .int pr_place, .ref pr_scanner_r, .int pr_stepCount, .int pr_open, .int pr_twoSides, .ref pr_waiting_r, .ref pr_waitingPlaces_r, .int pr_waitingCount])), (knt, .inl (cknt, 50, .inl gknt)), (knv, .inl (cknv, 50, .inr (.inl gknv))), (pp, .inl (cpp, 4100, .inl gpp)), (pz, .inl (cpz, 4100, .inl gpz)), (glt, .inl (cglt, 20, .inl gglt)), (kn, .inr (5, [.ref tr, .ref kns, .ref knz, .ref knt, .ref knv, .int kn_length])), (kns, .inl (ckns, 50, .inl gkns)), (knz, .inl (cknz, 50, .inl gknz)), (gl, .inr (5, [.ref tr, .ref gls, .ref glz, .ref glt, .ref glv, .int gl_length])), (tr, .inr (1, [.ref tx, .int tr_length])), (tx, .inl (ctx, 2000, .inl gtx)), (gls, .inl (cgls, 20, .inl ggls)), (glz, .inl (cglz, 20, .inl gglz)), (h0, .inr (2, [.ref pr, .ref kn, .ref lt, .int h0_localCount, .ref pe, .int n7, .int h0_gives, .int h0_depth, .int h0_loopDepth, .ref to, .ref bo, .ref cs, .ref se])), (pe, .inl (cpe, 680, .inl gpe))]) (w1 := [(bo, .inr (1, [.ref bob, .int n12])), (bob, .inl (cbob, 8192, .inl f13))]) hP hD [16, 17] [0, 1, 2, 3, 4, 5, 6, 7, 8, 9, 10, 11, 12, 13, 14, 15] rfl rfl (by decide) (by decide) hk1 hFc hP1 hD1
            clear hPc hDc hKc hFc hz1 hk1 hP1 hK1 hD1
            generalize H1 = H at hP hS ⊢
            have hP : va_P (dC, dI) cls [(pr, .inr (6, [.ref gl, .ref fu, .ref pa, .ref pf, .ref sf, .ref pk, .ref pg, .ref pp, .ref pz, .ref pv, .int pr_reason, .int pr_place, .ref pr_scanner_r, .int pr_stepCount, .int pr_open, .int pr_twoSides, .ref pr_waiting_r, .ref pr_waitingPlaces_r, .int pr_waitingCount])), (knt, .inl (cknt, 50, .inl gknt)), (knv, .inl (cknv, 50, .inr (.inl gknv))), (pp, .inl (cpp, 4100, .inl gpp)), (pz, .inl (cpz, 4100, .inl gpz)), (glt, .inl (cglt, 20, .inl gglt)), (kn, .inr (5, [.ref tr, .ref kns, .ref knz, .ref knt, .ref knv, .int kn_length])), (kns, .inl (ckns, 50, .inl gkns)), (knz, .inl (cknz, 50, .inl gknz)), (gl, .inr (5, [.ref tr, .ref gls, .ref glz, .ref glt, .ref glv, .int gl_length])), (tr, .inr (1, [.ref tx, .int tr_length])), (tx, .inl (ctx, 2000, .inl gtx)), (gls, .inl (cgls, 20, .inl ggls)), (glz, .inl (cglz, 20, .inl gglz)), (h0, .inr (2, [.ref pr, .ref kn, .ref lt, .int h0_localCount, .ref pe, .int n7, .int h0_gives, .int h0_depth, .int h0_loopDepth, .ref to, .ref bo, .ref cs, .ref se])), (pe, .inl (cpe, 680, .inl gpe)), (bo, .inr (1, [.ref bob, .int n12])), (bob, .inl (cbob, 8192, .inl f13))] H := hP
            have hD : va_D A [(pr, .inr (6, [.ref gl, .ref fu, .ref pa, .ref pf, .ref sf, .ref pk, .ref pg, .ref pp, .ref pz, .ref pv, .int pr_reason, .int pr_place, .ref pr_scanner_r, .int pr_stepCount, .int pr_open, .int pr_twoSides, .ref pr_waiting_r, .ref pr_waitingPlaces_r, .int pr_waitingCount])), (knt, .inl (cknt, 50, .inl gknt)), (knv, .inl (cknv, 50, .inr (.inl gknv))), (pp, .inl (cpp, 4100, .inl gpp)), (pz, .inl (cpz, 4100, .inl gpz)), (glt, .inl (cglt, 20, .inl gglt)), (kn, .inr (5, [.ref tr, .ref kns, .ref knz, .ref knt, .ref knv, .int kn_length])), (kns, .inl (ckns, 50, .inl gkns)), (knz, .inl (cknz, 50, .inl gknz)), (gl, .inr (5, [.ref tr, .ref gls, .ref glz, .ref glt, .ref glv, .int gl_length])), (tr, .inr (1, [.ref tx, .int tr_length])), (tx, .inl (ctx, 2000, .inl gtx)), (gls, .inl (cgls, 20, .inl ggls)), (glz, .inl (cglz, 20, .inl gglz)), (h0, .inr (2, [.ref pr, .ref kn, .ref lt, .int h0_localCount, .ref pe, .int n7, .int h0_gives, .int h0_depth, .int h0_loopDepth, .ref to, .ref bo, .ref cs, .ref se])), (pe, .inl (cpe, 680, .inl gpe)), (bo, .inr (1, [.ref bob, .int n12])), (bob, .inl (cbob, 8192, .inl f13))] := hD
            have hP9 := hP.sub (ws' := [(h0, .inr (2, [.ref pr, .ref kn, .ref lt, .int h0_localCount, .ref pe, .int n7, .int h0_gives, .int h0_depth, .int h0_loopDepth, .ref to, .ref bo, .ref cs, .ref se])), (pr, .inr (6, [.ref gl, .ref fu, .ref pa, .ref pf, .ref sf, .ref pk, .ref pg, .ref pp, .ref pz, .ref pv, .int pr_reason, .int pr_place, .ref pr_scanner_r, .int pr_stepCount, .int pr_open, .int pr_twoSides, .ref pr_waiting_r, .ref pr_waitingPlaces_r, .int pr_waitingCount])), (pe, .inl (cpe, 680, .inl gpe)), (bo, .inr (1, [.ref bob, .int n12])), (bob, .inl (cbob, 8192, .inl f13)), (kn, .inr (5, [.ref tr, .ref kns, .ref knz, .ref knt, .ref knv, .int kn_length])), (kns, .inl (ckns, 50, .inl gkns)), (knz, .inl (cknz, 50, .inl gknz)), (knt, .inl (cknt, 50, .inl gknt)), (knv, .inl (cknv, 50, .inr (.inl gknv))), (tr, .inr (1, [.ref tx, .int tr_length])), (tx, .inl (ctx, 2000, .inl gtx)), (pp, .inl (cpp, 4100, .inl gpp)), (pz, .inl (cpz, 4100, .inl gpz)), (gl, .inr (5, [.ref tr, .ref gls, .ref glz, .ref glt, .ref glv, .int gl_length])), (gls, .inl (cgls, 20, .inl ggls)), (glz, .inl (cglz, 20, .inl gglz)), (glt, .inl (cglt, 20, .inl gglt))]) [14, 0, 15, 16, 17, 6, 7, 8, 1, 2, 10, 11, 3, 4, 9, 12, 13, 5] rfl
            have hD9 := hD.sub (ws' := [(h0, .inr (2, [.ref pr, .ref kn, .ref lt, .int h0_localCount, .ref pe, .int n7, .int h0_gives, .int h0_depth, .int h0_loopDepth, .ref to, .ref bo, .ref cs, .ref se])), (pr, .inr (6, [.ref gl, .ref fu, .ref pa, .ref pf, .ref sf, .ref pk, .ref pg, .ref pp, .ref pz, .ref pv, .int pr_reason, .int pr_place, .ref pr_scanner_r, .int pr_stepCount, .int pr_open, .int pr_twoSides, .ref pr_waiting_r, .ref pr_waitingPlaces_r, .int pr_waitingCount])), (pe, .inl (cpe, 680, .inl gpe)), (bo, .inr (1, [.ref bob, .int n12])), (bob, .inl (cbob, 8192, .inl f13)), (kn, .inr (5, [.ref tr, .ref kns, .ref knz, .ref knt, .ref knv, .int kn_length])), (kns, .inl (ckns, 50, .inl gkns)), (knz, .inl (cknz, 50, .inl gknz)), (knt, .inl (cknt, 50, .inl gknt)), (knv, .inl (cknv, 50, .inr (.inl gknv))), (tr, .inr (1, [.ref tx, .int tr_length])), (tx, .inl (ctx, 2000, .inl gtx)), (pp, .inl (cpp, 4100, .inl gpp)), (pz, .inl (cpz, 4100, .inl gpz)), (gl, .inr (5, [.ref tr, .ref gls, .ref glz, .ref glt, .ref glv, .int gl_length])), (gls, .inl (cgls, 20, .inl ggls)), (glz, .inl (cglz, 20, .inl gglz)), (glt, .inl (cglt, 20, .inl gglt))]) [14, 0, 15, 16, 17, 6, 7, 8, 1, 2, 10, 11, 3, 4, 9, 12, 13, 5] (by decide) rfl
            exact tz_up (fun _ => rfl) (W.vret hx hb hr (fun t ht hW => ⟨⟨(f13, n12, n7, pr_place, pr_reason), ⟨rfl, ⟨by (try dsimp only) <;> omega, bn7, ⟨by (try dsimp only) <;> omega, by rw [show (h0_pendingCount.toInt - 1).toNat = n7.toNatClampNeg from by have := i32_clamp (x := n7) (by omega); omega, ← xr6.2]; omega, j133_s0.toInt, j159_s0.toInt, by omega, by have := congrArg List.length (leb_s (x := j159_s0) (by omega) (by omega)); rw [List.length_singleton] at this; (try dsimp only) <;> omega, by (try dsimp only); rw [bn12, bn9 (by omega), leb_s (by omega) (by omega), List.append_assoc, bn_s (by omega) (by omega)]; rfl⟩⟩⟩, by rw [ht]; exact hP9, va_K.moved hW.alike hK, hD9⟩, hS.F ht⟩) hS.2.2 d_CO_codeAssign_162)
          · skip
            refine lv_if_lt (tgt := 157) hx hb d_CO_codeAssign_141 (by decide) (fun c141 => ?_) (fun c141 => ?_)
            · have q141 := ltI c141
              refine lv_iload hx hb d_CO_codeAssign_157 (lv_at hl 2 rfl) ?_
              exact jn159 r5 _ _ _ ⟨by (try dsimp only) <;> omega, hP, hD, hS, lv_sub hl [] rfl⟩
            · have q141 := nltI c141
              refine lv_aload_n hx hb d_CO_codeAssign_144 rfl (lv_at hl 0 rfl) ?_
              refine va_get (D := (dC, dI)) (ci := 2) (v := .ref kn) (C := R_CO) (T := F_CO) (N := 13) hx hb hts i_CO hown hK hP 14 rfl rfl 1 (by decide) (hts _ kF_CO_54) (fun _ h9 => h9) rfl d_CO_codeAssign_145 ?_
              refine va_get (D := (dC, dI)) (ci := 5) (v := .ref knv) (C := R_NA) (T := F_NA) (N := 6) hx hb hts i_NA hown hK hP 6 rfl rfl 4 (by decide) (hts _ kF_CO_217) (fun _ h9 => h9) rfl d_CO_codeAssign_148 ?_
              refine lv_iload_n hx hb d_CO_codeAssign_151 rfl (lv_at hl 1 rfl) ?_
              have g152 : vp_in r3 50 := vp_in_iff.mpr ⟨by omega, by omega⟩
              refine va_lald hx hb hK hP 2 5 rfl rfl g152 d_CO_codeAssign_152 ?_
              refine lv_topl (fun x14 ex14 => ?_)
              have wx14 := (hkq r3.toNatClampNeg (by have := i32_clamp (x := r3) (by omega); omega)).2
              rw [← ex14] at wx14
              refine lv_l2i hx hb d_CO_codeAssign_153 rfl ?_
              refine lv_topi (fun x15 ex15 => ?_)
              have tx15 := l2i_t ex15 (by omega) (by omega)
              refine lv_goto (tgt := 159) hx hb d_CO_codeAssign_154 (by decide) ?_
              exact jn159 x15 _ _ _ ⟨by (try dsimp only) <;> omega, hP, hD, hS, lv_sub hl [] rfl⟩
        · skip
          refine lv_if_lt (tgt := 131) hx hb d_CO_codeAssign_123 (by decide) (fun c123 => ?_) (fun c123 => ?_)
          · have q123 := ltI c123
            refine lv_bipush (v := 36) hx hb d_CO_codeAssign_131 (by decide) ?_
            exact jn133 36 _ _ _ ⟨by (try dsimp only) <;> omega, hP, hD, hS, lv_sub hl [0, 2, 3] rfl⟩
          · have q123 := nltI c123
            refine lv_bipush (v := 33) hx hb d_CO_codeAssign_126 (by decide) ?_
            refine lv_goto (tgt := 133) hx hb d_CO_codeAssign_128 (by decide) ?_
            exact jn133 33 _ _ _ ⟨by (try dsimp only) <;> omega, hP, hD, hS, lv_sub hl [0, 2, 3] rfl⟩
      · have q106 := neI c106
        refine lv_aload_n hx hb d_CO_codeAssign_109 rfl (lv_at hl 0 rfl) ?_
        refine va_get (D := (dC, dI)) (ci := 2) (v := .ref pr) (C := R_CO) (T := F_CO) (N := 13) hx hb hts i_CO hown hK hP 16 rfl rfl 0 (by decide) (hts _ kF_CO_36) (fun _ h9 => h9) rfl d_CO_codeAssign_110 ?_
        refine lv_iconst (v := 3) hx hb d_CO_codeAssign_113 (by decide) ?_
        refine lv_iload_n hx hb d_CO_codeAssign_114 rfl (lv_at hl 1 rfl) ?_
        have hPc := hP.sub (ws' := [(pr, .inr (6, [.ref gl, .ref fu, .ref pa, .ref pf, .ref sf, .ref pk, .ref pg, .ref pp, .ref pz, .ref pv, .int pr_reason, .int pr_place, .ref pr_scanner_r, .int pr_stepCount, .int pr_open, .int pr_twoSides, .ref pr_waiting_r, .ref pr_waitingPlaces_r, .int pr_waitingCount]))]) [0] rfl
        have hDc := hD.sub (ws' := [(pr, .inr (6, [.ref gl, .ref fu, .ref pa, .ref pf, .ref sf, .ref pk, .ref pg, .ref pp, .ref pz, .ref pv, .int pr_reason, .int pr_place, .ref pr_scanner_r, .int pr_stepCount, .int pr_open, .int pr_twoSides, .ref pr_waiting_r, .ref pr_waitingPlaces_r, .int pr_waitingCount]))]) [0] (by decide) rfl
        have hKc := hK.sub (tys' := []) [] rfl
        have hFc := va_free (wc := [(pr, .inr (6, [.ref gl, .ref fu, .ref pa, .ref pf, .ref sf, .ref pk, .ref pg, .ref pp, .ref pz, .ref pv, .int pr_reason, .int pr_place, .ref pr_scanner_r, .int pr_stepCount, .int pr_open, .int pr_twoSides, .ref pr_waiting_r, .ref pr_waitingPlaces_r, .int pr_waitingCount]))]) hD hS hA [0] rfl
        refine tq_callv (tz_runV (As := [.int 3, .int x1]) (rest := []) ⟨hx, hb, hml, hown, hts⟩ (c_PR_refuse l hlt dC dI H.size sa pr gl fu pa pf sf pk pg pp pz pv pr_scanner_r pr_waiting_r pr_waitingPlaces_r pr_reason pr_place pr_stepCount pr_open pr_twoSides pr_waitingCount 3 x1) (cwV 2 hts (gV kM_CO_105 kV_PR_refuse kS_PR_refuse kI_PR kC_PR_refuse) rfl rfl rfl (by decide +kernel) ⟨Nat.le_of_ble_eq_true rfl, Nat.le_of_ble_eq_true rfl⟩) ⟨fun a U g mk z => by obtain ⟨z0, z1, zP, zK, zD, zS⟩ := z; exact ⟨z0, z1, zP, va_K.moved (u := U) (U := U.calling g mk a) (Vm.Alike.refl U.vm) zK, zD, sw.same (u := U) (U := U.calling g mk a) rfl zS⟩, va_recv hKc hPc (ci := 6) (q0 := 0) rfl rfl, fun U hU hW => ⟨rfl, by rw [hU], by rw [hU]; exact hPc, va_K.moved hW.alike hKc, hDc.weaken (fun _ _ _ _ => trivial), hSW.call hS hFc hW hU⟩⟩ rfl rfl hl.1 rfl (lv_room (Nat.le_of_ble_eq_true rfl)) d_CO_codeAssign_115 ⟨Nat.le_of_ble_eq_true rfl, Nat.le_of_ble_eq_true rfl⟩) hS (fun q _ h => hFc q h) hFc (fun u t H1 locs ht hvm hw hB hz1 hk1 hS => ?_) (fun xx u t H1 locs ht hvm hw hXX hB hz1 hk1 hS => ?_)
        rotate_left
        · skip
          obtain ⟨n17, n18⟩ := u
          try dsimp only at hw
          obtain ⟨hP1, hK1, hD1⟩ := hB
          rw [ht] at hP1
          obtain ⟨hP, hD⟩ := va_join (wr := [(bo, .inr (1, [.ref bob, .int bo_length])), (bob, .inl (cbob, 8192, .inl gbob)), (knt, .inl (cknt, 50, .inl gknt)), (knv, .inl (cknv, 50, .inr (.inl gknv))), (pp, .inl (cpp, 4100, .inl gpp)), (pz, .inl (cpz, 4100, .inl gpz)), (glt, .inl (cglt, 20, .inl gglt)), (kn, .inr (5, [.ref tr, .ref kns, .ref knz, .ref knt, .ref knv, .int kn_length])), (kns, .inl (ckns, 50, .inl gkns)), (knz, .inl (cknz, 50, .inl gknz)), (gl, .inr (5, [.ref tr, .ref gls, .ref glz, .ref glt, .ref glv, .int gl_length])), (tr, .inr (1, [.ref tx, .int tr_length])), (tx, .inl (ctx, 2000, .inl gtx)), (gls, .inl (cgls, 20, .inl ggls)), (glz, .inl (cglz, 20, .inl gglz)), (h0, .inr (2, [.ref pr, .ref kn, .ref lt, .int h0_localCount, .ref pe, .int n7, .int h0_gives, .int h0_depth, .int h0_loopDepth, .ref to, .ref bo, .ref cs, .ref se])), (pe, .inl (cpe, 680, .inl gpe))]) (w1 := [(pr, .inr (6, [.ref gl, .ref fu, .ref pa, .ref pf, .ref sf, .ref pk, .ref pg, .ref pp, .ref pz, .ref pv, .int n18, .int n17, .ref pr_scanner_r, .int pr_stepCount, .int pr_open, .int pr_twoSides, .ref pr_waiting_r, .ref pr_waitingPlaces_r, .int pr_waitingCount]))]) hP hD [0] [1, 2, 3, 4, 5, 6, 7, 8, 9, 10, 11, 12, 13, 14, 15, 16, 17] rfl rfl (by decide) (by decide) hk1 hFc hP1 hD1
          have hP : va_P (dC, dI) cls [(bo, .inr (1, [.ref bob, .int bo_length])), (bob, .inl (cbob, 8192, .inl gbob)), (knt, .inl (cknt, 50, .inl gknt)), (knv, .inl (cknv, 50, .inr (.inl gknv))), (pp, .inl (cpp, 4100, .inl gpp)), (pz, .inl (cpz, 4100, .inl gpz)), (glt, .inl (cglt, 20, .inl gglt)), (kn, .inr (5, [.ref tr, .ref kns, .ref knz, .ref knt, .ref knv, .int kn_length])), (kns, .inl (ckns, 50, .inl gkns)), (knz, .inl (cknz, 50, .inl gknz)), (gl, .inr (5, [.ref tr, .ref gls, .ref glz, .ref glt, .ref glv, .int gl_length])), (tr, .inr (1, [.ref tx, .int tr_length])), (tx, .inl (ctx, 2000, .inl gtx)), (gls, .inl (cgls, 20, .inl ggls)), (glz, .inl (cglz, 20, .inl gglz)), (h0, .inr (2, [.ref pr, .ref kn, .ref lt, .int h0_localCount, .ref pe, .int n7, .int h0_gives, .int h0_depth, .int h0_loopDepth, .ref to, .ref bo, .ref cs, .ref se])), (pe, .inl (cpe, 680, .inl gpe)), (pr, .inr (6, [.ref gl, .ref fu, .ref pa, .ref pf, .ref sf, .ref pk, .ref pg, .ref pp, .ref pz, .ref pv, .int n18, .int n17, .ref pr_scanner_r, .int pr_stepCount, .int pr_open, .int pr_twoSides, .ref pr_waiting_r, .ref pr_waitingPlaces_r, .int pr_waitingCount]))] H1 := hP
          have hD : va_D A [(bo, .inr (1, [.ref bob, .int bo_length])), (bob, .inl (cbob, 8192, .inl gbob)), (knt, .inl (cknt, 50, .inl gknt)), (knv, .inl (cknv, 50, .inr (.inl gknv))), (pp, .inl (cpp, 4100, .inl gpp)), (pz, .inl (cpz, 4100, .inl gpz)), (glt, .inl (cglt, 20, .inl gglt)), (kn, .inr (5, [.ref tr, .ref kns, .ref knz, .ref knt, .ref knv, .int kn_length])), (kns, .inl (ckns, 50, .inl gkns)), (knz, .inl (cknz, 50, .inl gknz)), (gl, .inr (5, [.ref tr, .ref gls, .ref glz, .ref glt, .ref glv, .int gl_length])), (tr, .inr (1, [.ref tx, .int tr_length])), (tx, .inl (ctx, 2000, .inl gtx)), (gls, .inl (cgls, 20, .inl ggls)), (glz, .inl (cglz, 20, .inl gglz)), (h0, .inr (2, [.ref pr, .ref kn, .ref lt, .int h0_localCount, .ref pe, .int n7, .int h0_gives, .int h0_depth, .int h0_loopDepth, .ref to, .ref bo, .ref cs, .ref se])), (pe, .inl (cpe, 680, .inl gpe)), (pr, .inr (6, [.ref gl, .ref fu, .ref pa, .ref pf, .ref sf, .ref pk, .ref pg, .ref pp, .ref pz, .ref pv, .int n18, .int n17, .ref pr_scanner_r, .int pr_stepCount, .int pr_open, .int pr_twoSides, .ref pr_waiting_r, .ref pr_waitingPlaces_r, .int pr_waitingCount]))] := hD
          have hP9 := hP.sub (ws' := [(h0, .inr (2, [.ref pr, .ref kn, .ref lt, .int h0_localCount, .ref pe, .int n7, .int h0_gives, .int h0_depth, .int h0_loopDepth, .ref to, .ref bo, .ref cs, .ref se])), (pr, .inr (6, [.ref gl, .ref fu, .ref pa, .ref pf, .ref sf, .ref pk, .ref pg, .ref pp, .ref pz, .ref pv, .int n18, .int n17, .ref pr_scanner_r, .int pr_stepCount, .int pr_open, .int pr_twoSides, .ref pr_waiting_r, .ref pr_waitingPlaces_r, .int pr_waitingCount])), (pe, .inl (cpe, 680, .inl gpe)), (bo, .inr (1, [.ref bob, .int bo_length])), (bob, .inl (cbob, 8192, .inl gbob)), (kn, .inr (5, [.ref tr, .ref kns, .ref knz, .ref knt, .ref knv, .int kn_length])), (kns, .inl (ckns, 50, .inl gkns)), (knz, .inl (cknz, 50, .inl gknz)), (knt, .inl (cknt, 50, .inl gknt)), (knv, .inl (cknv, 50, .inr (.inl gknv))), (tr, .inr (1, [.ref tx, .int tr_length])), (tx, .inl (ctx, 2000, .inl gtx)), (pp, .inl (cpp, 4100, .inl gpp)), (pz, .inl (cpz, 4100, .inl gpz)), (gl, .inr (5, [.ref tr, .ref gls, .ref glz, .ref glt, .ref glv, .int gl_length])), (gls, .inl (cgls, 20, .inl ggls)), (glz, .inl (cglz, 20, .inl gglz)), (glt, .inl (cglt, 20, .inl gglt))]) [15, 17, 16, 0, 1, 7, 8, 9, 2, 3, 11, 12, 4, 5, 10, 13, 14, 6] rfl
          have hD9 := hD.sub (ws' := [(h0, .inr (2, [.ref pr, .ref kn, .ref lt, .int h0_localCount, .ref pe, .int n7, .int h0_gives, .int h0_depth, .int h0_loopDepth, .ref to, .ref bo, .ref cs, .ref se])), (pr, .inr (6, [.ref gl, .ref fu, .ref pa, .ref pf, .ref sf, .ref pk, .ref pg, .ref pp, .ref pz, .ref pv, .int n18, .int n17, .ref pr_scanner_r, .int pr_stepCount, .int pr_open, .int pr_twoSides, .ref pr_waiting_r, .ref pr_waitingPlaces_r, .int pr_waitingCount])), (pe, .inl (cpe, 680, .inl gpe)), (bo, .inr (1, [.ref bob, .int bo_length])), (bob, .inl (cbob, 8192, .inl gbob)), (kn, .inr (5, [.ref tr, .ref kns, .ref knz, .ref knt, .ref knv, .int kn_length])), (kns, .inl (ckns, 50, .inl gkns)), (knz, .inl (cknz, 50, .inl gknz)), (knt, .inl (cknt, 50, .inl gknt)), (knv, .inl (cknv, 50, .inr (.inl gknv))), (tr, .inr (1, [.ref tx, .int tr_length])), (tx, .inl (ctx, 2000, .inl gtx)), (pp, .inl (cpp, 4100, .inl gpp)), (pz, .inl (cpz, 4100, .inl gpz)), (gl, .inr (5, [.ref tr, .ref gls, .ref glz, .ref glt, .ref glv, .int gl_length])), (gls, .inl (cgls, 20, .inl ggls)), (glz, .inl (cglz, 20, .inl gglz)), (glt, .inl (cglt, 20, .inl gglt))]) [15, 17, 16, 0, 1, 7, 8, 9, 2, 3, 11, 12, 4, 5, 10, 13, 14, 6] (by decide) rfl
          exact tz_leave rfl hno hlocks (fun t ht hW => ⟨⟨(gbob, bo_length, n7, n17, n18), ⟨⟨b_bo_length, bn7⟩, by rw [ht]; exact hXX.moved hW.alike⟩, by rw [ht]; exact hP9, va_K.moved hW.alike hK, hD9⟩, hS.F ht⟩) hS.2.2
        exact (show False from hw).elim
    · skip
      refine lv_if_lt (tgt := 93) hx hb d_CO_codeAssign_78 (by decide) (fun c78 => ?_) (fun c78 => ?_)
      · have q78 := ltI c78
        refine lv_aload_n hx hb d_CO_codeAssign_93 rfl (lv_at hl 0 rfl) ?_
        refine va_get (D := (dC, dI)) (ci := 2) (v := .ref pr) (C := R_CO) (T := F_CO) (N := 13) hx hb hts i_CO hown hK hP 16 rfl rfl 0 (by decide) (hts _ kF_CO_36) (fun _ h9 => h9) rfl d_CO_codeAssign_94 ?_
        refine va_get (D := (dC, dI)) (ci := 6) (v := .ref gl) (C := R_PR) (T := F_PR) (N := 19) hx hb hts i_PR hown hK hP 0 rfl rfl 0 (by decide) (hts _ kF_CO_42) (fun _ h9 => h9) rfl d_CO_codeAssign_97 ?_
        refine va_get (D := (dC, dI)) (ci := 5) (v := .ref glt) (C := R_NA) (T := F_NA) (N := 6) hx hb hts i_NA hown hK hP 11 rfl rfl 3 (by decide) (hts _ kF_CO_121) (fun _ h9 => h9) rfl d_CO_codeAssign_100 ?_
        refine lv_iload hx hb d_CO_codeAssign_103 (lv_at hl 3 rfl) ?_
        have g105 : vp_in r5 20 := vp_in_iff.mpr ⟨by omega, by omega⟩
        refine va_iald hx hb hK hP 7 11 rfl rfl g105 d_CO_codeAssign_105 ?_
        refine lv_topi (fun x19 ex19 => ?_)
        exact jn106 x19 _ _ _ ⟨(by rw [ex19]; exact hgq r5.toNatClampNeg (by have := i32_clamp (x := r5) (by omega); omega)), hP, hD, hS, lv_sub hl [0, 1, 2, 3] rfl⟩
      · have q78 := nltI c78
        refine lv_aload_n hx hb d_CO_codeAssign_81 rfl (lv_at hl 0 rfl) ?_
        refine va_get (D := (dC, dI)) (ci := 2) (v := .ref kn) (C := R_CO) (T := F_CO) (N := 13) hx hb hts i_CO hown hK hP 16 rfl rfl 1 (by decide) (hts _ kF_CO_54) (fun _ h9 => h9) rfl d_CO_codeAssign_82 ?_
        refine va_get (D := (dC, dI)) (ci := 5) (v := .ref knt) (C := R_NA) (T := F_NA) (N := 6) hx hb hts i_NA hown hK hP 8 rfl rfl 3 (by decide) (hts _ kF_CO_121) (fun _ h9 => h9) rfl d_CO_codeAssign_85 ?_
        refine lv_iload_n hx hb d_CO_codeAssign_88 rfl (lv_at hl 2 rfl) ?_
        have g89 : vp_in r3 50 := vp_in_iff.mpr ⟨by omega, by omega⟩
        refine va_iald hx hb hK hP 3 4 rfl rfl g89 d_CO_codeAssign_89 ?_
        refine lv_topi (fun x20 ex20 => ?_)
        refine lv_goto (tgt := 106) hx hb d_CO_codeAssign_90 (by decide) ?_
        exact jn106 x20 _ _ _ ⟨(by rw [ex20]; exact (hkq r3.toNatClampNeg (by have := i32_clamp (x := r3) (by omega); omega)).1), hP, hD, hS, lv_sub hl [0, 1, 2, 3] rfl⟩
  · skip
    refine lv_if_ge (tgt := 75) hx hb d_CO_codeAssign_57 (by decide) (fun c57 => ?_) (fun c57 => ?_)
    · have q57 := leI c57
      exact jn75 () _ _ _ ⟨by (try dsimp only) <;> omega, hP, hD, hS, lv_sub hl [4, 3, 2, 1, 0] rfl⟩
    · have q57 := nleI c57
      refine lv_iload hx hb d_CO_codeAssign_60 (lv_at hl 1 rfl) ?_
      refine lv_if_ge (tgt := 75) hx hb d_CO_codeAssign_62 (by decide) (fun c62 => ?_) (fun c62 => ?_)
      · have q62 := leI c62
        exact jn75 () _ _ _ ⟨by (try dsimp only) <;> omega, hP, hD, hS, lv_sub hl [4, 3, 2, 1, 0] rfl⟩
      · have q62 := nleI c62
        refine lv_aload_n hx hb d_CO_codeAssign_65 rfl (lv_at hl 4 rfl) ?_
        refine va_get (D := (dC, dI)) (ci := 2) (v := .ref pr) (C := R_CO) (T := F_CO) (N := 13) hx hb hts i_CO hown hK hP 16 rfl rfl 0 (by decide) (hts _ kF_CO_36) (fun _ h9 => h9) rfl d_CO_codeAssign_66 ?_
        refine lv_iconst (v := 2) hx hb d_CO_codeAssign_69 (by decide) ?_
        refine lv_iload_n hx hb d_CO_codeAssign_70 rfl (lv_at hl 3 rfl) ?_
        have hPc := hP.sub (ws' := [(pr, .inr (6, [.ref gl, .ref fu, .ref pa, .ref pf, .ref sf, .ref pk, .ref pg, .ref pp, .ref pz, .ref pv, .int pr_reason, .int pr_place, .ref pr_scanner_r, .int pr_stepCount, .int pr_open, .int pr_twoSides, .ref pr_waiting_r, .ref pr_waitingPlaces_r, .int pr_waitingCount]))]) [0] rfl
        have hDc := hD.sub (ws' := [(pr, .inr (6, [.ref gl, .ref fu, .ref pa, .ref pf, .ref sf, .ref pk, .ref pg, .ref pp, .ref pz, .ref pv, .int pr_reason, .int pr_place, .ref pr_scanner_r, .int pr_stepCount, .int pr_open, .int pr_twoSides, .ref pr_waiting_r, .ref pr_waitingPlaces_r, .int pr_waitingCount]))]) [0] (by decide) rfl
        have hKc := hK.sub (tys' := []) [] rfl
        have hFc := va_free (wc := [(pr, .inr (6, [.ref gl, .ref fu, .ref pa, .ref pf, .ref sf, .ref pk, .ref pg, .ref pp, .ref pz, .ref pv, .int pr_reason, .int pr_place, .ref pr_scanner_r, .int pr_stepCount, .int pr_open, .int pr_twoSides, .ref pr_waiting_r, .ref pr_waitingPlaces_r, .int pr_waitingCount]))]) hD hS hA [0] rfl
        refine tq_callv (tz_runV (As := [.int 2, .int x1]) (rest := []) ⟨hx, hb, hml, hown, hts⟩ (c_PR_refuse l hlt dC dI H.size sa pr gl fu pa pf sf pk pg pp pz pv pr_scanner_r pr_waiting_r pr_waitingPlaces_r pr_reason pr_place pr_stepCount pr_open pr_twoSides pr_waitingCount 2 x1) (cwV 2 hts (gV kM_CO_105 kV_PR_refuse kS_PR_refuse kI_PR kC_PR_refuse) rfl rfl rfl (by decide +kernel) ⟨Nat.le_of_ble_eq_true rfl, Nat.le_of_ble_eq_true rfl⟩) ⟨fun a U g mk z => by obtain ⟨z0, z1, zP, zK, zD, zS⟩ := z; exact ⟨z0, z1, zP, va_K.moved (u := U) (U := U.calling g mk a) (Vm.Alike.refl U.vm) zK, zD, sw.same (u := U) (U := U.calling g mk a) rfl zS⟩, va_recv hKc hPc (ci := 6) (q0 := 0) rfl rfl, fun U hU hW => ⟨rfl, by rw [hU], by rw [hU]; exact hPc, va_K.moved hW.alike hKc, hDc.weaken (fun _ _ _ _ => trivial), hSW.call hS hFc hW hU⟩⟩ rfl rfl hl.1 rfl (lv_room (Nat.le_of_ble_eq_true rfl)) d_CO_codeAssign_71 ⟨Nat.le_of_ble_eq_true rfl, Nat.le_of_ble_eq_true rfl⟩) hS (fun q _ h => hFc q h) hFc (fun u t H1 locs ht hvm hw hB hz1 hk1 hS => ?_) (fun xx u t H1 locs ht hvm hw hXX hB hz1 hk1 hS => ?_)
        rotate_left
        · skip
          obtain ⟨n22, n23⟩ := u
          try dsimp only at hw
          obtain ⟨hP1, hK1, hD1⟩ := hB
          rw [ht] at hP1
          obtain ⟨hP, hD⟩ := va_join (wr := [(bo, .inr (1, [.ref bob, .int bo_length])), (bob, .inl (cbob, 8192, .inl gbob)), (knt, .inl (cknt, 50, .inl gknt)), (knv, .inl (cknv, 50, .inr (.inl gknv))), (pp, .inl (cpp, 4100, .inl gpp)), (pz, .inl (cpz, 4100, .inl gpz)), (glt, .inl (cglt, 20, .inl gglt)), (kn, .inr (5, [.ref tr, .ref kns, .ref knz, .ref knt, .ref knv, .int kn_length])), (kns, .inl (ckns, 50, .inl gkns)), (knz, .inl (cknz, 50, .inl gknz)), (gl, .inr (5, [.ref tr, .ref gls, .ref glz, .ref glt, .ref glv, .int gl_length])), (tr, .inr (1, [.ref tx, .int tr_length])), (tx, .inl (ctx, 2000, .inl gtx)), (gls, .inl (cgls, 20, .inl ggls)), (glz, .inl (cglz, 20, .inl gglz)), (h0, .inr (2, [.ref pr, .ref kn, .ref lt, .int h0_localCount, .ref pe, .int n7, .int h0_gives, .int h0_depth, .int h0_loopDepth, .ref to, .ref bo, .ref cs, .ref se])), (pe, .inl (cpe, 680, .inl gpe))]) (w1 := [(pr, .inr (6, [.ref gl, .ref fu, .ref pa, .ref pf, .ref sf, .ref pk, .ref pg, .ref pp, .ref pz, .ref pv, .int n23, .int n22, .ref pr_scanner_r, .int pr_stepCount, .int pr_open, .int pr_twoSides, .ref pr_waiting_r, .ref pr_waitingPlaces_r, .int pr_waitingCount]))]) hP hD [0] [1, 2, 3, 4, 5, 6, 7, 8, 9, 10, 11, 12, 13, 14, 15, 16, 17] rfl rfl (by decide) (by decide) hk1 hFc hP1 hD1
          have hP : va_P (dC, dI) cls [(bo, .inr (1, [.ref bob, .int bo_length])), (bob, .inl (cbob, 8192, .inl gbob)), (knt, .inl (cknt, 50, .inl gknt)), (knv, .inl (cknv, 50, .inr (.inl gknv))), (pp, .inl (cpp, 4100, .inl gpp)), (pz, .inl (cpz, 4100, .inl gpz)), (glt, .inl (cglt, 20, .inl gglt)), (kn, .inr (5, [.ref tr, .ref kns, .ref knz, .ref knt, .ref knv, .int kn_length])), (kns, .inl (ckns, 50, .inl gkns)), (knz, .inl (cknz, 50, .inl gknz)), (gl, .inr (5, [.ref tr, .ref gls, .ref glz, .ref glt, .ref glv, .int gl_length])), (tr, .inr (1, [.ref tx, .int tr_length])), (tx, .inl (ctx, 2000, .inl gtx)), (gls, .inl (cgls, 20, .inl ggls)), (glz, .inl (cglz, 20, .inl gglz)), (h0, .inr (2, [.ref pr, .ref kn, .ref lt, .int h0_localCount, .ref pe, .int n7, .int h0_gives, .int h0_depth, .int h0_loopDepth, .ref to, .ref bo, .ref cs, .ref se])), (pe, .inl (cpe, 680, .inl gpe)), (pr, .inr (6, [.ref gl, .ref fu, .ref pa, .ref pf, .ref sf, .ref pk, .ref pg, .ref pp, .ref pz, .ref pv, .int n23, .int n22, .ref pr_scanner_r, .int pr_stepCount, .int pr_open, .int pr_twoSides, .ref pr_waiting_r, .ref pr_waitingPlaces_r, .int pr_waitingCount]))] H1 := hP
          have hD : va_D A [(bo, .inr (1, [.ref bob, .int bo_length])), (bob, .inl (cbob, 8192, .inl gbob)), (knt, .inl (cknt, 50, .inl gknt)), (knv, .inl (cknv, 50, .inr (.inl gknv))), (pp, .inl (cpp, 4100, .inl gpp)), (pz, .inl (cpz, 4100, .inl gpz)), (glt, .inl (cglt, 20, .inl gglt)), (kn, .inr (5, [.ref tr, .ref kns, .ref knz, .ref knt, .ref knv, .int kn_length])), (kns, .inl (ckns, 50, .inl gkns)), (knz, .inl (cknz, 50, .inl gknz)), (gl, .inr (5, [.ref tr, .ref gls, .ref glz, .ref glt, .ref glv, .int gl_length])), (tr, .inr (1, [.ref tx, .int tr_length])), (tx, .inl (ctx, 2000, .inl gtx)), (gls, .inl (cgls, 20, .inl ggls)), (glz, .inl (cglz, 20, .inl gglz)), (h0, .inr (2, [.ref pr, .ref kn, .ref lt, .int h0_localCount, .ref pe, .int n7, .int h0_gives, .int h0_depth, .int h0_loopDepth, .ref to, .ref bo, .ref cs, .ref se])), (pe, .inl (cpe, 680, .inl gpe)), (pr, .inr (6, [.ref gl, .ref fu, .ref pa, .ref pf, .ref sf, .ref pk, .ref pg, .ref pp, .ref pz, .ref pv, .int n23, .int n22, .ref pr_scanner_r, .int pr_stepCount, .int pr_open, .int pr_twoSides, .ref pr_waiting_r, .ref pr_waitingPlaces_r, .int pr_waitingCount]))] := hD
          have hP9 := hP.sub (ws' := [(h0, .inr (2, [.ref pr, .ref kn, .ref lt, .int h0_localCount, .ref pe, .int n7, .int h0_gives, .int h0_depth, .int h0_loopDepth, .ref to, .ref bo, .ref cs, .ref se])), (pr, .inr (6, [.ref gl, .ref fu, .ref pa, .ref pf, .ref sf, .ref pk, .ref pg, .ref pp, .ref pz, .ref pv, .int n23, .int n22, .ref pr_scanner_r, .int pr_stepCount, .int pr_open, .int pr_twoSides, .ref pr_waiting_r, .ref pr_waitingPlaces_r, .int pr_waitingCount])), (pe, .inl (cpe, 680, .inl gpe)), (bo, .inr (1, [.ref bob, .int bo_length])), (bob, .inl (cbob, 8192, .inl gbob)), (kn, .inr (5, [.ref tr, .ref kns, .ref knz, .ref knt, .ref knv, .int kn_length])), (kns, .inl (ckns, 50, .inl gkns)), (knz, .inl (cknz, 50, .inl gknz)), (knt, .inl (cknt, 50, .inl gknt)), (knv, .inl (cknv, 50, .inr (.inl gknv))), (tr, .inr (1, [.ref tx, .int tr_length])), (tx, .inl (ctx, 2000, .inl gtx)), (pp, .inl (cpp, 4100, .inl gpp)), (pz, .inl (cpz, 4100, .inl gpz)), (gl, .inr (5, [.ref tr, .ref gls, .ref glz, .ref glt, .ref glv, .int gl_length])), (gls, .inl (cgls, 20, .inl ggls)), (glz, .inl (cglz, 20, .inl gglz)), (glt, .inl (cglt, 20, .inl gglt))]) [15, 17, 16, 0, 1, 7, 8, 9, 2, 3, 11, 12, 4, 5, 10, 13, 14, 6] rfl
          have hD9 := hD.sub (ws' := [(h0, .inr (2, [.ref pr, .ref kn, .ref lt, .int h0_localCount, .ref pe, .int n7, .int h0_gives, .int h0_depth, .int h0_loopDepth, .ref to, .ref bo, .ref cs, .ref se])), (pr, .inr (6, [.ref gl, .ref fu, .ref pa, .ref pf, .ref sf, .ref pk, .ref pg, .ref pp, .ref pz, .ref pv, .int n23, .int n22, .ref pr_scanner_r, .int pr_stepCount, .int pr_open, .int pr_twoSides, .ref pr_waiting_r, .ref pr_waitingPlaces_r, .int pr_waitingCount])), (pe, .inl (cpe, 680, .inl gpe)), (bo, .inr (1, [.ref bob, .int bo_length])), (bob, .inl (cbob, 8192, .inl gbob)), (kn, .inr (5, [.ref tr, .ref kns, .ref knz, .ref knt, .ref knv, .int kn_length])), (kns, .inl (ckns, 50, .inl gkns)), (knz, .inl (cknz, 50, .inl gknz)), (knt, .inl (cknt, 50, .inl gknt)), (knv, .inl (cknv, 50, .inr (.inl gknv))), (tr, .inr (1, [.ref tx, .int tr_length])), (tx, .inl (ctx, 2000, .inl gtx)), (pp, .inl (cpp, 4100, .inl gpp)), (pz, .inl (cpz, 4100, .inl gpz)), (gl, .inr (5, [.ref tr, .ref gls, .ref glz, .ref glt, .ref glv, .int gl_length])), (gls, .inl (cgls, 20, .inl ggls)), (glz, .inl (cglz, 20, .inl gglz)), (glt, .inl (cglt, 20, .inl gglt))]) [15, 17, 16, 0, 1, 7, 8, 9, 2, 3, 11, 12, 4, 5, 10, 13, 14, 6] (by decide) rfl
          exact tz_leave rfl hno hlocks (fun t ht hW => ⟨⟨(gbob, bo_length, n7, n22, n23), ⟨⟨b_bo_length, bn7⟩, by rw [ht]; exact hXX.moved hW.alike⟩, by rw [ht]; exact hP9, va_K.moved hW.alike hK, hD9⟩, hS.F ht⟩) hS.2.2
        exact (show False from hw).elim

section q_71
/-! Coder: a name assigned; alignments -/
theorem un_pos {y : Int32} (h : un y < 2147483648) : y.toInt = un y := by
  have e : y.toInt = y.toBitVec.toInt := rfl
  unfold un at *
  rw [e, BitVec.toInt_eq_toNat_cond, if_pos (by (first | (apply Int.le_antisymm <;> omega) | omega))]
theorem ushr_t {x y s : Int32} {k : Nat} (e : y = (x.toUInt32 >>> (s.toUInt32 &&& Int32.toUInt32 31)).toInt32) (hs : ((s.toUInt32 &&& Int32.toUInt32 31).toBitVec % 32).toNat = k) (h : 0 ≤ x.toInt) : (y.toInt = (x.toInt.toNat / 2 ^ k : Nat)) := by
  have q : un y = un x / 2 ^ k := by rw [e]; exact pk_ushr x s k hs
  rw [un_nat h] at q
  have l := Int32.toInt_lt x
  have : x.toInt.toNat / 2 ^ k ≤ x.toInt.toNat := Nat.div_le_self _ _
  rw [un_pos (by (first | (apply Int.le_antisymm <;> omega) | omega)), q]
theorem and32 (x : Int32) : 0 ≤ (x &&& 32).toInt ∧ (x &&& 32).toInt ≤ 32 := by
  have q : un (x &&& 32) ≤ 32 := by
    unfold un
    rw [Int32.toBitVec_and, BitVec.toNat_and]
    exact Nat.and_le_right
  rw [un_pos (by (first | (apply Int.le_antisymm <;> omega) | omega))]
  (first | (apply Int.le_antisymm <;> omega) | omega)
abbrev at_JI_numberOfTrailingZerosr (dC : Nat → ClassId) (dI : Nat → Nat → Nat)  (A : Nat → Prop) (u : Unit) (t : State) : Prop := match u with | _ => va_P (dC, dI) cls [] t.heap ∧ va_K (dC, dI) cls [] t ∧ va_D A []
set_option maxHeartbeats 4000000 in
set_option maxRecDepth 100000 in
theorem c_JI_numberOfTrailingZerosr (l : Launch) (dC : Nat → ClassId) (dI : Nat → Nat → Nat) (sz : Nat)    (p0 : Int32)   : Met l y_JI_numberOfTrailingZeros w_JI_numberOfTrailingZeros ({ frames := 0, cells := 0, slots := 0, locals := 0 }) (va_Pc [.int p0] (fun U => U.heap.size = sz ∧ va_P (dC, dI) cls [] U.heap ∧ va_K (dC, dI) cls [] U ∧ va_D (fun _ => True) [])) (va_Qi (fun (r : Int32) (u : Unit) => match u with | _ => (0 ≤ r.toInt ∧ r.toInt ≤ 40)) (at_JI_numberOfTrailingZerosr dC dI  (va_A [] sz)) (va_A [] sz)) 0 0 (va_A [] sz) := by
  refine Met.ofW (cc := b_JI_numberOfTrailingZeros) (maxL := 2) (ret := (Option.some .int)) (by decide) rfl ?_
  intro p e s m args below meth c s₁ B hml hv
  obtain ⟨rfl, hsz, hP, hK, hD0⟩ := hv
  have hx := B.exec
  have hb := B.bytes
  have hr := B.returns
  have hts0 := atoms_spec (ws := w_JI_numberOfTrailingZeros) B.pre
  have hts : ∀ w ∈ lw_g, w.before _ s = true := fun w h => hts0 w (List.mem_cons_of_mem _ h)
  have hown : s.vm.findClass R_JI = some m.cls := findClass_of_methodNamed B.named
  have hlocks := B.notSynchronized
  clear hts0
  subst hsz
  have hD := hD0.self (sz := s.heap.size)
  generalize hAe : va_A [] s.heap.size = A at hD ⊢
  have hA : ∀ q : Nat, s.heap.size ≤ q → A q := fun q h => by rw [← hAe]; exact Or.inr h
  clear hAe
  have hP : va_P (dC, dI) cls [] s.heap := hP
  have hl := lv_entry ([.int p0]) (n := 2) (Nat.le_of_ble_eq_true rfl)
  rw [lg_entry_eq]
  generalize (lg_sl ([.int p0]) ++ List.replicate (2 - (lg_sl ([.int p0])).length) Slot.unset).toArray = ls at hl ⊢
  have hl : lv_has ls 2 [(0, .int p0)] := hl
  have k0 : (0 : Int32).toInt = 0 := by decide
  refine w_gen (A := A) hP (fun H locs hP hS => ?_)
  have km1 : (-1 : Int32).toInt = -1 := by decide
  have k1 : (1 : Int32).toInt = 1 := by decide
  have k2 : (2 : Int32).toInt = 2 := by decide
  have k4 : (4 : Int32).toInt = 4 := by decide
  have k8 : (8 : Int32).toInt = 8 := by decide
  have k16 : (16 : Int32).toInt = 16 := by decide
  have k32 : (32 : Int32).toInt = 32 := by decide
  have k256 : (256 : Int32).toInt = 256 := by decide
  have lo_p0 := i32_lo p0
  have hi_p0 := i32_hi p0
  refine lv_iload_n hx hb d_JI_numberOfTrailingZeros_0 rfl (lv_at hl 0 rfl) ?_
  refine lv_iconst (v := (-1)) hx hb d_JI_numberOfTrailingZeros_1 (by decide) ?_
  refine lv_ixor hx hb d_JI_numberOfTrailingZeros_2 ?_
  refine lv_topi (fun x1 ex1 => ?_)
  refine lv_iload_n hx hb d_JI_numberOfTrailingZeros_3 rfl (lv_at hl 0 rfl) ?_
  refine lv_iconst (v := 1) hx hb d_JI_numberOfTrailingZeros_4 (by decide) ?_
  refine lv_isub hx hb d_JI_numberOfTrailingZeros_5 ?_
  refine lv_topi (fun x2 ex2 => ?_)
  refine lv_iand hx hb d_JI_numberOfTrailingZeros_6 ?_
  refine lv_topi (fun x3 ex3 => ?_)
  have tx3 : x3.toInt ≤ 2147483647 := by have := Int32.toInt_lt x3; (first | (apply Int.le_antisymm <;> omega) | omega)
  refine lv_istore_n (lv' := [(0, .int x3)]) hx hb d_JI_numberOfTrailingZeros_7 rfl hl (by decide) rfl (fun ls hl => ?_)
  refine lv_iload_n hx hb d_JI_numberOfTrailingZeros_8 rfl (lv_at hl 0 rfl) ?_
  refine lv_if_gt (tgt := 17) hx hb d_JI_numberOfTrailingZeros_9 (by decide) (fun c9 => ?_) (fun c9 => ?_)
  · have q9 := ltI c9
    refine lv_iconst (v := 1) hx hb d_JI_numberOfTrailingZeros_17 (by decide) ?_
    refine lv_istore_n (lv' := [(1, .int 1), (0, .int x3)]) hx hb d_JI_numberOfTrailingZeros_18 rfl hl (by decide) rfl (fun ls hl => ?_)
    refine lv_iload_n hx hb d_JI_numberOfTrailingZeros_19 rfl (lv_at hl 1 rfl) ?_
    refine lv_ldcw hx hb hown (hts _ kJ_JI_264) d_JI_numberOfTrailingZeros_20 ?_
    refine lv_topi (fun x4 ex4 => ?_)
    have tx4 : x4.toInt = 65536 := by rw [ex4]; decide
    refine w_cut (pc2 := 34) (σ := Int32 × Int32) (fun u H locs ls => match u with | (j34_l0, j34_l1) => (0 < j34_l0.toInt ∧ j34_l0.toInt ≤ 65536 ∧ 1 ≤ j34_l1.toInt ∧ j34_l1.toInt ≤ 17) ∧ va_P (dC, dI) cls [] H ∧ va_D A [] ∧ va_S A s.heap H locs ∧ lv_has ls 2 [(0, .int j34_l0), (1, .int j34_l1)]) (fun u => match u with | (j34_l0, j34_l1) => []) ?_ (fun jn34 => ?_)
    · intro u H locs ls hI
      obtain ⟨j34_l0, j34_l1⟩ := u
      obtain ⟨v34, hP, hD, hS, hl⟩ := hI
      refine lv_iload_n hx hb d_JI_numberOfTrailingZeros_34 rfl (lv_at hl 0 rfl) ?_
      refine lv_sipush (v := 256) hx hb d_JI_numberOfTrailingZeros_35 (by decide) ?_
      refine w_cut (pc2 := 49) (σ := Int32 × Int32) (fun u H locs ls => match u with | (j49_l0, j49_l1) => (0 < j49_l0.toInt ∧ j49_l0.toInt ≤ 256 ∧ 1 ≤ j49_l1.toInt ∧ j49_l1.toInt ≤ 25) ∧ va_P (dC, dI) cls [] H ∧ va_D A [] ∧ va_S A s.heap H locs ∧ lv_has ls 2 [(0, .int j49_l0), (1, .int j49_l1)]) (fun u => match u with | (j49_l0, j49_l1) => []) ?_ (fun jn49 => ?_)
      · intro u H locs ls hI
        obtain ⟨j49_l0, j49_l1⟩ := u
        obtain ⟨v49, hP, hD, hS, hl⟩ := hI
        refine lv_iload_n hx hb d_JI_numberOfTrailingZeros_49 rfl (lv_at hl 0 rfl) ?_
        refine lv_bipush (v := 16) hx hb d_JI_numberOfTrailingZeros_50 (by decide) ?_
        refine w_cut (pc2 := 62) (σ := Int32 × Int32) (fun u H locs ls => match u with | (j62_l0, j62_l1) => (0 < j62_l0.toInt ∧ j62_l0.toInt ≤ 16 ∧ 1 ≤ j62_l1.toInt ∧ j62_l1.toInt ≤ 29) ∧ va_P (dC, dI) cls [] H ∧ va_D A [] ∧ va_S A s.heap H locs ∧ lv_has ls 2 [(0, .int j62_l0), (1, .int j62_l1)]) (fun u => match u with | (j62_l0, j62_l1) => []) ?_ (fun jn62 => ?_)
        · intro u H locs ls hI
          obtain ⟨j62_l0, j62_l1⟩ := u
          obtain ⟨v62, hP, hD, hS, hl⟩ := hI
          refine lv_iload_n hx hb d_JI_numberOfTrailingZeros_62 rfl (lv_at hl 0 rfl) ?_
          refine lv_iconst (v := 4) hx hb d_JI_numberOfTrailingZeros_63 (by decide) ?_
          refine w_cut (pc2 := 74) (σ := Int32 × Int32) (fun u H locs ls => match u with | (j74_l0, j74_l1) => (0 < j74_l0.toInt ∧ j74_l0.toInt ≤ 4 ∧ 1 ≤ j74_l1.toInt ∧ j74_l1.toInt ≤ 31) ∧ va_P (dC, dI) cls [] H ∧ va_D A [] ∧ va_S A s.heap H locs ∧ lv_has ls 2 [(0, .int j74_l0), (1, .int j74_l1)]) (fun u => match u with | (j74_l0, j74_l1) => []) ?_ (fun jn74 => ?_)
          · intro u H locs ls hI
            obtain ⟨j74_l0, j74_l1⟩ := u
            obtain ⟨v74, hP, hD, hS, hl⟩ := hI
            refine lv_iload_n hx hb d_JI_numberOfTrailingZeros_74 rfl (lv_at hl 1 rfl) ?_
            refine lv_iload_n hx hb d_JI_numberOfTrailingZeros_75 rfl (lv_at hl 0 rfl) ?_
            refine lv_iconst (v := 1) hx hb d_JI_numberOfTrailingZeros_76 (by decide) ?_
            refine lv_iushr hx hb d_JI_numberOfTrailingZeros_77 rfl ?_
            refine lv_topi (fun x5 ex5 => ?_)
            have tx5 := ushr_t (k := 1) ex5 (by decide) (by (first | (apply Int.le_antisymm <;> omega) | omega))
            rw [show (2 : Nat) ^ 1 = 2 from rfl] at tx5
            refine lv_iadd hx hb d_JI_numberOfTrailingZeros_78 ?_
            refine lv_topi (fun x6 ex6 => ?_)
            have tx6 : x6.toInt = j74_l1.toInt + x5.toInt := by have z := i32_add ex6 (by (first | (apply Int.le_antisymm <;> omega) | omega)) (by (first | (apply Int.le_antisymm <;> omega) | omega)); first | exact z | (first | (apply Int.le_antisymm <;> omega) | omega)
            have hP9 := hP.sb (wq := []) [] rfl
            have hD9 := hD.sb (wq := []) [] (by decide) rfl
            exact W.iret (v := x6) hx hb hr (fun t ht hW => ⟨⟨x6, (), rfl, (by (try dsimp only) <;> (first | (apply Int.le_antisymm <;> omega) | omega)), va_P.he ht.symm hP9, va_K.moved hW.alike hK, hD9⟩, hS.F ht⟩) hS.2.2 d_JI_numberOfTrailingZeros_79
          · skip
            refine lv_icmp_le (tgt := 74) hx hb d_JI_numberOfTrailingZeros_64 (by decide) (fun c64 => ?_) (fun c64 => ?_)
            · have q64 := leI c64
              exact jn74 (j62_l0, j62_l1) _ _ _ ⟨by (try dsimp only) <;> (first | (apply Int.le_antisymm <;> omega) | omega), hP, hD, hS, lv_sub hl [0, 1] rfl⟩
            · have q64 := nleI c64
              obtain ⟨x7, ex7⟩ : ∃ z : Int32, z = j62_l1 + 2 := ⟨_, rfl⟩
              have tx7 : x7.toInt = j62_l1.toInt + 2 := by have z := i32_add ex7 (by (first | (apply Int.le_antisymm <;> omega) | omega)) (by (first | (apply Int.le_antisymm <;> omega) | omega)); first | exact z | (first | (apply Int.le_antisymm <;> omega) | omega)
              refine lv_iinc (v := x7) (lv' := [(1, .int x7), (0, .int j62_l0)]) hx hb d_JI_numberOfTrailingZeros_67 hl (k := 1) rfl (by rw [ex7]; rfl) (by decide) rfl (fun ls hl => ?_)
              refine lv_iload_n hx hb d_JI_numberOfTrailingZeros_70 rfl (lv_at hl 1 rfl) ?_
              refine lv_iconst (v := 2) hx hb d_JI_numberOfTrailingZeros_71 (by decide) ?_
              refine lv_iushr hx hb d_JI_numberOfTrailingZeros_72 rfl ?_
              refine lv_topi (fun x8 ex8 => ?_)
              have tx8 := ushr_t (k := 2) ex8 (by decide) (by (first | (apply Int.le_antisymm <;> omega) | omega))
              rw [show (2 : Nat) ^ 2 = 4 from rfl] at tx8
              refine lv_istore_n (lv' := [(0, .int x8), (1, .int x7)]) hx hb d_JI_numberOfTrailingZeros_73 rfl hl (by decide) rfl (fun ls hl => ?_)
              exact jn74 (x8, x7) _ _ _ ⟨by (try dsimp only) <;> (first | (apply Int.le_antisymm <;> omega) | omega), hP, hD, hS, lv_sub hl [0, 1] rfl⟩
        · skip
          refine lv_icmp_le (tgt := 62) hx hb d_JI_numberOfTrailingZeros_52 (by decide) (fun c52 => ?_) (fun c52 => ?_)
          · have q52 := leI c52
            exact jn62 (j49_l0, j49_l1) _ _ _ ⟨by (try dsimp only) <;> (first | (apply Int.le_antisymm <;> omega) | omega), hP, hD, hS, lv_sub hl [0, 1] rfl⟩
          · have q52 := nleI c52
            obtain ⟨x9, ex9⟩ : ∃ z : Int32, z = j49_l1 + 4 := ⟨_, rfl⟩
            have tx9 : x9.toInt = j49_l1.toInt + 4 := by have z := i32_add ex9 (by (first | (apply Int.le_antisymm <;> omega) | omega)) (by (first | (apply Int.le_antisymm <;> omega) | omega)); first | exact z | (first | (apply Int.le_antisymm <;> omega) | omega)
            refine lv_iinc (v := x9) (lv' := [(1, .int x9), (0, .int j49_l0)]) hx hb d_JI_numberOfTrailingZeros_55 hl (k := 1) rfl (by rw [ex9]; rfl) (by decide) rfl (fun ls hl => ?_)
            refine lv_iload_n hx hb d_JI_numberOfTrailingZeros_58 rfl (lv_at hl 1 rfl) ?_
            refine lv_iconst (v := 4) hx hb d_JI_numberOfTrailingZeros_59 (by decide) ?_
            refine lv_iushr hx hb d_JI_numberOfTrailingZeros_60 rfl ?_
            refine lv_topi (fun x10 ex10 => ?_)
            have tx10 := ushr_t (k := 4) ex10 (by decide) (by (first | (apply Int.le_antisymm <;> omega) | omega))
            rw [show (2 : Nat) ^ 4 = 16 from rfl] at tx10
            refine lv_istore_n (lv' := [(0, .int x10), (1, .int x9)]) hx hb d_JI_numberOfTrailingZeros_61 rfl hl (by decide) rfl (fun ls hl => ?_)
            exact jn62 (x10, x9) _ _ _ ⟨by (try dsimp only) <;> (first | (apply Int.le_antisymm <;> omega) | omega), hP, hD, hS, lv_sub hl [0, 1] rfl⟩
      · skip
        refine lv_icmp_le (tgt := 49) hx hb d_JI_numberOfTrailingZeros_38 (by decide) (fun c38 => ?_) (fun c38 => ?_)
        · have q38 := leI c38
          exact jn49 (j34_l0, j34_l1) _ _ _ ⟨by (try dsimp only) <;> (first | (apply Int.le_antisymm <;> omega) | omega), hP, hD, hS, lv_sub hl [0, 1] rfl⟩
        · have q38 := nleI c38
          obtain ⟨x11, ex11⟩ : ∃ z : Int32, z = j34_l1 + 8 := ⟨_, rfl⟩
          have tx11 : x11.toInt = j34_l1.toInt + 8 := by have z := i32_add ex11 (by (first | (apply Int.le_antisymm <;> omega) | omega)) (by (first | (apply Int.le_antisymm <;> omega) | omega)); first | exact z | (first | (apply Int.le_antisymm <;> omega) | omega)
          refine lv_iinc (v := x11) (lv' := [(1, .int x11), (0, .int j34_l0)]) hx hb d_JI_numberOfTrailingZeros_41 hl (k := 1) rfl (by rw [ex11]; rfl) (by decide) rfl (fun ls hl => ?_)
          refine lv_iload_n hx hb d_JI_numberOfTrailingZeros_44 rfl (lv_at hl 1 rfl) ?_
          refine lv_bipush (v := 8) hx hb d_JI_numberOfTrailingZeros_45 (by decide) ?_
          refine lv_iushr hx hb d_JI_numberOfTrailingZeros_47 rfl ?_
          refine lv_topi (fun x12 ex12 => ?_)
          have tx12 := ushr_t (k := 8) ex12 (by decide) (by (first | (apply Int.le_antisymm <;> omega) | omega))
          rw [show (2 : Nat) ^ 8 = 256 from rfl] at tx12
          refine lv_istore_n (lv' := [(0, .int x12), (1, .int x11)]) hx hb d_JI_numberOfTrailingZeros_48 rfl hl (by decide) rfl (fun ls hl => ?_)
          exact jn49 (x12, x11) _ _ _ ⟨by (try dsimp only) <;> (first | (apply Int.le_antisymm <;> omega) | omega), hP, hD, hS, lv_sub hl [0, 1] rfl⟩
    · skip
      refine lv_icmp_le (tgt := 34) hx hb d_JI_numberOfTrailingZeros_23 (by decide) (fun c23 => ?_) (fun c23 => ?_)
      · have q23 := leI c23
        exact jn34 (x3, 1) _ _ _ ⟨by (try dsimp only) <;> (first | (apply Int.le_antisymm <;> omega) | omega), hP, hD, hS, lv_sub hl [1, 0] rfl⟩
      · have q23 := nleI c23
        obtain ⟨x13, ex13⟩ : ∃ z : Int32, z = 1 + 16 := ⟨_, rfl⟩
        have tx13 : x13.toInt = 1 + 16 := by have z := i32_add ex13 (by (first | (apply Int.le_antisymm <;> omega) | omega)) (by (first | (apply Int.le_antisymm <;> omega) | omega)); first | exact z | (first | (apply Int.le_antisymm <;> omega) | omega)
        refine lv_iinc (v := x13) (lv' := [(1, .int x13), (0, .int x3)]) hx hb d_JI_numberOfTrailingZeros_26 hl (k := 0) rfl (by rw [ex13]; rfl) (by decide) rfl (fun ls hl => ?_)
        refine lv_iload_n hx hb d_JI_numberOfTrailingZeros_29 rfl (lv_at hl 1 rfl) ?_
        refine lv_bipush (v := 16) hx hb d_JI_numberOfTrailingZeros_30 (by decide) ?_
        refine lv_iushr hx hb d_JI_numberOfTrailingZeros_32 rfl ?_
        refine lv_topi (fun x14 ex14 => ?_)
        have tx14 := ushr_t (k := 16) ex14 (by decide) (by (first | (apply Int.le_antisymm <;> omega) | omega))
        rw [show (2 : Nat) ^ 16 = 65536 from rfl] at tx14
        refine lv_istore_n (lv' := [(0, .int x14), (1, .int x13)]) hx hb d_JI_numberOfTrailingZeros_33 rfl hl (by decide) rfl (fun ls hl => ?_)
        exact jn34 (x14, x13) _ _ _ ⟨by (try dsimp only) <;> (first | (apply Int.le_antisymm <;> omega) | omega), hP, hD, hS, lv_sub hl [0, 1] rfl⟩
  · have q9 := nltI c9
    refine lv_iload_n hx hb d_JI_numberOfTrailingZeros_12 rfl (lv_at hl 0 rfl) ?_
    refine lv_bipush (v := 32) hx hb d_JI_numberOfTrailingZeros_13 (by decide) ?_
    refine lv_iand hx hb d_JI_numberOfTrailingZeros_15 ?_
    refine lv_topi (fun x15 ex15 => ?_)
    have tx15 := and32 x3
    rw [← ex15] at tx15
    have hP9 := hP.sb (wq := []) [] rfl
    have hD9 := hD.sb (wq := []) [] (by decide) rfl
    exact W.iret (v := x15) hx hb hr (fun t ht hW => ⟨⟨x15, (), rfl, (by (try dsimp only) <;> (first | (apply Int.le_antisymm <;> omega) | omega)), va_P.he ht.symm hP9, va_K.moved hW.alike hK, hD9⟩, hS.F ht⟩) hS.2.2 d_JI_numberOfTrailingZeros_16
abbrev at_CD_greatestAlignmentr (dC : Nat → ClassId) (dI : Nat → Nat → Nat)  (A : Nat → Prop) (u : Unit) (t : State) : Prop := match u with | _ => va_P (dC, dI) cls [] t.heap ∧ va_K (dC, dI) cls [] t ∧ va_D A []
set_option maxHeartbeats 4000000 in
set_option maxRecDepth 100000 in
theorem c_CD_greatestAlignmentr (l : Launch) (dC : Nat → ClassId) (dI : Nat → Nat → Nat) (sz : Nat)    (p0 : Int32)   : Met l y_CD_greatestAlignment w_CD_greatestAlignment ({ frames := 1, cells := 0, slots := 0, locals := 21 }) (va_Pc [.int p0] (fun U => U.heap.size = sz ∧ va_P (dC, dI) cls [] U.heap ∧ va_K (dC, dI) cls [] U ∧ va_D (fun _ => True) [])) (va_Qi (fun (r : Int32) (u : Unit) => match u with | _ => (0 ≤ r.toInt ∧ r.toInt ≤ 40)) (at_CD_greatestAlignmentr dC dI  (va_A [] sz)) (va_A [] sz)) 0 0 (va_A [] sz) := by
  refine Met.ofW (cc := b_CD_greatestAlignment) (maxL := 1) (ret := (Option.some .int)) (by decide) rfl ?_
  intro p e s m args below meth c s₁ B hml hv
  obtain ⟨rfl, hsz, hP, hK, hD0⟩ := hv
  have hx := B.exec
  have hb := B.bytes
  have hr := B.returns
  have hts0 := atoms_spec (ws := w_CD_greatestAlignment) B.pre
  have hts : ∀ w ∈ lw_g, w.before _ s = true := fun w h => hts0 w (List.mem_cons_of_mem _ h)
  have hown : s.vm.findClass R_CD = some m.cls := findClass_of_methodNamed B.named
  have hlocks := B.notSynchronized
  clear hts0
  subst hsz
  have hD := hD0.self (sz := s.heap.size)
  generalize hAe : va_A [] s.heap.size = A at hD ⊢
  have hA : ∀ q : Nat, s.heap.size ≤ q → A q := fun q h => by rw [← hAe]; exact Or.inr h
  clear hAe
  have hP : va_P (dC, dI) cls [] s.heap := hP
  have hl := lv_entry ([.int p0]) (n := 1) (Nat.le_of_ble_eq_true rfl)
  rw [lg_entry_eq]
  generalize (lg_sl ([.int p0]) ++ List.replicate (1 - (lg_sl ([.int p0])).length) Slot.unset).toArray = ls at hl ⊢
  have hl : lv_has ls 1 [(0, .int p0)] := hl
  have k0 : (0 : Int32).toInt = 0 := by decide
  refine w_gen (A := A) hP (fun H locs hP hS => ?_)
  have lo_p0 := i32_lo p0
  have hi_p0 := i32_hi p0
  refine lv_iload_n hx hb d_CD_greatestAlignment_0 rfl (lv_at hl 0 rfl) ?_
  have hPc := hP.sb (wq := []) [] rfl
  have hDc := hD.sb (wq := []) [] (by decide) rfl
  have hKc := hK.sb (tyq := []) [] rfl
  have hFc := va_free (wc := []) hD hS hA [] rfl
  refine va_calli (va_runS (As := [.int p0]) (rest := []) ⟨hx, hb, hml, hown, hts⟩ (c_CD_accessBytes l dC dI H.size p0) ⟨callB_of 1 hts (gW kC_CD_accessBytes) rfl rfl rfl (hts _ kI_CD) (hts _ kM_CD_37) (by decide +kernel) ⟨Nat.le_of_ble_eq_true rfl, Nat.le_of_ble_eq_true rfl⟩, hts _ kT_CD_accessBytes⟩ ⟨fun a U g mk z => by obtain ⟨z0, z1, zP, zK, zD⟩ := z; exact ⟨z0, z1, zP, va_K.moved (u := U) (U := U.calling g mk a) (Vm.Alike.refl U.vm) zK, zD⟩, fun U hU hW => ⟨rfl, by rw [hU], va_P.he hU.symm hPc, va_K.moved hW.alike hKc, hDc.weaken (fun _ _ _ _ => trivial)⟩⟩ rfl rfl hl.1 rfl (lv_room (Nat.le_of_ble_eq_true rfl)) d_CD_greatestAlignment_1 ⟨(Nat.zero_le _), (Nat.zero_le _)⟩) hS (fun q _ h => hFc q h) hFc (fun r1 u t H1 locs ht hvm hw hB hz1 hk1 hS => ?_)
  try dsimp only at hw
  have tr1 := hw
  obtain ⟨hP1, hK1, hD1⟩ := hB
  replace hP1 := va_P.he ht hP1
  obtain ⟨hP, hD⟩ := va_join (wr := []) (w1 := []) hP hD [] [] rfl rfl (by decide) (by decide) hk1 hFc hP1 hD1
  clear hPc hDc hKc hFc hz1 hk1 hP1 hK1 hD1
  rename Heap => H
  have hP : va_P (dC, dI) cls [] H := hP
  have hD : va_D A [] := hD
  have hPc := hP.sb (wq := []) [] rfl
  have hDc := hD.sb (wq := []) [] (by decide) rfl
  have hKc := hK.sb (tyq := []) [] rfl
  have hFc := va_free (wc := []) hD hS hA [] rfl
  refine va_calli (va_runS (As := [.int r1]) (rest := []) ⟨hx, hb, hml, hown, hts⟩ (c_JI_numberOfTrailingZerosr l dC dI H.size r1) ⟨callB_of 1 hts (gW kC_JI_numberOfTrailingZeros) rfl rfl rfl (hts _ kI_JI) (hts _ kM_CD_41) (by decide +kernel) ⟨Nat.le_of_ble_eq_true rfl, Nat.le_of_ble_eq_true rfl⟩, hts _ kT_JI_numberOfTrailingZeros⟩ ⟨fun a U g mk z => by obtain ⟨z0, z1, zP, zK, zD⟩ := z; exact ⟨z0, z1, zP, va_K.moved (u := U) (U := U.calling g mk a) (Vm.Alike.refl U.vm) zK, zD⟩, fun U hU hW => ⟨rfl, by rw [hU], va_P.he hU.symm hPc, va_K.moved hW.alike hKc, hDc.weaken (fun _ _ _ _ => trivial)⟩⟩ rfl rfl hl.1 rfl (lv_room (Nat.le_of_ble_eq_true rfl)) d_CD_greatestAlignment_4 ⟨(Nat.zero_le _), (Nat.zero_le _)⟩) hS (fun q _ h => hFc q h) hFc (fun r2 u t H1 locs ht hvm hw hB hz1 hk1 hS => ?_)
  try dsimp only at hw
  have xr2 := hw
  try clear hw
  obtain ⟨hP1, hK1, hD1⟩ := hB
  replace hP1 := va_P.he ht hP1
  obtain ⟨hP, hD⟩ := va_join (wr := []) (w1 := []) hP hD [] [] rfl rfl (by decide) (by decide) hk1 hFc hP1 hD1
  clear hPc hDc hKc hFc hz1 hk1 hP1 hK1 hD1
  rename Heap => H
  have hP : va_P (dC, dI) cls [] H := hP
  have hD : va_D A [] := hD
  have hP9 := hP.sb (wq := []) [] rfl
  have hD9 := hD.sb (wq := []) [] (by decide) rfl
  exact W.iret (v := r2) hx hb hr (fun t ht hW => ⟨⟨r2, (), rfl, (by (try dsimp only) <;> (first | (apply Int.le_antisymm <;> omega) | omega)), va_P.he ht.symm hP9, va_K.moved hW.alike hK, hD9⟩, hS.F ht⟩) hS.2.2 d_CD_greatestAlignment_7
abbrev b_CO_codeAssign : ByteArray := prog_4_method_15_code
def y_CO_codeAssign : MethodName := ⟨R_CO, "codeAssign", "(I)V"⟩
abbrev w_CO_codeAssign : List Cond := .code y_CO_codeAssign b_CO_codeAssign 6 none :: lw_g
theorem kC_CO_codeAssign : Cond.code y_CO_codeAssign b_CO_codeAssign 6 none ∈ lw_g := in_c5 234 rfl rfl
theorem d_CO_codeAssign_0 : decode b_CO_codeAssign 0 = .ok (.aload_n 0, 1) := bz_c42 (by decide +kernel)
theorem d_CO_codeAssign_1 : decode b_CO_codeAssign 1 = .ok (.getfield 36, 3) := bz_c180 (by decide +kernel)
theorem d_CO_codeAssign_4 : decode b_CO_codeAssign 4 = .ok (.getfield 193, 3) := bz_c180 (by decide +kernel)
theorem d_CO_codeAssign_7 : decode b_CO_codeAssign 7 = .ok (.iload_n 1, 1) := bz_c27 (by decide +kernel)
theorem d_CO_codeAssign_8 : decode b_CO_codeAssign 8 = .ok (.iaload, 1) := bz_c46 (by decide +kernel)
theorem d_CO_codeAssign_9 : decode b_CO_codeAssign 9 = .ok (.istore_n 2, 1) := bz_c61 (by decide +kernel)
theorem d_CO_codeAssign_10 : decode b_CO_codeAssign 10 = .ok (.aload_n 0, 1) := bz_c42 (by decide +kernel)
theorem d_CO_codeAssign_11 : decode b_CO_codeAssign 11 = .ok (.getfield 54, 3) := bz_c180 (by decide +kernel)
theorem d_CO_codeAssign_14 : decode b_CO_codeAssign 14 = .ok (.iload_n 2, 1) := bz_c28 (by decide +kernel)
theorem d_CO_codeAssign_15 : decode b_CO_codeAssign 15 = .ok (.aload_n 0, 1) := bz_c42 (by decide +kernel)
theorem d_CO_codeAssign_16 : decode b_CO_codeAssign 16 = .ok (.getfield 36, 3) := bz_c180 (by decide +kernel)
theorem d_CO_codeAssign_19 : decode b_CO_codeAssign 19 = .ok (.getfield 216, 3) := bz_c180 (by decide +kernel)
theorem d_CO_codeAssign_22 : decode b_CO_codeAssign 22 = .ok (.iload_n 1, 1) := bz_c27 (by decide +kernel)
theorem d_CO_codeAssign_23 : decode b_CO_codeAssign 23 = .ok (.iaload, 1) := bz_c46 (by decide +kernel)
theorem d_CO_codeAssign_24 : decode b_CO_codeAssign 24 = .ok (.invokevirtual 158, 3) := bz_c182 (by decide +kernel)
theorem d_CO_codeAssign_27 : decode b_CO_codeAssign 27 = .ok (.istore_n 3, 1) := bz_c62 (by decide +kernel)
theorem d_CO_codeAssign_28 : decode b_CO_codeAssign 28 = .ok (.aload_n 0, 1) := bz_c42 (by decide +kernel)
theorem d_CO_codeAssign_29 : decode b_CO_codeAssign 29 = .ok (.getfield 36, 3) := bz_c180 (by decide +kernel)
theorem d_CO_codeAssign_32 : decode b_CO_codeAssign 32 = .ok (.getfield 42, 3) := bz_c180 (by decide +kernel)
theorem d_CO_codeAssign_35 : decode b_CO_codeAssign 35 = .ok (.iload_n 2, 1) := bz_c28 (by decide +kernel)
theorem d_CO_codeAssign_36 : decode b_CO_codeAssign 36 = .ok (.aload_n 0, 1) := bz_c42 (by decide +kernel)
theorem d_CO_codeAssign_37 : decode b_CO_codeAssign 37 = .ok (.getfield 36, 3) := bz_c180 (by decide +kernel)
theorem d_CO_codeAssign_40 : decode b_CO_codeAssign 40 = .ok (.getfield 216, 3) := bz_c180 (by decide +kernel)
theorem d_CO_codeAssign_43 : decode b_CO_codeAssign 43 = .ok (.iload_n 1, 1) := bz_c27 (by decide +kernel)
theorem d_CO_codeAssign_44 : decode b_CO_codeAssign 44 = .ok (.iaload, 1) := bz_c46 (by decide +kernel)
theorem d_CO_codeAssign_45 : decode b_CO_codeAssign 45 = .ok (.invokevirtual 158, 3) := bz_c182 (by decide +kernel)
theorem d_CO_codeAssign_48 : decode b_CO_codeAssign 48 = .ok (.istore 4, 2) := bz_c54 (by decide +kernel)
theorem d_CO_codeAssign_50 : decode b_CO_codeAssign 50 = .ok (.aload_n 0, 1) := bz_c42 (by decide +kernel)
theorem d_CO_codeAssign_51 : decode b_CO_codeAssign 51 = .ok (.invokevirtual 224, 3) := bz_c182 (by decide +kernel)
theorem d_CO_codeAssign_54 : decode b_CO_codeAssign 54 = .ok (.istore 5, 2) := bz_c54 (by decide +kernel)
theorem d_CO_codeAssign_56 : decode b_CO_codeAssign 56 = .ok (.iload_n 3, 1) := bz_c29 (by decide +kernel)
theorem d_CO_codeAssign_57 : decode b_CO_codeAssign 57 = .ok (.ifCond .ge 18, 3) := bz_c156 (by decide +kernel)
theorem d_CO_codeAssign_60 : decode b_CO_codeAssign 60 = .ok (.iload 4, 2) := bz_c21 (by decide +kernel)
theorem d_CO_codeAssign_62 : decode b_CO_codeAssign 62 = .ok (.ifCond .ge 13, 3) := bz_c156 (by decide +kernel)
theorem d_CO_codeAssign_65 : decode b_CO_codeAssign 65 = .ok (.aload_n 0, 1) := bz_c42 (by decide +kernel)
theorem d_CO_codeAssign_66 : decode b_CO_codeAssign 66 = .ok (.getfield 36, 3) := bz_c180 (by decide +kernel)
theorem d_CO_codeAssign_69 : decode b_CO_codeAssign 69 = .ok (.iconst 2, 1) := bz_c5 (by decide +kernel)
theorem d_CO_codeAssign_70 : decode b_CO_codeAssign 70 = .ok (.iload_n 2, 1) := bz_c28 (by decide +kernel)
theorem d_CO_codeAssign_71 : decode b_CO_codeAssign 71 = .ok (.invokevirtual 105, 3) := bz_c182 (by decide +kernel)
theorem d_CO_codeAssign_74 : decode b_CO_codeAssign 74 = .ok (.return_, 1) := bz_c177 (by decide +kernel)
theorem d_CO_codeAssign_75 : decode b_CO_codeAssign 75 = .ok (.iload 5, 2) := bz_c21 (by decide +kernel)
theorem d_CO_codeAssign_77 : decode b_CO_codeAssign 77 = .ok (.iload_n 3, 1) := bz_c29 (by decide +kernel)
theorem d_CO_codeAssign_78 : decode b_CO_codeAssign 78 = .ok (.ifCond .lt 15, 3) := bz_c155 (by decide +kernel)
theorem d_CO_codeAssign_81 : decode b_CO_codeAssign 81 = .ok (.aload_n 0, 1) := bz_c42 (by decide +kernel)
theorem d_CO_codeAssign_82 : decode b_CO_codeAssign 82 = .ok (.getfield 54, 3) := bz_c180 (by decide +kernel)
theorem d_CO_codeAssign_85 : decode b_CO_codeAssign 85 = .ok (.getfield 121, 3) := bz_c180 (by decide +kernel)
theorem d_CO_codeAssign_88 : decode b_CO_codeAssign 88 = .ok (.iload_n 3, 1) := bz_c29 (by decide +kernel)
theorem d_CO_codeAssign_89 : decode b_CO_codeAssign 89 = .ok (.iaload, 1) := bz_c46 (by decide +kernel)
theorem d_CO_codeAssign_90 : decode b_CO_codeAssign 90 = .ok (.goto 16, 3) := bz_c167 (by decide +kernel)
theorem d_CO_codeAssign_93 : decode b_CO_codeAssign 93 = .ok (.aload_n 0, 1) := bz_c42 (by decide +kernel)
theorem d_CO_codeAssign_94 : decode b_CO_codeAssign 94 = .ok (.getfield 36, 3) := bz_c180 (by decide +kernel)
theorem d_CO_codeAssign_97 : decode b_CO_codeAssign 97 = .ok (.getfield 42, 3) := bz_c180 (by decide +kernel)
theorem d_CO_codeAssign_100 : decode b_CO_codeAssign 100 = .ok (.getfield 121, 3) := bz_c180 (by decide +kernel)
theorem d_CO_codeAssign_103 : decode b_CO_codeAssign 103 = .ok (.iload 4, 2) := bz_c21 (by decide +kernel)
theorem d_CO_codeAssign_105 : decode b_CO_codeAssign 105 = .ok (.iaload, 1) := bz_c46 (by decide +kernel)
theorem d_CO_codeAssign_106 : decode b_CO_codeAssign 106 = .ok (.if_icmp .eq 12, 3) := bz_c159 (by decide +kernel)
theorem d_CO_codeAssign_109 : decode b_CO_codeAssign 109 = .ok (.aload_n 0, 1) := bz_c42 (by decide +kernel)
theorem d_CO_codeAssign_110 : decode b_CO_codeAssign 110 = .ok (.getfield 36, 3) := bz_c180 (by decide +kernel)
theorem d_CO_codeAssign_113 : decode b_CO_codeAssign 113 = .ok (.iconst 3, 1) := bz_c6 (by decide +kernel)
theorem d_CO_codeAssign_114 : decode b_CO_codeAssign 114 = .ok (.iload_n 2, 1) := bz_c28 (by decide +kernel)
theorem d_CO_codeAssign_115 : decode b_CO_codeAssign 115 = .ok (.invokevirtual 105, 3) := bz_c182 (by decide +kernel)
theorem d_CO_codeAssign_118 : decode b_CO_codeAssign 118 = .ok (.aload_n 0, 1) := bz_c42 (by decide +kernel)
theorem d_CO_codeAssign_119 : decode b_CO_codeAssign 119 = .ok (.getfield 26, 3) := bz_c180 (by decide +kernel)
theorem d_CO_codeAssign_122 : decode b_CO_codeAssign 122 = .ok (.iload_n 3, 1) := bz_c29 (by decide +kernel)
theorem d_CO_codeAssign_123 : decode b_CO_codeAssign 123 = .ok (.ifCond .lt 8, 3) := bz_c155 (by decide +kernel)
theorem d_CO_codeAssign_126 : decode b_CO_codeAssign 126 = .ok (.bipush 33, 2) := bz_c16 (by decide +kernel)
theorem d_CO_codeAssign_128 : decode b_CO_codeAssign 128 = .ok (.goto 5, 3) := bz_c167 (by decide +kernel)
theorem d_CO_codeAssign_131 : decode b_CO_codeAssign 131 = .ok (.bipush 36, 2) := bz_c16 (by decide +kernel)
theorem d_CO_codeAssign_133 : decode b_CO_codeAssign 133 = .ok (.invokevirtual 76, 3) := bz_c182 (by decide +kernel)
theorem d_CO_codeAssign_136 : decode b_CO_codeAssign 136 = .ok (.aload_n 0, 1) := bz_c42 (by decide +kernel)
theorem d_CO_codeAssign_137 : decode b_CO_codeAssign 137 = .ok (.getfield 26, 3) := bz_c180 (by decide +kernel)
theorem d_CO_codeAssign_140 : decode b_CO_codeAssign 140 = .ok (.iload_n 3, 1) := bz_c29 (by decide +kernel)
theorem d_CO_codeAssign_141 : decode b_CO_codeAssign 141 = .ok (.ifCond .lt 16, 3) := bz_c155 (by decide +kernel)
theorem d_CO_codeAssign_144 : decode b_CO_codeAssign 144 = .ok (.aload_n 0, 1) := bz_c42 (by decide +kernel)
theorem d_CO_codeAssign_145 : decode b_CO_codeAssign 145 = .ok (.getfield 54, 3) := bz_c180 (by decide +kernel)
theorem d_CO_codeAssign_148 : decode b_CO_codeAssign 148 = .ok (.getfield 217, 3) := bz_c180 (by decide +kernel)
theorem d_CO_codeAssign_151 : decode b_CO_codeAssign 151 = .ok (.iload_n 3, 1) := bz_c29 (by decide +kernel)
theorem d_CO_codeAssign_152 : decode b_CO_codeAssign 152 = .ok (.laload, 1) := bz_c47 (by decide +kernel)
theorem d_CO_codeAssign_153 : decode b_CO_codeAssign 153 = .ok (.l2i, 1) := bz_c136 (by decide +kernel)
theorem d_CO_codeAssign_154 : decode b_CO_codeAssign 154 = .ok (.goto 5, 3) := bz_c167 (by decide +kernel)
theorem d_CO_codeAssign_157 : decode b_CO_codeAssign 157 = .ok (.iload 4, 2) := bz_c21 (by decide +kernel)
theorem d_CO_codeAssign_159 : decode b_CO_codeAssign 159 = .ok (.invokevirtual 218, 3) := bz_c182 (by decide +kernel)
theorem d_CO_codeAssign_162 : decode b_CO_codeAssign 162 = .ok (.return_, 1) := bz_c177 (by decide +kernel)
abbrev at_CO_codeAssign (dC : Nat → ClassId) (dI : Nat → Nat → Nat) (sa : Nat → Nat) (h0 pr kn lt pe to bo cs se gl fu pa pf sf pk pg pp pz pv pr_scanner_r pr_waiting_r pr_waitingPlaces_r bob tr kns knz knt knv tx gls glz glt glv : Nat) (cpe cbob ckns cknz cknt cknv ctx cpp cpz cgls cglz cglt : ClassId) (h0_localCount : Int32) (h0_gives : Int32) (h0_depth : Int32) (h0_loopDepth : Int32) (pr_stepCount : Int32) (pr_open : Int32) (pr_twoSides : Int32) (pr_waitingCount : Int32) (gpe : Nat → Int32) (kn_length : Int32) (gkns : Nat → Int32) (gknz : Nat → Int32) (gknt : Nat → Int32) (gknv : Nat → Int64) (tr_length : Int32) (gtx : Nat → Int32) (gpp : Nat → Int32) (gpz : Nat → Int32) (gl_length : Int32) (ggls : Nat → Int32) (gglz : Nat → Int32) (gglt : Nat → Int32) (A : Nat → Prop) (u : (Nat → Int32) × Int32 × Int32 × Int32 × Int32) (t : State) : Prop := match u with | (gbob, bo_length, h0_pendingCount, pr_place, pr_reason) => va_P (dC, dI) cls (wz_167 h0 pr kn lt h0_localCount pe h0_pendingCount h0_gives h0_depth h0_loopDepth to bo cs se pr gl fu pa pf sf pk pg pp pz pv pr_reason pr_place pr_scanner_r pr_stepCount pr_open pr_twoSides pr_waiting_r pr_waitingPlaces_r pr_waitingCount pe cpe gpe bo bob bo_length bob cbob gbob kn tr kns knz knt knv kn_length kns ckns gkns knz cknz gknz knt cknt gknt knv cknv gknv tr tx tr_length tx ctx gtx pp cpp gpp pz cpz gpz gl tr gls glz glt glv gl_length gls cgls ggls glz cglz gglz glt cglt gglt) t.heap ∧ va_K (dC, dI) cls [(cpe, .int), (cbob, .byte), (ckns, .int), (cknz, .int), (cknt, .int), (cknv, .long), (ctx, .byte), (cpp, .int), (cpz, .int), (cgls, .int), (cglz, .int), (cglt, .int)] t ∧ va_D A (wz_167 h0 pr kn lt h0_localCount pe h0_pendingCount h0_gives h0_depth h0_loopDepth to bo cs se pr gl fu pa pf sf pk pg pp pz pv pr_reason pr_place pr_scanner_r pr_stepCount pr_open pr_twoSides pr_waiting_r pr_waitingPlaces_r pr_waitingCount pe cpe gpe bo bob bo_length bob cbob gbob kn tr kns knz knt knv kn_length kns ckns gkns knz cknz gknz knt cknt gknt knv cknv gknv tr tx tr_length tx ctx gtx pp cpp gpp pz cpz gpz gl tr gls glz glt glv gl_length gls cgls ggls glz cglz gglz glt cglt gglt)
set_option maxHeartbeats 4000000 in
set_option maxRecDepth 100000 in
theorem c_CO_codeAssign (l : Launch) (hlt : l.stackTraces = false) (dC : Nat → ClassId) (dI : Nat → Nat → Nat) (sz : Nat) (sa : Nat → Nat) (h0 pr kn lt pe to bo cs se gl fu pa pf sf pk pg pp pz pv pr_scanner_r pr_waiting_r pr_waitingPlaces_r bob tr kns knz knt knv tx gls glz glt glv : Nat) (cpe cbob ckns cknz cknt cknv ctx cpp cpz cgls cglz cglt : ClassId) (h0_localCount : Int32) (h0_pendingCount : Int32) (h0_gives : Int32) (h0_depth : Int32) (h0_loopDepth : Int32) (pr_reason : Int32) (pr_place : Int32) (pr_stepCount : Int32) (pr_open : Int32) (pr_twoSides : Int32) (pr_waitingCount : Int32) (gpe : Nat → Int32) (bo_length : Int32) (gbob : Nat → Int32) (kn_length : Int32) (gkns : Nat → Int32) (gknz : Nat → Int32) (gknt : Nat → Int32) (gknv : Nat → Int64) (tr_length : Int32) (gtx : Nat → Int32) (gpp : Nat → Int32) (gpz : Nat → Int32) (gl_length : Int32) (ggls : Nat → Int32) (gglz : Nat → Int32) (gglt : Nat → Int32)  (b_h0_localCount : 0 ≤ h0_localCount.toInt ∧ h0_localCount.toInt ≤ 50) (b_h0_pendingCount : 0 ≤ h0_pendingCount.toInt ∧ h0_pendingCount.toInt ≤ 680) (b_bo_length : 0 ≤ bo_length.toInt ∧ bo_length.toInt ≤ 8192) (b_kn_length : 0 ≤ kn_length.toInt ∧ kn_length.toInt ≤ 50) (b_tr_length : 0 ≤ tr_length.toInt ∧ tr_length.toInt ≤ 2000) (b_gl_length : 0 ≤ gl_length.toInt ∧ gl_length.toInt ≤ 20) (p0 : Int32)  (hi : 0 ≤ p0.toInt ∧ p0.toInt < 4100) (hz : 0 ≤ (gpz p0.toNatClampNeg).toInt) (hkq : kq kn_length.toInt gknt gknv h0_localCount.toInt) (hgq : gq gl_length.toInt gglt) (hpc : 1 ≤ h0_pendingCount.toInt) (hbo : bo_length.toInt + 7 ≤ 8192) : tz_Met l y_CO_codeAssign w_CO_codeAssign ({ frames := 7, cells := 1, slots := 6, locals := 112 }) (va_Pc [.ref h0, .int p0] (fun U => U.heap.size = sz ∧ va_P (dC, dI) cls (wz_167 h0 pr kn lt h0_localCount pe h0_pendingCount h0_gives h0_depth h0_loopDepth to bo cs se pr gl fu pa pf sf pk pg pp pz pv pr_reason pr_place pr_scanner_r pr_stepCount pr_open pr_twoSides pr_waiting_r pr_waitingPlaces_r pr_waitingCount pe cpe gpe bo bob bo_length bob cbob gbob kn tr kns knz knt knv kn_length kns ckns gkns knz cknz gknz knt cknt gknt knv cknv gknv tr tx tr_length tx ctx gtx pp cpp gpp pz cpz gpz gl tr gls glz glt glv gl_length gls cgls ggls glz cglz gglz glt cglt gglt) U.heap ∧ va_K (dC, dI) cls [(cpe, .int), (cbob, .byte), (ckns, .int), (cknz, .int), (cknt, .int), (cknv, .long), (ctx, .byte), (cpp, .int), (cpz, .int), (cgls, .int), (cglz, .int), (cglt, .int)] U ∧ va_D (fun _ => True) (wz_167 h0 pr kn lt h0_localCount pe h0_pendingCount h0_gives h0_depth h0_loopDepth to bo cs se pr gl fu pa pf sf pk pg pp pz pv pr_reason pr_place pr_scanner_r pr_stepCount pr_open pr_twoSides pr_waiting_r pr_waitingPlaces_r pr_waitingCount pe cpe gpe bo bob bo_length bob cbob gbob kn tr kns knz knt knv kn_length kns ckns gkns knz cknz gknz knt cknt gknt knv cknv gknv tr tx tr_length tx ctx gtx pp cpp gpp pz cpz gpz gl tr gls glz glt glv gl_length gls cgls ggls glz cglz gglz glt cglt gglt) ∧ sw sa (va_A (wz_167 h0 pr kn lt h0_localCount pe h0_pendingCount h0_gives h0_depth h0_loopDepth to bo cs se pr gl fu pa pf sf pk pg pp pz pv pr_reason pr_place pr_scanner_r pr_stepCount pr_open pr_twoSides pr_waiting_r pr_waitingPlaces_r pr_waitingCount pe cpe gpe bo bob bo_length bob cbob gbob kn tr kns knz knt knv kn_length kns ckns gkns knz cknz gknz knt cknt gknt knv cknv gknv tr tx tr_length tx ctx gtx pp cpp gpp pz cpz gpz gl tr gls glz glt glv gl_length gls cgls ggls glz cglz gglz glt cglt gglt) sz) U U.heap)) (tq_Q (tq_v (fun (u : (Nat → Int32) × Int32 × Int32 × Int32 × Int32) => match u with | (gbob2, bo_length2, h0_pendingCount2, pr_place2, pr_reason2) => (0 ≤ bo_length2.toInt ∧ bo_length2.toInt ≤ 8192) ∧ (0 ≤ h0_pendingCount2.toInt ∧ h0_pendingCount2.toInt ≤ 680) ∧ (h0_pendingCount2.toInt = h0_pendingCount.toInt - 1 ∧ (gpe (h0_pendingCount.toInt - 1).toNat).toInt ≠ 64 ∧ ∃ (op v : Int), ((op = 33 ∧ 0 ≤ v ∧ v < h0_localCount.toInt) ∨ (op = 36 ∧ 0 ≤ v ∧ v < gl_length.toInt)) ∧ bo_length2.toInt = bo_length.toInt + 2 ∧ bl gbob2 bo_length2.toNatClampNeg = bl gbob bo_length.toNatClampNeg ++ [op.toNat, v.toNat])) "java/lang/UnsupportedOperationException" (fun (u : (Nat → Int32) × Int32 × Int32 × Int32 × Int32) => match u with | (gbob2, bo_length2, h0_pendingCount2, pr_place2, pr_reason2) => (0 ≤ bo_length2.toInt ∧ bo_length2.toInt ≤ 8192) ∧ (0 ≤ h0_pendingCount2.toInt ∧ h0_pendingCount2.toInt ≤ 680))) (at_CO_codeAssign dC dI sa h0 pr kn lt pe to bo cs se gl fu pa pf sf pk pg pp pz pv pr_scanner_r pr_waiting_r pr_waitingPlaces_r bob tr kns knz knt knv tx gls glz glt glv cpe cbob ckns cknz cknt cknv ctx cpp cpz cgls cglz cglt h0_localCount h0_gives h0_depth h0_loopDepth pr_stepCount pr_open pr_twoSides pr_waitingCount gpe kn_length gkns gknz gknt gknv tr_length gtx gpp gpz gl_length ggls gglz gglt (va_A (wz_167 h0 pr kn lt h0_localCount pe h0_pendingCount h0_gives h0_depth h0_loopDepth to bo cs se pr gl fu pa pf sf pk pg pp pz pv pr_reason pr_place pr_scanner_r pr_stepCount pr_open pr_twoSides pr_waiting_r pr_waitingPlaces_r pr_waitingCount pe cpe gpe bo bob bo_length bob cbob gbob kn tr kns knz knt knv kn_length kns ckns gkns knz cknz gknz knt cknt gknt knv cknv gknv tr tx tr_length tx ctx gtx pp cpp gpp pz cpz gpz gl tr gls glz glt glv gl_length gls cgls ggls glz cglz gglz glt cglt gglt) sz)) (va_A (wz_167 h0 pr kn lt h0_localCount pe h0_pendingCount h0_gives h0_depth h0_loopDepth to bo cs se pr gl fu pa pf sf pk pg pp pz pv pr_reason pr_place pr_scanner_r pr_stepCount pr_open pr_twoSides pr_waiting_r pr_waitingPlaces_r pr_waitingCount pe cpe gpe bo bob bo_length bob cbob gbob kn tr kns knz knt knv kn_length kns ckns gkns knz cknz gknz knt cknt gknt knv cknv gknv tr tx tr_length tx ctx gtx pp cpp gpp pz cpz gpz gl tr gls glz glt glv gl_length gls cgls ggls glz cglz gglz glt cglt gglt) sz)) (tz_k 0 0 1 6) (va_A (wz_167 h0 pr kn lt h0_localCount pe h0_pendingCount h0_gives h0_depth h0_loopDepth to bo cs se pr gl fu pa pf sf pk pg pp pz pv pr_reason pr_place pr_scanner_r pr_stepCount pr_open pr_twoSides pr_waiting_r pr_waitingPlaces_r pr_waitingCount pe cpe gpe bo bob bo_length bob cbob gbob kn tr kns knz knt knv kn_length kns ckns gkns knz cknz gknz knt cknt gknt knv cknv gknv tr tx tr_length tx ctx gtx pp cpp gpp pz cpz gpz gl tr gls glz glt glv gl_length gls cgls ggls glz cglz gglz glt cglt gglt) sz) := by
  refine tz_ofW (cc := b_CO_codeAssign) (maxL := 6) (ret := none) (by decide) rfl ?_
  intro p e s m args below meth c s₁ B hml hno hv
  obtain ⟨rfl, hsz, hP, hK, hD0, hSW⟩ := hv
  have hx := B.exec
  have hb := B.bytes
  have hr := B.returns
  have hts0 := atoms_spec (ws := w_CO_codeAssign) B.pre
  have hts : ∀ w ∈ lw_g, w.before _ s = true := fun w h => hts0 w (List.mem_cons_of_mem _ h)
  have hown : s.vm.findClass R_CO = some m.cls := findClass_of_methodNamed B.named
  have hlocks := B.notSynchronized
  clear hts0
  subst hsz
  have hD := hD0.self (sz := s.heap.size)
  generalize hAe : va_A (wz_167 h0 pr kn lt h0_localCount pe h0_pendingCount h0_gives h0_depth h0_loopDepth to bo cs se pr gl fu pa pf sf pk pg pp pz pv pr_reason pr_place pr_scanner_r pr_stepCount pr_open pr_twoSides pr_waiting_r pr_waitingPlaces_r pr_waitingCount pe cpe gpe bo bob bo_length bob cbob gbob kn tr kns knz knt knv kn_length kns ckns gkns knz cknz gknz knt cknt gknt knv cknv gknv tr tx tr_length tx ctx gtx pp cpp gpp pz cpz gpz gl tr gls glz glt glv gl_length gls cgls ggls glz cglz gglz glt cglt gglt) s.heap.size = A at hD hSW ⊢
  have hA : ∀ q : Nat, s.heap.size ≤ q → A q := fun q h => by rw [← hAe]; exact Or.inr h
  clear hAe
  have hP : va_P (dC, dI) cls (wz_167 h0 pr kn lt h0_localCount pe h0_pendingCount h0_gives h0_depth h0_loopDepth to bo cs se pr gl fu pa pf sf pk pg pp pz pv pr_reason pr_place pr_scanner_r pr_stepCount pr_open pr_twoSides pr_waiting_r pr_waitingPlaces_r pr_waitingCount pe cpe gpe bo bob bo_length bob cbob gbob kn tr kns knz knt knv kn_length kns ckns gkns knz cknz gknz knt cknt gknt knv cknv gknv tr tx tr_length tx ctx gtx pp cpp gpp pz cpz gpz gl tr gls glz glt glv gl_length gls cgls ggls glz cglz gglz glt cglt gglt) s.heap := hP
  have hl := lv_entry ([.ref h0, .int p0]) (n := 6) (Nat.le_of_ble_eq_true rfl)
  rw [lg_entry_eq]
  generalize (lg_sl ([.ref h0, .int p0]) ++ List.replicate (6 - (lg_sl ([.ref h0, .int p0])).length) Slot.unset).toArray = ls at hl ⊢
  have hl : lv_has ls 6 [(0, .ref h0), (1, .int p0)] := hl
  have k0 : (0 : Int32).toInt = 0 := by decide
  refine w_gen (A := A) hP (fun H locs hP hS => ?_)
  have k2 : (2 : Int32).toInt = 2 := by decide
  have k3 : (3 : Int32).toInt = 3 := by decide
  have k33 : (33 : Int32).toInt = 33 := by decide
  have k36 : (36 : Int32).toInt = 36 := by decide
  have lo_p0 := i32_lo p0
  have hi_p0 := i32_hi p0
  refine lv_aload_n hx hb d_CO_codeAssign_0 rfl (lv_at hl 0 rfl) ?_
  refine va_get (D := (dC, dI)) (ci := 2) (v := .ref pr) (C := R_CO) (T := F_CO) (N := 13) hx hb hts i_CO hown hK hP 0 rfl rfl 0 (by decide) (hts _ kF_CO_36) (fun _ h9 => h9) rfl d_CO_codeAssign_1 ?_
  refine va_get (D := (dC, dI)) (ci := 6) (v := .ref pp) (C := R_PR) (T := F_PR) (N := 19) hx hb hts i_PR hown hK hP 1 rfl rfl 7 (by decide) (hts _ kF_CO_193) (fun _ h9 => h9) rfl d_CO_codeAssign_4 ?_
  refine lv_iload_n hx hb d_CO_codeAssign_7 rfl (lv_at hl 1 rfl) ?_
  have g8 : vp_in p0 4100 := vp_in_iff.mpr ⟨by (first | (apply Int.le_antisymm <;> omega) | omega), by (first | (apply Int.le_antisymm <;> omega) | omega)⟩
  refine va_iald hx hb hK hP 12 7 rfl rfl g8 d_CO_codeAssign_8 ?_
  refine lv_topi (fun x1 ex1 => ?_)
  refine lv_istore_n (lv' := [(2, .int x1), (0, .ref h0), (1, .int p0)]) hx hb d_CO_codeAssign_9 rfl hl (by decide) rfl (fun ls hl => ?_)
  refine lv_aload_n hx hb d_CO_codeAssign_10 rfl (lv_at hl 1 rfl) ?_
  refine va_get (D := (dC, dI)) (ci := 2) (v := .ref kn) (C := R_CO) (T := F_CO) (N := 13) hx hb hts i_CO hown hK hP 0 rfl rfl 1 (by decide) (hts _ kF_CO_54) (fun _ h9 => h9) rfl d_CO_codeAssign_11 ?_
  refine lv_iload_n hx hb d_CO_codeAssign_14 rfl (lv_at hl 0 rfl) ?_
  refine lv_aload_n hx hb d_CO_codeAssign_15 rfl (lv_at hl 1 rfl) ?_
  refine va_get (D := (dC, dI)) (ci := 2) (v := .ref pr) (C := R_CO) (T := F_CO) (N := 13) hx hb hts i_CO hown hK hP 0 rfl rfl 0 (by decide) (hts _ kF_CO_36) (fun _ h9 => h9) rfl d_CO_codeAssign_16 ?_
  refine va_get (D := (dC, dI)) (ci := 6) (v := .ref pz) (C := R_PR) (T := F_PR) (N := 19) hx hb hts i_PR hown hK hP 1 rfl rfl 8 (by decide) (hts _ kF_CO_216) (fun _ h9 => h9) rfl d_CO_codeAssign_19 ?_
  refine lv_iload_n hx hb d_CO_codeAssign_22 rfl (lv_at hl 2 rfl) ?_
  have g23 : vp_in p0 4100 := vp_in_iff.mpr ⟨by (first | (apply Int.le_antisymm <;> omega) | omega), by (first | (apply Int.le_antisymm <;> omega) | omega)⟩
  refine va_iald hx hb hK hP 13 8 rfl rfl g23 d_CO_codeAssign_23 ?_
  refine lv_topi (fun x2 ex2 => ?_)
  have tx2 := hz
  rw [← ex2] at tx2
  have hPc := hP.sb (wq := (wz_151 kn tr kns knz knt knv kn_length tr tx tr_length tx ctx gtx kns ckns gkns knz cknz gknz)) [5, 10, 11, 6, 7] rfl
  have hDc := hD.sb (wq := (wz_151 kn tr kns knz knt knv kn_length tr tx tr_length tx ctx gtx kns ckns gkns knz cknz gknz)) [5, 10, 11, 6, 7] (by decide) rfl
  have hKc := hK.sb (tyq := [(ctx, .byte), (ckns, .int), (cknz, .int)]) [6, 2, 3] rfl
  have hFc := va_free (wc := (wz_151 kn tr kns knz knt knv kn_length tr tx tr_length tx ctx gtx kns ckns gkns knz cknz gknz)) hD hS hA [5, 10, 11, 6, 7] rfl
  refine va_calli (va_runV (As := [.int x1, .int x2]) (rest := []) ⟨hx, hb, hml, hown, hts⟩ (c_NA_indexOf l dC dI H.size kn tr kns knz knt knv tx ctx ckns cknz kn_length tr_length gtx 50 gkns gknz (b_tr_length) x1 x2 (by (first | (apply Int.le_antisymm <;> omega) | omega)) (by (first | (apply Int.le_antisymm <;> omega) | omega))) (cwV 2 hts (gV kM_CO_158 kV_NA_indexOf kS_NA_indexOf kI_NA kC_NA_indexOf) rfl rfl rfl (by decide +kernel) ⟨Nat.le_of_ble_eq_true rfl, Nat.le_of_ble_eq_true rfl⟩) ⟨fun a U g mk z => by obtain ⟨z0, z1, zP, zK, zD⟩ := z; exact ⟨z0, z1, zP, va_K.moved (u := U) (U := U.calling g mk a) (Vm.Alike.refl U.vm) zK, zD⟩, va_recv hKc hPc (ci := 5) (q0 := 0) rfl rfl, fun U hU hW => ⟨rfl, by rw [hU], va_P.he hU.symm hPc, va_K.moved hW.alike hKc, hDc.weaken (fun _ _ _ _ => trivial)⟩⟩ rfl rfl hl.1 rfl (lv_room (Nat.le_of_ble_eq_true rfl)) d_CO_codeAssign_24 ⟨(Nat.zero_le _), (Nat.zero_le _)⟩) hS (fun q _ h => hFc q h) hFc (fun r3 u t H1 locs ht hvm hw hB hz1 hk1 hS => ?_)
  try dsimp only at hw
  have xr3 := hw
  try clear hw
  obtain ⟨hP1, hK1, hD1⟩ := hB
  replace hP1 := va_P.he ht hP1
  obtain ⟨hP, hD⟩ := va_join (wr := [(h0, .inr (2, [.ref pr, .ref kn, .ref lt, .int h0_localCount, .ref pe, .int h0_pendingCount, .int h0_gives, .int h0_depth, .int h0_loopDepth, .ref to, .ref bo, .ref cs, .ref se])), (pr, .inr (6, [.ref gl, .ref fu, .ref pa, .ref pf, .ref sf, .ref pk, .ref pg, .ref pp, .ref pz, .ref pv, .int pr_reason, .int pr_place, .ref pr_scanner_r, .int pr_stepCount, .int pr_open, .int pr_twoSides, .ref pr_waiting_r, .ref pr_waitingPlaces_r, .int pr_waitingCount])), (pe, .inl (cpe, 680, .inl gpe)), (bo, .inr (1, [.ref bob, .int bo_length])), (bob, .inl (cbob, 8192, .inl gbob)), (knt, .inl (cknt, 50, .inl gknt)), (knv, .inl (cknv, 50, .inr (.inl gknv))), (pp, .inl (cpp, 4100, .inl gpp)), (pz, .inl (cpz, 4100, .inl gpz)), (gl, .inr (5, [.ref tr, .ref gls, .ref glz, .ref glt, .ref glv, .int gl_length])), (gls, .inl (cgls, 20, .inl ggls)), (glz, .inl (cglz, 20, .inl gglz)), (glt, .inl (cglt, 20, .inl gglt))]) (w1 := (wz_151 kn tr kns knz knt knv kn_length tr tx tr_length tx ctx gtx kns ckns gkns knz cknz gknz)) hP hD [5, 10, 11, 6, 7] [0, 1, 2, 3, 4, 8, 9, 12, 13, 14, 15, 16, 17] rfl rfl (by decide) (by decide) hk1 hFc hP1 hD1
  clear hPc hDc hKc hFc hz1 hk1 hP1 hK1 hD1
  rename Heap => H
  have hP : va_P (dC, dI) cls (wz_168 h0 pr kn lt h0_localCount pe h0_pendingCount h0_gives h0_depth h0_loopDepth to bo cs se pr gl fu pa pf sf pk pg pp pz pv pr_reason pr_place pr_scanner_r pr_stepCount pr_open pr_twoSides pr_waiting_r pr_waitingPlaces_r pr_waitingCount pe cpe gpe bo bob bo_length bob cbob gbob knt cknt gknt knv cknv gknv pp cpp gpp pz cpz gpz gl tr gls glz glt glv gl_length gls cgls ggls glz cglz gglz glt cglt gglt kn tr kns knz knt knv kn_length tr tx tr_length tx ctx gtx kns ckns gkns knz cknz gknz) H := hP
  have hD : va_D A (wz_168 h0 pr kn lt h0_localCount pe h0_pendingCount h0_gives h0_depth h0_loopDepth to bo cs se pr gl fu pa pf sf pk pg pp pz pv pr_reason pr_place pr_scanner_r pr_stepCount pr_open pr_twoSides pr_waiting_r pr_waitingPlaces_r pr_waitingCount pe cpe gpe bo bob bo_length bob cbob gbob knt cknt gknt knv cknv gknv pp cpp gpp pz cpz gpz gl tr gls glz glt glv gl_length gls cgls ggls glz cglz gglz glt cglt gglt kn tr kns knz knt knv kn_length tr tx tr_length tx ctx gtx kns ckns gkns knz cknz gknz) := hD
  refine lv_istore_n (lv' := [(3, .int r3), (2, .int x1), (0, .ref h0), (1, .int p0)]) hx hb d_CO_codeAssign_27 rfl hl (by decide) rfl (fun ls hl => ?_)
  refine lv_aload_n hx hb d_CO_codeAssign_28 rfl (lv_at hl 2 rfl) ?_
  refine va_get (D := (dC, dI)) (ci := 2) (v := .ref pr) (C := R_CO) (T := F_CO) (N := 13) hx hb hts i_CO hown hK hP 0 rfl rfl 0 (by decide) (hts _ kF_CO_36) (fun _ h9 => h9) rfl d_CO_codeAssign_29 ?_
  refine va_get (D := (dC, dI)) (ci := 6) (v := .ref gl) (C := R_PR) (T := F_PR) (N := 19) hx hb hts i_PR hown hK hP 1 rfl rfl 0 (by decide) (hts _ kF_CO_42) (fun _ h9 => h9) rfl d_CO_codeAssign_32 ?_
  refine lv_iload_n hx hb d_CO_codeAssign_35 rfl (lv_at hl 1 rfl) ?_
  refine lv_aload_n hx hb d_CO_codeAssign_36 rfl (lv_at hl 2 rfl) ?_
  refine va_get (D := (dC, dI)) (ci := 2) (v := .ref pr) (C := R_CO) (T := F_CO) (N := 13) hx hb hts i_CO hown hK hP 0 rfl rfl 0 (by decide) (hts _ kF_CO_36) (fun _ h9 => h9) rfl d_CO_codeAssign_37 ?_
  refine va_get (D := (dC, dI)) (ci := 6) (v := .ref pz) (C := R_PR) (T := F_PR) (N := 19) hx hb hts i_PR hown hK hP 1 rfl rfl 8 (by decide) (hts _ kF_CO_216) (fun _ h9 => h9) rfl d_CO_codeAssign_40 ?_
  refine lv_iload_n hx hb d_CO_codeAssign_43 rfl (lv_at hl 3 rfl) ?_
  have g44 : vp_in p0 4100 := vp_in_iff.mpr ⟨by (first | (apply Int.le_antisymm <;> omega) | omega), by (first | (apply Int.le_antisymm <;> omega) | omega)⟩
  refine va_iald hx hb hK hP 8 8 rfl rfl g44 d_CO_codeAssign_44 ?_
  refine lv_topi (fun x4 ex4 => ?_)
  have tx4 := hz
  rw [← ex4] at tx4
  have hPc := hP.sb (wq := (wz_166 gl tr gls glz glt glv gl_length tr tx tr_length tx ctx gtx gls cgls ggls glz cglz gglz)) [9, 14, 15, 10, 11] rfl
  have hDc := hD.sb (wq := (wz_166 gl tr gls glz glt glv gl_length tr tx tr_length tx ctx gtx gls cgls ggls glz cglz gglz)) [9, 14, 15, 10, 11] (by decide) rfl
  have hKc := hK.sb (tyq := [(ctx, .byte), (cgls, .int), (cglz, .int)]) [6, 9, 10] rfl
  have hFc := va_free (wc := (wz_166 gl tr gls glz glt glv gl_length tr tx tr_length tx ctx gtx gls cgls ggls glz cglz gglz)) hD hS hA [9, 14, 15, 10, 11] rfl
  refine va_calli (va_runV (As := [.int x1, .int x4]) (rest := []) ⟨hx, hb, hml, hown, hts⟩ (c_NA_indexOf l dC dI H.size gl tr gls glz glt glv tx ctx cgls cglz gl_length tr_length gtx 20 ggls gglz (b_tr_length) x1 x4 (by (first | (apply Int.le_antisymm <;> omega) | omega)) (by (first | (apply Int.le_antisymm <;> omega) | omega))) (cwV 2 hts (gV kM_CO_158 kV_NA_indexOf kS_NA_indexOf kI_NA kC_NA_indexOf) rfl rfl rfl (by decide +kernel) ⟨Nat.le_of_ble_eq_true rfl, Nat.le_of_ble_eq_true rfl⟩) ⟨fun a U g mk z => by obtain ⟨z0, z1, zP, zK, zD⟩ := z; exact ⟨z0, z1, zP, va_K.moved (u := U) (U := U.calling g mk a) (Vm.Alike.refl U.vm) zK, zD⟩, va_recv hKc hPc (ci := 5) (q0 := 0) rfl rfl, fun U hU hW => ⟨rfl, by rw [hU], va_P.he hU.symm hPc, va_K.moved hW.alike hKc, hDc.weaken (fun _ _ _ _ => trivial)⟩⟩ rfl rfl hl.1 rfl (lv_room (Nat.le_of_ble_eq_true rfl)) d_CO_codeAssign_45 ⟨(Nat.zero_le _), (Nat.zero_le _)⟩) hS (fun q _ h => hFc q h) hFc (fun r5 u t H1 locs ht hvm hw hB hz1 hk1 hS => ?_)
  try dsimp only at hw
  have xr5 := hw
  try clear hw
  obtain ⟨hP1, hK1, hD1⟩ := hB
  replace hP1 := va_P.he ht hP1
  obtain ⟨hP, hD⟩ := va_join (wr := [(h0, .inr (2, [.ref pr, .ref kn, .ref lt, .int h0_localCount, .ref pe, .int h0_pendingCount, .int h0_gives, .int h0_depth, .int h0_loopDepth, .ref to, .ref bo, .ref cs, .ref se])), (pr, .inr (6, [.ref gl, .ref fu, .ref pa, .ref pf, .ref sf, .ref pk, .ref pg, .ref pp, .ref pz, .ref pv, .int pr_reason, .int pr_place, .ref pr_scanner_r, .int pr_stepCount, .int pr_open, .int pr_twoSides, .ref pr_waiting_r, .ref pr_waitingPlaces_r, .int pr_waitingCount])), (pe, .inl (cpe, 680, .inl gpe)), (bo, .inr (1, [.ref bob, .int bo_length])), (bob, .inl (cbob, 8192, .inl gbob)), (knt, .inl (cknt, 50, .inl gknt)), (knv, .inl (cknv, 50, .inr (.inl gknv))), (pp, .inl (cpp, 4100, .inl gpp)), (pz, .inl (cpz, 4100, .inl gpz)), (glt, .inl (cglt, 20, .inl gglt)), (kn, .inr (5, [.ref tr, .ref kns, .ref knz, .ref knt, .ref knv, .int kn_length])), (kns, .inl (ckns, 50, .inl gkns)), (knz, .inl (cknz, 50, .inl gknz))]) (w1 := (wz_166 gl tr gls glz glt glv gl_length tr tx tr_length tx ctx gtx gls cgls ggls glz cglz gglz)) hP hD [9, 14, 15, 10, 11] [0, 1, 2, 3, 4, 5, 6, 7, 8, 12, 13, 16, 17] rfl rfl (by decide) (by decide) hk1 hFc hP1 hD1
  clear hPc hDc hKc hFc hz1 hk1 hP1 hK1 hD1
  rename Heap => H
  have hP : va_P (dC, dI) cls (wz_169 h0 pr kn lt h0_localCount pe h0_pendingCount h0_gives h0_depth h0_loopDepth to bo cs se pr gl fu pa pf sf pk pg pp pz pv pr_reason pr_place pr_scanner_r pr_stepCount pr_open pr_twoSides pr_waiting_r pr_waitingPlaces_r pr_waitingCount pe cpe gpe bo bob bo_length bob cbob gbob knt cknt gknt knv cknv gknv pp cpp gpp pz cpz gpz glt cglt gglt kn tr kns knz knt knv kn_length kns ckns gkns knz cknz gknz gl tr gls glz glt glv gl_length tr tx tr_length tx ctx gtx gls cgls ggls glz cglz gglz) H := hP
  have hD : va_D A (wz_169 h0 pr kn lt h0_localCount pe h0_pendingCount h0_gives h0_depth h0_loopDepth to bo cs se pr gl fu pa pf sf pk pg pp pz pv pr_reason pr_place pr_scanner_r pr_stepCount pr_open pr_twoSides pr_waiting_r pr_waitingPlaces_r pr_waitingCount pe cpe gpe bo bob bo_length bob cbob gbob knt cknt gknt knv cknv gknv pp cpp gpp pz cpz gpz glt cglt gglt kn tr kns knz knt knv kn_length kns ckns gkns knz cknz gknz gl tr gls glz glt glv gl_length tr tx tr_length tx ctx gtx gls cgls ggls glz cglz gglz) := hD
  refine lv_istore (lv' := [(4, .int r5), (3, .int r3), (2, .int x1), (0, .ref h0), (1, .int p0)]) hx hb d_CO_codeAssign_48 hl (by decide) rfl (fun ls hl => ?_)
  refine lv_aload_n hx hb d_CO_codeAssign_50 rfl (lv_at hl 3 rfl) ?_
  have hPc := hP.sb (wq := (wz_149 h0 pr kn lt h0_localCount pe h0_pendingCount h0_gives h0_depth h0_loopDepth to bo cs se pe cpe gpe)) [0, 2] rfl
  have hDc := hD.sb (wq := (wz_149 h0 pr kn lt h0_localCount pe h0_pendingCount h0_gives h0_depth h0_loopDepth to bo cs se pe cpe gpe)) [0, 2] (by decide) rfl
  have hKc := hK.sb (tyq := [(cpe, .int)]) [0] rfl
  have hFc := va_free (wc := (wz_149 h0 pr kn lt h0_localCount pe h0_pendingCount h0_gives h0_depth h0_loopDepth to bo cs se pe cpe gpe)) hD hS hA [0, 2] rfl
  refine va_calli (va_runV (As := []) (rest := []) ⟨hx, hb, hml, hown, hts⟩ (c_CO_pop l dC dI H.size h0 pr kn lt pe to bo cs se cpe h0_localCount h0_pendingCount h0_gives h0_depth h0_loopDepth gpe (b_h0_pendingCount) (by (try dsimp only) <;> (first | (apply Int.le_antisymm <;> omega) | omega))) (cwV 0 hts (gV kM_CO_224 kV_CO_pop kS_CO_pop kI_CO kC_CO_pop) rfl rfl rfl (by decide +kernel) ⟨Nat.le_of_ble_eq_true rfl, Nat.le_of_ble_eq_true rfl⟩) ⟨fun a U g mk z => by obtain ⟨z0, z1, zP, zK, zD⟩ := z; exact ⟨z0, z1, zP, va_K.moved (u := U) (U := U.calling g mk a) (Vm.Alike.refl U.vm) zK, zD⟩, va_recv hKc hPc (ci := 2) (q0 := 0) rfl rfl, fun U hU hW => ⟨rfl, by rw [hU], va_P.he hU.symm hPc, va_K.moved hW.alike hKc, hDc.weaken (fun _ _ _ _ => trivial)⟩⟩ rfl rfl hl.1 rfl (lv_room (Nat.le_of_ble_eq_true rfl)) d_CO_codeAssign_51 ⟨(Nat.zero_le _), (Nat.zero_le _)⟩) hS (fun q _ h => hFc q h) hFc (fun r6 u t H1 locs ht hvm hw hB hz1 hk1 hS => ?_)
  obtain ⟨n7, rfl⟩ : ∃ z, z = u := ⟨_, rfl⟩
  try dsimp only at hw
  obtain ⟨bn7, xr6⟩ := hw
  try clear hw
  obtain ⟨hP1, hK1, hD1⟩ := hB
  replace hP1 := va_P.he ht hP1
  obtain ⟨hP, hD⟩ := va_join (wr := [(pr, .inr (6, [.ref gl, .ref fu, .ref pa, .ref pf, .ref sf, .ref pk, .ref pg, .ref pp, .ref pz, .ref pv, .int pr_reason, .int pr_place, .ref pr_scanner_r, .int pr_stepCount, .int pr_open, .int pr_twoSides, .ref pr_waiting_r, .ref pr_waitingPlaces_r, .int pr_waitingCount])), (bo, .inr (1, [.ref bob, .int bo_length])), (bob, .inl (cbob, 8192, .inl gbob)), (knt, .inl (cknt, 50, .inl gknt)), (knv, .inl (cknv, 50, .inr (.inl gknv))), (pp, .inl (cpp, 4100, .inl gpp)), (pz, .inl (cpz, 4100, .inl gpz)), (glt, .inl (cglt, 20, .inl gglt)), (kn, .inr (5, [.ref tr, .ref kns, .ref knz, .ref knt, .ref knv, .int kn_length])), (kns, .inl (ckns, 50, .inl gkns)), (knz, .inl (cknz, 50, .inl gknz)), (gl, .inr (5, [.ref tr, .ref gls, .ref glz, .ref glt, .ref glv, .int gl_length])), (tr, .inr (1, [.ref tx, .int tr_length])), (tx, .inl (ctx, 2000, .inl gtx)), (gls, .inl (cgls, 20, .inl ggls)), (glz, .inl (cglz, 20, .inl gglz))]) (w1 := (wz_149 h0 pr kn lt h0_localCount pe n7 h0_gives h0_depth h0_loopDepth to bo cs se pe cpe gpe)) hP hD [0, 2] [1, 3, 4, 5, 6, 7, 8, 9, 10, 11, 12, 13, 14, 15, 16, 17] rfl rfl (by decide) (by decide) hk1 hFc hP1 hD1
  clear hPc hDc hKc hFc hz1 hk1 hP1 hK1 hD1
  rename Heap => H
  have hP : va_P (dC, dI) cls (wz_173 pr gl fu pa pf sf pk pg pp pz pv pr_reason pr_place pr_scanner_r pr_stepCount pr_open pr_twoSides pr_waiting_r pr_waitingPlaces_r pr_waitingCount bo bob bo_length bob cbob gbob knt cknt gknt knv cknv gknv pp cpp gpp pz cpz gpz glt cglt gglt kn tr kns knz knt knv kn_length kns ckns gkns knz cknz gknz gl tr gls glz glt glv gl_length tr tx tr_length tx ctx gtx gls cgls ggls glz cglz gglz h0 pr kn lt h0_localCount pe n7 h0_gives h0_depth h0_loopDepth to bo cs se pe cpe gpe) H := hP
  have hD : va_D A (wz_173 pr gl fu pa pf sf pk pg pp pz pv pr_reason pr_place pr_scanner_r pr_stepCount pr_open pr_twoSides pr_waiting_r pr_waitingPlaces_r pr_waitingCount bo bob bo_length bob cbob gbob knt cknt gknt knv cknv gknv pp cpp gpp pz cpz gpz glt cglt gglt kn tr kns knz knt knv kn_length kns ckns gkns knz cknz gknz gl tr gls glz glt glv gl_length tr tx tr_length tx ctx gtx gls cgls ggls glz cglz gglz h0 pr kn lt h0_localCount pe n7 h0_gives h0_depth h0_loopDepth to bo cs se pe cpe gpe) := hD
  refine lv_istore (lv' := [(5, .int r6), (4, .int r5), (3, .int r3), (2, .int x1), (0, .ref h0), (1, .int p0)]) hx hb d_CO_codeAssign_54 hl (by decide) rfl (fun ls hl => ?_)
  refine lv_iload_n hx hb d_CO_codeAssign_56 rfl (lv_at hl 2 rfl) ?_
  refine w_cut (pc2 := 75) (σ := Unit) (fun u H locs ls => match u with | _ => (0 ≤ r3.toInt ∨ 0 ≤ r5.toInt) ∧ va_P (dC, dI) cls (wz_173 pr gl fu pa pf sf pk pg pp pz pv pr_reason pr_place pr_scanner_r pr_stepCount pr_open pr_twoSides pr_waiting_r pr_waitingPlaces_r pr_waitingCount bo bob bo_length bob cbob gbob knt cknt gknt knv cknv gknv pp cpp gpp pz cpz gpz glt cglt gglt kn tr kns knz knt knv kn_length kns ckns gkns knz cknz gknz gl tr gls glz glt glv gl_length tr tx tr_length tx ctx gtx gls cgls ggls glz cglz gglz h0 pr kn lt h0_localCount pe n7 h0_gives h0_depth h0_loopDepth to bo cs se pe cpe gpe) H ∧ va_D A (wz_173 pr gl fu pa pf sf pk pg pp pz pv pr_reason pr_place pr_scanner_r pr_stepCount pr_open pr_twoSides pr_waiting_r pr_waitingPlaces_r pr_waitingCount bo bob bo_length bob cbob gbob knt cknt gknt knv cknv gknv pp cpp gpp pz cpz gpz glt cglt gglt kn tr kns knz knt knv kn_length kns ckns gkns knz cknz gknz gl tr gls glz glt glv gl_length tr tx tr_length tx ctx gtx gls cgls ggls glz cglz gglz h0 pr kn lt h0_localCount pe n7 h0_gives h0_depth h0_loopDepth to bo cs se pe cpe gpe) ∧ va_S A s.heap H locs ∧ lv_has ls 6 [(0, .ref h0), (2, .int x1), (3, .int r3), (4, .int r5), (5, .int r6)]) (fun u => match u with | _ => []) ?_ (fun jn75 => ?_)
  · intro u H locs ls hI
    obtain ⟨y75, hP, hD, hS, hl⟩ := hI
    refine lv_iload hx hb d_CO_codeAssign_75 (lv_at hl 4 rfl) ?_
    refine lv_iload_n hx hb d_CO_codeAssign_77 rfl (lv_at hl 2 rfl) ?_
    refine w_cut (pc2 := 106) (σ := Int32) (fun u H locs ls => match u with | j106_s0 => (j106_s0.toInt = 127 ∨ j106_s0.toInt = 126) ∧ va_P (dC, dI) cls (wz_173 pr gl fu pa pf sf pk pg pp pz pv pr_reason pr_place pr_scanner_r pr_stepCount pr_open pr_twoSides pr_waiting_r pr_waitingPlaces_r pr_waitingCount bo bob bo_length bob cbob gbob knt cknt gknt knv cknv gknv pp cpp gpp pz cpz gpz glt cglt gglt kn tr kns knz knt knv kn_length kns ckns gkns knz cknz gknz gl tr gls glz glt glv gl_length tr tx tr_length tx ctx gtx gls cgls ggls glz cglz gglz h0 pr kn lt h0_localCount pe n7 h0_gives h0_depth h0_loopDepth to bo cs se pe cpe gpe) H ∧ va_D A (wz_173 pr gl fu pa pf sf pk pg pp pz pv pr_reason pr_place pr_scanner_r pr_stepCount pr_open pr_twoSides pr_waiting_r pr_waitingPlaces_r pr_waitingCount bo bob bo_length bob cbob gbob knt cknt gknt knv cknv gknv pp cpp gpp pz cpz gpz glt cglt gglt kn tr kns knz knt knv kn_length kns ckns gkns knz cknz gknz gl tr gls glz glt glv gl_length tr tx tr_length tx ctx gtx gls cgls ggls glz cglz gglz h0 pr kn lt h0_localCount pe n7 h0_gives h0_depth h0_loopDepth to bo cs se pe cpe gpe) ∧ va_S A s.heap H locs ∧ lv_has ls 6 [(0, .ref h0), (2, .int x1), (3, .int r3), (4, .int r5)]) (fun u => match u with | j106_s0 => [.int j106_s0, .int r6]) ?_ (fun jn106 => ?_)
    · intro u H locs ls hI
      obtain ⟨j106_s0, rfl⟩ : ∃ z, z = u := ⟨_, rfl⟩
      obtain ⟨y106, hP, hD, hS, hl⟩ := hI
      refine lv_icmp_eq (tgt := 118) hx hb d_CO_codeAssign_106 (by decide) (fun c106 => ?_) (fun c106 => ?_)
      · have q106 := eqI c106
        refine lv_aload_n hx hb d_CO_codeAssign_118 rfl (lv_at hl 0 rfl) ?_
        refine va_get (D := (dC, dI)) (ci := 2) (v := .ref bo) (C := R_CO) (T := F_CO) (N := 13) hx hb hts i_CO hown hK hP 16 rfl rfl 10 (by decide) (hts _ kF_CO_26) (fun _ h9 => h9) rfl d_CO_codeAssign_119 ?_
        refine lv_iload_n hx hb d_CO_codeAssign_122 rfl (lv_at hl 2 rfl) ?_
        refine w_cut (pc2 := 133) (σ := Int32) (fun u H locs ls => match u with | j133_s0 => ((0 ≤ r3.toInt ∧ j133_s0.toInt = 33) ∨ (r3.toInt < 0 ∧ j133_s0.toInt = 36)) ∧ va_P (dC, dI) cls (wz_173 pr gl fu pa pf sf pk pg pp pz pv pr_reason pr_place pr_scanner_r pr_stepCount pr_open pr_twoSides pr_waiting_r pr_waitingPlaces_r pr_waitingCount bo bob bo_length bob cbob gbob knt cknt gknt knv cknv gknv pp cpp gpp pz cpz gpz glt cglt gglt kn tr kns knz knt knv kn_length kns ckns gkns knz cknz gknz gl tr gls glz glt glv gl_length tr tx tr_length tx ctx gtx gls cgls ggls glz cglz gglz h0 pr kn lt h0_localCount pe n7 h0_gives h0_depth h0_loopDepth to bo cs se pe cpe gpe) H ∧ va_D A (wz_173 pr gl fu pa pf sf pk pg pp pz pv pr_reason pr_place pr_scanner_r pr_stepCount pr_open pr_twoSides pr_waiting_r pr_waitingPlaces_r pr_waitingCount bo bob bo_length bob cbob gbob knt cknt gknt knv cknv gknv pp cpp gpp pz cpz gpz glt cglt gglt kn tr kns knz knt knv kn_length kns ckns gkns knz cknz gknz gl tr gls glz glt glv gl_length tr tx tr_length tx ctx gtx gls cgls ggls glz cglz gglz h0 pr kn lt h0_localCount pe n7 h0_gives h0_depth h0_loopDepth to bo cs se pe cpe gpe) ∧ va_S A s.heap H locs ∧ lv_has ls 6 [(0, .ref h0), (3, .int r3), (4, .int r5)]) (fun u => match u with | j133_s0 => [.int j133_s0, .ref bo]) ?_ (fun jn133 => ?_)
        · intro u H locs ls hI
          obtain ⟨j133_s0, rfl⟩ : ∃ z, z = u := ⟨_, rfl⟩
          obtain ⟨y133, hP, hD, hS, hl⟩ := hI
          have hPc := hP.sb (wq := (wz_94 bo bob bo_length bob cbob gbob)) [1, 2] rfl
          have hDc := hD.sb (wq := (wz_94 bo bob bo_length bob cbob gbob)) [1, 2] (by decide) rfl
          have hKc := hK.sb (tyq := [(cbob, .byte)]) [1] rfl
          have hFc := va_free (wc := (wz_94 bo bob bo_length bob cbob gbob)) hD hS hA [1, 2] rfl
          refine va_callv (va_runV (As := [.int j133_s0]) (rest := []) ⟨hx, hb, hml, hown, hts⟩ (c_BR_put l dC dI bo bob H.size cbob 8192 bo_length gbob (by (first | (apply Int.le_antisymm <;> omega) | omega)) (by (first | (apply Int.le_antisymm <;> omega) | omega)) (by (first | (apply Int.le_antisymm <;> omega) | omega)) j133_s0) (cwV 1 hts (gV kM_CO_76 kV_BR_put kS_BR_put kI_BR kC_BR_put) rfl rfl rfl (by decide +kernel) ⟨Nat.le_of_ble_eq_true rfl, Nat.le_of_ble_eq_true rfl⟩) ⟨fun a U g mk z => by obtain ⟨z0, z1, zP, zK, zD⟩ := z; exact ⟨z0, z1, zP, va_K.moved (u := U) (U := U.calling g mk a) (Vm.Alike.refl U.vm) zK, zD⟩, va_recv hKc hPc (ci := 1) (q0 := 0) rfl rfl, fun U hU hW => ⟨rfl, by rw [hU], va_P.he hU.symm hPc, va_K.moved hW.alike hKc, hDc.weaken (fun _ _ _ _ => trivial)⟩⟩ rfl rfl hl.1 rfl (lv_room (Nat.le_of_ble_eq_true rfl)) d_CO_codeAssign_133 ⟨(Nat.zero_le _), (Nat.zero_le _)⟩) hS (fun q _ h => hFc q h) hFc (fun u t H1 locs ht hvm hw hB hz1 hk1 hS => ?_)
          obtain ⟨n9, f10⟩ := u
          try dsimp only at hw
          have tn9 := br_put_in (by (first | (apply Int.le_antisymm <;> omega) | omega)) (by (first | (apply Int.le_antisymm <;> omega) | omega)) (by (first | (apply Int.le_antisymm <;> omega) | omega)) hw
          have bn9 := br_put_bl (by (first | (apply Int.le_antisymm <;> omega) | omega)) (by (first | (apply Int.le_antisymm <;> omega) | omega)) (by (first | (apply Int.le_antisymm <;> omega) | omega)) hw
          obtain ⟨hP1, hK1, hD1⟩ := hB
          replace hP1 := va_P.he ht hP1
          obtain ⟨hP, hD⟩ := va_join (wr := [(pr, .inr (6, [.ref gl, .ref fu, .ref pa, .ref pf, .ref sf, .ref pk, .ref pg, .ref pp, .ref pz, .ref pv, .int pr_reason, .int pr_place, .ref pr_scanner_r, .int pr_stepCount, .int pr_open, .int pr_twoSides, .ref pr_waiting_r, .ref pr_waitingPlaces_r, .int pr_waitingCount])), (knt, .inl (cknt, 50, .inl gknt)), (knv, .inl (cknv, 50, .inr (.inl gknv))), (pp, .inl (cpp, 4100, .inl gpp)), (pz, .inl (cpz, 4100, .inl gpz)), (glt, .inl (cglt, 20, .inl gglt)), (kn, .inr (5, [.ref tr, .ref kns, .ref knz, .ref knt, .ref knv, .int kn_length])), (kns, .inl (ckns, 50, .inl gkns)), (knz, .inl (cknz, 50, .inl gknz)), (gl, .inr (5, [.ref tr, .ref gls, .ref glz, .ref glt, .ref glv, .int gl_length])), (tr, .inr (1, [.ref tx, .int tr_length])), (tx, .inl (ctx, 2000, .inl gtx)), (gls, .inl (cgls, 20, .inl ggls)), (glz, .inl (cglz, 20, .inl gglz)), (h0, .inr (2, [.ref pr, .ref kn, .ref lt, .int h0_localCount, .ref pe, .int n7, .int h0_gives, .int h0_depth, .int h0_loopDepth, .ref to, .ref bo, .ref cs, .ref se])), (pe, .inl (cpe, 680, .inl gpe))]) (w1 := (wz_94 bo bob n9 bob cbob f10)) hP hD [1, 2] [0, 3, 4, 5, 6, 7, 8, 9, 10, 11, 12, 13, 14, 15, 16, 17] rfl rfl (by decide) (by decide) hk1 hFc hP1 hD1
          clear hPc hDc hKc hFc hz1 hk1 hP1 hK1 hD1
          rename Heap => H
          have hP : va_P (dC, dI) cls (wz_174 pr gl fu pa pf sf pk pg pp pz pv pr_reason pr_place pr_scanner_r pr_stepCount pr_open pr_twoSides pr_waiting_r pr_waitingPlaces_r pr_waitingCount knt cknt gknt knv cknv gknv pp cpp gpp pz cpz gpz glt cglt gglt kn tr kns knz knt knv kn_length kns ckns gkns knz cknz gknz gl tr gls glz glt glv gl_length tr tx tr_length tx ctx gtx gls cgls ggls glz cglz gglz h0 pr kn lt h0_localCount pe n7 h0_gives h0_depth h0_loopDepth to bo cs se pe cpe gpe bo bob n9 bob cbob f10) H := hP
          have hD : va_D A (wz_174 pr gl fu pa pf sf pk pg pp pz pv pr_reason pr_place pr_scanner_r pr_stepCount pr_open pr_twoSides pr_waiting_r pr_waitingPlaces_r pr_waitingCount knt cknt gknt knv cknv gknv pp cpp gpp pz cpz gpz glt cglt gglt kn tr kns knz knt knv kn_length kns ckns gkns knz cknz gknz gl tr gls glz glt glv gl_length tr tx tr_length tx ctx gtx gls cgls ggls glz cglz gglz h0 pr kn lt h0_localCount pe n7 h0_gives h0_depth h0_loopDepth to bo cs se pe cpe gpe bo bob n9 bob cbob f10) := hD
          refine lv_aload_n hx hb d_CO_codeAssign_136 rfl (lv_at hl 0 rfl) ?_
          refine va_get (D := (dC, dI)) (ci := 2) (v := .ref bo) (C := R_CO) (T := F_CO) (N := 13) hx hb hts i_CO hown hK hP 14 rfl rfl 10 (by decide) (hts _ kF_CO_26) (fun _ h9 => h9) rfl d_CO_codeAssign_137 ?_
          refine lv_iload_n hx hb d_CO_codeAssign_140 rfl (lv_at hl 1 rfl) ?_
          refine w_cut (pc2 := 159) (σ := Int32) (fun u H locs ls => match u with | j159_s0 => ((0 ≤ r3.toInt ∧ 0 ≤ j159_s0.toInt ∧ j159_s0.toInt < h0_localCount.toInt) ∨ (r3.toInt < 0 ∧ 0 ≤ j159_s0.toInt ∧ j159_s0.toInt < gl_length.toInt)) ∧ va_P (dC, dI) cls (wz_174 pr gl fu pa pf sf pk pg pp pz pv pr_reason pr_place pr_scanner_r pr_stepCount pr_open pr_twoSides pr_waiting_r pr_waitingPlaces_r pr_waitingCount knt cknt gknt knv cknv gknv pp cpp gpp pz cpz gpz glt cglt gglt kn tr kns knz knt knv kn_length kns ckns gkns knz cknz gknz gl tr gls glz glt glv gl_length tr tx tr_length tx ctx gtx gls cgls ggls glz cglz gglz h0 pr kn lt h0_localCount pe n7 h0_gives h0_depth h0_loopDepth to bo cs se pe cpe gpe bo bob n9 bob cbob f10) H ∧ va_D A (wz_174 pr gl fu pa pf sf pk pg pp pz pv pr_reason pr_place pr_scanner_r pr_stepCount pr_open pr_twoSides pr_waiting_r pr_waitingPlaces_r pr_waitingCount knt cknt gknt knv cknv gknv pp cpp gpp pz cpz gpz glt cglt gglt kn tr kns knz knt knv kn_length kns ckns gkns knz cknz gknz gl tr gls glz glt glv gl_length tr tx tr_length tx ctx gtx gls cgls ggls glz cglz gglz h0 pr kn lt h0_localCount pe n7 h0_gives h0_depth h0_loopDepth to bo cs se pe cpe gpe bo bob n9 bob cbob f10) ∧ va_S A s.heap H locs ∧ lv_has ls 6 []) (fun u => match u with | j159_s0 => [.int j159_s0, .ref bo]) ?_ (fun jn159 => ?_)
          · intro u H locs ls hI
            obtain ⟨j159_s0, rfl⟩ : ∃ z, z = u := ⟨_, rfl⟩
            obtain ⟨y159, hP, hD, hS, hl⟩ := hI
            have hPc := hP.sb (wq := (wz_94 bo bob n9 bob cbob f10)) [16, 17] rfl
            have hDc := hD.sb (wq := (wz_94 bo bob n9 bob cbob f10)) [16, 17] (by decide) rfl
            have hKc := hK.sb (tyq := [(cbob, .byte)]) [1] rfl
            have hFc := va_free (wc := (wz_94 bo bob n9 bob cbob f10)) hD hS hA [16, 17] rfl
            refine va_callv (va_runV (As := [.int j159_s0]) (rest := []) ⟨hx, hb, hml, hown, hts⟩ (c_BR_putUnsigned l dC dI bo bob H.size cbob 8192 n9 f10 (by (first | (apply Int.le_antisymm <;> omega) | omega)) (by (first | (apply Int.le_antisymm <;> omega) | omega)) (by (first | (apply Int.le_antisymm <;> omega) | omega)) j159_s0 (by (first | (apply Int.le_antisymm <;> omega) | omega))) (cwV 1 hts (gV kM_CO_218 kV_BR_putUnsigned kS_BR_putUnsigned kI_BR kC_BR_putUnsigned) rfl rfl rfl (by decide +kernel) ⟨Nat.le_of_ble_eq_true rfl, Nat.le_of_ble_eq_true rfl⟩) ⟨fun a U g mk z => by obtain ⟨z0, z1, zP, zK, zD⟩ := z; exact ⟨z0, z1, zP, va_K.moved (u := U) (U := U.calling g mk a) (Vm.Alike.refl U.vm) zK, zD⟩, va_recv hKc hPc (ci := 1) (q0 := 0) rfl rfl, fun U hU hW => ⟨rfl, by rw [hU], va_P.he hU.symm hPc, va_K.moved hW.alike hKc, hDc.weaken (fun _ _ _ _ => trivial)⟩⟩ rfl rfl hl.1 rfl (lv_room (Nat.le_of_ble_eq_true rfl)) d_CO_codeAssign_159 ⟨(Nat.zero_le _), (Nat.zero_le _)⟩) hS (fun q _ h => hFc q h) hFc (fun u t H1 locs ht hvm hw hB hz1 hk1 hS => ?_)
            obtain ⟨n12, f13⟩ := u
            try dsimp only at hw
            obtain ⟨tn12, bn12⟩ := hw
            have ln12 := leb_len 5 (un j159_s0)
            obtain ⟨hP1, hK1, hD1⟩ := hB
            replace hP1 := va_P.he ht hP1
            obtain ⟨hP, hD⟩ := va_join (wr := [(pr, .inr (6, [.ref gl, .ref fu, .ref pa, .ref pf, .ref sf, .ref pk, .ref pg, .ref pp, .ref pz, .ref pv, .int pr_reason, .int pr_place, .ref pr_scanner_r, .int pr_stepCount, .int pr_open, .int pr_twoSides, .ref pr_waiting_r, .ref pr_waitingPlaces_r, .int pr_waitingCount])), (knt, .inl (cknt, 50, .inl gknt)), (knv, .inl (cknv, 50, .inr (.inl gknv))), (pp, .inl (cpp, 4100, .inl gpp)), (pz, .inl (cpz, 4100, .inl gpz)), (glt, .inl (cglt, 20, .inl gglt)), (kn, .inr (5, [.ref tr, .ref kns, .ref knz, .ref knt, .ref knv, .int kn_length])), (kns, .inl (ckns, 50, .inl gkns)), (knz, .inl (cknz, 50, .inl gknz)), (gl, .inr (5, [.ref tr, .ref gls, .ref glz, .ref glt, .ref glv, .int gl_length])), (tr, .inr (1, [.ref tx, .int tr_length])), (tx, .inl (ctx, 2000, .inl gtx)), (gls, .inl (cgls, 20, .inl ggls)), (glz, .inl (cglz, 20, .inl gglz)), (h0, .inr (2, [.ref pr, .ref kn, .ref lt, .int h0_localCount, .ref pe, .int n7, .int h0_gives, .int h0_depth, .int h0_loopDepth, .ref to, .ref bo, .ref cs, .ref se])), (pe, .inl (cpe, 680, .inl gpe))]) (w1 := (wz_94 bo bob n12 bob cbob f13)) hP hD [16, 17] [0, 1, 2, 3, 4, 5, 6, 7, 8, 9, 10, 11, 12, 13, 14, 15] rfl rfl (by decide) (by decide) hk1 hFc hP1 hD1
            clear hPc hDc hKc hFc hz1 hk1 hP1 hK1 hD1
            rename Heap => H
            have hP : va_P (dC, dI) cls (wz_174 pr gl fu pa pf sf pk pg pp pz pv pr_reason pr_place pr_scanner_r pr_stepCount pr_open pr_twoSides pr_waiting_r pr_waitingPlaces_r pr_waitingCount knt cknt gknt knv cknv gknv pp cpp gpp pz cpz gpz glt cglt gglt kn tr kns knz knt knv kn_length kns ckns gkns knz cknz gknz gl tr gls glz glt glv gl_length tr tx tr_length tx ctx gtx gls cgls ggls glz cglz gglz h0 pr kn lt h0_localCount pe n7 h0_gives h0_depth h0_loopDepth to bo cs se pe cpe gpe bo bob n12 bob cbob f13) H := hP
            have hD : va_D A (wz_174 pr gl fu pa pf sf pk pg pp pz pv pr_reason pr_place pr_scanner_r pr_stepCount pr_open pr_twoSides pr_waiting_r pr_waitingPlaces_r pr_waitingCount knt cknt gknt knv cknv gknv pp cpp gpp pz cpz gpz glt cglt gglt kn tr kns knz knt knv kn_length kns ckns gkns knz cknz gknz gl tr gls glz glt glv gl_length tr tx tr_length tx ctx gtx gls cgls ggls glz cglz gglz h0 pr kn lt h0_localCount pe n7 h0_gives h0_depth h0_loopDepth to bo cs se pe cpe gpe bo bob n12 bob cbob f13) := hD
            have hP9 := hP.sb (wq := (wz_167 h0 pr kn lt h0_localCount pe n7 h0_gives h0_depth h0_loopDepth to bo cs se pr gl fu pa pf sf pk pg pp pz pv pr_reason pr_place pr_scanner_r pr_stepCount pr_open pr_twoSides pr_waiting_r pr_waitingPlaces_r pr_waitingCount pe cpe gpe bo bob n12 bob cbob f13 kn tr kns knz knt knv kn_length kns ckns gkns knz cknz gknz knt cknt gknt knv cknv gknv tr tx tr_length tx ctx gtx pp cpp gpp pz cpz gpz gl tr gls glz glt glv gl_length gls cgls ggls glz cglz gglz glt cglt gglt)) [14, 0, 15, 16, 17, 6, 7, 8, 1, 2, 10, 11, 3, 4, 9, 12, 13, 5] rfl
            have hD9 := hD.sb (wq := (wz_167 h0 pr kn lt h0_localCount pe n7 h0_gives h0_depth h0_loopDepth to bo cs se pr gl fu pa pf sf pk pg pp pz pv pr_reason pr_place pr_scanner_r pr_stepCount pr_open pr_twoSides pr_waiting_r pr_waitingPlaces_r pr_waitingCount pe cpe gpe bo bob n12 bob cbob f13 kn tr kns knz knt knv kn_length kns ckns gkns knz cknz gknz knt cknt gknt knv cknv gknv tr tx tr_length tx ctx gtx pp cpp gpp pz cpz gpz gl tr gls glz glt glv gl_length gls cgls ggls glz cglz gglz glt cglt gglt)) [14, 0, 15, 16, 17, 6, 7, 8, 1, 2, 10, 11, 3, 4, 9, 12, 13, 5] (by decide) rfl
            exact tz_up (fun _ => rfl) (W.vret hx hb hr (fun t ht hW => ⟨⟨(f13, n12, n7, pr_place, pr_reason), ⟨rfl, ⟨by (try dsimp only) <;> (first | (apply Int.le_antisymm <;> omega) | omega), bn7, ⟨by (try dsimp only) <;> (first | (apply Int.le_antisymm <;> omega) | omega), by rw [show (h0_pendingCount.toInt - 1).toNat = n7.toNatClampNeg from by have := i32_clamp (x := n7) (by (first | (apply Int.le_antisymm <;> omega) | omega)); (first | (apply Int.le_antisymm <;> omega) | omega), ← xr6.2]; (first | (apply Int.le_antisymm <;> omega) | omega), j133_s0.toInt, j159_s0.toInt, by (first | (apply Int.le_antisymm <;> omega) | omega), by have := congrArg List.length (leb_s (x := j159_s0) (by (first | (apply Int.le_antisymm <;> omega) | omega)) (by (first | (apply Int.le_antisymm <;> omega) | omega))); rw [List.length_singleton] at this; (try dsimp only) <;> (first | (apply Int.le_antisymm <;> omega) | omega), by (try dsimp only); rw [bn12, bn9 (by (first | (apply Int.le_antisymm <;> omega) | omega)), leb_s (by (first | (apply Int.le_antisymm <;> omega) | omega)) (by (first | (apply Int.le_antisymm <;> omega) | omega)), List.append_assoc, bn_s (by (first | (apply Int.le_antisymm <;> omega) | omega)) (by (first | (apply Int.le_antisymm <;> omega) | omega))]; rfl⟩⟩⟩, va_P.he ht.symm hP9, va_K.moved hW.alike hK, hD9⟩, hS.F ht⟩) hS.2.2 d_CO_codeAssign_162)
          · skip
            refine lv_if_lt (tgt := 157) hx hb d_CO_codeAssign_141 (by decide) (fun c141 => ?_) (fun c141 => ?_)
            · have q141 := ltI c141
              refine lv_iload hx hb d_CO_codeAssign_157 (lv_at hl 2 rfl) ?_
              exact jn159 r5 _ _ _ ⟨by (try dsimp only) <;> (first | (apply Int.le_antisymm <;> omega) | omega), hP, hD, hS, lv_sub hl [] rfl⟩
            · have q141 := nltI c141
              refine lv_aload_n hx hb d_CO_codeAssign_144 rfl (lv_at hl 0 rfl) ?_
              refine va_get (D := (dC, dI)) (ci := 2) (v := .ref kn) (C := R_CO) (T := F_CO) (N := 13) hx hb hts i_CO hown hK hP 14 rfl rfl 1 (by decide) (hts _ kF_CO_54) (fun _ h9 => h9) rfl d_CO_codeAssign_145 ?_
              refine va_get (D := (dC, dI)) (ci := 5) (v := .ref knv) (C := R_NA) (T := F_NA) (N := 6) hx hb hts i_NA hown hK hP 6 rfl rfl 4 (by decide) (hts _ kF_CO_217) (fun _ h9 => h9) rfl d_CO_codeAssign_148 ?_
              refine lv_iload_n hx hb d_CO_codeAssign_151 rfl (lv_at hl 1 rfl) ?_
              have g152 : vp_in r3 50 := vp_in_iff.mpr ⟨by (first | (apply Int.le_antisymm <;> omega) | omega), by (first | (apply Int.le_antisymm <;> omega) | omega)⟩
              refine va_lald hx hb hK hP 2 5 rfl rfl g152 d_CO_codeAssign_152 ?_
              refine lv_topl (fun x14 ex14 => ?_)
              have wx14 := (hkq r3.toNatClampNeg (by have := i32_clamp (x := r3) (by (first | (apply Int.le_antisymm <;> omega) | omega)); (first | (apply Int.le_antisymm <;> omega) | omega))).2
              rw [← ex14] at wx14
              refine lv_l2i hx hb d_CO_codeAssign_153 rfl ?_
              refine lv_topi (fun x15 ex15 => ?_)
              have tx15 := l2i_t ex15 (by (first | (apply Int.le_antisymm <;> omega) | omega)) (by (first | (apply Int.le_antisymm <;> omega) | omega))
              refine lv_goto (tgt := 159) hx hb d_CO_codeAssign_154 (by decide) ?_
              exact jn159 x15 _ _ _ ⟨by (try dsimp only) <;> (first | (apply Int.le_antisymm <;> omega) | omega), hP, hD, hS, lv_sub hl [] rfl⟩
        · skip
          refine lv_if_lt (tgt := 131) hx hb d_CO_codeAssign_123 (by decide) (fun c123 => ?_) (fun c123 => ?_)
          · have q123 := ltI c123
            refine lv_bipush (v := 36) hx hb d_CO_codeAssign_131 (by decide) ?_
            exact jn133 36 _ _ _ ⟨by (try dsimp only) <;> (first | (apply Int.le_antisymm <;> omega) | omega), hP, hD, hS, lv_sub hl [0, 2, 3] rfl⟩
          · have q123 := nltI c123
            refine lv_bipush (v := 33) hx hb d_CO_codeAssign_126 (by decide) ?_
            refine lv_goto (tgt := 133) hx hb d_CO_codeAssign_128 (by decide) ?_
            exact jn133 33 _ _ _ ⟨by (try dsimp only) <;> (first | (apply Int.le_antisymm <;> omega) | omega), hP, hD, hS, lv_sub hl [0, 2, 3] rfl⟩
      · have q106 := neI c106
        refine lv_aload_n hx hb d_CO_codeAssign_109 rfl (lv_at hl 0 rfl) ?_
        refine va_get (D := (dC, dI)) (ci := 2) (v := .ref pr) (C := R_CO) (T := F_CO) (N := 13) hx hb hts i_CO hown hK hP 16 rfl rfl 0 (by decide) (hts _ kF_CO_36) (fun _ h9 => h9) rfl d_CO_codeAssign_110 ?_
        refine lv_iconst (v := 3) hx hb d_CO_codeAssign_113 (by decide) ?_
        refine lv_iload_n hx hb d_CO_codeAssign_114 rfl (lv_at hl 1 rfl) ?_
        have hPc := hP.sb (wq := (wz_110 pr gl fu pa pf sf pk pg pp pz pv pr_reason pr_place pr_scanner_r pr_stepCount pr_open pr_twoSides pr_waiting_r pr_waitingPlaces_r pr_waitingCount)) [0] rfl
        have hDc := hD.sb (wq := (wz_110 pr gl fu pa pf sf pk pg pp pz pv pr_reason pr_place pr_scanner_r pr_stepCount pr_open pr_twoSides pr_waiting_r pr_waitingPlaces_r pr_waitingCount)) [0] (by decide) rfl
        have hKc := hK.sb (tyq := []) [] rfl
        have hFc := va_free (wc := (wz_110 pr gl fu pa pf sf pk pg pp pz pv pr_reason pr_place pr_scanner_r pr_stepCount pr_open pr_twoSides pr_waiting_r pr_waitingPlaces_r pr_waitingCount)) hD hS hA [0] rfl
        refine tq_callv (tz_runV (As := [.int 3, .int x1]) (rest := []) ⟨hx, hb, hml, hown, hts⟩ (c_PR_refuse l hlt dC dI H.size sa pr gl fu pa pf sf pk pg pp pz pv pr_scanner_r pr_waiting_r pr_waitingPlaces_r pr_reason pr_place pr_stepCount pr_open pr_twoSides pr_waitingCount 3 x1) (cwV 2 hts (gV kM_CO_105 kV_PR_refuse kS_PR_refuse kI_PR kC_PR_refuse) rfl rfl rfl (by decide +kernel) ⟨Nat.le_of_ble_eq_true rfl, Nat.le_of_ble_eq_true rfl⟩) ⟨fun a U g mk z => by obtain ⟨z0, z1, zP, zK, zD, zS⟩ := z; exact ⟨z0, z1, zP, va_K.moved (u := U) (U := U.calling g mk a) (Vm.Alike.refl U.vm) zK, zD, sw.same (u := U) (U := U.calling g mk a) rfl zS⟩, va_recv hKc hPc (ci := 6) (q0 := 0) rfl rfl, fun U hU hW => ⟨rfl, by rw [hU], va_P.he hU.symm hPc, va_K.moved hW.alike hKc, hDc.weaken (fun _ _ _ _ => trivial), hSW.call hS hFc hW hU⟩⟩ rfl rfl hl.1 rfl (lv_room (Nat.le_of_ble_eq_true rfl)) d_CO_codeAssign_115 ⟨Nat.le_of_ble_eq_true rfl, Nat.le_of_ble_eq_true rfl⟩) hS (fun q _ h => hFc q h) hFc (fun u t H1 locs ht hvm hw hB hz1 hk1 hS => ?_) (fun xx u t H1 locs ht hvm hw hXX hB hz1 hk1 hS => ?_)
        rotate_left
        · skip
          obtain ⟨n17, n18⟩ := u
          try dsimp only at hw
          obtain ⟨hP1, hK1, hD1⟩ := hB
          replace hP1 := va_P.he ht hP1
          obtain ⟨hP, hD⟩ := va_join (wr := [(bo, .inr (1, [.ref bob, .int bo_length])), (bob, .inl (cbob, 8192, .inl gbob)), (knt, .inl (cknt, 50, .inl gknt)), (knv, .inl (cknv, 50, .inr (.inl gknv))), (pp, .inl (cpp, 4100, .inl gpp)), (pz, .inl (cpz, 4100, .inl gpz)), (glt, .inl (cglt, 20, .inl gglt)), (kn, .inr (5, [.ref tr, .ref kns, .ref knz, .ref knt, .ref knv, .int kn_length])), (kns, .inl (ckns, 50, .inl gkns)), (knz, .inl (cknz, 50, .inl gknz)), (gl, .inr (5, [.ref tr, .ref gls, .ref glz, .ref glt, .ref glv, .int gl_length])), (tr, .inr (1, [.ref tx, .int tr_length])), (tx, .inl (ctx, 2000, .inl gtx)), (gls, .inl (cgls, 20, .inl ggls)), (glz, .inl (cglz, 20, .inl gglz)), (h0, .inr (2, [.ref pr, .ref kn, .ref lt, .int h0_localCount, .ref pe, .int n7, .int h0_gives, .int h0_depth, .int h0_loopDepth, .ref to, .ref bo, .ref cs, .ref se])), (pe, .inl (cpe, 680, .inl gpe))]) (w1 := (wz_110 pr gl fu pa pf sf pk pg pp pz pv n18 n17 pr_scanner_r pr_stepCount pr_open pr_twoSides pr_waiting_r pr_waitingPlaces_r pr_waitingCount)) hP hD [0] [1, 2, 3, 4, 5, 6, 7, 8, 9, 10, 11, 12, 13, 14, 15, 16, 17] rfl rfl (by decide) (by decide) hk1 hFc hP1 hD1
          have hP : va_P (dC, dI) cls (wz_175 bo bob bo_length bob cbob gbob knt cknt gknt knv cknv gknv pp cpp gpp pz cpz gpz glt cglt gglt kn tr kns knz knt knv kn_length kns ckns gkns knz cknz gknz gl tr gls glz glt glv gl_length tr tx tr_length tx ctx gtx gls cgls ggls glz cglz gglz h0 pr kn lt h0_localCount pe n7 h0_gives h0_depth h0_loopDepth to bo cs se pe cpe gpe pr gl fu pa pf sf pk pg pp pz pv n18 n17 pr_scanner_r pr_stepCount pr_open pr_twoSides pr_waiting_r pr_waitingPlaces_r pr_waitingCount) H1 := hP
          have hD : va_D A (wz_175 bo bob bo_length bob cbob gbob knt cknt gknt knv cknv gknv pp cpp gpp pz cpz gpz glt cglt gglt kn tr kns knz knt knv kn_length kns ckns gkns knz cknz gknz gl tr gls glz glt glv gl_length tr tx tr_length tx ctx gtx gls cgls ggls glz cglz gglz h0 pr kn lt h0_localCount pe n7 h0_gives h0_depth h0_loopDepth to bo cs se pe cpe gpe pr gl fu pa pf sf pk pg pp pz pv n18 n17 pr_scanner_r pr_stepCount pr_open pr_twoSides pr_waiting_r pr_waitingPlaces_r pr_waitingCount) := hD
          have hP9 := hP.sb (wq := (wz_167 h0 pr kn lt h0_localCount pe n7 h0_gives h0_depth h0_loopDepth to bo cs se pr gl fu pa pf sf pk pg pp pz pv n18 n17 pr_scanner_r pr_stepCount pr_open pr_twoSides pr_waiting_r pr_waitingPlaces_r pr_waitingCount pe cpe gpe bo bob bo_length bob cbob gbob kn tr kns knz knt knv kn_length kns ckns gkns knz cknz gknz knt cknt gknt knv cknv gknv tr tx tr_length tx ctx gtx pp cpp gpp pz cpz gpz gl tr gls glz glt glv gl_length gls cgls ggls glz cglz gglz glt cglt gglt)) [15, 17, 16, 0, 1, 7, 8, 9, 2, 3, 11, 12, 4, 5, 10, 13, 14, 6] rfl
          have hD9 := hD.sb (wq := (wz_167 h0 pr kn lt h0_localCount pe n7 h0_gives h0_depth h0_loopDepth to bo cs se pr gl fu pa pf sf pk pg pp pz pv n18 n17 pr_scanner_r pr_stepCount pr_open pr_twoSides pr_waiting_r pr_waitingPlaces_r pr_waitingCount pe cpe gpe bo bob bo_length bob cbob gbob kn tr kns knz knt knv kn_length kns ckns gkns knz cknz gknz knt cknt gknt knv cknv gknv tr tx tr_length tx ctx gtx pp cpp gpp pz cpz gpz gl tr gls glz glt glv gl_length gls cgls ggls glz cglz gglz glt cglt gglt)) [15, 17, 16, 0, 1, 7, 8, 9, 2, 3, 11, 12, 4, 5, 10, 13, 14, 6] (by decide) rfl
          exact tz_leave rfl hno hlocks (fun t ht hW => ⟨⟨(gbob, bo_length, n7, n17, n18), ⟨⟨b_bo_length, bn7⟩, by rw [ht]; exact hXX.moved hW.alike⟩, va_P.he ht.symm hP9, va_K.moved hW.alike hK, hD9⟩, hS.F ht⟩) hS.2.2
        exact (show False from hw).elim
    · skip
      refine lv_if_lt (tgt := 93) hx hb d_CO_codeAssign_78 (by decide) (fun c78 => ?_) (fun c78 => ?_)
      · have q78 := ltI c78
        refine lv_aload_n hx hb d_CO_codeAssign_93 rfl (lv_at hl 0 rfl) ?_
        refine va_get (D := (dC, dI)) (ci := 2) (v := .ref pr) (C := R_CO) (T := F_CO) (N := 13) hx hb hts i_CO hown hK hP 16 rfl rfl 0 (by decide) (hts _ kF_CO_36) (fun _ h9 => h9) rfl d_CO_codeAssign_94 ?_
        refine va_get (D := (dC, dI)) (ci := 6) (v := .ref gl) (C := R_PR) (T := F_PR) (N := 19) hx hb hts i_PR hown hK hP 0 rfl rfl 0 (by decide) (hts _ kF_CO_42) (fun _ h9 => h9) rfl d_CO_codeAssign_97 ?_
        refine va_get (D := (dC, dI)) (ci := 5) (v := .ref glt) (C := R_NA) (T := F_NA) (N := 6) hx hb hts i_NA hown hK hP 11 rfl rfl 3 (by decide) (hts _ kF_CO_121) (fun _ h9 => h9) rfl d_CO_codeAssign_100 ?_
        refine lv_iload hx hb d_CO_codeAssign_103 (lv_at hl 3 rfl) ?_
        have g105 : vp_in r5 20 := vp_in_iff.mpr ⟨by (first | (apply Int.le_antisymm <;> omega) | omega), by (first | (apply Int.le_antisymm <;> omega) | omega)⟩
        refine va_iald hx hb hK hP 7 11 rfl rfl g105 d_CO_codeAssign_105 ?_
        refine lv_topi (fun x19 ex19 => ?_)
        exact jn106 x19 _ _ _ ⟨(by rw [ex19]; exact hgq r5.toNatClampNeg (by have := i32_clamp (x := r5) (by (first | (apply Int.le_antisymm <;> omega) | omega)); (first | (apply Int.le_antisymm <;> omega) | omega))), hP, hD, hS, lv_sub hl [0, 1, 2, 3] rfl⟩
      · have q78 := nltI c78
        refine lv_aload_n hx hb d_CO_codeAssign_81 rfl (lv_at hl 0 rfl) ?_
        refine va_get (D := (dC, dI)) (ci := 2) (v := .ref kn) (C := R_CO) (T := F_CO) (N := 13) hx hb hts i_CO hown hK hP 16 rfl rfl 1 (by decide) (hts _ kF_CO_54) (fun _ h9 => h9) rfl d_CO_codeAssign_82 ?_
        refine va_get (D := (dC, dI)) (ci := 5) (v := .ref knt) (C := R_NA) (T := F_NA) (N := 6) hx hb hts i_NA hown hK hP 8 rfl rfl 3 (by decide) (hts _ kF_CO_121) (fun _ h9 => h9) rfl d_CO_codeAssign_85 ?_
        refine lv_iload_n hx hb d_CO_codeAssign_88 rfl (lv_at hl 2 rfl) ?_
        have g89 : vp_in r3 50 := vp_in_iff.mpr ⟨by (first | (apply Int.le_antisymm <;> omega) | omega), by (first | (apply Int.le_antisymm <;> omega) | omega)⟩
        refine va_iald hx hb hK hP 3 4 rfl rfl g89 d_CO_codeAssign_89 ?_
        refine lv_topi (fun x20 ex20 => ?_)
        refine lv_goto (tgt := 106) hx hb d_CO_codeAssign_90 (by decide) ?_
        exact jn106 x20 _ _ _ ⟨(by rw [ex20]; exact (hkq r3.toNatClampNeg (by have := i32_clamp (x := r3) (by (first | (apply Int.le_antisymm <;> omega) | omega)); (first | (apply Int.le_antisymm <;> omega) | omega))).1), hP, hD, hS, lv_sub hl [0, 1, 2, 3] rfl⟩
  · skip
    refine lv_if_ge (tgt := 75) hx hb d_CO_codeAssign_57 (by decide) (fun c57 => ?_) (fun c57 => ?_)
    · have q57 := leI c57
      exact jn75 () _ _ _ ⟨by (try dsimp only) <;> (first | (apply Int.le_antisymm <;> omega) | omega), hP, hD, hS, lv_sub hl [4, 3, 2, 1, 0] rfl⟩
    · have q57 := nleI c57
      refine lv_iload hx hb d_CO_codeAssign_60 (lv_at hl 1 rfl) ?_
      refine lv_if_ge (tgt := 75) hx hb d_CO_codeAssign_62 (by decide) (fun c62 => ?_) (fun c62 => ?_)
      · have q62 := leI c62
        exact jn75 () _ _ _ ⟨by (try dsimp only) <;> (first | (apply Int.le_antisymm <;> omega) | omega), hP, hD, hS, lv_sub hl [4, 3, 2, 1, 0] rfl⟩
      · have q62 := nleI c62
        refine lv_aload_n hx hb d_CO_codeAssign_65 rfl (lv_at hl 4 rfl) ?_
        refine va_get (D := (dC, dI)) (ci := 2) (v := .ref pr) (C := R_CO) (T := F_CO) (N := 13) hx hb hts i_CO hown hK hP 16 rfl rfl 0 (by decide) (hts _ kF_CO_36) (fun _ h9 => h9) rfl d_CO_codeAssign_66 ?_
        refine lv_iconst (v := 2) hx hb d_CO_codeAssign_69 (by decide) ?_
        refine lv_iload_n hx hb d_CO_codeAssign_70 rfl (lv_at hl 3 rfl) ?_
        have hPc := hP.sb (wq := (wz_110 pr gl fu pa pf sf pk pg pp pz pv pr_reason pr_place pr_scanner_r pr_stepCount pr_open pr_twoSides pr_waiting_r pr_waitingPlaces_r pr_waitingCount)) [0] rfl
        have hDc := hD.sb (wq := (wz_110 pr gl fu pa pf sf pk pg pp pz pv pr_reason pr_place pr_scanner_r pr_stepCount pr_open pr_twoSides pr_waiting_r pr_waitingPlaces_r pr_waitingCount)) [0] (by decide) rfl
        have hKc := hK.sb (tyq := []) [] rfl
        have hFc := va_free (wc := (wz_110 pr gl fu pa pf sf pk pg pp pz pv pr_reason pr_place pr_scanner_r pr_stepCount pr_open pr_twoSides pr_waiting_r pr_waitingPlaces_r pr_waitingCount)) hD hS hA [0] rfl
        refine tq_callv (tz_runV (As := [.int 2, .int x1]) (rest := []) ⟨hx, hb, hml, hown, hts⟩ (c_PR_refuse l hlt dC dI H.size sa pr gl fu pa pf sf pk pg pp pz pv pr_scanner_r pr_waiting_r pr_waitingPlaces_r pr_reason pr_place pr_stepCount pr_open pr_twoSides pr_waitingCount 2 x1) (cwV 2 hts (gV kM_CO_105 kV_PR_refuse kS_PR_refuse kI_PR kC_PR_refuse) rfl rfl rfl (by decide +kernel) ⟨Nat.le_of_ble_eq_true rfl, Nat.le_of_ble_eq_true rfl⟩) ⟨fun a U g mk z => by obtain ⟨z0, z1, zP, zK, zD, zS⟩ := z; exact ⟨z0, z1, zP, va_K.moved (u := U) (U := U.calling g mk a) (Vm.Alike.refl U.vm) zK, zD, sw.same (u := U) (U := U.calling g mk a) rfl zS⟩, va_recv hKc hPc (ci := 6) (q0 := 0) rfl rfl, fun U hU hW => ⟨rfl, by rw [hU], va_P.he hU.symm hPc, va_K.moved hW.alike hKc, hDc.weaken (fun _ _ _ _ => trivial), hSW.call hS hFc hW hU⟩⟩ rfl rfl hl.1 rfl (lv_room (Nat.le_of_ble_eq_true rfl)) d_CO_codeAssign_71 ⟨Nat.le_of_ble_eq_true rfl, Nat.le_of_ble_eq_true rfl⟩) hS (fun q _ h => hFc q h) hFc (fun u t H1 locs ht hvm hw hB hz1 hk1 hS => ?_) (fun xx u t H1 locs ht hvm hw hXX hB hz1 hk1 hS => ?_)
        rotate_left
        · skip
          obtain ⟨n22, n23⟩ := u
          try dsimp only at hw
          obtain ⟨hP1, hK1, hD1⟩ := hB
          replace hP1 := va_P.he ht hP1
          obtain ⟨hP, hD⟩ := va_join (wr := [(bo, .inr (1, [.ref bob, .int bo_length])), (bob, .inl (cbob, 8192, .inl gbob)), (knt, .inl (cknt, 50, .inl gknt)), (knv, .inl (cknv, 50, .inr (.inl gknv))), (pp, .inl (cpp, 4100, .inl gpp)), (pz, .inl (cpz, 4100, .inl gpz)), (glt, .inl (cglt, 20, .inl gglt)), (kn, .inr (5, [.ref tr, .ref kns, .ref knz, .ref knt, .ref knv, .int kn_length])), (kns, .inl (ckns, 50, .inl gkns)), (knz, .inl (cknz, 50, .inl gknz)), (gl, .inr (5, [.ref tr, .ref gls, .ref glz, .ref glt, .ref glv, .int gl_length])), (tr, .inr (1, [.ref tx, .int tr_length])), (tx, .inl (ctx, 2000, .inl gtx)), (gls, .inl (cgls, 20, .inl ggls)), (glz, .inl (cglz, 20, .inl gglz)), (h0, .inr (2, [.ref pr, .ref kn, .ref lt, .int h0_localCount, .ref pe, .int n7, .int h0_gives, .int h0_depth, .int h0_loopDepth, .ref to, .ref bo, .ref cs, .ref se])), (pe, .inl (cpe, 680, .inl gpe))]) (w1 := (wz_110 pr gl fu pa pf sf pk pg pp pz pv n23 n22 pr_scanner_r pr_stepCount pr_open pr_twoSides pr_waiting_r pr_waitingPlaces_r pr_waitingCount)) hP hD [0] [1, 2, 3, 4, 5, 6, 7, 8, 9, 10, 11, 12, 13, 14, 15, 16, 17] rfl rfl (by decide) (by decide) hk1 hFc hP1 hD1
          have hP : va_P (dC, dI) cls (wz_175 bo bob bo_length bob cbob gbob knt cknt gknt knv cknv gknv pp cpp gpp pz cpz gpz glt cglt gglt kn tr kns knz knt knv kn_length kns ckns gkns knz cknz gknz gl tr gls glz glt glv gl_length tr tx tr_length tx ctx gtx gls cgls ggls glz cglz gglz h0 pr kn lt h0_localCount pe n7 h0_gives h0_depth h0_loopDepth to bo cs se pe cpe gpe pr gl fu pa pf sf pk pg pp pz pv n23 n22 pr_scanner_r pr_stepCount pr_open pr_twoSides pr_waiting_r pr_waitingPlaces_r pr_waitingCount) H1 := hP
          have hD : va_D A (wz_175 bo bob bo_length bob cbob gbob knt cknt gknt knv cknv gknv pp cpp gpp pz cpz gpz glt cglt gglt kn tr kns knz knt knv kn_length kns ckns gkns knz cknz gknz gl tr gls glz glt glv gl_length tr tx tr_length tx ctx gtx gls cgls ggls glz cglz gglz h0 pr kn lt h0_localCount pe n7 h0_gives h0_depth h0_loopDepth to bo cs se pe cpe gpe pr gl fu pa pf sf pk pg pp pz pv n23 n22 pr_scanner_r pr_stepCount pr_open pr_twoSides pr_waiting_r pr_waitingPlaces_r pr_waitingCount) := hD
          have hP9 := hP.sb (wq := (wz_167 h0 pr kn lt h0_localCount pe n7 h0_gives h0_depth h0_loopDepth to bo cs se pr gl fu pa pf sf pk pg pp pz pv n23 n22 pr_scanner_r pr_stepCount pr_open pr_twoSides pr_waiting_r pr_waitingPlaces_r pr_waitingCount pe cpe gpe bo bob bo_length bob cbob gbob kn tr kns knz knt knv kn_length kns ckns gkns knz cknz gknz knt cknt gknt knv cknv gknv tr tx tr_length tx ctx gtx pp cpp gpp pz cpz gpz gl tr gls glz glt glv gl_length gls cgls ggls glz cglz gglz glt cglt gglt)) [15, 17, 16, 0, 1, 7, 8, 9, 2, 3, 11, 12, 4, 5, 10, 13, 14, 6] rfl
          have hD9 := hD.sb (wq := (wz_167 h0 pr kn lt h0_localCount pe n7 h0_gives h0_depth h0_loopDepth to bo cs se pr gl fu pa pf sf pk pg pp pz pv n23 n22 pr_scanner_r pr_stepCount pr_open pr_twoSides pr_waiting_r pr_waitingPlaces_r pr_waitingCount pe cpe gpe bo bob bo_length bob cbob gbob kn tr kns knz knt knv kn_length kns ckns gkns knz cknz gknz knt cknt gknt knv cknv gknv tr tx tr_length tx ctx gtx pp cpp gpp pz cpz gpz gl tr gls glz glt glv gl_length gls cgls ggls glz cglz gglz glt cglt gglt)) [15, 17, 16, 0, 1, 7, 8, 9, 2, 3, 11, 12, 4, 5, 10, 13, 14, 6] (by decide) rfl
          exact tz_leave rfl hno hlocks (fun t ht hW => ⟨⟨(gbob, bo_length, n7, n22, n23), ⟨⟨b_bo_length, bn7⟩, by rw [ht]; exact hXX.moved hW.alike⟩, va_P.he ht.symm hP9, va_K.moved hW.alike hK, hD9⟩, hS.F ht⟩) hS.2.2
        exact (show False from hw).elim
end q_71
section q_72
/-! Coder: calls -/
abbrev b_CO_codeCall : ByteArray := prog_4_method_12_code
def y_CO_codeCall : MethodName := ⟨R_CO, "codeCall", "(I)V"⟩
abbrev w_CO_codeCall : List Cond := .code y_CO_codeCall b_CO_codeCall 8 none :: lw_g
theorem kC_CO_codeCall : Cond.code y_CO_codeCall b_CO_codeCall 8 none ∈ lw_g := in_c5 203 rfl rfl
theorem d_CO_codeCall_0 : decode b_CO_codeCall 0 = .ok (.aload_n 0, 1) := bz_c42 (by decide +kernel)
theorem d_CO_codeCall_1 : decode b_CO_codeCall 1 = .ok (.getfield 36, 3) := bz_c180 (by decide +kernel)
theorem d_CO_codeCall_4 : decode b_CO_codeCall 4 = .ok (.getfield 175, 3) := bz_c180 (by decide +kernel)
theorem d_CO_codeCall_7 : decode b_CO_codeCall 7 = .ok (.iload_n 1, 1) := bz_c27 (by decide +kernel)
theorem d_CO_codeCall_8 : decode b_CO_codeCall 8 = .ok (.laload, 1) := bz_c47 (by decide +kernel)
theorem d_CO_codeCall_9 : decode b_CO_codeCall 9 = .ok (.l2i, 1) := bz_c136 (by decide +kernel)
theorem d_CO_codeCall_10 : decode b_CO_codeCall 10 = .ok (.istore_n 2, 1) := bz_c61 (by decide +kernel)
theorem d_CO_codeCall_11 : decode b_CO_codeCall 11 = .ok (.aload_n 0, 1) := bz_c42 (by decide +kernel)
theorem d_CO_codeCall_12 : decode b_CO_codeCall 12 = .ok (.getfield 36, 3) := bz_c180 (by decide +kernel)
theorem d_CO_codeCall_15 : decode b_CO_codeCall 15 = .ok (.getfield 61, 3) := bz_c180 (by decide +kernel)
theorem d_CO_codeCall_18 : decode b_CO_codeCall 18 = .ok (.aload_n 0, 1) := bz_c42 (by decide +kernel)
theorem d_CO_codeCall_19 : decode b_CO_codeCall 19 = .ok (.getfield 36, 3) := bz_c180 (by decide +kernel)
theorem d_CO_codeCall_22 : decode b_CO_codeCall 22 = .ok (.getfield 193, 3) := bz_c180 (by decide +kernel)
theorem d_CO_codeCall_25 : decode b_CO_codeCall 25 = .ok (.iload_n 1, 1) := bz_c27 (by decide +kernel)
theorem d_CO_codeCall_26 : decode b_CO_codeCall 26 = .ok (.iaload, 1) := bz_c46 (by decide +kernel)
theorem d_CO_codeCall_27 : decode b_CO_codeCall 27 = .ok (.aload_n 0, 1) := bz_c42 (by decide +kernel)
theorem d_CO_codeCall_28 : decode b_CO_codeCall 28 = .ok (.getfield 36, 3) := bz_c180 (by decide +kernel)
theorem d_CO_codeCall_31 : decode b_CO_codeCall 31 = .ok (.getfield 216, 3) := bz_c180 (by decide +kernel)
theorem d_CO_codeCall_34 : decode b_CO_codeCall 34 = .ok (.iload_n 1, 1) := bz_c27 (by decide +kernel)
theorem d_CO_codeCall_35 : decode b_CO_codeCall 35 = .ok (.iaload, 1) := bz_c46 (by decide +kernel)
theorem d_CO_codeCall_36 : decode b_CO_codeCall 36 = .ok (.invokevirtual 158, 3) := bz_c182 (by decide +kernel)
theorem d_CO_codeCall_39 : decode b_CO_codeCall 39 = .ok (.istore_n 3, 1) := bz_c62 (by decide +kernel)
theorem d_CO_codeCall_40 : decode b_CO_codeCall 40 = .ok (.iload_n 3, 1) := bz_c29 (by decide +kernel)
theorem d_CO_codeCall_41 : decode b_CO_codeCall 41 = .ok (.ifCond .ge 21, 3) := bz_c156 (by decide +kernel)
theorem d_CO_codeCall_44 : decode b_CO_codeCall 44 = .ok (.aload_n 0, 1) := bz_c42 (by decide +kernel)
theorem d_CO_codeCall_45 : decode b_CO_codeCall 45 = .ok (.getfield 36, 3) := bz_c180 (by decide +kernel)
theorem d_CO_codeCall_48 : decode b_CO_codeCall 48 = .ok (.iconst 2, 1) := bz_c5 (by decide +kernel)
theorem d_CO_codeCall_49 : decode b_CO_codeCall 49 = .ok (.aload_n 0, 1) := bz_c42 (by decide +kernel)
theorem d_CO_codeCall_50 : decode b_CO_codeCall 50 = .ok (.getfield 36, 3) := bz_c180 (by decide +kernel)
theorem d_CO_codeCall_53 : decode b_CO_codeCall 53 = .ok (.getfield 193, 3) := bz_c180 (by decide +kernel)
theorem d_CO_codeCall_56 : decode b_CO_codeCall 56 = .ok (.iload_n 1, 1) := bz_c27 (by decide +kernel)
theorem d_CO_codeCall_57 : decode b_CO_codeCall 57 = .ok (.iaload, 1) := bz_c46 (by decide +kernel)
theorem d_CO_codeCall_58 : decode b_CO_codeCall 58 = .ok (.invokevirtual 105, 3) := bz_c182 (by decide +kernel)
theorem d_CO_codeCall_61 : decode b_CO_codeCall 61 = .ok (.return_, 1) := bz_c177 (by decide +kernel)
theorem d_CO_codeCall_62 : decode b_CO_codeCall 62 = .ok (.aload_n 0, 1) := bz_c42 (by decide +kernel)
theorem d_CO_codeCall_63 : decode b_CO_codeCall 63 = .ok (.getfield 36, 3) := bz_c180 (by decide +kernel)
theorem d_CO_codeCall_66 : decode b_CO_codeCall 66 = .ok (.getfield 127, 3) := bz_c180 (by decide +kernel)
theorem d_CO_codeCall_69 : decode b_CO_codeCall 69 = .ok (.iload_n 3, 1) := bz_c29 (by decide +kernel)
theorem d_CO_codeCall_70 : decode b_CO_codeCall 70 = .ok (.iaload, 1) := bz_c46 (by decide +kernel)
theorem d_CO_codeCall_71 : decode b_CO_codeCall 71 = .ok (.istore 4, 2) := bz_c54 (by decide +kernel)
theorem d_CO_codeCall_73 : decode b_CO_codeCall 73 = .ok (.aload_n 0, 1) := bz_c42 (by decide +kernel)
theorem d_CO_codeCall_74 : decode b_CO_codeCall 74 = .ok (.getfield 36, 3) := bz_c180 (by decide +kernel)
theorem d_CO_codeCall_77 : decode b_CO_codeCall 77 = .ok (.getfield 127, 3) := bz_c180 (by decide +kernel)
theorem d_CO_codeCall_80 : decode b_CO_codeCall 80 = .ok (.iload_n 3, 1) := bz_c29 (by decide +kernel)
theorem d_CO_codeCall_81 : decode b_CO_codeCall 81 = .ok (.iconst 1, 1) := bz_c4 (by decide +kernel)
theorem d_CO_codeCall_82 : decode b_CO_codeCall 82 = .ok (.iadd, 1) := bz_c96 (by decide +kernel)
theorem d_CO_codeCall_83 : decode b_CO_codeCall 83 = .ok (.iaload, 1) := bz_c46 (by decide +kernel)
theorem d_CO_codeCall_84 : decode b_CO_codeCall 84 = .ok (.iload 4, 2) := bz_c21 (by decide +kernel)
theorem d_CO_codeCall_86 : decode b_CO_codeCall 86 = .ok (.isub, 1) := bz_c100 (by decide +kernel)
theorem d_CO_codeCall_87 : decode b_CO_codeCall 87 = .ok (.iload_n 2, 1) := bz_c28 (by decide +kernel)
theorem d_CO_codeCall_88 : decode b_CO_codeCall 88 = .ok (.if_icmp .ne 7, 3) := bz_c160 (by decide +kernel)
theorem d_CO_codeCall_91 : decode b_CO_codeCall 91 = .ok (.iconst 1, 1) := bz_c4 (by decide +kernel)
theorem d_CO_codeCall_92 : decode b_CO_codeCall 92 = .ok (.goto 4, 3) := bz_c167 (by decide +kernel)
theorem d_CO_codeCall_95 : decode b_CO_codeCall 95 = .ok (.iconst 0, 1) := bz_c3 (by decide +kernel)
theorem d_CO_codeCall_96 : decode b_CO_codeCall 96 = .ok (.istore 5, 2) := bz_c54 (by decide +kernel)
theorem d_CO_codeCall_98 : decode b_CO_codeCall 98 = .ok (.iload_n 2, 1) := bz_c28 (by decide +kernel)
theorem d_CO_codeCall_99 : decode b_CO_codeCall 99 = .ok (.iconst 1, 1) := bz_c4 (by decide +kernel)
theorem d_CO_codeCall_100 : decode b_CO_codeCall 100 = .ok (.isub, 1) := bz_c100 (by decide +kernel)
theorem d_CO_codeCall_101 : decode b_CO_codeCall 101 = .ok (.istore 6, 2) := bz_c54 (by decide +kernel)
theorem d_CO_codeCall_103 : decode b_CO_codeCall 103 = .ok (.iload 6, 2) := bz_c21 (by decide +kernel)
theorem d_CO_codeCall_105 : decode b_CO_codeCall 105 = .ok (.ifCond .lt 48, 3) := bz_c155 (by decide +kernel)
theorem d_CO_codeCall_108 : decode b_CO_codeCall 108 = .ok (.aload_n 0, 1) := bz_c42 (by decide +kernel)
theorem d_CO_codeCall_109 : decode b_CO_codeCall 109 = .ok (.invokevirtual 224, 3) := bz_c182 (by decide +kernel)
theorem d_CO_codeCall_112 : decode b_CO_codeCall 112 = .ok (.istore 7, 2) := bz_c54 (by decide +kernel)
theorem d_CO_codeCall_114 : decode b_CO_codeCall 114 = .ok (.iload 5, 2) := bz_c21 (by decide +kernel)
theorem d_CO_codeCall_116 : decode b_CO_codeCall 116 = .ok (.ifCond .eq 28, 3) := bz_c153 (by decide +kernel)
theorem d_CO_codeCall_119 : decode b_CO_codeCall 119 = .ok (.iload 7, 2) := bz_c21 (by decide +kernel)
theorem d_CO_codeCall_121 : decode b_CO_codeCall 121 = .ok (.aload_n 0, 1) := bz_c42 (by decide +kernel)
theorem d_CO_codeCall_122 : decode b_CO_codeCall 122 = .ok (.getfield 36, 3) := bz_c180 (by decide +kernel)
theorem d_CO_codeCall_125 : decode b_CO_codeCall 125 = .ok (.getfield 130, 3) := bz_c180 (by decide +kernel)
theorem d_CO_codeCall_128 : decode b_CO_codeCall 128 = .ok (.getfield 121, 3) := bz_c180 (by decide +kernel)
theorem d_CO_codeCall_131 : decode b_CO_codeCall 131 = .ok (.iload 4, 2) := bz_c21 (by decide +kernel)
theorem d_CO_codeCall_133 : decode b_CO_codeCall 133 = .ok (.iload 6, 2) := bz_c21 (by decide +kernel)
theorem d_CO_codeCall_135 : decode b_CO_codeCall 135 = .ok (.iadd, 1) := bz_c96 (by decide +kernel)
theorem d_CO_codeCall_136 : decode b_CO_codeCall 136 = .ok (.iaload, 1) := bz_c46 (by decide +kernel)
theorem d_CO_codeCall_137 : decode b_CO_codeCall 137 = .ok (.if_icmp .ne 7, 3) := bz_c160 (by decide +kernel)
theorem d_CO_codeCall_140 : decode b_CO_codeCall 140 = .ok (.iconst 1, 1) := bz_c4 (by decide +kernel)
theorem d_CO_codeCall_141 : decode b_CO_codeCall 141 = .ok (.goto 4, 3) := bz_c167 (by decide +kernel)
theorem d_CO_codeCall_144 : decode b_CO_codeCall 144 = .ok (.iconst 0, 1) := bz_c3 (by decide +kernel)
theorem d_CO_codeCall_145 : decode b_CO_codeCall 145 = .ok (.istore 5, 2) := bz_c54 (by decide +kernel)
theorem d_CO_codeCall_147 : decode b_CO_codeCall 147 = .ok (.iinc 6 (-1), 3) := by decide +kernel
theorem d_CO_codeCall_150 : decode b_CO_codeCall 150 = .ok (.goto (-47), 3) := bz_c167 (by decide +kernel)
theorem d_CO_codeCall_153 : decode b_CO_codeCall 153 = .ok (.iload 5, 2) := bz_c21 (by decide +kernel)
theorem d_CO_codeCall_155 : decode b_CO_codeCall 155 = .ok (.ifCond .ne 20, 3) := bz_c154 (by decide +kernel)
theorem d_CO_codeCall_158 : decode b_CO_codeCall 158 = .ok (.aload_n 0, 1) := bz_c42 (by decide +kernel)
theorem d_CO_codeCall_159 : decode b_CO_codeCall 159 = .ok (.getfield 36, 3) := bz_c180 (by decide +kernel)
theorem d_CO_codeCall_162 : decode b_CO_codeCall 162 = .ok (.iconst 3, 1) := bz_c6 (by decide +kernel)
theorem d_CO_codeCall_163 : decode b_CO_codeCall 163 = .ok (.aload_n 0, 1) := bz_c42 (by decide +kernel)
theorem d_CO_codeCall_164 : decode b_CO_codeCall 164 = .ok (.getfield 36, 3) := bz_c180 (by decide +kernel)
theorem d_CO_codeCall_167 : decode b_CO_codeCall 167 = .ok (.getfield 193, 3) := bz_c180 (by decide +kernel)
theorem d_CO_codeCall_170 : decode b_CO_codeCall 170 = .ok (.iload_n 1, 1) := bz_c27 (by decide +kernel)
theorem d_CO_codeCall_171 : decode b_CO_codeCall 171 = .ok (.iaload, 1) := bz_c46 (by decide +kernel)
theorem d_CO_codeCall_172 : decode b_CO_codeCall 172 = .ok (.invokevirtual 105, 3) := bz_c182 (by decide +kernel)
theorem d_CO_codeCall_175 : decode b_CO_codeCall 175 = .ok (.aload_n 0, 1) := bz_c42 (by decide +kernel)
theorem d_CO_codeCall_176 : decode b_CO_codeCall 176 = .ok (.getfield 26, 3) := bz_c180 (by decide +kernel)
theorem d_CO_codeCall_179 : decode b_CO_codeCall 179 = .ok (.bipush 16, 2) := bz_c16 (by decide +kernel)
theorem d_CO_codeCall_181 : decode b_CO_codeCall 181 = .ok (.invokevirtual 76, 3) := bz_c182 (by decide +kernel)
theorem d_CO_codeCall_184 : decode b_CO_codeCall 184 = .ok (.aload_n 0, 1) := bz_c42 (by decide +kernel)
theorem d_CO_codeCall_185 : decode b_CO_codeCall 185 = .ok (.getfield 26, 3) := bz_c180 (by decide +kernel)
theorem d_CO_codeCall_188 : decode b_CO_codeCall 188 = .ok (.iload_n 3, 1) := bz_c29 (by decide +kernel)
theorem d_CO_codeCall_189 : decode b_CO_codeCall 189 = .ok (.invokevirtual 218, 3) := bz_c182 (by decide +kernel)
theorem d_CO_codeCall_192 : decode b_CO_codeCall 192 = .ok (.aload_n 0, 1) := bz_c42 (by decide +kernel)
theorem d_CO_codeCall_193 : decode b_CO_codeCall 193 = .ok (.aload_n 0, 1) := bz_c42 (by decide +kernel)
theorem d_CO_codeCall_194 : decode b_CO_codeCall 194 = .ok (.getfield 36, 3) := bz_c180 (by decide +kernel)
theorem d_CO_codeCall_197 : decode b_CO_codeCall 197 = .ok (.getfield 61, 3) := bz_c180 (by decide +kernel)
theorem d_CO_codeCall_200 : decode b_CO_codeCall 200 = .ok (.getfield 121, 3) := bz_c180 (by decide +kernel)
theorem d_CO_codeCall_203 : decode b_CO_codeCall 203 = .ok (.iload_n 3, 1) := bz_c29 (by decide +kernel)
theorem d_CO_codeCall_204 : decode b_CO_codeCall 204 = .ok (.iaload, 1) := bz_c46 (by decide +kernel)
theorem d_CO_codeCall_205 : decode b_CO_codeCall 205 = .ok (.invokevirtual 183, 3) := bz_c182 (by decide +kernel)
theorem d_CO_codeCall_208 : decode b_CO_codeCall 208 = .ok (.return_, 1) := bz_c177 (by decide +kernel)
theorem kF_CO_175 : Cond.fieldLink R_CO 175 "WaferForge$Program" "values" "[J" ∈ lw_g := in_c2 119 rfl rfl
theorem kF_CO_61 : Cond.fieldLink R_CO 61 "WaferForge$Program" "functions" "LWaferForge$Names;" ∈ lw_g := in_c2 103 rfl rfl
theorem kF_CO_127 : Cond.fieldLink R_CO 127 "WaferForge$Program" "parameterFirst" "[I" ∈ lw_g := in_c2 107 rfl rfl
theorem kF_CO_130 : Cond.fieldLink R_CO 130 "WaferForge$Program" "parameters" "LWaferForge$Names;" ∈ lw_g := in_c2 105 rfl rfl
abbrev at_CO_codeCall (dC : Nat → ClassId) (dI : Nat → Nat → Nat) (sa : Nat → Nat) (h0 pr kn lt pe to bo cs se gl fu pa pf sf pk pg pp pz pv pr_scanner_r pr_waiting_r pr_waitingPlaces_r bob tr kns knz knt knv tx fus fuz fut fuv pas paz pat pav : Nat) (cpe cbob ctx cpf cpp cpz cpv cfus cfuz cfut cpat : ClassId) (h0_localCount : Int32) (h0_gives : Int32) (h0_depth : Int32) (h0_loopDepth : Int32) (pr_stepCount : Int32) (pr_open : Int32) (pr_twoSides : Int32) (pr_waitingCount : Int32) (kn_length : Int32) (tr_length : Int32) (gtx : Nat → Int32) (gpf : Nat → Int32) (gpp : Nat → Int32) (gpz : Nat → Int32) (gpv : Nat → Int64) (fu_length : Int32) (gfus : Nat → Int32) (gfuz : Nat → Int32) (gfut : Nat → Int32) (pa_length : Int32) (gpat : Nat → Int32) (A : Nat → Prop) (u : (Nat → Int32) × (Nat → Int32) × Int32 × Int32 × Int32 × Int32) (t : State) : Prop := match u with | (gbob, gpe, bo_length, h0_pendingCount, pr_place, pr_reason) => va_P (dC, dI) cls (wz_176 h0 pr kn lt h0_localCount pe h0_pendingCount h0_gives h0_depth h0_loopDepth to bo cs se pr gl fu pa pf sf pk pg pp pz pv pr_reason pr_place pr_scanner_r pr_stepCount pr_open pr_twoSides pr_waiting_r pr_waitingPlaces_r pr_waitingCount pe cpe gpe bo bob bo_length bob cbob gbob kn tr kns knz knt knv kn_length tr tx tr_length tx ctx gtx pf cpf gpf pp cpp gpp pz cpz gpz pv cpv gpv fu tr fus fuz fut fuv fu_length fus cfus gfus fuz cfuz gfuz fut cfut gfut pa tr pas paz pat pav pa_length pat cpat gpat) t.heap ∧ va_K (dC, dI) cls [(cpe, .int), (cbob, .byte), (ctx, .byte), (cpf, .int), (cpp, .int), (cpz, .int), (cpv, .long), (cfus, .int), (cfuz, .int), (cfut, .int), (cpat, .int)] t ∧ va_D A (wz_176 h0 pr kn lt h0_localCount pe h0_pendingCount h0_gives h0_depth h0_loopDepth to bo cs se pr gl fu pa pf sf pk pg pp pz pv pr_reason pr_place pr_scanner_r pr_stepCount pr_open pr_twoSides pr_waiting_r pr_waitingPlaces_r pr_waitingCount pe cpe gpe bo bob bo_length bob cbob gbob kn tr kns knz knt knv kn_length tr tx tr_length tx ctx gtx pf cpf gpf pp cpp gpp pz cpz gpz pv cpv gpv fu tr fus fuz fut fuv fu_length fus cfus gfus fuz cfuz gfuz fut cfut gfut pa tr pas paz pat pav pa_length pat cpat gpat)
set_option maxHeartbeats 4000000 in
set_option maxRecDepth 100000 in
theorem c_CO_codeCall (l : Launch) (hlt : l.stackTraces = false) (dC : Nat → ClassId) (dI : Nat → Nat → Nat) (sz : Nat) (sa : Nat → Nat) (h0 pr kn lt pe to bo cs se gl fu pa pf sf pk pg pp pz pv pr_scanner_r pr_waiting_r pr_waitingPlaces_r bob tr kns knz knt knv tx fus fuz fut fuv pas paz pat pav : Nat) (cpe cbob ctx cpf cpp cpz cpv cfus cfuz cfut cpat : ClassId) (h0_localCount : Int32) (h0_pendingCount : Int32) (h0_gives : Int32) (h0_depth : Int32) (h0_loopDepth : Int32) (pr_reason : Int32) (pr_place : Int32) (pr_stepCount : Int32) (pr_open : Int32) (pr_twoSides : Int32) (pr_waitingCount : Int32) (gpe : Nat → Int32) (bo_length : Int32) (gbob : Nat → Int32) (kn_length : Int32) (tr_length : Int32) (gtx : Nat → Int32) (gpf : Nat → Int32) (gpp : Nat → Int32) (gpz : Nat → Int32) (gpv : Nat → Int64) (fu_length : Int32) (gfus : Nat → Int32) (gfuz : Nat → Int32) (gfut : Nat → Int32) (pa_length : Int32) (gpat : Nat → Int32)  (b_h0_pendingCount : 0 ≤ h0_pendingCount.toInt ∧ h0_pendingCount.toInt ≤ 680) (b_bo_length : 0 ≤ bo_length.toInt ∧ bo_length.toInt ≤ 8192) (b_tr_length : 0 ≤ tr_length.toInt ∧ tr_length.toInt ≤ 2000) (b_fu_length : 0 ≤ fu_length.toInt ∧ fu_length.toInt ≤ 20) (b_pa_length : 0 ≤ pa_length.toInt ∧ pa_length.toInt ≤ 160) (p0 : Int32)  (hi : 0 ≤ p0.toInt ∧ p0.toInt < 4100) (hz : 0 ≤ (gpz p0.toNatClampNeg).toInt) (hv : 0 ≤ (gpv p0.toNatClampNeg).toInt ∧ (gpv p0.toNatClampNeg).toInt ≤ 8 ∧ (gpv p0.toNatClampNeg).toInt ≤ h0_pendingCount.toInt) (hpf : bx (∀ f : Nat, (f : Int) < fu_length.toInt → 0 ≤ (gpf f).toInt ∧ (gpf f).toInt ≤ (gpf (f + 1)).toInt ∧ (gpf (f + 1)).toInt ≤ pa_length.toInt)) (hpq : gq pa_length.toInt gpat) (hp9 : h0_pendingCount.toInt - (gpv p0.toNatClampNeg).toInt < 680) (hpl : pa_length.toInt ≤ 160) (hbo : bo_length.toInt + 7 ≤ 8192) : tz_Met l y_CO_codeCall w_CO_codeCall ({ frames := 7, cells := 1, slots := 6, locals := 112 }) (va_Pc [.ref h0, .int p0] (fun U => U.heap.size = sz ∧ va_P (dC, dI) cls (wz_176 h0 pr kn lt h0_localCount pe h0_pendingCount h0_gives h0_depth h0_loopDepth to bo cs se pr gl fu pa pf sf pk pg pp pz pv pr_reason pr_place pr_scanner_r pr_stepCount pr_open pr_twoSides pr_waiting_r pr_waitingPlaces_r pr_waitingCount pe cpe gpe bo bob bo_length bob cbob gbob kn tr kns knz knt knv kn_length tr tx tr_length tx ctx gtx pf cpf gpf pp cpp gpp pz cpz gpz pv cpv gpv fu tr fus fuz fut fuv fu_length fus cfus gfus fuz cfuz gfuz fut cfut gfut pa tr pas paz pat pav pa_length pat cpat gpat) U.heap ∧ va_K (dC, dI) cls [(cpe, .int), (cbob, .byte), (ctx, .byte), (cpf, .int), (cpp, .int), (cpz, .int), (cpv, .long), (cfus, .int), (cfuz, .int), (cfut, .int), (cpat, .int)] U ∧ va_D (fun _ => True) (wz_176 h0 pr kn lt h0_localCount pe h0_pendingCount h0_gives h0_depth h0_loopDepth to bo cs se pr gl fu pa pf sf pk pg pp pz pv pr_reason pr_place pr_scanner_r pr_stepCount pr_open pr_twoSides pr_waiting_r pr_waitingPlaces_r pr_waitingCount pe cpe gpe bo bob bo_length bob cbob gbob kn tr kns knz knt knv kn_length tr tx tr_length tx ctx gtx pf cpf gpf pp cpp gpp pz cpz gpz pv cpv gpv fu tr fus fuz fut fuv fu_length fus cfus gfus fuz cfuz gfuz fut cfut gfut pa tr pas paz pat pav pa_length pat cpat gpat) ∧ sw sa (va_A (wz_176 h0 pr kn lt h0_localCount pe h0_pendingCount h0_gives h0_depth h0_loopDepth to bo cs se pr gl fu pa pf sf pk pg pp pz pv pr_reason pr_place pr_scanner_r pr_stepCount pr_open pr_twoSides pr_waiting_r pr_waitingPlaces_r pr_waitingCount pe cpe gpe bo bob bo_length bob cbob gbob kn tr kns knz knt knv kn_length tr tx tr_length tx ctx gtx pf cpf gpf pp cpp gpp pz cpz gpz pv cpv gpv fu tr fus fuz fut fuv fu_length fus cfus gfus fuz cfuz gfuz fut cfut gfut pa tr pas paz pat pav pa_length pat cpat gpat) sz) U U.heap)) (tq_Q (tq_v (fun (u : (Nat → Int32) × (Nat → Int32) × Int32 × Int32 × Int32 × Int32) => match u with | (gbob2, gpe2, bo_length2, h0_pendingCount2, pr_place2, pr_reason2) => (0 ≤ bo_length2.toInt ∧ bo_length2.toInt ≤ 8192) ∧ (0 ≤ h0_pendingCount2.toInt ∧ h0_pendingCount2.toInt ≤ 680) ∧ (h0_pendingCount2.toInt = h0_pendingCount.toInt - (gpv p0.toNatClampNeg).toInt + 1 ∧ (∀ j : Nat, h0_pendingCount.toInt - (gpv p0.toNatClampNeg).toInt ≤ (j : Int) → (j : Int) < h0_pendingCount.toInt → (gpe j).toInt ≠ 64) ∧ ∃ f : Nat, (f : Int) < fu_length.toInt ∧ (gpf (f + 1)).toInt - (gpf f).toInt = (gpv p0.toNatClampNeg).toInt ∧ gpe2 = upd gpe (h0_pendingCount.toInt - (gpv p0.toNatClampNeg).toInt).toNat (gfut f) ∧ bo_length2.toInt = bo_length.toInt + 2 ∧ bl gbob2 bo_length2.toNatClampNeg = bl gbob bo_length.toNatClampNeg ++ [16, f])) "java/lang/UnsupportedOperationException" (fun (u : (Nat → Int32) × (Nat → Int32) × Int32 × Int32 × Int32 × Int32) => match u with | (gbob2, gpe2, bo_length2, h0_pendingCount2, pr_place2, pr_reason2) => (0 ≤ bo_length2.toInt ∧ bo_length2.toInt ≤ 8192) ∧ (0 ≤ h0_pendingCount2.toInt ∧ h0_pendingCount2.toInt ≤ 680))) (at_CO_codeCall dC dI sa h0 pr kn lt pe to bo cs se gl fu pa pf sf pk pg pp pz pv pr_scanner_r pr_waiting_r pr_waitingPlaces_r bob tr kns knz knt knv tx fus fuz fut fuv pas paz pat pav cpe cbob ctx cpf cpp cpz cpv cfus cfuz cfut cpat h0_localCount h0_gives h0_depth h0_loopDepth pr_stepCount pr_open pr_twoSides pr_waitingCount kn_length tr_length gtx gpf gpp gpz gpv fu_length gfus gfuz gfut pa_length gpat (va_A (wz_176 h0 pr kn lt h0_localCount pe h0_pendingCount h0_gives h0_depth h0_loopDepth to bo cs se pr gl fu pa pf sf pk pg pp pz pv pr_reason pr_place pr_scanner_r pr_stepCount pr_open pr_twoSides pr_waiting_r pr_waitingPlaces_r pr_waitingCount pe cpe gpe bo bob bo_length bob cbob gbob kn tr kns knz knt knv kn_length tr tx tr_length tx ctx gtx pf cpf gpf pp cpp gpp pz cpz gpz pv cpv gpv fu tr fus fuz fut fuv fu_length fus cfus gfus fuz cfuz gfuz fut cfut gfut pa tr pas paz pat pav pa_length pat cpat gpat) sz)) (va_A (wz_176 h0 pr kn lt h0_localCount pe h0_pendingCount h0_gives h0_depth h0_loopDepth to bo cs se pr gl fu pa pf sf pk pg pp pz pv pr_reason pr_place pr_scanner_r pr_stepCount pr_open pr_twoSides pr_waiting_r pr_waitingPlaces_r pr_waitingCount pe cpe gpe bo bob bo_length bob cbob gbob kn tr kns knz knt knv kn_length tr tx tr_length tx ctx gtx pf cpf gpf pp cpp gpp pz cpz gpz pv cpv gpv fu tr fus fuz fut fuv fu_length fus cfus gfus fuz cfuz gfuz fut cfut gfut pa tr pas paz pat pav pa_length pat cpat gpat) sz)) (tz_k 0 0 1 6) (va_A (wz_176 h0 pr kn lt h0_localCount pe h0_pendingCount h0_gives h0_depth h0_loopDepth to bo cs se pr gl fu pa pf sf pk pg pp pz pv pr_reason pr_place pr_scanner_r pr_stepCount pr_open pr_twoSides pr_waiting_r pr_waitingPlaces_r pr_waitingCount pe cpe gpe bo bob bo_length bob cbob gbob kn tr kns knz knt knv kn_length tr tx tr_length tx ctx gtx pf cpf gpf pp cpp gpp pz cpz gpz pv cpv gpv fu tr fus fuz fut fuv fu_length fus cfus gfus fuz cfuz gfuz fut cfut gfut pa tr pas paz pat pav pa_length pat cpat gpat) sz) := by
  refine tz_ofW (cc := b_CO_codeCall) (maxL := 8) (ret := none) (by decide) rfl ?_
  intro p e s m args below meth c s₁ B hml hno hv
  obtain ⟨rfl, hsz, hP, hK, hD0, hSW⟩ := hv
  have hx := B.exec
  have hb := B.bytes
  have hr := B.returns
  have hts0 := atoms_spec (ws := w_CO_codeCall) B.pre
  have hts : ∀ w ∈ lw_g, w.before _ s = true := fun w h => hts0 w (List.mem_cons_of_mem _ h)
  have hown : s.vm.findClass R_CO = some m.cls := findClass_of_methodNamed B.named
  have hlocks := B.notSynchronized
  clear hts0
  subst hsz
  have hD := hD0.self (sz := s.heap.size)
  generalize hAe : va_A (wz_176 h0 pr kn lt h0_localCount pe h0_pendingCount h0_gives h0_depth h0_loopDepth to bo cs se pr gl fu pa pf sf pk pg pp pz pv pr_reason pr_place pr_scanner_r pr_stepCount pr_open pr_twoSides pr_waiting_r pr_waitingPlaces_r pr_waitingCount pe cpe gpe bo bob bo_length bob cbob gbob kn tr kns knz knt knv kn_length tr tx tr_length tx ctx gtx pf cpf gpf pp cpp gpp pz cpz gpz pv cpv gpv fu tr fus fuz fut fuv fu_length fus cfus gfus fuz cfuz gfuz fut cfut gfut pa tr pas paz pat pav pa_length pat cpat gpat) s.heap.size = A at hD hSW ⊢
  have hA : ∀ q : Nat, s.heap.size ≤ q → A q := fun q h => by rw [← hAe]; exact Or.inr h
  clear hAe
  have hP : va_P (dC, dI) cls (wz_176 h0 pr kn lt h0_localCount pe h0_pendingCount h0_gives h0_depth h0_loopDepth to bo cs se pr gl fu pa pf sf pk pg pp pz pv pr_reason pr_place pr_scanner_r pr_stepCount pr_open pr_twoSides pr_waiting_r pr_waitingPlaces_r pr_waitingCount pe cpe gpe bo bob bo_length bob cbob gbob kn tr kns knz knt knv kn_length tr tx tr_length tx ctx gtx pf cpf gpf pp cpp gpp pz cpz gpz pv cpv gpv fu tr fus fuz fut fuv fu_length fus cfus gfus fuz cfuz gfuz fut cfut gfut pa tr pas paz pat pav pa_length pat cpat gpat) s.heap := hP
  have hl := lv_entry ([.ref h0, .int p0]) (n := 8) (Nat.le_of_ble_eq_true rfl)
  rw [lg_entry_eq]
  generalize (lg_sl ([.ref h0, .int p0]) ++ List.replicate (8 - (lg_sl ([.ref h0, .int p0])).length) Slot.unset).toArray = ls at hl ⊢
  have hl : lv_has ls 8 [(0, .ref h0), (1, .int p0)] := hl
  have k0 : (0 : Int32).toInt = 0 := by decide
  refine w_gen (A := A) hP (fun H locs hP hS => ?_)
  have km1 : (-1 : Int32).toInt = -1 := by decide
  have k1 : (1 : Int32).toInt = 1 := by decide
  have k2 : (2 : Int32).toInt = 2 := by decide
  have k3 : (3 : Int32).toInt = 3 := by decide
  have k16 : (16 : Int32).toInt = 16 := by decide
  have lo_p0 := i32_lo p0
  have hi_p0 := i32_hi p0
  refine lv_aload_n hx hb d_CO_codeCall_0 rfl (lv_at hl 0 rfl) ?_
  refine va_get (D := (dC, dI)) (ci := 2) (v := .ref pr) (C := R_CO) (T := F_CO) (N := 13) hx hb hts i_CO hown hK hP 0 rfl rfl 0 (by decide) (hts _ kF_CO_36) (fun _ h9 => h9) rfl d_CO_codeCall_1 ?_
  refine va_get (D := (dC, dI)) (ci := 6) (v := .ref pv) (C := R_PR) (T := F_PR) (N := 19) hx hb hts i_PR hown hK hP 1 rfl rfl 9 (by decide) (hts _ kF_CO_175) (fun _ h9 => h9) rfl d_CO_codeCall_4 ?_
  refine lv_iload_n hx hb d_CO_codeCall_7 rfl (lv_at hl 1 rfl) ?_
  have g8 : vp_in p0 4100 := vp_in_iff.mpr ⟨by (first | (apply Int.le_antisymm <;> omega) | omega), by (first | (apply Int.le_antisymm <;> omega) | omega)⟩
  refine va_lald hx hb hK hP 11 6 rfl rfl g8 d_CO_codeCall_8 ?_
  refine lv_topl (fun x1 ex1 => ?_)
  have tx1 := hv
  rw [← ex1] at tx1
  have gx1 := congrArg Int64.toInt ex1
  refine lv_l2i hx hb d_CO_codeCall_9 rfl ?_
  refine lv_topi (fun x2 ex2 => ?_)
  have tx2 := l2i_t ex2 (by (first | (apply Int.le_antisymm <;> omega) | omega)) (by (first | (apply Int.le_antisymm <;> omega) | omega))
  refine lv_istore_n (lv' := [(2, .int x2), (0, .ref h0), (1, .int p0)]) hx hb d_CO_codeCall_10 rfl hl (by decide) rfl (fun ls hl => ?_)
  refine lv_aload_n hx hb d_CO_codeCall_11 rfl (lv_at hl 1 rfl) ?_
  refine va_get (D := (dC, dI)) (ci := 2) (v := .ref pr) (C := R_CO) (T := F_CO) (N := 13) hx hb hts i_CO hown hK hP 0 rfl rfl 0 (by decide) (hts _ kF_CO_36) (fun _ h9 => h9) rfl d_CO_codeCall_12 ?_
  refine va_get (D := (dC, dI)) (ci := 6) (v := .ref fu) (C := R_PR) (T := F_PR) (N := 19) hx hb hts i_PR hown hK hP 1 rfl rfl 1 (by decide) (hts _ kF_CO_61) (fun _ h9 => h9) rfl d_CO_codeCall_15 ?_
  refine lv_aload_n hx hb d_CO_codeCall_18 rfl (lv_at hl 1 rfl) ?_
  refine va_get (D := (dC, dI)) (ci := 2) (v := .ref pr) (C := R_CO) (T := F_CO) (N := 13) hx hb hts i_CO hown hK hP 0 rfl rfl 0 (by decide) (hts _ kF_CO_36) (fun _ h9 => h9) rfl d_CO_codeCall_19 ?_
  refine va_get (D := (dC, dI)) (ci := 6) (v := .ref pp) (C := R_PR) (T := F_PR) (N := 19) hx hb hts i_PR hown hK hP 1 rfl rfl 7 (by decide) (hts _ kF_CO_193) (fun _ h9 => h9) rfl d_CO_codeCall_22 ?_
  refine lv_iload_n hx hb d_CO_codeCall_25 rfl (lv_at hl 2 rfl) ?_
  have g26 : vp_in p0 4100 := vp_in_iff.mpr ⟨by (first | (apply Int.le_antisymm <;> omega) | omega), by (first | (apply Int.le_antisymm <;> omega) | omega)⟩
  refine va_iald hx hb hK hP 9 4 rfl rfl g26 d_CO_codeCall_26 ?_
  refine lv_topi (fun x3 ex3 => ?_)
  refine lv_aload_n hx hb d_CO_codeCall_27 rfl (lv_at hl 1 rfl) ?_
  refine va_get (D := (dC, dI)) (ci := 2) (v := .ref pr) (C := R_CO) (T := F_CO) (N := 13) hx hb hts i_CO hown hK hP 0 rfl rfl 0 (by decide) (hts _ kF_CO_36) (fun _ h9 => h9) rfl d_CO_codeCall_28 ?_
  refine va_get (D := (dC, dI)) (ci := 6) (v := .ref pz) (C := R_PR) (T := F_PR) (N := 19) hx hb hts i_PR hown hK hP 1 rfl rfl 8 (by decide) (hts _ kF_CO_216) (fun _ h9 => h9) rfl d_CO_codeCall_31 ?_
  refine lv_iload_n hx hb d_CO_codeCall_34 rfl (lv_at hl 2 rfl) ?_
  have g35 : vp_in p0 4100 := vp_in_iff.mpr ⟨by (first | (apply Int.le_antisymm <;> omega) | omega), by (first | (apply Int.le_antisymm <;> omega) | omega)⟩
  refine va_iald hx hb hK hP 10 5 rfl rfl g35 d_CO_codeCall_35 ?_
  refine lv_topi (fun x4 ex4 => ?_)
  have tx4 := hz
  rw [← ex4] at tx4
  have hPc := hP.sb (wq := (wz_166 fu tr fus fuz fut fuv fu_length tr tx tr_length tx ctx gtx fus cfus gfus fuz cfuz gfuz)) [12, 6, 7, 13, 14] rfl
  have hDc := hD.sb (wq := (wz_166 fu tr fus fuz fut fuv fu_length tr tx tr_length tx ctx gtx fus cfus gfus fuz cfuz gfuz)) [12, 6, 7, 13, 14] (by decide) rfl
  have hKc := hK.sb (tyq := [(ctx, .byte), (cfus, .int), (cfuz, .int)]) [2, 7, 8] rfl
  have hFc := va_free (wc := (wz_166 fu tr fus fuz fut fuv fu_length tr tx tr_length tx ctx gtx fus cfus gfus fuz cfuz gfuz)) hD hS hA [12, 6, 7, 13, 14] rfl
  refine va_calli (va_runV (As := [.int x3, .int x4]) (rest := []) ⟨hx, hb, hml, hown, hts⟩ (c_NA_indexOf l dC dI H.size fu tr fus fuz fut fuv tx ctx cfus cfuz fu_length tr_length gtx 20 gfus gfuz (b_tr_length) x3 x4 (by (first | (apply Int.le_antisymm <;> omega) | omega)) (by (first | (apply Int.le_antisymm <;> omega) | omega))) (cwV 2 hts (gV kM_CO_158 kV_NA_indexOf kS_NA_indexOf kI_NA kC_NA_indexOf) rfl rfl rfl (by decide +kernel) ⟨Nat.le_of_ble_eq_true rfl, Nat.le_of_ble_eq_true rfl⟩) ⟨fun a U g mk z => by obtain ⟨z0, z1, zP, zK, zD⟩ := z; exact ⟨z0, z1, zP, va_K.moved (u := U) (U := U.calling g mk a) (Vm.Alike.refl U.vm) zK, zD⟩, va_recv hKc hPc (ci := 5) (q0 := 0) rfl rfl, fun U hU hW => ⟨rfl, by rw [hU], va_P.he hU.symm hPc, va_K.moved hW.alike hKc, hDc.weaken (fun _ _ _ _ => trivial)⟩⟩ rfl rfl hl.1 rfl (lv_room (Nat.le_of_ble_eq_true rfl)) d_CO_codeCall_36 ⟨(Nat.zero_le _), (Nat.zero_le _)⟩) hS (fun q _ h => hFc q h) hFc (fun r5 u t H1 locs ht hvm hw hB hz1 hk1 hS => ?_)
  try dsimp only at hw
  have xr5 := hw
  try clear hw
  obtain ⟨hP1, hK1, hD1⟩ := hB
  replace hP1 := va_P.he ht hP1
  obtain ⟨hP, hD⟩ := va_join (wr := [(h0, .inr (2, [.ref pr, .ref kn, .ref lt, .int h0_localCount, .ref pe, .int h0_pendingCount, .int h0_gives, .int h0_depth, .int h0_loopDepth, .ref to, .ref bo, .ref cs, .ref se])), (pr, .inr (6, [.ref gl, .ref fu, .ref pa, .ref pf, .ref sf, .ref pk, .ref pg, .ref pp, .ref pz, .ref pv, .int pr_reason, .int pr_place, .ref pr_scanner_r, .int pr_stepCount, .int pr_open, .int pr_twoSides, .ref pr_waiting_r, .ref pr_waitingPlaces_r, .int pr_waitingCount])), (pe, .inl (cpe, 680, .inl gpe)), (bo, .inr (1, [.ref bob, .int bo_length])), (bob, .inl (cbob, 8192, .inl gbob)), (kn, .inr (5, [.ref tr, .ref kns, .ref knz, .ref knt, .ref knv, .int kn_length])), (pf, .inl (cpf, 21, .inl gpf)), (pp, .inl (cpp, 4100, .inl gpp)), (pz, .inl (cpz, 4100, .inl gpz)), (pv, .inl (cpv, 4100, .inr (.inl gpv))), (fut, .inl (cfut, 20, .inl gfut)), (pa, .inr (5, [.ref tr, .ref pas, .ref paz, .ref pat, .ref pav, .int pa_length])), (pat, .inl (cpat, 160, .inl gpat))]) (w1 := (wz_166 fu tr fus fuz fut fuv fu_length tr tx tr_length tx ctx gtx fus cfus gfus fuz cfuz gfuz)) hP hD [12, 6, 7, 13, 14] [0, 1, 2, 3, 4, 5, 8, 9, 10, 11, 15, 16, 17] rfl rfl (by decide) (by decide) hk1 hFc hP1 hD1
  clear hPc hDc hKc hFc hz1 hk1 hP1 hK1 hD1
  rename Heap => H
  have hP : va_P (dC, dI) cls (wz_177 h0 pr kn lt h0_localCount pe h0_pendingCount h0_gives h0_depth h0_loopDepth to bo cs se pr gl fu pa pf sf pk pg pp pz pv pr_reason pr_place pr_scanner_r pr_stepCount pr_open pr_twoSides pr_waiting_r pr_waitingPlaces_r pr_waitingCount pe cpe gpe bo bob bo_length bob cbob gbob kn tr kns knz knt knv kn_length pf cpf gpf pp cpp gpp pz cpz gpz pv cpv gpv fut cfut gfut pa tr pas paz pat pav pa_length pat cpat gpat fu tr fus fuz fut fuv fu_length tr tx tr_length tx ctx gtx fus cfus gfus fuz cfuz gfuz) H := hP
  have hD : va_D A (wz_177 h0 pr kn lt h0_localCount pe h0_pendingCount h0_gives h0_depth h0_loopDepth to bo cs se pr gl fu pa pf sf pk pg pp pz pv pr_reason pr_place pr_scanner_r pr_stepCount pr_open pr_twoSides pr_waiting_r pr_waitingPlaces_r pr_waitingCount pe cpe gpe bo bob bo_length bob cbob gbob kn tr kns knz knt knv kn_length pf cpf gpf pp cpp gpp pz cpz gpz pv cpv gpv fut cfut gfut pa tr pas paz pat pav pa_length pat cpat gpat fu tr fus fuz fut fuv fu_length tr tx tr_length tx ctx gtx fus cfus gfus fuz cfuz gfuz) := hD
  refine lv_istore_n (lv' := [(3, .int r5), (2, .int x2), (0, .ref h0), (1, .int p0)]) hx hb d_CO_codeCall_39 rfl hl (by decide) rfl (fun ls hl => ?_)
  refine lv_iload_n hx hb d_CO_codeCall_40 rfl (lv_at hl 0 rfl) ?_
  refine lv_if_ge (tgt := 62) hx hb d_CO_codeCall_41 (by decide) (fun c41 => ?_) (fun c41 => ?_)
  · have q41 := leI c41
    have f62 := i32_clamp (x := r5) (by (first | (apply Int.le_antisymm <;> omega) | omega))
    have k62 := hpf.out r5.toNatClampNeg (by (first | (apply Int.le_antisymm <;> omega) | omega))
    refine lv_aload_n hx hb d_CO_codeCall_62 rfl (lv_at hl 2 rfl) ?_
    refine va_get (D := (dC, dI)) (ci := 2) (v := .ref pr) (C := R_CO) (T := F_CO) (N := 13) hx hb hts i_CO hown hK hP 0 rfl rfl 0 (by decide) (hts _ kF_CO_36) (fun _ h9 => h9) rfl d_CO_codeCall_63 ?_
    refine va_get (D := (dC, dI)) (ci := 6) (v := .ref pf) (C := R_PR) (T := F_PR) (N := 19) hx hb hts i_PR hown hK hP 1 rfl rfl 3 (by decide) (hts _ kF_CO_127) (fun _ h9 => h9) rfl d_CO_codeCall_66 ?_
    refine lv_iload_n hx hb d_CO_codeCall_69 rfl (lv_at hl 0 rfl) ?_
    have g70 : vp_in r5 21 := vp_in_iff.mpr ⟨by (first | (apply Int.le_antisymm <;> omega) | omega), by (first | (apply Int.le_antisymm <;> omega) | omega)⟩
    refine va_iald hx hb hK hP 6 3 rfl rfl g70 d_CO_codeCall_70 ?_
    refine lv_topi (fun x6 ex6 => ?_)
    have tx6 := k62
    rw [← ex6] at tx6
    refine lv_istore (lv' := [(4, .int x6), (3, .int r5), (2, .int x2), (0, .ref h0), (1, .int p0)]) hx hb d_CO_codeCall_71 hl (by decide) rfl (fun ls hl => ?_)
    refine lv_aload_n hx hb d_CO_codeCall_73 rfl (lv_at hl 3 rfl) ?_
    refine va_get (D := (dC, dI)) (ci := 2) (v := .ref pr) (C := R_CO) (T := F_CO) (N := 13) hx hb hts i_CO hown hK hP 0 rfl rfl 0 (by decide) (hts _ kF_CO_36) (fun _ h9 => h9) rfl d_CO_codeCall_74 ?_
    refine va_get (D := (dC, dI)) (ci := 6) (v := .ref pf) (C := R_PR) (T := F_PR) (N := 19) hx hb hts i_PR hown hK hP 1 rfl rfl 3 (by decide) (hts _ kF_CO_127) (fun _ h9 => h9) rfl d_CO_codeCall_77 ?_
    refine lv_iload_n hx hb d_CO_codeCall_80 rfl (lv_at hl 1 rfl) ?_
    refine lv_iconst (v := 1) hx hb d_CO_codeCall_81 (by decide) ?_
    refine lv_iadd hx hb d_CO_codeCall_82 ?_
    refine lv_topi (fun x7 ex7 => ?_)
    have tx7 : x7.toInt = r5.toInt + 1 := by have z := i32_add ex7 (by (first | (apply Int.le_antisymm <;> omega) | omega)) (by (first | (apply Int.le_antisymm <;> omega) | omega)); first | exact z | (first | (apply Int.le_antisymm <;> omega) | omega)
    have g83 : vp_in x7 21 := vp_in_iff.mpr ⟨by (first | (apply Int.le_antisymm <;> omega) | omega), by (first | (apply Int.le_antisymm <;> omega) | omega)⟩
    refine va_iald hx hb hK hP 6 3 rfl rfl g83 d_CO_codeCall_83 ?_
    refine lv_topi (fun x8 ex8 => ?_)
    have gx8 : r5.toNatClampNeg + 1 = x7.toNatClampNeg := by have := i32_clamp (x := x7) (by (first | (apply Int.le_antisymm <;> omega) | omega)); (first | (apply Int.le_antisymm <;> omega) | omega)
    have tx8 := k62
    rw [gx8, ← ex8] at tx8
    refine lv_iload hx hb d_CO_codeCall_84 (lv_at hl 0 rfl) ?_
    refine lv_isub hx hb d_CO_codeCall_86 ?_
    refine lv_topi (fun x9 ex9 => ?_)
    have tx9 : x9.toInt = x8.toInt - x6.toInt := by have z := i32_sub ex9 (by (first | (apply Int.le_antisymm <;> omega) | omega)) (by (first | (apply Int.le_antisymm <;> omega) | omega)); first | exact z | (first | (apply Int.le_antisymm <;> omega) | omega)
    refine lv_iload_n hx hb d_CO_codeCall_87 rfl (lv_at hl 2 rfl) ?_
    refine w_cut (pc2 := 96) (σ := Int32) (fun u H locs ls => match u with | j96_s0 => (j96_s0 = 0 ∨ j96_s0 = 1) ∧ (bx (j96_s0 = 1 → x6.toInt + x2.toInt = x8.toInt)) ∧ va_P (dC, dI) cls (wz_177 h0 pr kn lt h0_localCount pe h0_pendingCount h0_gives h0_depth h0_loopDepth to bo cs se pr gl fu pa pf sf pk pg pp pz pv pr_reason pr_place pr_scanner_r pr_stepCount pr_open pr_twoSides pr_waiting_r pr_waitingPlaces_r pr_waitingCount pe cpe gpe bo bob bo_length bob cbob gbob kn tr kns knz knt knv kn_length pf cpf gpf pp cpp gpp pz cpz gpz pv cpv gpv fut cfut gfut pa tr pas paz pat pav pa_length pat cpat gpat fu tr fus fuz fut fuv fu_length tr tx tr_length tx ctx gtx fus cfus gfus fuz cfuz gfuz) H ∧ va_D A (wz_177 h0 pr kn lt h0_localCount pe h0_pendingCount h0_gives h0_depth h0_loopDepth to bo cs se pr gl fu pa pf sf pk pg pp pz pv pr_reason pr_place pr_scanner_r pr_stepCount pr_open pr_twoSides pr_waiting_r pr_waitingPlaces_r pr_waitingCount pe cpe gpe bo bob bo_length bob cbob gbob kn tr kns knz knt knv kn_length pf cpf gpf pp cpp gpp pz cpz gpz pv cpv gpv fut cfut gfut pa tr pas paz pat pav pa_length pat cpat gpat fu tr fus fuz fut fuv fu_length tr tx tr_length tx ctx gtx fus cfus gfus fuz cfuz gfuz) ∧ va_S A s.heap H locs ∧ lv_has ls 8 [(0, .ref h0), (1, .int p0), (2, .int x2), (3, .int r5), (4, .int x6)]) (fun u => match u with | j96_s0 => [.int j96_s0]) ?_ (fun jn96 => ?_)
    · intro u H locs ls hI
      obtain ⟨j96_s0, rfl⟩ : ∃ z, z = u := ⟨_, rfl⟩
      obtain ⟨b_j96_s0, y96, hP, hD, hS, hl⟩ := hI
      have tj96_s0 := b01 b_j96_s0
      refine lv_istore (lv' := [(5, .int j96_s0), (0, .ref h0), (1, .int p0), (2, .int x2), (3, .int r5), (4, .int x6)]) hx hb d_CO_codeCall_96 hl (by decide) rfl (fun ls hl => ?_)
      refine lv_iload_n hx hb d_CO_codeCall_98 rfl (lv_at hl 3 rfl) ?_
      refine lv_iconst (v := 1) hx hb d_CO_codeCall_99 (by decide) ?_
      refine lv_isub hx hb d_CO_codeCall_100 ?_
      refine lv_topi (fun x10 ex10 => ?_)
      have tx10 : x10.toInt = x2.toInt - 1 := by have z := i32_sub ex10 (by (first | (apply Int.le_antisymm <;> omega) | omega)) (by (first | (apply Int.le_antisymm <;> omega) | omega)); first | exact z | (first | (apply Int.le_antisymm <;> omega) | omega)
      refine lv_istore (lv' := [(6, .int x10), (5, .int j96_s0), (0, .ref h0), (1, .int p0), (2, .int x2), (3, .int r5), (4, .int x6)]) hx hb d_CO_codeCall_101 hl (by decide) rfl (fun ls hl => ?_)
      refine w_loop (σ := Int32 × Int32 × Int32) (fun u H locs ls => match u with | (j103_l5, j103_l6, j103_h0_pendingCount) => (j103_l5 = 0 ∨ j103_l5 = 1) ∧ (0 ≤ j103_h0_pendingCount.toInt ∧ j103_h0_pendingCount.toInt ≤ 680) ∧ (-1 ≤ j103_l6.toInt ∧ j103_l6.toInt < x2.toInt ∧ j103_h0_pendingCount.toInt = h0_pendingCount.toInt - x2.toInt + 1 + j103_l6.toInt) ∧ (bx (j103_l5 = 1 → x6.toInt + x2.toInt = x8.toInt ∧ ∀ j : Nat, j103_h0_pendingCount.toInt ≤ (j : Int) → (j : Int) < h0_pendingCount.toInt → (gpe j).toInt ≠ 64)) ∧ va_P (dC, dI) cls (wz_177 h0 pr kn lt h0_localCount pe j103_h0_pendingCount h0_gives h0_depth h0_loopDepth to bo cs se pr gl fu pa pf sf pk pg pp pz pv pr_reason pr_place pr_scanner_r pr_stepCount pr_open pr_twoSides pr_waiting_r pr_waitingPlaces_r pr_waitingCount pe cpe gpe bo bob bo_length bob cbob gbob kn tr kns knz knt knv kn_length pf cpf gpf pp cpp gpp pz cpz gpz pv cpv gpv fut cfut gfut pa tr pas paz pat pav pa_length pat cpat gpat fu tr fus fuz fut fuv fu_length tr tx tr_length tx ctx gtx fus cfus gfus fuz cfuz gfuz) H ∧ va_D A (wz_177 h0 pr kn lt h0_localCount pe j103_h0_pendingCount h0_gives h0_depth h0_loopDepth to bo cs se pr gl fu pa pf sf pk pg pp pz pv pr_reason pr_place pr_scanner_r pr_stepCount pr_open pr_twoSides pr_waiting_r pr_waitingPlaces_r pr_waitingCount pe cpe gpe bo bob bo_length bob cbob gbob kn tr kns knz knt knv kn_length pf cpf gpf pp cpp gpp pz cpz gpz pv cpv gpv fut cfut gfut pa tr pas paz pat pav pa_length pat cpat gpat fu tr fus fuz fut fuv fu_length tr tx tr_length tx ctx gtx fus cfus gfus fuz cfuz gfuz) ∧ va_S A s.heap H locs ∧ lv_has ls 8 [(0, .ref h0), (1, .int p0), (3, .int r5), (4, .int x6), (5, .int j103_l5), (6, .int j103_l6)]) (fun u => match u with | (j103_l5, j103_l6, j103_h0_pendingCount) => (j103_l6.toInt + 1).toNat) ?_ (j96_s0, x10, h0_pendingCount) ⟨b_j96_s0, b_h0_pendingCount, by (try dsimp only) <;> (first | (apply Int.le_antisymm <;> omega) | omega), fun z => ⟨y96.out z, fun j j1 j2 => absurd j2 (by (first | (apply Int.le_antisymm <;> omega) | omega))⟩, hP, hD, hS, lv_sub hl [2, 3, 5, 6, 1, 0] rfl⟩
      intro N103 ih103 u H locs ls hN103 hI
      obtain ⟨j103_l5, j103_l6, j103_h0_pendingCount⟩ := u
      obtain ⟨b_j103_l5, b_j103_h0_pendingCount, v1, hft, hP, hD, hS, hl⟩ := hI
      have tj103_l5 := b01 b_j103_l5
      have hN103 : (j103_l6.toInt + 1).toNat < N103 + 1 := hN103
      refine lv_iload hx hb d_CO_codeCall_103 (lv_at hl 5 rfl) ?_
      refine lv_if_lt (tgt := 153) hx hb d_CO_codeCall_105 (by decide) (fun c105 => ?_) (fun c105 => ?_)
      · have q105 := ltI c105
        refine lv_iload hx hb d_CO_codeCall_153 (lv_at hl 4 rfl) ?_
        refine lv_if_ne (tgt := 175) hx hb d_CO_codeCall_155 (by decide) (fun c155 => ?_) (fun c155 => ?_)
        · have q155 := neI c155
          have k175 := hft.out (by rcases b_j103_l5 with z | z; (exfalso; rw [z] at c155; exact c155 rfl); exact z)
          refine lv_aload_n hx hb d_CO_codeCall_175 rfl (lv_at hl 0 rfl) ?_
          refine va_get (D := (dC, dI)) (ci := 2) (v := .ref bo) (C := R_CO) (T := F_CO) (N := 13) hx hb hts i_CO hown hK hP 0 rfl rfl 10 (by decide) (hts _ kF_CO_26) (fun _ h9 => h9) rfl d_CO_codeCall_176 ?_
          refine lv_bipush (v := 16) hx hb d_CO_codeCall_179 (by decide) ?_
          have hPc := hP.sb (wq := (wz_94 bo bob bo_length bob cbob gbob)) [3, 4] rfl
          have hDc := hD.sb (wq := (wz_94 bo bob bo_length bob cbob gbob)) [3, 4] (by decide) rfl
          have hKc := hK.sb (tyq := [(cbob, .byte)]) [1] rfl
          have hFc := va_free (wc := (wz_94 bo bob bo_length bob cbob gbob)) hD hS hA [3, 4] rfl
          refine va_callv (va_runV (As := [.int 16]) (rest := []) ⟨hx, hb, hml, hown, hts⟩ (c_BR_put l dC dI bo bob H.size cbob 8192 bo_length gbob (by (first | (apply Int.le_antisymm <;> omega) | omega)) (by (first | (apply Int.le_antisymm <;> omega) | omega)) (by (first | (apply Int.le_antisymm <;> omega) | omega)) 16) (cwV 1 hts (gV kM_CO_76 kV_BR_put kS_BR_put kI_BR kC_BR_put) rfl rfl rfl (by decide +kernel) ⟨Nat.le_of_ble_eq_true rfl, Nat.le_of_ble_eq_true rfl⟩) ⟨fun a U g mk z => by obtain ⟨z0, z1, zP, zK, zD⟩ := z; exact ⟨z0, z1, zP, va_K.moved (u := U) (U := U.calling g mk a) (Vm.Alike.refl U.vm) zK, zD⟩, va_recv hKc hPc (ci := 1) (q0 := 0) rfl rfl, fun U hU hW => ⟨rfl, by rw [hU], va_P.he hU.symm hPc, va_K.moved hW.alike hKc, hDc.weaken (fun _ _ _ _ => trivial)⟩⟩ rfl rfl hl.1 rfl (lv_room (Nat.le_of_ble_eq_true rfl)) d_CO_codeCall_181 ⟨(Nat.zero_le _), (Nat.zero_le _)⟩) hS (fun q _ h => hFc q h) hFc (fun u t H1 locs ht hvm hw hB hz1 hk1 hS => ?_)
          obtain ⟨n12, f13⟩ := u
          try dsimp only at hw
          have tn12 := br_put_in (by (first | (apply Int.le_antisymm <;> omega) | omega)) (by (first | (apply Int.le_antisymm <;> omega) | omega)) (by (first | (apply Int.le_antisymm <;> omega) | omega)) hw
          have bn12 := br_put_bl (by (first | (apply Int.le_antisymm <;> omega) | omega)) (by (first | (apply Int.le_antisymm <;> omega) | omega)) (by (first | (apply Int.le_antisymm <;> omega) | omega)) hw
          obtain ⟨hP1, hK1, hD1⟩ := hB
          replace hP1 := va_P.he ht hP1
          obtain ⟨hP, hD⟩ := va_join (wr := [(h0, .inr (2, [.ref pr, .ref kn, .ref lt, .int h0_localCount, .ref pe, .int j103_h0_pendingCount, .int h0_gives, .int h0_depth, .int h0_loopDepth, .ref to, .ref bo, .ref cs, .ref se])), (pr, .inr (6, [.ref gl, .ref fu, .ref pa, .ref pf, .ref sf, .ref pk, .ref pg, .ref pp, .ref pz, .ref pv, .int pr_reason, .int pr_place, .ref pr_scanner_r, .int pr_stepCount, .int pr_open, .int pr_twoSides, .ref pr_waiting_r, .ref pr_waitingPlaces_r, .int pr_waitingCount])), (pe, .inl (cpe, 680, .inl gpe)), (kn, .inr (5, [.ref tr, .ref kns, .ref knz, .ref knt, .ref knv, .int kn_length])), (pf, .inl (cpf, 21, .inl gpf)), (pp, .inl (cpp, 4100, .inl gpp)), (pz, .inl (cpz, 4100, .inl gpz)), (pv, .inl (cpv, 4100, .inr (.inl gpv))), (fut, .inl (cfut, 20, .inl gfut)), (pa, .inr (5, [.ref tr, .ref pas, .ref paz, .ref pat, .ref pav, .int pa_length])), (pat, .inl (cpat, 160, .inl gpat)), (fu, .inr (5, [.ref tr, .ref fus, .ref fuz, .ref fut, .ref fuv, .int fu_length])), (tr, .inr (1, [.ref tx, .int tr_length])), (tx, .inl (ctx, 2000, .inl gtx)), (fus, .inl (cfus, 20, .inl gfus)), (fuz, .inl (cfuz, 20, .inl gfuz))]) (w1 := (wz_94 bo bob n12 bob cbob f13)) hP hD [3, 4] [0, 1, 2, 5, 6, 7, 8, 9, 10, 11, 12, 13, 14, 15, 16, 17] rfl rfl (by decide) (by decide) hk1 hFc hP1 hD1
          clear hPc hDc hKc hFc hz1 hk1 hP1 hK1 hD1
          rename Heap => H
          have hP : va_P (dC, dI) cls (wz_178 h0 pr kn lt h0_localCount pe j103_h0_pendingCount h0_gives h0_depth h0_loopDepth to bo cs se pr gl fu pa pf sf pk pg pp pz pv pr_reason pr_place pr_scanner_r pr_stepCount pr_open pr_twoSides pr_waiting_r pr_waitingPlaces_r pr_waitingCount pe cpe gpe kn tr kns knz knt knv kn_length pf cpf gpf pp cpp gpp pz cpz gpz pv cpv gpv fut cfut gfut pa tr pas paz pat pav pa_length pat cpat gpat fu tr fus fuz fut fuv fu_length tr tx tr_length tx ctx gtx fus cfus gfus fuz cfuz gfuz bo bob n12 bob cbob f13) H := hP
          have hD : va_D A (wz_178 h0 pr kn lt h0_localCount pe j103_h0_pendingCount h0_gives h0_depth h0_loopDepth to bo cs se pr gl fu pa pf sf pk pg pp pz pv pr_reason pr_place pr_scanner_r pr_stepCount pr_open pr_twoSides pr_waiting_r pr_waitingPlaces_r pr_waitingCount pe cpe gpe kn tr kns knz knt knv kn_length pf cpf gpf pp cpp gpp pz cpz gpz pv cpv gpv fut cfut gfut pa tr pas paz pat pav pa_length pat cpat gpat fu tr fus fuz fut fuv fu_length tr tx tr_length tx ctx gtx fus cfus gfus fuz cfuz gfuz bo bob n12 bob cbob f13) := hD
          refine lv_aload_n hx hb d_CO_codeCall_184 rfl (lv_at hl 0 rfl) ?_
          refine va_get (D := (dC, dI)) (ci := 2) (v := .ref bo) (C := R_CO) (T := F_CO) (N := 13) hx hb hts i_CO hown hK hP 0 rfl rfl 10 (by decide) (hts _ kF_CO_26) (fun _ h9 => h9) rfl d_CO_codeCall_185 ?_
          refine lv_iload_n hx hb d_CO_codeCall_188 rfl (lv_at hl 2 rfl) ?_
          have hPc := hP.sb (wq := (wz_94 bo bob n12 bob cbob f13)) [16, 17] rfl
          have hDc := hD.sb (wq := (wz_94 bo bob n12 bob cbob f13)) [16, 17] (by decide) rfl
          have hKc := hK.sb (tyq := [(cbob, .byte)]) [1] rfl
          have hFc := va_free (wc := (wz_94 bo bob n12 bob cbob f13)) hD hS hA [16, 17] rfl
          refine va_callv (va_runV (As := [.int r5]) (rest := []) ⟨hx, hb, hml, hown, hts⟩ (c_BR_putUnsigned l dC dI bo bob H.size cbob 8192 n12 f13 (by (first | (apply Int.le_antisymm <;> omega) | omega)) (by (first | (apply Int.le_antisymm <;> omega) | omega)) (by (first | (apply Int.le_antisymm <;> omega) | omega)) r5 (by (first | (apply Int.le_antisymm <;> omega) | omega))) (cwV 1 hts (gV kM_CO_218 kV_BR_putUnsigned kS_BR_putUnsigned kI_BR kC_BR_putUnsigned) rfl rfl rfl (by decide +kernel) ⟨Nat.le_of_ble_eq_true rfl, Nat.le_of_ble_eq_true rfl⟩) ⟨fun a U g mk z => by obtain ⟨z0, z1, zP, zK, zD⟩ := z; exact ⟨z0, z1, zP, va_K.moved (u := U) (U := U.calling g mk a) (Vm.Alike.refl U.vm) zK, zD⟩, va_recv hKc hPc (ci := 1) (q0 := 0) rfl rfl, fun U hU hW => ⟨rfl, by rw [hU], va_P.he hU.symm hPc, va_K.moved hW.alike hKc, hDc.weaken (fun _ _ _ _ => trivial)⟩⟩ rfl rfl hl.1 rfl (lv_room (Nat.le_of_ble_eq_true rfl)) d_CO_codeCall_189 ⟨(Nat.zero_le _), (Nat.zero_le _)⟩) hS (fun q _ h => hFc q h) hFc (fun u t H1 locs ht hvm hw hB hz1 hk1 hS => ?_)
          obtain ⟨n15, f16⟩ := u
          try dsimp only at hw
          obtain ⟨tn15, bn15⟩ := hw
          have ln15 := leb_len 5 (un r5)
          obtain ⟨hP1, hK1, hD1⟩ := hB
          replace hP1 := va_P.he ht hP1
          obtain ⟨hP, hD⟩ := va_join (wr := [(h0, .inr (2, [.ref pr, .ref kn, .ref lt, .int h0_localCount, .ref pe, .int j103_h0_pendingCount, .int h0_gives, .int h0_depth, .int h0_loopDepth, .ref to, .ref bo, .ref cs, .ref se])), (pr, .inr (6, [.ref gl, .ref fu, .ref pa, .ref pf, .ref sf, .ref pk, .ref pg, .ref pp, .ref pz, .ref pv, .int pr_reason, .int pr_place, .ref pr_scanner_r, .int pr_stepCount, .int pr_open, .int pr_twoSides, .ref pr_waiting_r, .ref pr_waitingPlaces_r, .int pr_waitingCount])), (pe, .inl (cpe, 680, .inl gpe)), (kn, .inr (5, [.ref tr, .ref kns, .ref knz, .ref knt, .ref knv, .int kn_length])), (pf, .inl (cpf, 21, .inl gpf)), (pp, .inl (cpp, 4100, .inl gpp)), (pz, .inl (cpz, 4100, .inl gpz)), (pv, .inl (cpv, 4100, .inr (.inl gpv))), (fut, .inl (cfut, 20, .inl gfut)), (pa, .inr (5, [.ref tr, .ref pas, .ref paz, .ref pat, .ref pav, .int pa_length])), (pat, .inl (cpat, 160, .inl gpat)), (fu, .inr (5, [.ref tr, .ref fus, .ref fuz, .ref fut, .ref fuv, .int fu_length])), (tr, .inr (1, [.ref tx, .int tr_length])), (tx, .inl (ctx, 2000, .inl gtx)), (fus, .inl (cfus, 20, .inl gfus)), (fuz, .inl (cfuz, 20, .inl gfuz))]) (w1 := (wz_94 bo bob n15 bob cbob f16)) hP hD [16, 17] [0, 1, 2, 3, 4, 5, 6, 7, 8, 9, 10, 11, 12, 13, 14, 15] rfl rfl (by decide) (by decide) hk1 hFc hP1 hD1
          clear hPc hDc hKc hFc hz1 hk1 hP1 hK1 hD1
          rename Heap => H
          have hP : va_P (dC, dI) cls (wz_178 h0 pr kn lt h0_localCount pe j103_h0_pendingCount h0_gives h0_depth h0_loopDepth to bo cs se pr gl fu pa pf sf pk pg pp pz pv pr_reason pr_place pr_scanner_r pr_stepCount pr_open pr_twoSides pr_waiting_r pr_waitingPlaces_r pr_waitingCount pe cpe gpe kn tr kns knz knt knv kn_length pf cpf gpf pp cpp gpp pz cpz gpz pv cpv gpv fut cfut gfut pa tr pas paz pat pav pa_length pat cpat gpat fu tr fus fuz fut fuv fu_length tr tx tr_length tx ctx gtx fus cfus gfus fuz cfuz gfuz bo bob n15 bob cbob f16) H := hP
          have hD : va_D A (wz_178 h0 pr kn lt h0_localCount pe j103_h0_pendingCount h0_gives h0_depth h0_loopDepth to bo cs se pr gl fu pa pf sf pk pg pp pz pv pr_reason pr_place pr_scanner_r pr_stepCount pr_open pr_twoSides pr_waiting_r pr_waitingPlaces_r pr_waitingCount pe cpe gpe kn tr kns knz knt knv kn_length pf cpf gpf pp cpp gpp pz cpz gpz pv cpv gpv fut cfut gfut pa tr pas paz pat pav pa_length pat cpat gpat fu tr fus fuz fut fuv fu_length tr tx tr_length tx ctx gtx fus cfus gfus fuz cfuz gfuz bo bob n15 bob cbob f16) := hD
          refine lv_aload_n hx hb d_CO_codeCall_192 rfl (lv_at hl 0 rfl) ?_
          refine lv_aload_n hx hb d_CO_codeCall_193 rfl (lv_at hl 0 rfl) ?_
          refine va_get (D := (dC, dI)) (ci := 2) (v := .ref pr) (C := R_CO) (T := F_CO) (N := 13) hx hb hts i_CO hown hK hP 0 rfl rfl 0 (by decide) (hts _ kF_CO_36) (fun _ h9 => h9) rfl d_CO_codeCall_194 ?_
          refine va_get (D := (dC, dI)) (ci := 6) (v := .ref fu) (C := R_PR) (T := F_PR) (N := 19) hx hb hts i_PR hown hK hP 1 rfl rfl 1 (by decide) (hts _ kF_CO_61) (fun _ h9 => h9) rfl d_CO_codeCall_197 ?_
          refine va_get (D := (dC, dI)) (ci := 5) (v := .ref fut) (C := R_NA) (T := F_NA) (N := 6) hx hb hts i_NA hown hK hP 11 rfl rfl 3 (by decide) (hts _ kF_CO_121) (fun _ h9 => h9) rfl d_CO_codeCall_200 ?_
          refine lv_iload_n hx hb d_CO_codeCall_203 rfl (lv_at hl 2 rfl) ?_
          have g204 : vp_in r5 20 := vp_in_iff.mpr ⟨by (first | (apply Int.le_antisymm <;> omega) | omega), by (first | (apply Int.le_antisymm <;> omega) | omega)⟩
          refine va_iald hx hb hK hP 8 9 rfl rfl g204 d_CO_codeCall_204 ?_
          refine lv_topi (fun x17 ex17 => ?_)
          have hPc := hP.sb (wq := (wz_149 h0 pr kn lt h0_localCount pe j103_h0_pendingCount h0_gives h0_depth h0_loopDepth to bo cs se pe cpe gpe)) [0, 2] rfl
          have hDc := hD.sb (wq := (wz_149 h0 pr kn lt h0_localCount pe j103_h0_pendingCount h0_gives h0_depth h0_loopDepth to bo cs se pe cpe gpe)) [0, 2] (by decide) rfl
          have hKc := hK.sb (tyq := [(cpe, .int)]) [0] rfl
          have hFc := va_free (wc := (wz_149 h0 pr kn lt h0_localCount pe j103_h0_pendingCount h0_gives h0_depth h0_loopDepth to bo cs se pe cpe gpe)) hD hS hA [0, 2] rfl
          refine va_callv (va_runV (As := [.int x17]) (rest := []) ⟨hx, hb, hml, hown, hts⟩ (c_CO_push l dC dI H.size h0 pr kn lt pe to bo cs se cpe h0_localCount j103_h0_pendingCount h0_gives h0_depth h0_loopDepth gpe (b_j103_h0_pendingCount) x17 (by (try dsimp only) <;> (first | (apply Int.le_antisymm <;> omega) | omega))) (cwV 1 hts (gV kM_CO_183 kV_CO_push kS_CO_push kI_CO kC_CO_push) rfl rfl rfl (by decide +kernel) ⟨Nat.le_of_ble_eq_true rfl, Nat.le_of_ble_eq_true rfl⟩) ⟨fun a U g mk z => by obtain ⟨z0, z1, zP, zK, zD⟩ := z; exact ⟨z0, z1, zP, va_K.moved (u := U) (U := U.calling g mk a) (Vm.Alike.refl U.vm) zK, zD⟩, va_recv hKc hPc (ci := 2) (q0 := 0) rfl rfl, fun U hU hW => ⟨rfl, by rw [hU], va_P.he hU.symm hPc, va_K.moved hW.alike hKc, hDc.weaken (fun _ _ _ _ => trivial)⟩⟩ rfl rfl hl.1 rfl (lv_room (Nat.le_of_ble_eq_true rfl)) d_CO_codeCall_205 ⟨(Nat.zero_le _), (Nat.zero_le _)⟩) hS (fun q _ h => hFc q h) hFc (fun u t H1 locs ht hvm hw hB hz1 hk1 hS => ?_)
          obtain ⟨n19, n20⟩ := u
          try dsimp only at hw
          obtain ⟨bn20, xr18⟩ := hw
          try clear hw
          obtain ⟨hP1, hK1, hD1⟩ := hB
          replace hP1 := va_P.he ht hP1
          obtain ⟨hP, hD⟩ := va_join (wr := [(pr, .inr (6, [.ref gl, .ref fu, .ref pa, .ref pf, .ref sf, .ref pk, .ref pg, .ref pp, .ref pz, .ref pv, .int pr_reason, .int pr_place, .ref pr_scanner_r, .int pr_stepCount, .int pr_open, .int pr_twoSides, .ref pr_waiting_r, .ref pr_waitingPlaces_r, .int pr_waitingCount])), (kn, .inr (5, [.ref tr, .ref kns, .ref knz, .ref knt, .ref knv, .int kn_length])), (pf, .inl (cpf, 21, .inl gpf)), (pp, .inl (cpp, 4100, .inl gpp)), (pz, .inl (cpz, 4100, .inl gpz)), (pv, .inl (cpv, 4100, .inr (.inl gpv))), (fut, .inl (cfut, 20, .inl gfut)), (pa, .inr (5, [.ref tr, .ref pas, .ref paz, .ref pat, .ref pav, .int pa_length])), (pat, .inl (cpat, 160, .inl gpat)), (fu, .inr (5, [.ref tr, .ref fus, .ref fuz, .ref fut, .ref fuv, .int fu_length])), (tr, .inr (1, [.ref tx, .int tr_length])), (tx, .inl (ctx, 2000, .inl gtx)), (fus, .inl (cfus, 20, .inl gfus)), (fuz, .inl (cfuz, 20, .inl gfuz)), (bo, .inr (1, [.ref bob, .int n15])), (bob, .inl (cbob, 8192, .inl f16))]) (w1 := (wz_149 h0 pr kn lt h0_localCount pe n20 h0_gives h0_depth h0_loopDepth to bo cs se pe cpe n19)) hP hD [0, 2] [1, 3, 4, 5, 6, 7, 8, 9, 10, 11, 12, 13, 14, 15, 16, 17] rfl rfl (by decide) (by decide) hk1 hFc hP1 hD1
          clear hPc hDc hKc hFc hz1 hk1 hP1 hK1 hD1
          rename Heap => H
          have hP : va_P (dC, dI) cls [(pr, .inr (6, [.ref gl, .ref fu, .ref pa, .ref pf, .ref sf, .ref pk, .ref pg, .ref pp, .ref pz, .ref pv, .int pr_reason, .int pr_place, .ref pr_scanner_r, .int pr_stepCount, .int pr_open, .int pr_twoSides, .ref pr_waiting_r, .ref pr_waitingPlaces_r, .int pr_waitingCount])), (kn, .inr (5, [.ref tr, .ref kns, .ref knz, .ref knt, .ref knv, .int kn_length])), (pf, .inl (cpf, 21, .inl gpf)), (pp, .inl (cpp, 4100, .inl gpp)), (pz, .inl (cpz, 4100, .inl gpz)), (pv, .inl (cpv, 4100, .inr (.inl gpv))), (fut, .inl (cfut, 20, .inl gfut)), (pa, .inr (5, [.ref tr, .ref pas, .ref paz, .ref pat, .ref pav, .int pa_length])), (pat, .inl (cpat, 160, .inl gpat)), (fu, .inr (5, [.ref tr, .ref fus, .ref fuz, .ref fut, .ref fuv, .int fu_length])), (tr, .inr (1, [.ref tx, .int tr_length])), (tx, .inl (ctx, 2000, .inl gtx)), (fus, .inl (cfus, 20, .inl gfus)), (fuz, .inl (cfuz, 20, .inl gfuz)), (bo, .inr (1, [.ref bob, .int n15])), (bob, .inl (cbob, 8192, .inl f16)), (h0, .inr (2, [.ref pr, .ref kn, .ref lt, .int h0_localCount, .ref pe, .int n20, .int h0_gives, .int h0_depth, .int h0_loopDepth, .ref to, .ref bo, .ref cs, .ref se])), (pe, .inl (cpe, 680, .inl n19))] H := hP
          have hD : va_D A [(pr, .inr (6, [.ref gl, .ref fu, .ref pa, .ref pf, .ref sf, .ref pk, .ref pg, .ref pp, .ref pz, .ref pv, .int pr_reason, .int pr_place, .ref pr_scanner_r, .int pr_stepCount, .int pr_open, .int pr_twoSides, .ref pr_waiting_r, .ref pr_waitingPlaces_r, .int pr_waitingCount])), (kn, .inr (5, [.ref tr, .ref kns, .ref knz, .ref knt, .ref knv, .int kn_length])), (pf, .inl (cpf, 21, .inl gpf)), (pp, .inl (cpp, 4100, .inl gpp)), (pz, .inl (cpz, 4100, .inl gpz)), (pv, .inl (cpv, 4100, .inr (.inl gpv))), (fut, .inl (cfut, 20, .inl gfut)), (pa, .inr (5, [.ref tr, .ref pas, .ref paz, .ref pat, .ref pav, .int pa_length])), (pat, .inl (cpat, 160, .inl gpat)), (fu, .inr (5, [.ref tr, .ref fus, .ref fuz, .ref fut, .ref fuv, .int fu_length])), (tr, .inr (1, [.ref tx, .int tr_length])), (tx, .inl (ctx, 2000, .inl gtx)), (fus, .inl (cfus, 20, .inl gfus)), (fuz, .inl (cfuz, 20, .inl gfuz)), (bo, .inr (1, [.ref bob, .int n15])), (bob, .inl (cbob, 8192, .inl f16)), (h0, .inr (2, [.ref pr, .ref kn, .ref lt, .int h0_localCount, .ref pe, .int n20, .int h0_gives, .int h0_depth, .int h0_loopDepth, .ref to, .ref bo, .ref cs, .ref se])), (pe, .inl (cpe, 680, .inl n19))] := hD
          have hP9 := hP.sb (wq := (wz_176 h0 pr kn lt h0_localCount pe n20 h0_gives h0_depth h0_loopDepth to bo cs se pr gl fu pa pf sf pk pg pp pz pv pr_reason pr_place pr_scanner_r pr_stepCount pr_open pr_twoSides pr_waiting_r pr_waitingPlaces_r pr_waitingCount pe cpe n19 bo bob n15 bob cbob f16 kn tr kns knz knt knv kn_length tr tx tr_length tx ctx gtx pf cpf gpf pp cpp gpp pz cpz gpz pv cpv gpv fu tr fus fuz fut fuv fu_length fus cfus gfus fuz cfuz gfuz fut cfut gfut pa tr pas paz pat pav pa_length pat cpat gpat)) [16, 0, 17, 14, 15, 1, 10, 11, 2, 3, 4, 5, 9, 12, 13, 6, 7, 8] rfl
          have hD9 := hD.sb (wq := (wz_176 h0 pr kn lt h0_localCount pe n20 h0_gives h0_depth h0_loopDepth to bo cs se pr gl fu pa pf sf pk pg pp pz pv pr_reason pr_place pr_scanner_r pr_stepCount pr_open pr_twoSides pr_waiting_r pr_waitingPlaces_r pr_waitingCount pe cpe n19 bo bob n15 bob cbob f16 kn tr kns knz knt knv kn_length tr tx tr_length tx ctx gtx pf cpf gpf pp cpp gpp pz cpz gpz pv cpv gpv fu tr fus fuz fut fuv fu_length fus cfus gfus fuz cfuz gfuz fut cfut gfut pa tr pas paz pat pav pa_length pat cpat gpat)) [16, 0, 17, 14, 15, 1, 10, 11, 2, 3, 4, 5, 9, 12, 13, 6, 7, 8] (by decide) rfl
          exact tz_up (fun _ => rfl) (W.vret hx hb hr (fun t ht hW => ⟨⟨(f16, n19, n15, n20, pr_place, pr_reason), ⟨rfl, ⟨by (try dsimp only) <;> (first | (apply Int.le_antisymm <;> omega) | omega), bn20, ⟨by have := hv; rw [← ex1] at this ⊢; (try dsimp only) <;> (first | (apply Int.le_antisymm <;> omega) | omega), fun j j1 j2 => k175.2 j (by rw [← ex1] at j1; (first | (apply Int.le_antisymm <;> omega) | omega)) j2, r5.toNatClampNeg, by (first | (apply Int.le_antisymm <;> omega) | omega), by rw [gx8, ← ex8, ← ex6, ← ex1]; have := k175.1; (first | (apply Int.le_antisymm <;> omega) | omega), by rw [show (h0_pendingCount.toInt - (gpv p0.toNatClampNeg).toInt).toNat = j103_h0_pendingCount.toNatClampNeg from by rw [← ex1]; have := i32_clamp (x := j103_h0_pendingCount) (by (first | (apply Int.le_antisymm <;> omega) | omega)); (first | (apply Int.le_antisymm <;> omega) | omega), ← ex17]; exact xr18.2, by have := congrArg List.length (leb_s (x := r5) (by (first | (apply Int.le_antisymm <;> omega) | omega)) (by (first | (apply Int.le_antisymm <;> omega) | omega))); rw [List.length_singleton] at this; (try dsimp only) <;> (first | (apply Int.le_antisymm <;> omega) | omega), by (try dsimp only); rw [bn15, bn12 (by (first | (apply Int.le_antisymm <;> omega) | omega)), leb_s (by (first | (apply Int.le_antisymm <;> omega) | omega)) (by (first | (apply Int.le_antisymm <;> omega) | omega)), List.append_assoc, show r5.toInt.toNat = r5.toNatClampNeg from by (first | (apply Int.le_antisymm <;> omega) | omega)]; rfl⟩⟩⟩, va_P.he ht.symm hP9, va_K.moved hW.alike hK, hD9⟩, hS.F ht⟩) hS.2.2 d_CO_codeCall_208)
        · have q155 := eqI c155
          refine lv_aload_n hx hb d_CO_codeCall_158 rfl (lv_at hl 0 rfl) ?_
          refine va_get (D := (dC, dI)) (ci := 2) (v := .ref pr) (C := R_CO) (T := F_CO) (N := 13) hx hb hts i_CO hown hK hP 0 rfl rfl 0 (by decide) (hts _ kF_CO_36) (fun _ h9 => h9) rfl d_CO_codeCall_159 ?_
          refine lv_iconst (v := 3) hx hb d_CO_codeCall_162 (by decide) ?_
          refine lv_aload_n hx hb d_CO_codeCall_163 rfl (lv_at hl 0 rfl) ?_
          refine va_get (D := (dC, dI)) (ci := 2) (v := .ref pr) (C := R_CO) (T := F_CO) (N := 13) hx hb hts i_CO hown hK hP 0 rfl rfl 0 (by decide) (hts _ kF_CO_36) (fun _ h9 => h9) rfl d_CO_codeCall_164 ?_
          refine va_get (D := (dC, dI)) (ci := 6) (v := .ref pp) (C := R_PR) (T := F_PR) (N := 19) hx hb hts i_PR hown hK hP 1 rfl rfl 7 (by decide) (hts _ kF_CO_193) (fun _ h9 => h9) rfl d_CO_codeCall_167 ?_
          refine lv_iload_n hx hb d_CO_codeCall_170 rfl (lv_at hl 1 rfl) ?_
          have g171 : vp_in p0 4100 := vp_in_iff.mpr ⟨by (first | (apply Int.le_antisymm <;> omega) | omega), by (first | (apply Int.le_antisymm <;> omega) | omega)⟩
          refine va_iald hx hb hK hP 7 4 rfl rfl g171 d_CO_codeCall_171 ?_
          refine lv_topi (fun x21 ex21 => ?_)
          have hPc := hP.sb (wq := (wz_110 pr gl fu pa pf sf pk pg pp pz pv pr_reason pr_place pr_scanner_r pr_stepCount pr_open pr_twoSides pr_waiting_r pr_waitingPlaces_r pr_waitingCount)) [1] rfl
          have hDc := hD.sb (wq := (wz_110 pr gl fu pa pf sf pk pg pp pz pv pr_reason pr_place pr_scanner_r pr_stepCount pr_open pr_twoSides pr_waiting_r pr_waitingPlaces_r pr_waitingCount)) [1] (by decide) rfl
          have hKc := hK.sb (tyq := []) [] rfl
          have hFc := va_free (wc := (wz_110 pr gl fu pa pf sf pk pg pp pz pv pr_reason pr_place pr_scanner_r pr_stepCount pr_open pr_twoSides pr_waiting_r pr_waitingPlaces_r pr_waitingCount)) hD hS hA [1] rfl
          refine tq_callv (tz_runV (As := [.int 3, .int x21]) (rest := []) ⟨hx, hb, hml, hown, hts⟩ (c_PR_refuse l hlt dC dI H.size sa pr gl fu pa pf sf pk pg pp pz pv pr_scanner_r pr_waiting_r pr_waitingPlaces_r pr_reason pr_place pr_stepCount pr_open pr_twoSides pr_waitingCount 3 x21) (cwV 2 hts (gV kM_CO_105 kV_PR_refuse kS_PR_refuse kI_PR kC_PR_refuse) rfl rfl rfl (by decide +kernel) ⟨Nat.le_of_ble_eq_true rfl, Nat.le_of_ble_eq_true rfl⟩) ⟨fun a U g mk z => by obtain ⟨z0, z1, zP, zK, zD, zS⟩ := z; exact ⟨z0, z1, zP, va_K.moved (u := U) (U := U.calling g mk a) (Vm.Alike.refl U.vm) zK, zD, sw.same (u := U) (U := U.calling g mk a) rfl zS⟩, va_recv hKc hPc (ci := 6) (q0 := 0) rfl rfl, fun U hU hW => ⟨rfl, by rw [hU], va_P.he hU.symm hPc, va_K.moved hW.alike hKc, hDc.weaken (fun _ _ _ _ => trivial), hSW.call hS hFc hW hU⟩⟩ rfl rfl hl.1 rfl (lv_room (Nat.le_of_ble_eq_true rfl)) d_CO_codeCall_172 ⟨Nat.le_of_ble_eq_true rfl, Nat.le_of_ble_eq_true rfl⟩) hS (fun q _ h => hFc q h) hFc (fun u t H1 locs ht hvm hw hB hz1 hk1 hS => ?_) (fun xx u t H1 locs ht hvm hw hXX hB hz1 hk1 hS => ?_)
          rotate_left
          · skip
            obtain ⟨n23, n24⟩ := u
            try dsimp only at hw
            obtain ⟨hP1, hK1, hD1⟩ := hB
            replace hP1 := va_P.he ht hP1
            obtain ⟨hP, hD⟩ := va_join (wr := [(h0, .inr (2, [.ref pr, .ref kn, .ref lt, .int h0_localCount, .ref pe, .int j103_h0_pendingCount, .int h0_gives, .int h0_depth, .int h0_loopDepth, .ref to, .ref bo, .ref cs, .ref se])), (pe, .inl (cpe, 680, .inl gpe)), (bo, .inr (1, [.ref bob, .int bo_length])), (bob, .inl (cbob, 8192, .inl gbob)), (kn, .inr (5, [.ref tr, .ref kns, .ref knz, .ref knt, .ref knv, .int kn_length])), (pf, .inl (cpf, 21, .inl gpf)), (pp, .inl (cpp, 4100, .inl gpp)), (pz, .inl (cpz, 4100, .inl gpz)), (pv, .inl (cpv, 4100, .inr (.inl gpv))), (fut, .inl (cfut, 20, .inl gfut)), (pa, .inr (5, [.ref tr, .ref pas, .ref paz, .ref pat, .ref pav, .int pa_length])), (pat, .inl (cpat, 160, .inl gpat)), (fu, .inr (5, [.ref tr, .ref fus, .ref fuz, .ref fut, .ref fuv, .int fu_length])), (tr, .inr (1, [.ref tx, .int tr_length])), (tx, .inl (ctx, 2000, .inl gtx)), (fus, .inl (cfus, 20, .inl gfus)), (fuz, .inl (cfuz, 20, .inl gfuz))]) (w1 := (wz_110 pr gl fu pa pf sf pk pg pp pz pv n24 n23 pr_scanner_r pr_stepCount pr_open pr_twoSides pr_waiting_r pr_waitingPlaces_r pr_waitingCount)) hP hD [1] [0, 2, 3, 4, 5, 6, 7, 8, 9, 10, 11, 12, 13, 14, 15, 16, 17] rfl rfl (by decide) (by decide) hk1 hFc hP1 hD1
            have hP : va_P (dC, dI) cls (wz_179 h0 pr kn lt h0_localCount pe j103_h0_pendingCount h0_gives h0_depth h0_loopDepth to bo cs se pe cpe gpe bo bob bo_length bob cbob gbob kn tr kns knz knt knv kn_length pf cpf gpf pp cpp gpp pz cpz gpz pv cpv gpv fut cfut gfut pa tr pas paz pat pav pa_length pat cpat gpat fu tr fus fuz fut fuv fu_length tr tx tr_length tx ctx gtx fus cfus gfus fuz cfuz gfuz pr gl fu pa pf sf pk pg pp pz pv n24 n23 pr_scanner_r pr_stepCount pr_open pr_twoSides pr_waiting_r pr_waitingPlaces_r pr_waitingCount) H1 := hP
            have hD : va_D A (wz_179 h0 pr kn lt h0_localCount pe j103_h0_pendingCount h0_gives h0_depth h0_loopDepth to bo cs se pe cpe gpe bo bob bo_length bob cbob gbob kn tr kns knz knt knv kn_length pf cpf gpf pp cpp gpp pz cpz gpz pv cpv gpv fut cfut gfut pa tr pas paz pat pav pa_length pat cpat gpat fu tr fus fuz fut fuv fu_length tr tx tr_length tx ctx gtx fus cfus gfus fuz cfuz gfuz pr gl fu pa pf sf pk pg pp pz pv n24 n23 pr_scanner_r pr_stepCount pr_open pr_twoSides pr_waiting_r pr_waitingPlaces_r pr_waitingCount) := hD
            have hP9 := hP.sb (wq := (wz_176 h0 pr kn lt h0_localCount pe j103_h0_pendingCount h0_gives h0_depth h0_loopDepth to bo cs se pr gl fu pa pf sf pk pg pp pz pv n24 n23 pr_scanner_r pr_stepCount pr_open pr_twoSides pr_waiting_r pr_waitingPlaces_r pr_waitingCount pe cpe gpe bo bob bo_length bob cbob gbob kn tr kns knz knt knv kn_length tr tx tr_length tx ctx gtx pf cpf gpf pp cpp gpp pz cpz gpz pv cpv gpv fu tr fus fuz fut fuv fu_length fus cfus gfus fuz cfuz gfuz fut cfut gfut pa tr pas paz pat pav pa_length pat cpat gpat)) [0, 17, 1, 2, 3, 4, 13, 14, 5, 6, 7, 8, 12, 15, 16, 9, 10, 11] rfl
            have hD9 := hD.sb (wq := (wz_176 h0 pr kn lt h0_localCount pe j103_h0_pendingCount h0_gives h0_depth h0_loopDepth to bo cs se pr gl fu pa pf sf pk pg pp pz pv n24 n23 pr_scanner_r pr_stepCount pr_open pr_twoSides pr_waiting_r pr_waitingPlaces_r pr_waitingCount pe cpe gpe bo bob bo_length bob cbob gbob kn tr kns knz knt knv kn_length tr tx tr_length tx ctx gtx pf cpf gpf pp cpp gpp pz cpz gpz pv cpv gpv fu tr fus fuz fut fuv fu_length fus cfus gfus fuz cfuz gfuz fut cfut gfut pa tr pas paz pat pav pa_length pat cpat gpat)) [0, 17, 1, 2, 3, 4, 13, 14, 5, 6, 7, 8, 12, 15, 16, 9, 10, 11] (by decide) rfl
            exact tz_leave rfl hno hlocks (fun t ht hW => ⟨⟨(gbob, gpe, bo_length, j103_h0_pendingCount, n23, n24), ⟨⟨b_bo_length, b_j103_h0_pendingCount⟩, by rw [ht]; exact hXX.moved hW.alike⟩, va_P.he ht.symm hP9, va_K.moved hW.alike hK, hD9⟩, hS.F ht⟩) hS.2.2
          exact (show False from hw).elim
      · have q105 := nltI c105
        refine lv_aload_n hx hb d_CO_codeCall_108 rfl (lv_at hl 0 rfl) ?_
        have hPc := hP.sb (wq := (wz_149 h0 pr kn lt h0_localCount pe j103_h0_pendingCount h0_gives h0_depth h0_loopDepth to bo cs se pe cpe gpe)) [0, 2] rfl
        have hDc := hD.sb (wq := (wz_149 h0 pr kn lt h0_localCount pe j103_h0_pendingCount h0_gives h0_depth h0_loopDepth to bo cs se pe cpe gpe)) [0, 2] (by decide) rfl
        have hKc := hK.sb (tyq := [(cpe, .int)]) [0] rfl
        have hFc := va_free (wc := (wz_149 h0 pr kn lt h0_localCount pe j103_h0_pendingCount h0_gives h0_depth h0_loopDepth to bo cs se pe cpe gpe)) hD hS hA [0, 2] rfl
        refine va_calli (va_runV (As := []) (rest := []) ⟨hx, hb, hml, hown, hts⟩ (c_CO_pop l dC dI H.size h0 pr kn lt pe to bo cs se cpe h0_localCount j103_h0_pendingCount h0_gives h0_depth h0_loopDepth gpe (b_j103_h0_pendingCount) (by (try dsimp only) <;> (first | (apply Int.le_antisymm <;> omega) | omega))) (cwV 0 hts (gV kM_CO_224 kV_CO_pop kS_CO_pop kI_CO kC_CO_pop) rfl rfl rfl (by decide +kernel) ⟨Nat.le_of_ble_eq_true rfl, Nat.le_of_ble_eq_true rfl⟩) ⟨fun a U g mk z => by obtain ⟨z0, z1, zP, zK, zD⟩ := z; exact ⟨z0, z1, zP, va_K.moved (u := U) (U := U.calling g mk a) (Vm.Alike.refl U.vm) zK, zD⟩, va_recv hKc hPc (ci := 2) (q0 := 0) rfl rfl, fun U hU hW => ⟨rfl, by rw [hU], va_P.he hU.symm hPc, va_K.moved hW.alike hKc, hDc.weaken (fun _ _ _ _ => trivial)⟩⟩ rfl rfl hl.1 rfl (lv_room (Nat.le_of_ble_eq_true rfl)) d_CO_codeCall_109 ⟨(Nat.zero_le _), (Nat.zero_le _)⟩) hS (fun q _ h => hFc q h) hFc (fun r25 u t H1 locs ht hvm hw hB hz1 hk1 hS => ?_)
        obtain ⟨n26, rfl⟩ : ∃ z, z = u := ⟨_, rfl⟩
        try dsimp only at hw
        obtain ⟨bn26, xr25⟩ := hw
        try clear hw
        obtain ⟨hP1, hK1, hD1⟩ := hB
        replace hP1 := va_P.he ht hP1
        obtain ⟨hP, hD⟩ := va_join (wr := [(pr, .inr (6, [.ref gl, .ref fu, .ref pa, .ref pf, .ref sf, .ref pk, .ref pg, .ref pp, .ref pz, .ref pv, .int pr_reason, .int pr_place, .ref pr_scanner_r, .int pr_stepCount, .int pr_open, .int pr_twoSides, .ref pr_waiting_r, .ref pr_waitingPlaces_r, .int pr_waitingCount])), (bo, .inr (1, [.ref bob, .int bo_length])), (bob, .inl (cbob, 8192, .inl gbob)), (kn, .inr (5, [.ref tr, .ref kns, .ref knz, .ref knt, .ref knv, .int kn_length])), (pf, .inl (cpf, 21, .inl gpf)), (pp, .inl (cpp, 4100, .inl gpp)), (pz, .inl (cpz, 4100, .inl gpz)), (pv, .inl (cpv, 4100, .inr (.inl gpv))), (fut, .inl (cfut, 20, .inl gfut)), (pa, .inr (5, [.ref tr, .ref pas, .ref paz, .ref pat, .ref pav, .int pa_length])), (pat, .inl (cpat, 160, .inl gpat)), (fu, .inr (5, [.ref tr, .ref fus, .ref fuz, .ref fut, .ref fuv, .int fu_length])), (tr, .inr (1, [.ref tx, .int tr_length])), (tx, .inl (ctx, 2000, .inl gtx)), (fus, .inl (cfus, 20, .inl gfus)), (fuz, .inl (cfuz, 20, .inl gfuz))]) (w1 := (wz_149 h0 pr kn lt h0_localCount pe n26 h0_gives h0_depth h0_loopDepth to bo cs se pe cpe gpe)) hP hD [0, 2] [1, 3, 4, 5, 6, 7, 8, 9, 10, 11, 12, 13, 14, 15, 16, 17] rfl rfl (by decide) (by decide) hk1 hFc hP1 hD1
        clear hPc hDc hKc hFc hz1 hk1 hP1 hK1 hD1
        rename Heap => H
        have hP : va_P (dC, dI) cls (wz_180 pr gl fu pa pf sf pk pg pp pz pv pr_reason pr_place pr_scanner_r pr_stepCount pr_open pr_twoSides pr_waiting_r pr_waitingPlaces_r pr_waitingCount bo bob bo_length bob cbob gbob kn tr kns knz knt knv kn_length pf cpf gpf pp cpp gpp pz cpz gpz pv cpv gpv fut cfut gfut pa tr pas paz pat pav pa_length pat cpat gpat fu tr fus fuz fut fuv fu_length tr tx tr_length tx ctx gtx fus cfus gfus fuz cfuz gfuz h0 pr kn lt h0_localCount pe n26 h0_gives h0_depth h0_loopDepth to bo cs se pe cpe gpe) H := hP
        have hD : va_D A (wz_180 pr gl fu pa pf sf pk pg pp pz pv pr_reason pr_place pr_scanner_r pr_stepCount pr_open pr_twoSides pr_waiting_r pr_waitingPlaces_r pr_waitingCount bo bob bo_length bob cbob gbob kn tr kns knz knt knv kn_length pf cpf gpf pp cpp gpp pz cpz gpz pv cpv gpv fut cfut gfut pa tr pas paz pat pav pa_length pat cpat gpat fu tr fus fuz fut fuv fu_length tr tx tr_length tx ctx gtx fus cfus gfus fuz cfuz gfuz h0 pr kn lt h0_localCount pe n26 h0_gives h0_depth h0_loopDepth to bo cs se pe cpe gpe) := hD
        refine lv_istore (lv' := [(7, .int r25), (0, .ref h0), (1, .int p0), (3, .int r5), (4, .int x6), (5, .int j103_l5), (6, .int j103_l6)]) hx hb d_CO_codeCall_112 hl (by decide) rfl (fun ls hl => ?_)
        refine lv_iload hx hb d_CO_codeCall_114 (lv_at hl 5 rfl) ?_
        refine w_cut (pc2 := 145) (σ := Int32) (fun u H locs ls => match u with | j145_s0 => (j145_s0 = 0 ∨ j145_s0 = 1) ∧ (bx (j145_s0 = 1 → x6.toInt + x2.toInt = x8.toInt ∧ ∀ j : Nat, n26.toInt ≤ (j : Int) → (j : Int) < h0_pendingCount.toInt → (gpe j).toInt ≠ 64)) ∧ va_P (dC, dI) cls (wz_180 pr gl fu pa pf sf pk pg pp pz pv pr_reason pr_place pr_scanner_r pr_stepCount pr_open pr_twoSides pr_waiting_r pr_waitingPlaces_r pr_waitingCount bo bob bo_length bob cbob gbob kn tr kns knz knt knv kn_length pf cpf gpf pp cpp gpp pz cpz gpz pv cpv gpv fut cfut gfut pa tr pas paz pat pav pa_length pat cpat gpat fu tr fus fuz fut fuv fu_length tr tx tr_length tx ctx gtx fus cfus gfus fuz cfuz gfuz h0 pr kn lt h0_localCount pe n26 h0_gives h0_depth h0_loopDepth to bo cs se pe cpe gpe) H ∧ va_D A (wz_180 pr gl fu pa pf sf pk pg pp pz pv pr_reason pr_place pr_scanner_r pr_stepCount pr_open pr_twoSides pr_waiting_r pr_waitingPlaces_r pr_waitingCount bo bob bo_length bob cbob gbob kn tr kns knz knt knv kn_length pf cpf gpf pp cpp gpp pz cpz gpz pv cpv gpv fut cfut gfut pa tr pas paz pat pav pa_length pat cpat gpat fu tr fus fuz fut fuv fu_length tr tx tr_length tx ctx gtx fus cfus gfus fuz cfuz gfuz h0 pr kn lt h0_localCount pe n26 h0_gives h0_depth h0_loopDepth to bo cs se pe cpe gpe) ∧ va_S A s.heap H locs ∧ lv_has ls 8 [(0, .ref h0), (1, .int p0), (3, .int r5), (4, .int x6), (6, .int j103_l6)]) (fun u => match u with | j145_s0 => [.int j145_s0]) ?_ (fun jn145 => ?_)
        · intro u H locs ls hI
          obtain ⟨j145_s0, rfl⟩ : ∃ z, z = u := ⟨_, rfl⟩
          obtain ⟨b_j145_s0, y145, hP, hD, hS, hl⟩ := hI
          have tj145_s0 := b01 b_j145_s0
          refine lv_istore (lv' := [(5, .int j145_s0), (0, .ref h0), (1, .int p0), (3, .int r5), (4, .int x6), (6, .int j103_l6)]) hx hb d_CO_codeCall_145 hl (by decide) rfl (fun ls hl => ?_)
          obtain ⟨x27, ex27⟩ : ∃ z : Int32, z = j103_l6 + (-1) := ⟨_, rfl⟩
          have tx27 : x27.toInt = j103_l6.toInt + (-1) := by have z := i32_add ex27 (by (first | (apply Int.le_antisymm <;> omega) | omega)) (by (first | (apply Int.le_antisymm <;> omega) | omega)); first | exact z | (first | (apply Int.le_antisymm <;> omega) | omega)
          refine lv_iinc (v := x27) (lv' := [(6, .int x27), (5, .int j145_s0), (0, .ref h0), (1, .int p0), (3, .int r5), (4, .int x6)]) hx hb d_CO_codeCall_147 hl (k := 5) rfl (by rw [ex27]; rfl) (by decide) rfl (fun ls hl => ?_)
          refine lv_goto (tgt := 103) hx hb d_CO_codeCall_150 (by decide) ?_
          exact ih103 (j145_s0, x27, n26) _ _ _ (by show (x27.toInt + 1).toNat < N103; (first | (apply Int.le_antisymm <;> omega) | omega)) ⟨b_j145_s0, bn26, by (try dsimp only) <;> (first | (apply Int.le_antisymm <;> omega) | omega), y145, hP.sub [16, 0, 17, 1, 2, 3, 4, 5, 6, 7, 8, 9, 10, 11, 12, 13, 14, 15] rfl, hD.sub [16, 0, 17, 1, 2, 3, 4, 5, 6, 7, 8, 9, 10, 11, 12, 13, 14, 15] (by decide) rfl, hS, lv_sub hl [2, 3, 4, 5, 1, 0] rfl⟩
        · skip
          refine w_cut (pc2 := 144) (σ := Unit) (fun u H locs ls => match u with | _ => va_P (dC, dI) cls (wz_180 pr gl fu pa pf sf pk pg pp pz pv pr_reason pr_place pr_scanner_r pr_stepCount pr_open pr_twoSides pr_waiting_r pr_waitingPlaces_r pr_waitingCount bo bob bo_length bob cbob gbob kn tr kns knz knt knv kn_length pf cpf gpf pp cpp gpp pz cpz gpz pv cpv gpv fut cfut gfut pa tr pas paz pat pav pa_length pat cpat gpat fu tr fus fuz fut fuv fu_length tr tx tr_length tx ctx gtx fus cfus gfus fuz cfuz gfuz h0 pr kn lt h0_localCount pe n26 h0_gives h0_depth h0_loopDepth to bo cs se pe cpe gpe) H ∧ va_D A (wz_180 pr gl fu pa pf sf pk pg pp pz pv pr_reason pr_place pr_scanner_r pr_stepCount pr_open pr_twoSides pr_waiting_r pr_waitingPlaces_r pr_waitingCount bo bob bo_length bob cbob gbob kn tr kns knz knt knv kn_length pf cpf gpf pp cpp gpp pz cpz gpz pv cpv gpv fut cfut gfut pa tr pas paz pat pav pa_length pat cpat gpat fu tr fus fuz fut fuv fu_length tr tx tr_length tx ctx gtx fus cfus gfus fuz cfuz gfuz h0 pr kn lt h0_localCount pe n26 h0_gives h0_depth h0_loopDepth to bo cs se pe cpe gpe) ∧ va_S A s.heap H locs ∧ lv_has ls 8 [(0, .ref h0), (1, .int p0), (3, .int r5), (4, .int x6), (6, .int j103_l6)]) (fun u => match u with | _ => []) ?_ (fun jn144 => ?_)
          · intro u H locs ls hI
            obtain ⟨hP, hD, hS, hl⟩ := hI
            refine lv_iconst (v := 0) hx hb d_CO_codeCall_144 (by decide) ?_
            exact jn145 0 _ _ _ ⟨Or.inl rfl, fun z => absurd z (by decide), hP, hD, hS, lv_sub hl [0, 1, 2, 3, 4] rfl⟩
          · skip
            refine lv_if_eq (tgt := 144) hx hb d_CO_codeCall_116 (by decide) (fun c116 => ?_) (fun c116 => ?_)
            · have q116 := eqI c116
              exact jn144 () _ _ _ ⟨hP, hD, hS, lv_sub hl [1, 2, 3, 4, 6] rfl⟩
            · have q116 := neI c116
              have k119 := hft.out (by rcases b_j103_l5 with z | z; (exfalso; rw [z] at q116; exact q116 rfl); exact z)
              refine lv_iload hx hb d_CO_codeCall_119 (lv_at hl 0 rfl) ?_
              refine lv_aload_n hx hb d_CO_codeCall_121 rfl (lv_at hl 1 rfl) ?_
              refine va_get (D := (dC, dI)) (ci := 2) (v := .ref pr) (C := R_CO) (T := F_CO) (N := 13) hx hb hts i_CO hown hK hP 16 rfl rfl 0 (by decide) (hts _ kF_CO_36) (fun _ h9 => h9) rfl d_CO_codeCall_122 ?_
              refine va_get (D := (dC, dI)) (ci := 6) (v := .ref pa) (C := R_PR) (T := F_PR) (N := 19) hx hb hts i_PR hown hK hP 0 rfl rfl 2 (by decide) (hts _ kF_CO_130) (fun _ h9 => h9) rfl d_CO_codeCall_125 ?_
              refine va_get (D := (dC, dI)) (ci := 5) (v := .ref pat) (C := R_NA) (T := F_NA) (N := 6) hx hb hts i_NA hown hK hP 9 rfl rfl 3 (by decide) (hts _ kF_CO_121) (fun _ h9 => h9) rfl d_CO_codeCall_128 ?_
              refine lv_iload hx hb d_CO_codeCall_131 (lv_at hl 4 rfl) ?_
              refine lv_iload hx hb d_CO_codeCall_133 (lv_at hl 6 rfl) ?_
              refine lv_iadd hx hb d_CO_codeCall_135 ?_
              refine lv_topi (fun x28 ex28 => ?_)
              have tx28 : x28.toInt = x6.toInt + j103_l6.toInt := by have z := i32_add ex28 (by (first | (apply Int.le_antisymm <;> omega) | omega)) (by (first | (apply Int.le_antisymm <;> omega) | omega)); first | exact z | (first | (apply Int.le_antisymm <;> omega) | omega)
              have g136 : vp_in x28 160 := vp_in_iff.mpr ⟨by (first | (apply Int.le_antisymm <;> omega) | omega), by (first | (apply Int.le_antisymm <;> omega) | omega)⟩
              refine va_iald hx hb hK hP 10 10 rfl rfl g136 d_CO_codeCall_136 ?_
              refine lv_topi (fun x29 ex29 => ?_)
              refine lv_icmp_ne (tgt := 144) hx hb d_CO_codeCall_137 (by decide) (fun c137 => ?_) (fun c137 => ?_)
              · have q137 := neI c137
                exact jn144 () _ _ _ ⟨hP, hD, hS, lv_sub hl [1, 2, 3, 4, 6] rfl⟩
              · have q137 := eqI c137
                refine lv_iconst (v := 1) hx hb d_CO_codeCall_140 (by decide) ?_
                refine lv_goto (tgt := 145) hx hb d_CO_codeCall_141 (by decide) ?_
                exact jn145 1 _ _ _ ⟨Or.inr rfl, fun _ => ⟨k119.1, fun j j1 j2 => by by_cases q : (j : Int) = n26.toInt; (rw [show j = n26.toNatClampNeg from by have := i32_clamp (x := n26) (by (first | (apply Int.le_antisymm <;> omega) | omega)); (first | (apply Int.le_antisymm <;> omega) | omega), ← xr25.2, show r25.toInt = x29.toInt from by (first | (apply Int.le_antisymm <;> omega) | omega)]; have := hpq x28.toNatClampNeg (by have := i32_clamp (x := x28) (by (first | (apply Int.le_antisymm <;> omega) | omega)); (first | (apply Int.le_antisymm <;> omega) | omega)); rw [← ex29] at this; (first | (apply Int.le_antisymm <;> omega) | omega)); exact k119.2 j (by (first | (apply Int.le_antisymm <;> omega) | omega)) j2⟩, hP, hD, hS, lv_sub hl [1, 2, 3, 4, 6] rfl⟩
    · skip
      refine lv_icmp_ne (tgt := 95) hx hb d_CO_codeCall_88 (by decide) (fun c88 => ?_) (fun c88 => ?_)
      · have q88 := neI c88
        refine lv_iconst (v := 0) hx hb d_CO_codeCall_95 (by decide) ?_
        exact jn96 0 _ _ _ ⟨Or.inl rfl, fun z => absurd z (by decide), hP, hD, hS, lv_sub hl [3, 4, 2, 1, 0] rfl⟩
      · have q88 := eqI c88
        refine lv_iconst (v := 1) hx hb d_CO_codeCall_91 (by decide) ?_
        refine lv_goto (tgt := 96) hx hb d_CO_codeCall_92 (by decide) ?_
        exact jn96 1 _ _ _ ⟨Or.inr rfl, fun _ => by (first | (apply Int.le_antisymm <;> omega) | omega), hP, hD, hS, lv_sub hl [3, 4, 2, 1, 0] rfl⟩
  · have q41 := nleI c41
    refine lv_aload_n hx hb d_CO_codeCall_44 rfl (lv_at hl 2 rfl) ?_
    refine va_get (D := (dC, dI)) (ci := 2) (v := .ref pr) (C := R_CO) (T := F_CO) (N := 13) hx hb hts i_CO hown hK hP 0 rfl rfl 0 (by decide) (hts _ kF_CO_36) (fun _ h9 => h9) rfl d_CO_codeCall_45 ?_
    refine lv_iconst (v := 2) hx hb d_CO_codeCall_48 (by decide) ?_
    refine lv_aload_n hx hb d_CO_codeCall_49 rfl (lv_at hl 2 rfl) ?_
    refine va_get (D := (dC, dI)) (ci := 2) (v := .ref pr) (C := R_CO) (T := F_CO) (N := 13) hx hb hts i_CO hown hK hP 0 rfl rfl 0 (by decide) (hts _ kF_CO_36) (fun _ h9 => h9) rfl d_CO_codeCall_50 ?_
    refine va_get (D := (dC, dI)) (ci := 6) (v := .ref pp) (C := R_PR) (T := F_PR) (N := 19) hx hb hts i_PR hown hK hP 1 rfl rfl 7 (by decide) (hts _ kF_CO_193) (fun _ h9 => h9) rfl d_CO_codeCall_53 ?_
    refine lv_iload_n hx hb d_CO_codeCall_56 rfl (lv_at hl 3 rfl) ?_
    have g57 : vp_in p0 4100 := vp_in_iff.mpr ⟨by (first | (apply Int.le_antisymm <;> omega) | omega), by (first | (apply Int.le_antisymm <;> omega) | omega)⟩
    refine va_iald hx hb hK hP 7 4 rfl rfl g57 d_CO_codeCall_57 ?_
    refine lv_topi (fun x30 ex30 => ?_)
    have hPc := hP.sb (wq := (wz_110 pr gl fu pa pf sf pk pg pp pz pv pr_reason pr_place pr_scanner_r pr_stepCount pr_open pr_twoSides pr_waiting_r pr_waitingPlaces_r pr_waitingCount)) [1] rfl
    have hDc := hD.sb (wq := (wz_110 pr gl fu pa pf sf pk pg pp pz pv pr_reason pr_place pr_scanner_r pr_stepCount pr_open pr_twoSides pr_waiting_r pr_waitingPlaces_r pr_waitingCount)) [1] (by decide) rfl
    have hKc := hK.sb (tyq := []) [] rfl
    have hFc := va_free (wc := (wz_110 pr gl fu pa pf sf pk pg pp pz pv pr_reason pr_place pr_scanner_r pr_stepCount pr_open pr_twoSides pr_waiting_r pr_waitingPlaces_r pr_waitingCount)) hD hS hA [1] rfl
    refine tq_callv (tz_runV (As := [.int 2, .int x30]) (rest := []) ⟨hx, hb, hml, hown, hts⟩ (c_PR_refuse l hlt dC dI H.size sa pr gl fu pa pf sf pk pg pp pz pv pr_scanner_r pr_waiting_r pr_waitingPlaces_r pr_reason pr_place pr_stepCount pr_open pr_twoSides pr_waitingCount 2 x30) (cwV 2 hts (gV kM_CO_105 kV_PR_refuse kS_PR_refuse kI_PR kC_PR_refuse) rfl rfl rfl (by decide +kernel) ⟨Nat.le_of_ble_eq_true rfl, Nat.le_of_ble_eq_true rfl⟩) ⟨fun a U g mk z => by obtain ⟨z0, z1, zP, zK, zD, zS⟩ := z; exact ⟨z0, z1, zP, va_K.moved (u := U) (U := U.calling g mk a) (Vm.Alike.refl U.vm) zK, zD, sw.same (u := U) (U := U.calling g mk a) rfl zS⟩, va_recv hKc hPc (ci := 6) (q0 := 0) rfl rfl, fun U hU hW => ⟨rfl, by rw [hU], va_P.he hU.symm hPc, va_K.moved hW.alike hKc, hDc.weaken (fun _ _ _ _ => trivial), hSW.call hS hFc hW hU⟩⟩ rfl rfl hl.1 rfl (lv_room (Nat.le_of_ble_eq_true rfl)) d_CO_codeCall_58 ⟨Nat.le_of_ble_eq_true rfl, Nat.le_of_ble_eq_true rfl⟩) hS (fun q _ h => hFc q h) hFc (fun u t H1 locs ht hvm hw hB hz1 hk1 hS => ?_) (fun xx u t H1 locs ht hvm hw hXX hB hz1 hk1 hS => ?_)
    rotate_left
    · skip
      obtain ⟨n32, n33⟩ := u
      try dsimp only at hw
      obtain ⟨hP1, hK1, hD1⟩ := hB
      replace hP1 := va_P.he ht hP1
      obtain ⟨hP, hD⟩ := va_join (wr := [(h0, .inr (2, [.ref pr, .ref kn, .ref lt, .int h0_localCount, .ref pe, .int h0_pendingCount, .int h0_gives, .int h0_depth, .int h0_loopDepth, .ref to, .ref bo, .ref cs, .ref se])), (pe, .inl (cpe, 680, .inl gpe)), (bo, .inr (1, [.ref bob, .int bo_length])), (bob, .inl (cbob, 8192, .inl gbob)), (kn, .inr (5, [.ref tr, .ref kns, .ref knz, .ref knt, .ref knv, .int kn_length])), (pf, .inl (cpf, 21, .inl gpf)), (pp, .inl (cpp, 4100, .inl gpp)), (pz, .inl (cpz, 4100, .inl gpz)), (pv, .inl (cpv, 4100, .inr (.inl gpv))), (fut, .inl (cfut, 20, .inl gfut)), (pa, .inr (5, [.ref tr, .ref pas, .ref paz, .ref pat, .ref pav, .int pa_length])), (pat, .inl (cpat, 160, .inl gpat)), (fu, .inr (5, [.ref tr, .ref fus, .ref fuz, .ref fut, .ref fuv, .int fu_length])), (tr, .inr (1, [.ref tx, .int tr_length])), (tx, .inl (ctx, 2000, .inl gtx)), (fus, .inl (cfus, 20, .inl gfus)), (fuz, .inl (cfuz, 20, .inl gfuz))]) (w1 := (wz_110 pr gl fu pa pf sf pk pg pp pz pv n33 n32 pr_scanner_r pr_stepCount pr_open pr_twoSides pr_waiting_r pr_waitingPlaces_r pr_waitingCount)) hP hD [1] [0, 2, 3, 4, 5, 6, 7, 8, 9, 10, 11, 12, 13, 14, 15, 16, 17] rfl rfl (by decide) (by decide) hk1 hFc hP1 hD1
      have hP : va_P (dC, dI) cls (wz_179 h0 pr kn lt h0_localCount pe h0_pendingCount h0_gives h0_depth h0_loopDepth to bo cs se pe cpe gpe bo bob bo_length bob cbob gbob kn tr kns knz knt knv kn_length pf cpf gpf pp cpp gpp pz cpz gpz pv cpv gpv fut cfut gfut pa tr pas paz pat pav pa_length pat cpat gpat fu tr fus fuz fut fuv fu_length tr tx tr_length tx ctx gtx fus cfus gfus fuz cfuz gfuz pr gl fu pa pf sf pk pg pp pz pv n33 n32 pr_scanner_r pr_stepCount pr_open pr_twoSides pr_waiting_r pr_waitingPlaces_r pr_waitingCount) H1 := hP
      have hD : va_D A (wz_179 h0 pr kn lt h0_localCount pe h0_pendingCount h0_gives h0_depth h0_loopDepth to bo cs se pe cpe gpe bo bob bo_length bob cbob gbob kn tr kns knz knt knv kn_length pf cpf gpf pp cpp gpp pz cpz gpz pv cpv gpv fut cfut gfut pa tr pas paz pat pav pa_length pat cpat gpat fu tr fus fuz fut fuv fu_length tr tx tr_length tx ctx gtx fus cfus gfus fuz cfuz gfuz pr gl fu pa pf sf pk pg pp pz pv n33 n32 pr_scanner_r pr_stepCount pr_open pr_twoSides pr_waiting_r pr_waitingPlaces_r pr_waitingCount) := hD
      have hP9 := hP.sb (wq := (wz_176 h0 pr kn lt h0_localCount pe h0_pendingCount h0_gives h0_depth h0_loopDepth to bo cs se pr gl fu pa pf sf pk pg pp pz pv n33 n32 pr_scanner_r pr_stepCount pr_open pr_twoSides pr_waiting_r pr_waitingPlaces_r pr_waitingCount pe cpe gpe bo bob bo_length bob cbob gbob kn tr kns knz knt knv kn_length tr tx tr_length tx ctx gtx pf cpf gpf pp cpp gpp pz cpz gpz pv cpv gpv fu tr fus fuz fut fuv fu_length fus cfus gfus fuz cfuz gfuz fut cfut gfut pa tr pas paz pat pav pa_length pat cpat gpat)) [0, 17, 1, 2, 3, 4, 13, 14, 5, 6, 7, 8, 12, 15, 16, 9, 10, 11] rfl
      have hD9 := hD.sb (wq := (wz_176 h0 pr kn lt h0_localCount pe h0_pendingCount h0_gives h0_depth h0_loopDepth to bo cs se pr gl fu pa pf sf pk pg pp pz pv n33 n32 pr_scanner_r pr_stepCount pr_open pr_twoSides pr_waiting_r pr_waitingPlaces_r pr_waitingCount pe cpe gpe bo bob bo_length bob cbob gbob kn tr kns knz knt knv kn_length tr tx tr_length tx ctx gtx pf cpf gpf pp cpp gpp pz cpz gpz pv cpv gpv fu tr fus fuz fut fuv fu_length fus cfus gfus fuz cfuz gfuz fut cfut gfut pa tr pas paz pat pav pa_length pat cpat gpat)) [0, 17, 1, 2, 3, 4, 13, 14, 5, 6, 7, 8, 12, 15, 16, 9, 10, 11] (by decide) rfl
      exact tz_leave rfl hno hlocks (fun t ht hW => ⟨⟨(gbob, gpe, bo_length, h0_pendingCount, n32, n33), ⟨⟨b_bo_length, b_h0_pendingCount⟩, by rw [ht]; exact hXX.moved hW.alike⟩, va_P.he ht.symm hP9, va_K.moved hW.alike hK, hD9⟩, hS.F ht⟩) hS.2.2
    exact (show False from hw).elim
end q_72
section q_73
/-! Coder: calls of load8 .. trap -/
def tkn (k : Nat) : Int := if (sg_takesFirst.getD k 0).toInt = 64 then 0 else if (sg_takesSecond.getD k 0).toInt = 64 then 1 else 2
theorem sg_oc : ∀ k, k < 26 → 17 ≤ k → oc (sg_code32.getD k 0).toInt (tkn k) (sg_gives.getD k 0).toInt ∧ ty (sg_gives.getD k 0).toInt := by
  intro k h1 h2
  have q : k = 17 ∨ k = 18 ∨ k = 19 ∨ k = 20 ∨ k = 21 ∨ k = 22 ∨ k = 23 ∨ k = 24 ∨ k = 25 := by (first | (apply Int.le_antisymm <;> omega) | omega)
  unfold oc ty tkn
  rcases q with rfl | rfl | rfl | rfl | rfl | rfl | rfl | rfl | rfl <;> decide
theorem sg_cb : ∀ k, k < 26 → 17 ≤ k → 0 ≤ (sg_code32.getD k 0).toInt ∧ (sg_code32.getD k 0).toInt < 128 ∧ (k = 25 → (sg_code32.getD k 0).toInt = 0) ∧ ((sg_code32.getD k 0).toInt = 0 → k = 25) := by decide
theorem tkn_of {k : Nat} {n : Int} (h0 : n = 0 ∨ n = 1 ∨ n = 2) (h1 : n = 0 → (sg_takesFirst.getD k 0).toInt = 64) (h2 : n = 1 → (sg_takesFirst.getD k 0).toInt ≠ 64 ∧ (sg_takesSecond.getD k 0).toInt = 64) (h3 : n = 2 → (sg_takesFirst.getD k 0).toInt ≠ 64 ∧ (sg_takesSecond.getD k 0).toInt ≠ 64) : n = tkn k ∧ (1 ≤ n → (sg_takesFirst.getD k 0).toInt ≠ 64) ∧ (2 ≤ n → (sg_takesSecond.getD k 0).toInt ≠ 64) := by
  unfold tkn
  rcases h0 with h | h | h
  · rw [if_pos (h1 h)]; exact ⟨h, by (first | (apply Int.le_antisymm <;> omega) | omega), by (first | (apply Int.le_antisymm <;> omega) | omega)⟩
  · rw [if_neg (h2 h).1, if_pos (h2 h).2]; exact ⟨h, fun _ => (h2 h).1, by (first | (apply Int.le_antisymm <;> omega) | omega)⟩
  · rw [if_neg (h3 h).1, if_neg (h3 h).2]; exact ⟨h, fun _ => (h3 h).1, fun _ => (h3 h).2⟩
abbrev b_CO_codeOwnCall : ByteArray := prog_4_method_13_code
def y_CO_codeOwnCall : MethodName := ⟨R_CO, "codeOwnCall", "(I)V"⟩
abbrev w_CO_codeOwnCall : List Cond := .code y_CO_codeOwnCall b_CO_codeOwnCall 7 none :: lw_g
theorem kC_CO_codeOwnCall : Cond.code y_CO_codeOwnCall b_CO_codeOwnCall 7 none ∈ lw_g := in_c5 207 rfl rfl
theorem d_CO_codeOwnCall_0 : decode b_CO_codeOwnCall 0 = .ok (.aload_n 0, 1) := bz_c42 (by decide +kernel)
theorem d_CO_codeOwnCall_1 : decode b_CO_codeOwnCall 1 = .ok (.getfield 36, 3) := bz_c180 (by decide +kernel)
theorem d_CO_codeOwnCall_4 : decode b_CO_codeOwnCall 4 = .ok (.getfield 166, 3) := bz_c180 (by decide +kernel)
theorem d_CO_codeOwnCall_7 : decode b_CO_codeOwnCall 7 = .ok (.iload_n 1, 1) := bz_c27 (by decide +kernel)
theorem d_CO_codeOwnCall_8 : decode b_CO_codeOwnCall 8 = .ok (.aaload, 1) := bz_c50 (by decide +kernel)
theorem d_CO_codeOwnCall_9 : decode b_CO_codeOwnCall 9 = .ok (.astore_n 2, 1) := bz_c77 (by decide +kernel)
theorem d_CO_codeOwnCall_10 : decode b_CO_codeOwnCall 10 = .ok (.aload_n 0, 1) := bz_c42 (by decide +kernel)
theorem d_CO_codeOwnCall_11 : decode b_CO_codeOwnCall 11 = .ok (.getfield 36, 3) := bz_c180 (by decide +kernel)
theorem d_CO_codeOwnCall_14 : decode b_CO_codeOwnCall 14 = .ok (.getfield 175, 3) := bz_c180 (by decide +kernel)
theorem d_CO_codeOwnCall_17 : decode b_CO_codeOwnCall 17 = .ok (.iload_n 1, 1) := bz_c27 (by decide +kernel)
theorem d_CO_codeOwnCall_18 : decode b_CO_codeOwnCall 18 = .ok (.laload, 1) := bz_c47 (by decide +kernel)
theorem d_CO_codeOwnCall_19 : decode b_CO_codeOwnCall 19 = .ok (.l2i, 1) := bz_c136 (by decide +kernel)
theorem d_CO_codeOwnCall_20 : decode b_CO_codeOwnCall 20 = .ok (.istore_n 3, 1) := bz_c62 (by decide +kernel)
theorem d_CO_codeOwnCall_21 : decode b_CO_codeOwnCall 21 = .ok (.iload_n 3, 1) := bz_c29 (by decide +kernel)
theorem d_CO_codeOwnCall_22 : decode b_CO_codeOwnCall 22 = .ok (.aload_n 2, 1) := bz_c44 (by decide +kernel)
theorem d_CO_codeOwnCall_23 : decode b_CO_codeOwnCall 23 = .ok (.invokevirtual 250, 3) := bz_c182 (by decide +kernel)
theorem d_CO_codeOwnCall_26 : decode b_CO_codeOwnCall 26 = .ok (.if_icmp .ne 7, 3) := bz_c160 (by decide +kernel)
theorem d_CO_codeOwnCall_29 : decode b_CO_codeOwnCall 29 = .ok (.iconst 1, 1) := bz_c4 (by decide +kernel)
theorem d_CO_codeOwnCall_30 : decode b_CO_codeOwnCall 30 = .ok (.goto 4, 3) := bz_c167 (by decide +kernel)
theorem d_CO_codeOwnCall_33 : decode b_CO_codeOwnCall 33 = .ok (.iconst 0, 1) := bz_c3 (by decide +kernel)
theorem d_CO_codeOwnCall_34 : decode b_CO_codeOwnCall 34 = .ok (.istore 4, 2) := bz_c54 (by decide +kernel)
theorem d_CO_codeOwnCall_36 : decode b_CO_codeOwnCall 36 = .ok (.iload_n 3, 1) := bz_c29 (by decide +kernel)
theorem d_CO_codeOwnCall_37 : decode b_CO_codeOwnCall 37 = .ok (.iconst 1, 1) := bz_c4 (by decide +kernel)
theorem d_CO_codeOwnCall_38 : decode b_CO_codeOwnCall 38 = .ok (.isub, 1) := bz_c100 (by decide +kernel)
theorem d_CO_codeOwnCall_39 : decode b_CO_codeOwnCall 39 = .ok (.istore 5, 2) := bz_c54 (by decide +kernel)
theorem d_CO_codeOwnCall_41 : decode b_CO_codeOwnCall 41 = .ok (.iload 5, 2) := bz_c21 (by decide +kernel)
theorem d_CO_codeOwnCall_43 : decode b_CO_codeOwnCall 43 = .ok (.ifCond .lt 48, 3) := bz_c155 (by decide +kernel)
theorem d_CO_codeOwnCall_46 : decode b_CO_codeOwnCall 46 = .ok (.aload_n 0, 1) := bz_c42 (by decide +kernel)
theorem d_CO_codeOwnCall_47 : decode b_CO_codeOwnCall 47 = .ok (.invokevirtual 224, 3) := bz_c182 (by decide +kernel)
theorem d_CO_codeOwnCall_50 : decode b_CO_codeOwnCall 50 = .ok (.istore 6, 2) := bz_c54 (by decide +kernel)
theorem d_CO_codeOwnCall_52 : decode b_CO_codeOwnCall 52 = .ok (.iload 4, 2) := bz_c21 (by decide +kernel)
theorem d_CO_codeOwnCall_54 : decode b_CO_codeOwnCall 54 = .ok (.ifCond .eq 28, 3) := bz_c153 (by decide +kernel)
theorem d_CO_codeOwnCall_57 : decode b_CO_codeOwnCall 57 = .ok (.iload 6, 2) := bz_c21 (by decide +kernel)
theorem d_CO_codeOwnCall_59 : decode b_CO_codeOwnCall 59 = .ok (.iload 5, 2) := bz_c21 (by decide +kernel)
theorem d_CO_codeOwnCall_61 : decode b_CO_codeOwnCall 61 = .ok (.ifCond .ne 10, 3) := bz_c154 (by decide +kernel)
theorem d_CO_codeOwnCall_64 : decode b_CO_codeOwnCall 64 = .ok (.aload_n 2, 1) := bz_c44 (by decide +kernel)
theorem d_CO_codeOwnCall_65 : decode b_CO_codeOwnCall 65 = .ok (.getfield 253, 3) := bz_c180 (by decide +kernel)
theorem d_CO_codeOwnCall_68 : decode b_CO_codeOwnCall 68 = .ok (.goto 7, 3) := bz_c167 (by decide +kernel)
theorem d_CO_codeOwnCall_71 : decode b_CO_codeOwnCall 71 = .ok (.aload_n 2, 1) := bz_c44 (by decide +kernel)
theorem d_CO_codeOwnCall_72 : decode b_CO_codeOwnCall 72 = .ok (.getfield 256, 3) := bz_c180 (by decide +kernel)
theorem d_CO_codeOwnCall_75 : decode b_CO_codeOwnCall 75 = .ok (.if_icmp .ne 7, 3) := bz_c160 (by decide +kernel)
theorem d_CO_codeOwnCall_78 : decode b_CO_codeOwnCall 78 = .ok (.iconst 1, 1) := bz_c4 (by decide +kernel)
theorem d_CO_codeOwnCall_79 : decode b_CO_codeOwnCall 79 = .ok (.goto 4, 3) := bz_c167 (by decide +kernel)
theorem d_CO_codeOwnCall_82 : decode b_CO_codeOwnCall 82 = .ok (.iconst 0, 1) := bz_c3 (by decide +kernel)
theorem d_CO_codeOwnCall_83 : decode b_CO_codeOwnCall 83 = .ok (.istore 4, 2) := bz_c54 (by decide +kernel)
theorem d_CO_codeOwnCall_85 : decode b_CO_codeOwnCall 85 = .ok (.iinc 5 (-1), 3) := by decide +kernel
theorem d_CO_codeOwnCall_88 : decode b_CO_codeOwnCall 88 = .ok (.goto (-47), 3) := bz_c167 (by decide +kernel)
theorem d_CO_codeOwnCall_91 : decode b_CO_codeOwnCall 91 = .ok (.iload 4, 2) := bz_c21 (by decide +kernel)
theorem d_CO_codeOwnCall_93 : decode b_CO_codeOwnCall 93 = .ok (.ifCond .ne 20, 3) := bz_c154 (by decide +kernel)
theorem d_CO_codeOwnCall_96 : decode b_CO_codeOwnCall 96 = .ok (.aload_n 0, 1) := bz_c42 (by decide +kernel)
theorem d_CO_codeOwnCall_97 : decode b_CO_codeOwnCall 97 = .ok (.getfield 36, 3) := bz_c180 (by decide +kernel)
theorem d_CO_codeOwnCall_100 : decode b_CO_codeOwnCall 100 = .ok (.iconst 3, 1) := bz_c6 (by decide +kernel)
theorem d_CO_codeOwnCall_101 : decode b_CO_codeOwnCall 101 = .ok (.aload_n 0, 1) := bz_c42 (by decide +kernel)
theorem d_CO_codeOwnCall_102 : decode b_CO_codeOwnCall 102 = .ok (.getfield 36, 3) := bz_c180 (by decide +kernel)
theorem d_CO_codeOwnCall_105 : decode b_CO_codeOwnCall 105 = .ok (.getfield 193, 3) := bz_c180 (by decide +kernel)
theorem d_CO_codeOwnCall_108 : decode b_CO_codeOwnCall 108 = .ok (.iload_n 1, 1) := bz_c27 (by decide +kernel)
theorem d_CO_codeOwnCall_109 : decode b_CO_codeOwnCall 109 = .ok (.iaload, 1) := bz_c46 (by decide +kernel)
theorem d_CO_codeOwnCall_110 : decode b_CO_codeOwnCall 110 = .ok (.invokevirtual 105, 3) := bz_c182 (by decide +kernel)
theorem d_CO_codeOwnCall_113 : decode b_CO_codeOwnCall 113 = .ok (.aload_n 0, 1) := bz_c42 (by decide +kernel)
theorem d_CO_codeOwnCall_114 : decode b_CO_codeOwnCall 114 = .ok (.getfield 26, 3) := bz_c180 (by decide +kernel)
theorem d_CO_codeOwnCall_117 : decode b_CO_codeOwnCall 117 = .ok (.aload_n 2, 1) := bz_c44 (by decide +kernel)
theorem d_CO_codeOwnCall_118 : decode b_CO_codeOwnCall 118 = .ok (.getfield 230, 3) := bz_c180 (by decide +kernel)
theorem d_CO_codeOwnCall_121 : decode b_CO_codeOwnCall 121 = .ok (.invokevirtual 76, 3) := bz_c182 (by decide +kernel)
theorem d_CO_codeOwnCall_124 : decode b_CO_codeOwnCall 124 = .ok (.aload_n 2, 1) := bz_c44 (by decide +kernel)
theorem d_CO_codeOwnCall_125 : decode b_CO_codeOwnCall 125 = .ok (.getfield 230, 3) := bz_c180 (by decide +kernel)
theorem d_CO_codeOwnCall_128 : decode b_CO_codeOwnCall 128 = .ok (.invokestatic 259, 3) := bz_c184 (by decide +kernel)
theorem d_CO_codeOwnCall_131 : decode b_CO_codeOwnCall 131 = .ok (.ifCond .eq 28, 3) := bz_c153 (by decide +kernel)
theorem d_CO_codeOwnCall_134 : decode b_CO_codeOwnCall 134 = .ok (.aload_n 0, 1) := bz_c42 (by decide +kernel)
theorem d_CO_codeOwnCall_135 : decode b_CO_codeOwnCall 135 = .ok (.getfield 26, 3) := bz_c180 (by decide +kernel)
theorem d_CO_codeOwnCall_138 : decode b_CO_codeOwnCall 138 = .ok (.aload_n 2, 1) := bz_c44 (by decide +kernel)
theorem d_CO_codeOwnCall_139 : decode b_CO_codeOwnCall 139 = .ok (.getfield 230, 3) := bz_c180 (by decide +kernel)
theorem d_CO_codeOwnCall_142 : decode b_CO_codeOwnCall 142 = .ok (.invokestatic 265, 3) := bz_c184 (by decide +kernel)
theorem d_CO_codeOwnCall_145 : decode b_CO_codeOwnCall 145 = .ok (.invokevirtual 76, 3) := bz_c182 (by decide +kernel)
theorem d_CO_codeOwnCall_148 : decode b_CO_codeOwnCall 148 = .ok (.aload_n 0, 1) := bz_c42 (by decide +kernel)
theorem d_CO_codeOwnCall_149 : decode b_CO_codeOwnCall 149 = .ok (.getfield 26, 3) := bz_c180 (by decide +kernel)
theorem d_CO_codeOwnCall_152 : decode b_CO_codeOwnCall 152 = .ok (.iconst 0, 1) := bz_c3 (by decide +kernel)
theorem d_CO_codeOwnCall_153 : decode b_CO_codeOwnCall 153 = .ok (.invokevirtual 76, 3) := bz_c182 (by decide +kernel)
theorem d_CO_codeOwnCall_156 : decode b_CO_codeOwnCall 156 = .ok (.goto 18, 3) := bz_c167 (by decide +kernel)
theorem d_CO_codeOwnCall_159 : decode b_CO_codeOwnCall 159 = .ok (.aload_n 2, 1) := bz_c44 (by decide +kernel)
theorem d_CO_codeOwnCall_160 : decode b_CO_codeOwnCall 160 = .ok (.getstatic 269, 3) := bz_c178 (by decide +kernel)
theorem d_CO_codeOwnCall_163 : decode b_CO_codeOwnCall 163 = .ok (.if_acmp .eq 11, 3) := bz_c165 (by decide +kernel)
theorem d_CO_codeOwnCall_166 : decode b_CO_codeOwnCall 166 = .ok (.aload_n 0, 1) := bz_c42 (by decide +kernel)
theorem d_CO_codeOwnCall_167 : decode b_CO_codeOwnCall 167 = .ok (.getfield 26, 3) := bz_c180 (by decide +kernel)
theorem d_CO_codeOwnCall_170 : decode b_CO_codeOwnCall 170 = .ok (.iconst 0, 1) := bz_c3 (by decide +kernel)
theorem d_CO_codeOwnCall_171 : decode b_CO_codeOwnCall 171 = .ok (.invokevirtual 76, 3) := bz_c182 (by decide +kernel)
theorem d_CO_codeOwnCall_174 : decode b_CO_codeOwnCall 174 = .ok (.aload_n 0, 1) := bz_c42 (by decide +kernel)
theorem d_CO_codeOwnCall_175 : decode b_CO_codeOwnCall 175 = .ok (.aload_n 2, 1) := bz_c44 (by decide +kernel)
theorem d_CO_codeOwnCall_176 : decode b_CO_codeOwnCall 176 = .ok (.getfield 272, 3) := bz_c180 (by decide +kernel)
theorem d_CO_codeOwnCall_179 : decode b_CO_codeOwnCall 179 = .ok (.invokevirtual 183, 3) := bz_c182 (by decide +kernel)
theorem d_CO_codeOwnCall_182 : decode b_CO_codeOwnCall 182 = .ok (.return_, 1) := bz_c177 (by decide +kernel)
theorem kM_CO_250 : Cond.methodLink R_CO 250 y_SG_takes ∈ lw_g := in_c5 208 rfl rfl
theorem kV_SG_takes : Cond.instanceMethod y_SG_takes ∈ lw_g := in_c5 209 rfl rfl
theorem kS_SG_takes : Cond.selects R_SG y_SG_takes y_SG_takes ∈ lw_g := in_c5 210 rfl rfl
theorem kM_CO_259 : Cond.methodLink R_CO 259 y_CD_isAccess ∈ lw_g := in_c5 212 rfl rfl
theorem kM_CO_265 : Cond.methodLink R_CO 265 y_CD_greatestAlignment ∈ lw_g := in_c5 218 rfl rfl
theorem kF_CO_166 : Cond.fieldLink R_CO 166 "WaferForge$Program" "signs" "[LWaferForge$Sign;" ∈ lw_g := in_c2 113 rfl rfl
theorem kF_CO_269 : Cond.fieldLink R_CO 269 "WaferForge$Sign" "TRAP" "LWaferForge$Sign;" ∈ lw_g := in_c5 225 rfl rfl
theorem kF_CO_272 : Cond.fieldLink R_CO 272 "WaferForge$Sign" "gives" "I" ∈ lw_g := in_c14 2 rfl rfl
theorem kF_CO_256 : Cond.fieldLink R_CO 256 "WaferForge$Sign" "takesSecond" "I" ∈ lw_g := in_c14 1 rfl rfl
theorem kF_CO_253 : Cond.fieldLink R_CO 253 "WaferForge$Sign" "takesFirst" "I" ∈ lw_g := in_c14 0 rfl rfl
abbrev at_CO_codeOwnCall (dC : Nat → ClassId) (dI : Nat → Nat → Nat) (sa : Nat → Nat) (h0 pr kn lt pe to bo cs se gl fu pa pf sf pk pg pp pz pv pr_scanner_r pr_waiting_r pr_waitingPlaces_r bob : Nat) (cpe cbob cpg cpp cpv : ClassId) (h0_localCount : Int32) (h0_gives : Int32) (h0_depth : Int32) (h0_loopDepth : Int32) (pr_stepCount : Int32) (pr_open : Int32) (pr_twoSides : Int32) (pr_waitingCount : Int32) (gpg : Nat → Option Nat) (gpp : Nat → Int32) (gpv : Nat → Int64) (A : Nat → Prop) (u : (Nat → Int32) × (Nat → Int32) × Int32 × Int32 × Int32 × Int32) (t : State) : Prop := match u with | (gbob, gpe, bo_length, h0_pendingCount, pr_place, pr_reason) => va_P (dC, dI) cls (wz_181 h0 pr kn lt h0_localCount pe h0_pendingCount h0_gives h0_depth h0_loopDepth to bo cs se pr gl fu pa pf sf pk pg pp pz pv pr_reason pr_place pr_scanner_r pr_stepCount pr_open pr_twoSides pr_waiting_r pr_waitingPlaces_r pr_waitingCount pe cpe gpe bo bob bo_length bob cbob gbob pg cpg (fun j => (gpg j).map (sg sa)) pp cpp gpp pv cpv gpv) t.heap ∧ va_K (dC, dI) cls [(cpe, .int), (cbob, .byte), (cpg, .object "WaferForge$Sign"), (cpp, .int), (cpv, .long)] t ∧ va_D A (wz_181 h0 pr kn lt h0_localCount pe h0_pendingCount h0_gives h0_depth h0_loopDepth to bo cs se pr gl fu pa pf sf pk pg pp pz pv pr_reason pr_place pr_scanner_r pr_stepCount pr_open pr_twoSides pr_waiting_r pr_waitingPlaces_r pr_waitingCount pe cpe gpe bo bob bo_length bob cbob gbob pg cpg (fun j => (gpg j).map (sg sa)) pp cpp gpp pv cpv gpv)
set_option maxHeartbeats 4000000 in
set_option maxRecDepth 100000 in
theorem c_CO_codeOwnCall (l : Launch) (hlt : l.stackTraces = false) (dC : Nat → ClassId) (dI : Nat → Nat → Nat) (sz : Nat) (sa : Nat → Nat) (h0 pr kn lt pe to bo cs se gl fu pa pf sf pk pg pp pz pv pr_scanner_r pr_waiting_r pr_waitingPlaces_r bob : Nat) (cpe cbob cpg cpp cpv : ClassId) (h0_localCount : Int32) (h0_pendingCount : Int32) (h0_gives : Int32) (h0_depth : Int32) (h0_loopDepth : Int32) (pr_reason : Int32) (pr_place : Int32) (pr_stepCount : Int32) (pr_open : Int32) (pr_twoSides : Int32) (pr_waitingCount : Int32) (gpe : Nat → Int32) (bo_length : Int32) (gbob : Nat → Int32) (gpg : Nat → Option Nat) (gpp : Nat → Int32) (gpv : Nat → Int64) (ka : Nat)  (b_h0_pendingCount : 0 ≤ h0_pendingCount.toInt ∧ h0_pendingCount.toInt ≤ 680) (b_bo_length : 0 ≤ bo_length.toInt ∧ bo_length.toInt ≤ 8192) (p0 : Int32)  (hi : 0 ≤ p0.toInt ∧ p0.toInt < 4100) (hka : 17 ≤ ka ∧ ka ≤ 25) (hsg : gpg p0.toNatClampNeg = some ka) (hv : 0 ≤ (gpv p0.toNatClampNeg).toInt ∧ (gpv p0.toNatClampNeg).toInt ≤ 8 ∧ (gpv p0.toNatClampNeg).toInt ≤ h0_pendingCount.toInt) (hp9 : h0_pendingCount.toInt - (gpv p0.toNatClampNeg).toInt < 680) (hbo : bo_length.toInt + 3 ≤ 8192) : tz_Met l y_CO_codeOwnCall w_CO_codeOwnCall ({ frames := 7, cells := 1, slots := 6, locals := 112 }) (va_Pc [.ref h0, .int p0] (fun U => U.heap.size = sz ∧ va_P (dC, dI) cls (wz_181 h0 pr kn lt h0_localCount pe h0_pendingCount h0_gives h0_depth h0_loopDepth to bo cs se pr gl fu pa pf sf pk pg pp pz pv pr_reason pr_place pr_scanner_r pr_stepCount pr_open pr_twoSides pr_waiting_r pr_waitingPlaces_r pr_waitingCount pe cpe gpe bo bob bo_length bob cbob gbob pg cpg (fun j => (gpg j).map (sg sa)) pp cpp gpp pv cpv gpv) U.heap ∧ va_K (dC, dI) cls [(cpe, .int), (cbob, .byte), (cpg, .object "WaferForge$Sign"), (cpp, .int), (cpv, .long)] U ∧ va_D (fun _ => True) (wz_181 h0 pr kn lt h0_localCount pe h0_pendingCount h0_gives h0_depth h0_loopDepth to bo cs se pr gl fu pa pf sf pk pg pp pz pv pr_reason pr_place pr_scanner_r pr_stepCount pr_open pr_twoSides pr_waiting_r pr_waitingPlaces_r pr_waitingCount pe cpe gpe bo bob bo_length bob cbob gbob pg cpg (fun j => (gpg j).map (sg sa)) pp cpp gpp pv cpv gpv) ∧ sw sa (va_A (wz_181 h0 pr kn lt h0_localCount pe h0_pendingCount h0_gives h0_depth h0_loopDepth to bo cs se pr gl fu pa pf sf pk pg pp pz pv pr_reason pr_place pr_scanner_r pr_stepCount pr_open pr_twoSides pr_waiting_r pr_waitingPlaces_r pr_waitingCount pe cpe gpe bo bob bo_length bob cbob gbob pg cpg (fun j => (gpg j).map (sg sa)) pp cpp gpp pv cpv gpv) sz) U U.heap)) (tq_Q (tq_v (fun (u : (Nat → Int32) × (Nat → Int32) × Int32 × Int32 × Int32 × Int32) => match u with | (gbob2, gpe2, bo_length2, h0_pendingCount2, pr_place2, pr_reason2) => (0 ≤ bo_length2.toInt ∧ bo_length2.toInt ≤ 8192) ∧ (0 ≤ h0_pendingCount2.toInt ∧ h0_pendingCount2.toInt ≤ 680) ∧ (h0_pendingCount2.toInt = h0_pendingCount.toInt - (gpv p0.toNatClampNeg).toInt + 1 ∧ (∀ j : Nat, h0_pendingCount.toInt - (gpv p0.toNatClampNeg).toInt ≤ (j : Int) → (j : Int) < h0_pendingCount.toInt → (gpe j).toInt ≠ 64) ∧ ∃ (a : Int) (M : List Nat), (M = en ((sg_code32.getD ka 0).toInt, a) ∧ iok ((sg_code32.getD ka 0).toInt, a)) ∧ (M.length : Int) ≤ 3 ∧ (oc (sg_code32.getD ka 0).toInt (gpv p0.toNatClampNeg).toInt (sg_gives.getD ka 0).toInt ∧ ty (sg_gives.getD ka 0).toInt) ∧ gpe2 = upd gpe (h0_pendingCount.toInt - (gpv p0.toNatClampNeg).toInt).toNat (sg_gives.getD ka 0) ∧ bo_length2.toInt = bo_length.toInt + (M.length : Int) ∧ bl gbob2 bo_length2.toNatClampNeg = bl gbob bo_length.toNatClampNeg ++ M)) "java/lang/UnsupportedOperationException" (fun (u : (Nat → Int32) × (Nat → Int32) × Int32 × Int32 × Int32 × Int32) => match u with | (gbob2, gpe2, bo_length2, h0_pendingCount2, pr_place2, pr_reason2) => (0 ≤ bo_length2.toInt ∧ bo_length2.toInt ≤ 8192) ∧ (0 ≤ h0_pendingCount2.toInt ∧ h0_pendingCount2.toInt ≤ 680))) (at_CO_codeOwnCall dC dI sa h0 pr kn lt pe to bo cs se gl fu pa pf sf pk pg pp pz pv pr_scanner_r pr_waiting_r pr_waitingPlaces_r bob cpe cbob cpg cpp cpv h0_localCount h0_gives h0_depth h0_loopDepth pr_stepCount pr_open pr_twoSides pr_waitingCount gpg gpp gpv (va_A (wz_181 h0 pr kn lt h0_localCount pe h0_pendingCount h0_gives h0_depth h0_loopDepth to bo cs se pr gl fu pa pf sf pk pg pp pz pv pr_reason pr_place pr_scanner_r pr_stepCount pr_open pr_twoSides pr_waiting_r pr_waitingPlaces_r pr_waitingCount pe cpe gpe bo bob bo_length bob cbob gbob pg cpg (fun j => (gpg j).map (sg sa)) pp cpp gpp pv cpv gpv) sz)) (va_A (wz_181 h0 pr kn lt h0_localCount pe h0_pendingCount h0_gives h0_depth h0_loopDepth to bo cs se pr gl fu pa pf sf pk pg pp pz pv pr_reason pr_place pr_scanner_r pr_stepCount pr_open pr_twoSides pr_waiting_r pr_waitingPlaces_r pr_waitingCount pe cpe gpe bo bob bo_length bob cbob gbob pg cpg (fun j => (gpg j).map (sg sa)) pp cpp gpp pv cpv gpv) sz)) (tz_k 0 0 1 6) (va_A (wz_181 h0 pr kn lt h0_localCount pe h0_pendingCount h0_gives h0_depth h0_loopDepth to bo cs se pr gl fu pa pf sf pk pg pp pz pv pr_reason pr_place pr_scanner_r pr_stepCount pr_open pr_twoSides pr_waiting_r pr_waitingPlaces_r pr_waitingCount pe cpe gpe bo bob bo_length bob cbob gbob pg cpg (fun j => (gpg j).map (sg sa)) pp cpp gpp pv cpv gpv) sz) := by
  refine tz_ofW (cc := b_CO_codeOwnCall) (maxL := 7) (ret := none) (by decide) rfl ?_
  intro p e s m args below meth c s₁ B hml hno hv
  obtain ⟨rfl, hsz, hP, hK, hD0, hSW⟩ := hv
  have hx := B.exec
  have hb := B.bytes
  have hr := B.returns
  have hts0 := atoms_spec (ws := w_CO_codeOwnCall) B.pre
  have hts : ∀ w ∈ lw_g, w.before _ s = true := fun w h => hts0 w (List.mem_cons_of_mem _ h)
  have hown : s.vm.findClass R_CO = some m.cls := findClass_of_methodNamed B.named
  have hlocks := B.notSynchronized
  clear hts0
  subst hsz
  have hD := hD0.self (sz := s.heap.size)
  generalize hAe : va_A (wz_181 h0 pr kn lt h0_localCount pe h0_pendingCount h0_gives h0_depth h0_loopDepth to bo cs se pr gl fu pa pf sf pk pg pp pz pv pr_reason pr_place pr_scanner_r pr_stepCount pr_open pr_twoSides pr_waiting_r pr_waitingPlaces_r pr_waitingCount pe cpe gpe bo bob bo_length bob cbob gbob pg cpg (fun j => (gpg j).map (sg sa)) pp cpp gpp pv cpv gpv) s.heap.size = A at hD hSW ⊢
  have hA : ∀ q : Nat, s.heap.size ≤ q → A q := fun q h => by rw [← hAe]; exact Or.inr h
  clear hAe
  have hP : va_P (dC, dI) cls (wz_181 h0 pr kn lt h0_localCount pe h0_pendingCount h0_gives h0_depth h0_loopDepth to bo cs se pr gl fu pa pf sf pk pg pp pz pv pr_reason pr_place pr_scanner_r pr_stepCount pr_open pr_twoSides pr_waiting_r pr_waitingPlaces_r pr_waitingCount pe cpe gpe bo bob bo_length bob cbob gbob pg cpg (fun j => (gpg j).map (sg sa)) pp cpp gpp pv cpv gpv) s.heap := hP
  have hl := lv_entry ([.ref h0, .int p0]) (n := 7) (Nat.le_of_ble_eq_true rfl)
  rw [lg_entry_eq]
  generalize (lg_sl ([.ref h0, .int p0]) ++ List.replicate (7 - (lg_sl ([.ref h0, .int p0])).length) Slot.unset).toArray = ls at hl ⊢
  have hl : lv_has ls 7 [(0, .ref h0), (1, .int p0)] := hl
  have k0 : (0 : Int32).toInt = 0 := by decide
  refine w_gen (A := A) hP (fun H locs hP hS => ?_)
  have km1 : (-1 : Int32).toInt = -1 := by decide
  have k1 : (1 : Int32).toInt = 1 := by decide
  have k3 : (3 : Int32).toInt = 3 := by decide
  have lo_p0 := i32_lo p0
  have hi_p0 := i32_hi p0
  refine lv_aload_n hx hb d_CO_codeOwnCall_0 rfl (lv_at hl 0 rfl) ?_
  refine va_get (D := (dC, dI)) (ci := 2) (v := .ref pr) (C := R_CO) (T := F_CO) (N := 13) hx hb hts i_CO hown hK hP 0 rfl rfl 0 (by decide) (hts _ kF_CO_36) (fun _ h9 => h9) rfl d_CO_codeOwnCall_1 ?_
  refine va_get (D := (dC, dI)) (ci := 6) (v := .ref pg) (C := R_PR) (T := F_PR) (N := 19) hx hb hts i_PR hown hK hP 1 rfl rfl 6 (by decide) (hts _ kF_CO_166) (fun _ h9 => h9) rfl d_CO_codeOwnCall_4 ?_
  refine lv_iload_n hx hb d_CO_codeOwnCall_7 rfl (lv_at hl 1 rfl) ?_
  have g8 : vp_in p0 4100 := vp_in_iff.mpr ⟨by (first | (apply Int.le_antisymm <;> omega) | omega), by (first | (apply Int.le_antisymm <;> omega) | omega)⟩
  obtain ⟨k1, hk1, ek1⟩ : ∃ z : Nat, z < 55 ∧ gpg p0.toNatClampNeg = some z := ⟨ka, by (first | (apply Int.le_antisymm <;> omega) | omega), hsg⟩
  refine va_aldq hx hb hK hP 5 2 rfl rfl g8 d_CO_codeOwnCall_8 ?_
  refine w_top (v2 := .ref (sg sa k1)) (by show va_rf ((gpg p0.toNatClampNeg).map (sg sa)) = _; rw [ek1]; rfl) ?_
  have b9 : ka < 55 := by (first | (apply Int.le_antisymm <;> omega) | omega)
  have k9 : ka = k1 := Option.some.inj (hsg.symm.trans ek1)
  subst k9
  refine lv_astore_n (lv' := [(2, .ref (sg sa ka)), (0, .ref h0), (1, .int p0)]) hx hb d_CO_codeOwnCall_9 rfl hl (by decide) rfl (fun ls hl => ?_)
  refine lv_aload_n hx hb d_CO_codeOwnCall_10 rfl (lv_at hl 1 rfl) ?_
  refine va_get (D := (dC, dI)) (ci := 2) (v := .ref pr) (C := R_CO) (T := F_CO) (N := 13) hx hb hts i_CO hown hK hP 0 rfl rfl 0 (by decide) (hts _ kF_CO_36) (fun _ h9 => h9) rfl d_CO_codeOwnCall_11 ?_
  refine va_get (D := (dC, dI)) (ci := 6) (v := .ref pv) (C := R_PR) (T := F_PR) (N := 19) hx hb hts i_PR hown hK hP 1 rfl rfl 9 (by decide) (hts _ kF_CO_175) (fun _ h9 => h9) rfl d_CO_codeOwnCall_14 ?_
  refine lv_iload_n hx hb d_CO_codeOwnCall_17 rfl (lv_at hl 2 rfl) ?_
  have g18 : vp_in p0 4100 := vp_in_iff.mpr ⟨by (first | (apply Int.le_antisymm <;> omega) | omega), by (first | (apply Int.le_antisymm <;> omega) | omega)⟩
  refine va_lald hx hb hK hP 7 4 rfl rfl g18 d_CO_codeOwnCall_18 ?_
  refine lv_topl (fun x2 ex2 => ?_)
  have tx2 := hv
  rw [← ex2] at tx2
  have gx2 := congrArg Int64.toInt ex2
  refine lv_l2i hx hb d_CO_codeOwnCall_19 rfl ?_
  refine lv_topi (fun x3 ex3 => ?_)
  have tx3 := l2i_t ex3 (by (first | (apply Int.le_antisymm <;> omega) | omega)) (by (first | (apply Int.le_antisymm <;> omega) | omega))
  refine lv_istore_n (lv' := [(3, .int x3), (2, .ref (sg sa ka)), (0, .ref h0), (1, .int p0)]) hx hb d_CO_codeOwnCall_20 rfl hl (by decide) rfl (fun ls hl => ?_)
  refine lv_iload_n hx hb d_CO_codeOwnCall_21 rfl (lv_at hl 0 rfl) ?_
  refine lv_aload_n hx hb d_CO_codeOwnCall_22 rfl (lv_at hl 1 rfl) ?_
  have hPc := hP.sb (wq := []) [] rfl
  have hDc := hD.sb (wq := []) [] (by decide) rfl
  have hKc := hK.sb (tyq := []) [] rfl
  have hFc := va_free (wc := []) hD hS hA [] rfl
  refine va_calli (va_runV (As := []) (rest := [.int x3]) ⟨hx, hb, hml, hown, hts⟩ (c_SG_takes l dC dI H.size sa ka b9 ) (cwV 0 hts (gV kM_CO_250 kV_SG_takes kS_SG_takes kI_SG kC_SG_takes) rfl rfl rfl (by decide +kernel) ⟨Nat.le_of_ble_eq_true rfl, Nat.le_of_ble_eq_true rfl⟩) ⟨fun a U g mk z => by obtain ⟨z0, z1, zP, zK, zD, zS⟩ := z; exact ⟨z0, z1, zP, va_K.moved (u := U) (U := U.calling g mk a) (Vm.Alike.refl U.vm) zK, zD, sw.same (u := U) (U := U.calling g mk a) rfl zS⟩, va_recvE (i := ka) hSW.2.2.2.1 b9 hS, fun U hU hW => ⟨rfl, by rw [hU], va_P.he hU.symm hPc, va_K.moved hW.alike hKc, hDc.weaken (fun _ _ _ _ => trivial), hSW.call hS hFc hW hU⟩⟩ rfl rfl hl.1 rfl (lv_room (Nat.le_of_ble_eq_true rfl)) d_CO_codeOwnCall_23 ⟨(Nat.zero_le _), (Nat.zero_le _)⟩) hS (fun q _ h => hFc q h) hFc (fun r4 u t H1 locs ht hvm hw hB hz1 hk1 hS => ?_)
  try dsimp only at hw
  have xr4 := hw
  try clear hw
  have tk34 := tkn_of xr4.1 xr4.2.1 xr4.2.2.1 xr4.2.2.2
  obtain ⟨hP1, hK1, hD1⟩ := hB
  replace hP1 := va_P.he ht hP1
  obtain ⟨hP, hD⟩ := va_join (wr := (wz_181 h0 pr kn lt h0_localCount pe h0_pendingCount h0_gives h0_depth h0_loopDepth to bo cs se pr gl fu pa pf sf pk pg pp pz pv pr_reason pr_place pr_scanner_r pr_stepCount pr_open pr_twoSides pr_waiting_r pr_waitingPlaces_r pr_waitingCount pe cpe gpe bo bob bo_length bob cbob gbob pg cpg (fun j => (gpg j).map (sg sa)) pp cpp gpp pv cpv gpv)) (w1 := []) hP hD [] [0, 1, 2, 3, 4, 5, 6, 7] rfl rfl (by decide) (by decide) hk1 hFc hP1 hD1
  clear hPc hDc hKc hFc hz1 hk1 hP1 hK1 hD1
  rename Heap => H
  have hP : va_P (dC, dI) cls (wz_181 h0 pr kn lt h0_localCount pe h0_pendingCount h0_gives h0_depth h0_loopDepth to bo cs se pr gl fu pa pf sf pk pg pp pz pv pr_reason pr_place pr_scanner_r pr_stepCount pr_open pr_twoSides pr_waiting_r pr_waitingPlaces_r pr_waitingCount pe cpe gpe bo bob bo_length bob cbob gbob pg cpg (fun j => (gpg j).map (sg sa)) pp cpp gpp pv cpv gpv) H := hP
  have hD : va_D A (wz_181 h0 pr kn lt h0_localCount pe h0_pendingCount h0_gives h0_depth h0_loopDepth to bo cs se pr gl fu pa pf sf pk pg pp pz pv pr_reason pr_place pr_scanner_r pr_stepCount pr_open pr_twoSides pr_waiting_r pr_waitingPlaces_r pr_waitingCount pe cpe gpe bo bob bo_length bob cbob gbob pg cpg (fun j => (gpg j).map (sg sa)) pp cpp gpp pv cpv gpv) := hD
  refine w_cut (pc2 := 34) (σ := Int32) (fun u H locs ls => match u with | j34_s0 => (j34_s0 = 0 ∨ j34_s0 = 1) ∧ (bx (j34_s0 = 1 → x3.toInt = tkn ka)) ∧ va_P (dC, dI) cls (wz_181 h0 pr kn lt h0_localCount pe h0_pendingCount h0_gives h0_depth h0_loopDepth to bo cs se pr gl fu pa pf sf pk pg pp pz pv pr_reason pr_place pr_scanner_r pr_stepCount pr_open pr_twoSides pr_waiting_r pr_waitingPlaces_r pr_waitingCount pe cpe gpe bo bob bo_length bob cbob gbob pg cpg (fun j => (gpg j).map (sg sa)) pp cpp gpp pv cpv gpv) H ∧ va_D A (wz_181 h0 pr kn lt h0_localCount pe h0_pendingCount h0_gives h0_depth h0_loopDepth to bo cs se pr gl fu pa pf sf pk pg pp pz pv pr_reason pr_place pr_scanner_r pr_stepCount pr_open pr_twoSides pr_waiting_r pr_waitingPlaces_r pr_waitingCount pe cpe gpe bo bob bo_length bob cbob gbob pg cpg (fun j => (gpg j).map (sg sa)) pp cpp gpp pv cpv gpv) ∧ va_S A s.heap H locs ∧ lv_has ls 7 [(0, .ref h0), (1, .int p0), (2, .ref (sg sa ka)), (3, .int x3)]) (fun u => match u with | j34_s0 => [.int j34_s0]) ?_ (fun jn34 => ?_)
  · intro u H locs ls hI
    obtain ⟨j34_s0, rfl⟩ : ∃ z, z = u := ⟨_, rfl⟩
    obtain ⟨b_j34_s0, y34, hP, hD, hS, hl⟩ := hI
    have tj34_s0 := b01 b_j34_s0
    refine lv_istore (lv' := [(4, .int j34_s0), (0, .ref h0), (1, .int p0), (2, .ref (sg sa ka)), (3, .int x3)]) hx hb d_CO_codeOwnCall_34 hl (by decide) rfl (fun ls hl => ?_)
    refine lv_iload_n hx hb d_CO_codeOwnCall_36 rfl (lv_at hl 4 rfl) ?_
    refine lv_iconst (v := 1) hx hb d_CO_codeOwnCall_37 (by decide) ?_
    refine lv_isub hx hb d_CO_codeOwnCall_38 ?_
    refine lv_topi (fun x5 ex5 => ?_)
    have tx5 : x5.toInt = x3.toInt - 1 := by have z := i32_sub ex5 (by (first | (apply Int.le_antisymm <;> omega) | omega)) (by (first | (apply Int.le_antisymm <;> omega) | omega)); first | exact z | (first | (apply Int.le_antisymm <;> omega) | omega)
    refine lv_istore (lv' := [(5, .int x5), (4, .int j34_s0), (0, .ref h0), (1, .int p0), (2, .ref (sg sa ka)), (3, .int x3)]) hx hb d_CO_codeOwnCall_39 hl (by decide) rfl (fun ls hl => ?_)
    refine w_loop (σ := Int32 × Int32 × Int32) (fun u H locs ls => match u with | (j41_l4, j41_l5, j41_h0_pendingCount) => (j41_l4 = 0 ∨ j41_l4 = 1) ∧ (0 ≤ j41_h0_pendingCount.toInt ∧ j41_h0_pendingCount.toInt ≤ 680) ∧ (-1 ≤ j41_l5.toInt ∧ j41_l5.toInt < x3.toInt ∧ j41_h0_pendingCount.toInt = h0_pendingCount.toInt - x3.toInt + 1 + j41_l5.toInt) ∧ (bx (j41_l4 = 1 → x3.toInt = tkn ka ∧ ∀ j : Nat, j41_h0_pendingCount.toInt ≤ (j : Int) → (j : Int) < h0_pendingCount.toInt → (gpe j).toInt ≠ 64)) ∧ va_P (dC, dI) cls (wz_181 h0 pr kn lt h0_localCount pe j41_h0_pendingCount h0_gives h0_depth h0_loopDepth to bo cs se pr gl fu pa pf sf pk pg pp pz pv pr_reason pr_place pr_scanner_r pr_stepCount pr_open pr_twoSides pr_waiting_r pr_waitingPlaces_r pr_waitingCount pe cpe gpe bo bob bo_length bob cbob gbob pg cpg (fun j => (gpg j).map (sg sa)) pp cpp gpp pv cpv gpv) H ∧ va_D A (wz_181 h0 pr kn lt h0_localCount pe j41_h0_pendingCount h0_gives h0_depth h0_loopDepth to bo cs se pr gl fu pa pf sf pk pg pp pz pv pr_reason pr_place pr_scanner_r pr_stepCount pr_open pr_twoSides pr_waiting_r pr_waitingPlaces_r pr_waitingCount pe cpe gpe bo bob bo_length bob cbob gbob pg cpg (fun j => (gpg j).map (sg sa)) pp cpp gpp pv cpv gpv) ∧ va_S A s.heap H locs ∧ lv_has ls 7 [(0, .ref h0), (1, .int p0), (2, .ref (sg sa ka)), (4, .int j41_l4), (5, .int j41_l5)]) (fun u => match u with | (j41_l4, j41_l5, j41_h0_pendingCount) => (j41_l5.toInt + 1).toNat) ?_ (j34_s0, x5, h0_pendingCount) ⟨b_j34_s0, b_h0_pendingCount, by (try dsimp only) <;> (first | (apply Int.le_antisymm <;> omega) | omega), fun z => ⟨y34.out z, fun j j1 j2 => absurd j2 (by (first | (apply Int.le_antisymm <;> omega) | omega))⟩, hP, hD, hS, lv_sub hl [2, 3, 4, 1, 0] rfl⟩
    intro N41 ih41 u H locs ls hN41 hI
    obtain ⟨j41_l4, j41_l5, j41_h0_pendingCount⟩ := u
    obtain ⟨b_j41_l4, b_j41_h0_pendingCount, v1, hft, hP, hD, hS, hl⟩ := hI
    have tj41_l4 := b01 b_j41_l4
    have hN41 : (j41_l5.toInt + 1).toNat < N41 + 1 := hN41
    refine lv_iload hx hb d_CO_codeOwnCall_41 (lv_at hl 4 rfl) ?_
    refine lv_if_lt (tgt := 91) hx hb d_CO_codeOwnCall_43 (by decide) (fun c43 => ?_) (fun c43 => ?_)
    · have q43 := ltI c43
      refine lv_iload hx hb d_CO_codeOwnCall_91 (lv_at hl 3 rfl) ?_
      refine lv_if_ne (tgt := 113) hx hb d_CO_codeOwnCall_93 (by decide) (fun c93 => ?_) (fun c93 => ?_)
      · have q93 := neI c93
        have k113 := hft.out (by rcases b_j41_l4 with z | z; (exfalso; rw [z] at c93; exact c93 rfl); exact z)
        refine lv_aload_n hx hb d_CO_codeOwnCall_113 rfl (lv_at hl 0 rfl) ?_
        refine va_get (D := (dC, dI)) (ci := 2) (v := .ref bo) (C := R_CO) (T := F_CO) (N := 13) hx hb hts i_CO hown hK hP 0 rfl rfl 10 (by decide) (hts _ kF_CO_26) (fun _ h9 => h9) rfl d_CO_codeOwnCall_114 ?_
        refine lv_aload_n hx hb d_CO_codeOwnCall_117 rfl (lv_at hl 2 rfl) ?_
        refine va_getE (i := ka) (q := ("WaferForge$Sign", "code32", "I", sg_code32)) hx hb hSW.2.2.2.1 b9 hS hown (List.mem_of_getElem? (i := 2) rfl) (hts _ kF_CO_230) (fun _ h9 => h9) d_CO_codeOwnCall_118 ?_
        refine lv_topi (fun x6 ex6 => ?_)
        have ex6 : x6 = sg_code32.getD ka 0 := ex6
        have cb1 := sg_cb ka (by (first | (apply Int.le_antisymm <;> omega) | omega)) (by (first | (apply Int.le_antisymm <;> omega) | omega))
        rw [← ex6] at cb1
        have oc1 := (sg_oc ka (by (first | (apply Int.le_antisymm <;> omega) | omega)) (by (first | (apply Int.le_antisymm <;> omega) | omega))).1
        rw [← ex6] at oc1
        have hPc := hP.sb (wq := (wz_94 bo bob bo_length bob cbob gbob)) [3, 4] rfl
        have hDc := hD.sb (wq := (wz_94 bo bob bo_length bob cbob gbob)) [3, 4] (by decide) rfl
        have hKc := hK.sb (tyq := [(cbob, .byte)]) [1] rfl
        have hFc := va_free (wc := (wz_94 bo bob bo_length bob cbob gbob)) hD hS hA [3, 4] rfl
        refine va_callv (va_runV (As := [.int x6]) (rest := []) ⟨hx, hb, hml, hown, hts⟩ (c_BR_put l dC dI bo bob H.size cbob 8192 bo_length gbob (by (first | (apply Int.le_antisymm <;> omega) | omega)) (by (first | (apply Int.le_antisymm <;> omega) | omega)) (by (first | (apply Int.le_antisymm <;> omega) | omega)) x6) (cwV 1 hts (gV kM_CO_76 kV_BR_put kS_BR_put kI_BR kC_BR_put) rfl rfl rfl (by decide +kernel) ⟨Nat.le_of_ble_eq_true rfl, Nat.le_of_ble_eq_true rfl⟩) ⟨fun a U g mk z => by obtain ⟨z0, z1, zP, zK, zD⟩ := z; exact ⟨z0, z1, zP, va_K.moved (u := U) (U := U.calling g mk a) (Vm.Alike.refl U.vm) zK, zD⟩, va_recv hKc hPc (ci := 1) (q0 := 0) rfl rfl, fun U hU hW => ⟨rfl, by rw [hU], va_P.he hU.symm hPc, va_K.moved hW.alike hKc, hDc.weaken (fun _ _ _ _ => trivial)⟩⟩ rfl rfl hl.1 rfl (lv_room (Nat.le_of_ble_eq_true rfl)) d_CO_codeOwnCall_121 ⟨(Nat.zero_le _), (Nat.zero_le _)⟩) hS (fun q _ h => hFc q h) hFc (fun u t H1 locs ht hvm hw hB hz1 hk1 hS => ?_)
        obtain ⟨n8, f9⟩ := u
        try dsimp only at hw
        have tn8 := br_put_in (by (first | (apply Int.le_antisymm <;> omega) | omega)) (by (first | (apply Int.le_antisymm <;> omega) | omega)) (by (first | (apply Int.le_antisymm <;> omega) | omega)) hw
        have bn8 := br_put_bl (by (first | (apply Int.le_antisymm <;> omega) | omega)) (by (first | (apply Int.le_antisymm <;> omega) | omega)) (by (first | (apply Int.le_antisymm <;> omega) | omega)) hw
        obtain ⟨hP1, hK1, hD1⟩ := hB
        replace hP1 := va_P.he ht hP1
        obtain ⟨hP, hD⟩ := va_join (wr := (wz_182 h0 pr kn lt h0_localCount pe j41_h0_pendingCount h0_gives h0_depth h0_loopDepth to bo cs se pr gl fu pa pf sf pk pg pp pz pv pr_reason pr_place pr_scanner_r pr_stepCount pr_open pr_twoSides pr_waiting_r pr_waitingPlaces_r pr_waitingCount pe cpe gpe pg cpg (fun j => (gpg j).map (sg sa)) pp cpp gpp pv cpv gpv)) (w1 := (wz_94 bo bob n8 bob cbob f9)) hP hD [3, 4] [0, 1, 2, 5, 6, 7] rfl rfl (by decide) (by decide) hk1 hFc hP1 hD1
        clear hPc hDc hKc hFc hz1 hk1 hP1 hK1 hD1
        rename Heap => H
        have hP : va_P (dC, dI) cls (wz_183 h0 pr kn lt h0_localCount pe j41_h0_pendingCount h0_gives h0_depth h0_loopDepth to bo cs se pr gl fu pa pf sf pk pg pp pz pv pr_reason pr_place pr_scanner_r pr_stepCount pr_open pr_twoSides pr_waiting_r pr_waitingPlaces_r pr_waitingCount pe cpe gpe pg cpg (fun j => (gpg j).map (sg sa)) pp cpp gpp pv cpv gpv bo bob n8 bob cbob f9) H := hP
        have hD : va_D A (wz_183 h0 pr kn lt h0_localCount pe j41_h0_pendingCount h0_gives h0_depth h0_loopDepth to bo cs se pr gl fu pa pf sf pk pg pp pz pv pr_reason pr_place pr_scanner_r pr_stepCount pr_open pr_twoSides pr_waiting_r pr_waitingPlaces_r pr_waitingCount pe cpe gpe pg cpg (fun j => (gpg j).map (sg sa)) pp cpp gpp pv cpv gpv bo bob n8 bob cbob f9) := hD
        refine lv_aload_n hx hb d_CO_codeOwnCall_124 rfl (lv_at hl 2 rfl) ?_
        refine va_getE (i := ka) (q := ("WaferForge$Sign", "code32", "I", sg_code32)) hx hb hSW.2.2.2.1 b9 hS hown (List.mem_of_getElem? (i := 2) rfl) (hts _ kF_CO_230) (fun _ h9 => h9) d_CO_codeOwnCall_125 ?_
        refine lv_topi (fun x10 ex10 => ?_)
        have ex10 : x10 = sg_code32.getD ka 0 := ex10
        have ox10 : x10 = x6 := ex10.trans ex6.symm
        have ox10 := congrArg Int32.toInt ox10
        have hPc := hP.sb (wq := []) [] rfl
        have hDc := hD.sb (wq := []) [] (by decide) rfl
        have hKc := hK.sb (tyq := []) [] rfl
        have hFc := va_free (wc := []) hD hS hA [] rfl
        refine va_calli (va_runS (As := [.int x10]) (rest := []) ⟨hx, hb, hml, hown, hts⟩ (c_CD_isAccess l dC dI H.size x10) ⟨callB_of 1 hts (gW kC_CD_isAccess) rfl rfl rfl (hts _ kI_CD) (hts _ kM_CO_259) (by decide +kernel) ⟨Nat.le_of_ble_eq_true rfl, Nat.le_of_ble_eq_true rfl⟩, hts _ kT_CD_isAccess⟩ ⟨fun a U g mk z => by obtain ⟨z0, z1, zP, zK, zD⟩ := z; exact ⟨z0, z1, zP, va_K.moved (u := U) (U := U.calling g mk a) (Vm.Alike.refl U.vm) zK, zD⟩, fun U hU hW => ⟨rfl, by rw [hU], va_P.he hU.symm hPc, va_K.moved hW.alike hKc, hDc.weaken (fun _ _ _ _ => trivial)⟩⟩ rfl rfl hl.1 rfl (lv_room (Nat.le_of_ble_eq_true rfl)) d_CO_codeOwnCall_128 ⟨(Nat.zero_le _), (Nat.zero_le _)⟩) hS (fun q _ h => hFc q h) hFc (fun r11 u t H1 locs ht hvm hw hB hz1 hk1 hS => ?_)
        try dsimp only at hw
        have tr11 := hw
        obtain ⟨hP1, hK1, hD1⟩ := hB
        replace hP1 := va_P.he ht hP1
        obtain ⟨hP, hD⟩ := va_join (wr := (wz_183 h0 pr kn lt h0_localCount pe j41_h0_pendingCount h0_gives h0_depth h0_loopDepth to bo cs se pr gl fu pa pf sf pk pg pp pz pv pr_reason pr_place pr_scanner_r pr_stepCount pr_open pr_twoSides pr_waiting_r pr_waitingPlaces_r pr_waitingCount pe cpe gpe pg cpg (fun j => (gpg j).map (sg sa)) pp cpp gpp pv cpv gpv bo bob n8 bob cbob f9)) (w1 := []) hP hD [] [0, 1, 2, 3, 4, 5, 6, 7] rfl rfl (by decide) (by decide) hk1 hFc hP1 hD1
        clear hPc hDc hKc hFc hz1 hk1 hP1 hK1 hD1
        rename Heap => H
        have hP : va_P (dC, dI) cls (wz_183 h0 pr kn lt h0_localCount pe j41_h0_pendingCount h0_gives h0_depth h0_loopDepth to bo cs se pr gl fu pa pf sf pk pg pp pz pv pr_reason pr_place pr_scanner_r pr_stepCount pr_open pr_twoSides pr_waiting_r pr_waitingPlaces_r pr_waitingCount pe cpe gpe pg cpg (fun j => (gpg j).map (sg sa)) pp cpp gpp pv cpv gpv bo bob n8 bob cbob f9) H := hP
        have hD : va_D A (wz_183 h0 pr kn lt h0_localCount pe j41_h0_pendingCount h0_gives h0_depth h0_loopDepth to bo cs se pr gl fu pa pf sf pk pg pp pz pv pr_reason pr_place pr_scanner_r pr_stepCount pr_open pr_twoSides pr_waiting_r pr_waitingPlaces_r pr_waitingCount pe cpe gpe pg cpg (fun j => (gpg j).map (sg sa)) pp cpp gpp pv cpv gpv bo bob n8 bob cbob f9) := hD
        refine lv_if_eq (tgt := 159) hx hb d_CO_codeOwnCall_131 (by decide) (fun c131 => ?_) (fun c131 => ?_)
        · have q131 := eqI c131
          refine lv_aload_n hx hb d_CO_codeOwnCall_159 rfl (lv_at hl 2 rfl) ?_
          refine va_gets (C := "WaferForge$Sign") (n := "TRAP") (d := "LWaferForge$Sign;") (v := .ref (sg sa 25)) hx hb ((hSW.2.2.2.1.1 25 (by decide)).1) hS hown (hts _ kF_CO_269) (fun _ h9 => h9) d_CO_codeOwnCall_160 ?_
          refine lv_acmp_eq (rx := some (sg sa ka)) (ry := some (sg sa 25)) (tgt := 174) hx hb d_CO_codeOwnCall_163 (by decide) (fun c163 => ?_) (fun c163 => ?_)
          · have q163 : ka = 25 := hSW.2.2.2.1.2 ka 25 b9 (by decide : 25 < 55) (Option.some.inj c163)
            refine lv_aload_n hx hb d_CO_codeOwnCall_174 rfl (lv_at hl 0 rfl) ?_
            refine lv_aload_n hx hb d_CO_codeOwnCall_175 rfl (lv_at hl 2 rfl) ?_
            refine va_getE (i := ka) (q := ("WaferForge$Sign", "gives", "I", sg_gives)) hx hb hSW.2.2.2.1 b9 hS hown (List.mem_of_getElem? (i := 6) rfl) (hts _ kF_CO_272) (fun _ h9 => h9) d_CO_codeOwnCall_176 ?_
            refine lv_topi (fun x12 ex12 => ?_)
            have ex12 : x12 = sg_gives.getD ka 0 := ex12
            have hPc := hP.sb (wq := (wz_149 h0 pr kn lt h0_localCount pe j41_h0_pendingCount h0_gives h0_depth h0_loopDepth to bo cs se pe cpe gpe)) [0, 2] rfl
            have hDc := hD.sb (wq := (wz_149 h0 pr kn lt h0_localCount pe j41_h0_pendingCount h0_gives h0_depth h0_loopDepth to bo cs se pe cpe gpe)) [0, 2] (by decide) rfl
            have hKc := hK.sb (tyq := [(cpe, .int)]) [0] rfl
            have hFc := va_free (wc := (wz_149 h0 pr kn lt h0_localCount pe j41_h0_pendingCount h0_gives h0_depth h0_loopDepth to bo cs se pe cpe gpe)) hD hS hA [0, 2] rfl
            refine va_callv (va_runV (As := [.int x12]) (rest := []) ⟨hx, hb, hml, hown, hts⟩ (c_CO_push l dC dI H.size h0 pr kn lt pe to bo cs se cpe h0_localCount j41_h0_pendingCount h0_gives h0_depth h0_loopDepth gpe (b_j41_h0_pendingCount) x12 (by (try dsimp only) <;> (first | (apply Int.le_antisymm <;> omega) | omega))) (cwV 1 hts (gV kM_CO_183 kV_CO_push kS_CO_push kI_CO kC_CO_push) rfl rfl rfl (by decide +kernel) ⟨Nat.le_of_ble_eq_true rfl, Nat.le_of_ble_eq_true rfl⟩) ⟨fun a U g mk z => by obtain ⟨z0, z1, zP, zK, zD⟩ := z; exact ⟨z0, z1, zP, va_K.moved (u := U) (U := U.calling g mk a) (Vm.Alike.refl U.vm) zK, zD⟩, va_recv hKc hPc (ci := 2) (q0 := 0) rfl rfl, fun U hU hW => ⟨rfl, by rw [hU], va_P.he hU.symm hPc, va_K.moved hW.alike hKc, hDc.weaken (fun _ _ _ _ => trivial)⟩⟩ rfl rfl hl.1 rfl (lv_room (Nat.le_of_ble_eq_true rfl)) d_CO_codeOwnCall_179 ⟨(Nat.zero_le _), (Nat.zero_le _)⟩) hS (fun q _ h => hFc q h) hFc (fun u t H1 locs ht hvm hw hB hz1 hk1 hS => ?_)
            obtain ⟨n14, n15⟩ := u
            try dsimp only at hw
            obtain ⟨bn15, xr13⟩ := hw
            try clear hw
            obtain ⟨hP1, hK1, hD1⟩ := hB
            replace hP1 := va_P.he ht hP1
            obtain ⟨hP, hD⟩ := va_join (wr := (wz_184 pr gl fu pa pf sf pk pg pp pz pv pr_reason pr_place pr_scanner_r pr_stepCount pr_open pr_twoSides pr_waiting_r pr_waitingPlaces_r pr_waitingCount pg cpg (fun j => (gpg j).map (sg sa)) pp cpp gpp pv cpv gpv bo bob n8 bob cbob f9)) (w1 := (wz_149 h0 pr kn lt h0_localCount pe n15 h0_gives h0_depth h0_loopDepth to bo cs se pe cpe n14)) hP hD [0, 2] [1, 3, 4, 5, 6, 7] rfl rfl (by decide) (by decide) hk1 hFc hP1 hD1
            clear hPc hDc hKc hFc hz1 hk1 hP1 hK1 hD1
            rename Heap => H
            have hP : va_P (dC, dI) cls (wz_185 pr gl fu pa pf sf pk pg pp pz pv pr_reason pr_place pr_scanner_r pr_stepCount pr_open pr_twoSides pr_waiting_r pr_waitingPlaces_r pr_waitingCount pg cpg (fun j => (gpg j).map (sg sa)) pp cpp gpp pv cpv gpv bo bob n8 bob cbob f9 h0 pr kn lt h0_localCount pe n15 h0_gives h0_depth h0_loopDepth to bo cs se pe cpe n14) H := hP
            have hD : va_D A (wz_185 pr gl fu pa pf sf pk pg pp pz pv pr_reason pr_place pr_scanner_r pr_stepCount pr_open pr_twoSides pr_waiting_r pr_waitingPlaces_r pr_waitingCount pg cpg (fun j => (gpg j).map (sg sa)) pp cpp gpp pv cpv gpv bo bob n8 bob cbob f9 h0 pr kn lt h0_localCount pe n15 h0_gives h0_depth h0_loopDepth to bo cs se pe cpe n14) := hD
            have hP9 := hP.sb (wq := (wz_181 h0 pr kn lt h0_localCount pe n15 h0_gives h0_depth h0_loopDepth to bo cs se pr gl fu pa pf sf pk pg pp pz pv pr_reason pr_place pr_scanner_r pr_stepCount pr_open pr_twoSides pr_waiting_r pr_waitingPlaces_r pr_waitingCount pe cpe n14 bo bob n8 bob cbob f9 pg cpg (fun j => (gpg j).map (sg sa)) pp cpp gpp pv cpv gpv)) [6, 0, 7, 4, 5, 1, 2, 3] rfl
            have hD9 := hD.sb (wq := (wz_181 h0 pr kn lt h0_localCount pe n15 h0_gives h0_depth h0_loopDepth to bo cs se pr gl fu pa pf sf pk pg pp pz pv pr_reason pr_place pr_scanner_r pr_stepCount pr_open pr_twoSides pr_waiting_r pr_waitingPlaces_r pr_waitingCount pe cpe n14 bo bob n8 bob cbob f9 pg cpg (fun j => (gpg j).map (sg sa)) pp cpp gpp pv cpv gpv)) [6, 0, 7, 4, 5, 1, 2, 3] (by decide) rfl
            exact tz_up (fun _ => rfl) (W.vret hx hb hr (fun t ht hW => ⟨⟨(f9, n14, n8, n15, pr_place, pr_reason), ⟨rfl, ⟨by (try dsimp only) <;> (first | (apply Int.le_antisymm <;> omega) | omega), bn15, ⟨by have := hv; rw [← ex2] at this ⊢; (try dsimp only) <;> (first | (apply Int.le_antisymm <;> omega) | omega), fun j j1 j2 => k113.2 j (by rw [← ex2] at j1; (first | (apply Int.le_antisymm <;> omega) | omega)) j2, 0, [x6.toInt.toNat], ⟨by rw [show (sg_code32.getD ka 0) = x6 from ex6.symm]; rw [(en_own (a := 0) oc1 (by (first | (apply Int.le_antisymm <;> omega) | omega)) (by (first | (apply Int.le_antisymm <;> omega) | omega)) (fun z => rfl)), if_pos (by (first | (apply Int.le_antisymm <;> omega) | omega)), show x6.toInt = 0 from by (first | (apply Int.le_antisymm <;> omega) | omega)]; rfl, by rw [show (sg_code32.getD ka 0) = x6 from ex6.symm]; exact Or.inr (Or.inr (Or.inr (Or.inr (Or.inr ⟨by dsimp only; (first | (apply Int.le_antisymm <;> omega) | omega), rfl⟩))))⟩, by simp, by rw [← ex2, show x2.toInt = tkn ka from by (first | (apply Int.le_antisymm <;> omega) | omega)]; exact sg_oc ka (by (first | (apply Int.le_antisymm <;> omega) | omega)) (by (first | (apply Int.le_antisymm <;> omega) | omega)), by rw [show (h0_pendingCount.toInt - (gpv p0.toNatClampNeg).toInt).toNat = j41_h0_pendingCount.toNatClampNeg from by rw [← ex2]; have := i32_clamp (x := j41_h0_pendingCount) (by (first | (apply Int.le_antisymm <;> omega) | omega)); (first | (apply Int.le_antisymm <;> omega) | omega), ← ex12]; exact xr13.2, by simp only [List.length_cons, List.length_nil]; (try dsimp only) <;> (first | (apply Int.le_antisymm <;> omega) | omega), by (try dsimp only); rw [bn8 (by (first | (apply Int.le_antisymm <;> omega) | omega))]; (try simp only [List.append_assoc]); rw [bn_s (x := x6) (by (first | (apply Int.le_antisymm <;> omega) | omega)) (by (first | (apply Int.le_antisymm <;> omega) | omega))]; (try rfl)⟩⟩⟩, va_P.he ht.symm hP9, va_K.moved hW.alike hK, hD9⟩, hS.F ht⟩) hS.2.2 d_CO_codeOwnCall_182)
          · have q163 : ka ≠ 25 := fun z => c163 (by rw [z])
            refine lv_aload_n hx hb d_CO_codeOwnCall_166 rfl (lv_at hl 0 rfl) ?_
            refine va_get (D := (dC, dI)) (ci := 2) (v := .ref bo) (C := R_CO) (T := F_CO) (N := 13) hx hb hts i_CO hown hK hP 0 rfl rfl 10 (by decide) (hts _ kF_CO_26) (fun _ h9 => h9) rfl d_CO_codeOwnCall_167 ?_
            refine lv_iconst (v := 0) hx hb d_CO_codeOwnCall_170 (by decide) ?_
            have hPc := hP.sb (wq := (wz_94 bo bob n8 bob cbob f9)) [6, 7] rfl
            have hDc := hD.sb (wq := (wz_94 bo bob n8 bob cbob f9)) [6, 7] (by decide) rfl
            have hKc := hK.sb (tyq := [(cbob, .byte)]) [1] rfl
            have hFc := va_free (wc := (wz_94 bo bob n8 bob cbob f9)) hD hS hA [6, 7] rfl
            refine va_callv (va_runV (As := [.int 0]) (rest := []) ⟨hx, hb, hml, hown, hts⟩ (c_BR_put l dC dI bo bob H.size cbob 8192 n8 f9 (by (first | (apply Int.le_antisymm <;> omega) | omega)) (by (first | (apply Int.le_antisymm <;> omega) | omega)) (by (first | (apply Int.le_antisymm <;> omega) | omega)) 0) (cwV 1 hts (gV kM_CO_76 kV_BR_put kS_BR_put kI_BR kC_BR_put) rfl rfl rfl (by decide +kernel) ⟨Nat.le_of_ble_eq_true rfl, Nat.le_of_ble_eq_true rfl⟩) ⟨fun a U g mk z => by obtain ⟨z0, z1, zP, zK, zD⟩ := z; exact ⟨z0, z1, zP, va_K.moved (u := U) (U := U.calling g mk a) (Vm.Alike.refl U.vm) zK, zD⟩, va_recv hKc hPc (ci := 1) (q0 := 0) rfl rfl, fun U hU hW => ⟨rfl, by rw [hU], va_P.he hU.symm hPc, va_K.moved hW.alike hKc, hDc.weaken (fun _ _ _ _ => trivial)⟩⟩ rfl rfl hl.1 rfl (lv_room (Nat.le_of_ble_eq_true rfl)) d_CO_codeOwnCall_171 ⟨(Nat.zero_le _), (Nat.zero_le _)⟩) hS (fun q _ h => hFc q h) hFc (fun u t H1 locs ht hvm hw hB hz1 hk1 hS => ?_)
            obtain ⟨n17, f18⟩ := u
            try dsimp only at hw
            have tn17 := br_put_in (by (first | (apply Int.le_antisymm <;> omega) | omega)) (by (first | (apply Int.le_antisymm <;> omega) | omega)) (by (first | (apply Int.le_antisymm <;> omega) | omega)) hw
            have bn17 := br_put_bl (by (first | (apply Int.le_antisymm <;> omega) | omega)) (by (first | (apply Int.le_antisymm <;> omega) | omega)) (by (first | (apply Int.le_antisymm <;> omega) | omega)) hw
            obtain ⟨hP1, hK1, hD1⟩ := hB
            replace hP1 := va_P.he ht hP1
            obtain ⟨hP, hD⟩ := va_join (wr := (wz_182 h0 pr kn lt h0_localCount pe j41_h0_pendingCount h0_gives h0_depth h0_loopDepth to bo cs se pr gl fu pa pf sf pk pg pp pz pv pr_reason pr_place pr_scanner_r pr_stepCount pr_open pr_twoSides pr_waiting_r pr_waitingPlaces_r pr_waitingCount pe cpe gpe pg cpg (fun j => (gpg j).map (sg sa)) pp cpp gpp pv cpv gpv)) (w1 := (wz_94 bo bob n17 bob cbob f18)) hP hD [6, 7] [0, 1, 2, 3, 4, 5] rfl rfl (by decide) (by decide) hk1 hFc hP1 hD1
            clear hPc hDc hKc hFc hz1 hk1 hP1 hK1 hD1
            rename Heap => H
            have hP : va_P (dC, dI) cls (wz_183 h0 pr kn lt h0_localCount pe j41_h0_pendingCount h0_gives h0_depth h0_loopDepth to bo cs se pr gl fu pa pf sf pk pg pp pz pv pr_reason pr_place pr_scanner_r pr_stepCount pr_open pr_twoSides pr_waiting_r pr_waitingPlaces_r pr_waitingCount pe cpe gpe pg cpg (fun j => (gpg j).map (sg sa)) pp cpp gpp pv cpv gpv bo bob n17 bob cbob f18) H := hP
            have hD : va_D A (wz_183 h0 pr kn lt h0_localCount pe j41_h0_pendingCount h0_gives h0_depth h0_loopDepth to bo cs se pr gl fu pa pf sf pk pg pp pz pv pr_reason pr_place pr_scanner_r pr_stepCount pr_open pr_twoSides pr_waiting_r pr_waitingPlaces_r pr_waitingCount pe cpe gpe pg cpg (fun j => (gpg j).map (sg sa)) pp cpp gpp pv cpv gpv bo bob n17 bob cbob f18) := hD
            refine lv_aload_n hx hb d_CO_codeOwnCall_174 rfl (lv_at hl 0 rfl) ?_
            refine lv_aload_n hx hb d_CO_codeOwnCall_175 rfl (lv_at hl 2 rfl) ?_
            refine va_getE (i := ka) (q := ("WaferForge$Sign", "gives", "I", sg_gives)) hx hb hSW.2.2.2.1 b9 hS hown (List.mem_of_getElem? (i := 6) rfl) (hts _ kF_CO_272) (fun _ h9 => h9) d_CO_codeOwnCall_176 ?_
            refine lv_topi (fun x19 ex19 => ?_)
            have ex19 : x19 = sg_gives.getD ka 0 := ex19
            have hPc := hP.sb (wq := (wz_149 h0 pr kn lt h0_localCount pe j41_h0_pendingCount h0_gives h0_depth h0_loopDepth to bo cs se pe cpe gpe)) [0, 2] rfl
            have hDc := hD.sb (wq := (wz_149 h0 pr kn lt h0_localCount pe j41_h0_pendingCount h0_gives h0_depth h0_loopDepth to bo cs se pe cpe gpe)) [0, 2] (by decide) rfl
            have hKc := hK.sb (tyq := [(cpe, .int)]) [0] rfl
            have hFc := va_free (wc := (wz_149 h0 pr kn lt h0_localCount pe j41_h0_pendingCount h0_gives h0_depth h0_loopDepth to bo cs se pe cpe gpe)) hD hS hA [0, 2] rfl
            refine va_callv (va_runV (As := [.int x19]) (rest := []) ⟨hx, hb, hml, hown, hts⟩ (c_CO_push l dC dI H.size h0 pr kn lt pe to bo cs se cpe h0_localCount j41_h0_pendingCount h0_gives h0_depth h0_loopDepth gpe (b_j41_h0_pendingCount) x19 (by (try dsimp only) <;> (first | (apply Int.le_antisymm <;> omega) | omega))) (cwV 1 hts (gV kM_CO_183 kV_CO_push kS_CO_push kI_CO kC_CO_push) rfl rfl rfl (by decide +kernel) ⟨Nat.le_of_ble_eq_true rfl, Nat.le_of_ble_eq_true rfl⟩) ⟨fun a U g mk z => by obtain ⟨z0, z1, zP, zK, zD⟩ := z; exact ⟨z0, z1, zP, va_K.moved (u := U) (U := U.calling g mk a) (Vm.Alike.refl U.vm) zK, zD⟩, va_recv hKc hPc (ci := 2) (q0 := 0) rfl rfl, fun U hU hW => ⟨rfl, by rw [hU], va_P.he hU.symm hPc, va_K.moved hW.alike hKc, hDc.weaken (fun _ _ _ _ => trivial)⟩⟩ rfl rfl hl.1 rfl (lv_room (Nat.le_of_ble_eq_true rfl)) d_CO_codeOwnCall_179 ⟨(Nat.zero_le _), (Nat.zero_le _)⟩) hS (fun q _ h => hFc q h) hFc (fun u t H1 locs ht hvm hw hB hz1 hk1 hS => ?_)
            obtain ⟨n21, n22⟩ := u
            try dsimp only at hw
            obtain ⟨bn22, xr20⟩ := hw
            try clear hw
            obtain ⟨hP1, hK1, hD1⟩ := hB
            replace hP1 := va_P.he ht hP1
            obtain ⟨hP, hD⟩ := va_join (wr := (wz_184 pr gl fu pa pf sf pk pg pp pz pv pr_reason pr_place pr_scanner_r pr_stepCount pr_open pr_twoSides pr_waiting_r pr_waitingPlaces_r pr_waitingCount pg cpg (fun j => (gpg j).map (sg sa)) pp cpp gpp pv cpv gpv bo bob n17 bob cbob f18)) (w1 := (wz_149 h0 pr kn lt h0_localCount pe n22 h0_gives h0_depth h0_loopDepth to bo cs se pe cpe n21)) hP hD [0, 2] [1, 3, 4, 5, 6, 7] rfl rfl (by decide) (by decide) hk1 hFc hP1 hD1
            clear hPc hDc hKc hFc hz1 hk1 hP1 hK1 hD1
            rename Heap => H
            have hP : va_P (dC, dI) cls (wz_185 pr gl fu pa pf sf pk pg pp pz pv pr_reason pr_place pr_scanner_r pr_stepCount pr_open pr_twoSides pr_waiting_r pr_waitingPlaces_r pr_waitingCount pg cpg (fun j => (gpg j).map (sg sa)) pp cpp gpp pv cpv gpv bo bob n17 bob cbob f18 h0 pr kn lt h0_localCount pe n22 h0_gives h0_depth h0_loopDepth to bo cs se pe cpe n21) H := hP
            have hD : va_D A (wz_185 pr gl fu pa pf sf pk pg pp pz pv pr_reason pr_place pr_scanner_r pr_stepCount pr_open pr_twoSides pr_waiting_r pr_waitingPlaces_r pr_waitingCount pg cpg (fun j => (gpg j).map (sg sa)) pp cpp gpp pv cpv gpv bo bob n17 bob cbob f18 h0 pr kn lt h0_localCount pe n22 h0_gives h0_depth h0_loopDepth to bo cs se pe cpe n21) := hD
            have hP9 := hP.sb (wq := (wz_181 h0 pr kn lt h0_localCount pe n22 h0_gives h0_depth h0_loopDepth to bo cs se pr gl fu pa pf sf pk pg pp pz pv pr_reason pr_place pr_scanner_r pr_stepCount pr_open pr_twoSides pr_waiting_r pr_waitingPlaces_r pr_waitingCount pe cpe n21 bo bob n17 bob cbob f18 pg cpg (fun j => (gpg j).map (sg sa)) pp cpp gpp pv cpv gpv)) [6, 0, 7, 4, 5, 1, 2, 3] rfl
            have hD9 := hD.sb (wq := (wz_181 h0 pr kn lt h0_localCount pe n22 h0_gives h0_depth h0_loopDepth to bo cs se pr gl fu pa pf sf pk pg pp pz pv pr_reason pr_place pr_scanner_r pr_stepCount pr_open pr_twoSides pr_waiting_r pr_waitingPlaces_r pr_waitingCount pe cpe n21 bo bob n17 bob cbob f18 pg cpg (fun j => (gpg j).map (sg sa)) pp cpp gpp pv cpv gpv)) [6, 0, 7, 4, 5, 1, 2, 3] (by decide) rfl
            exact tz_up (fun _ => rfl) (W.vret hx hb hr (fun t ht hW => ⟨⟨(f18, n21, n17, n22, pr_place, pr_reason), ⟨rfl, ⟨by (try dsimp only) <;> (first | (apply Int.le_antisymm <;> omega) | omega), bn22, ⟨by have := hv; rw [← ex2] at this ⊢; (try dsimp only) <;> (first | (apply Int.le_antisymm <;> omega) | omega), fun j j1 j2 => k113.2 j (by rw [← ex2] at j1; (first | (apply Int.le_antisymm <;> omega) | omega)) j2, 0, [x6.toInt.toNat, 0], ⟨by rw [show (sg_code32.getD ka 0) = x6 from ex6.symm]; rw [(en_own (a := 0) oc1 (by (first | (apply Int.le_antisymm <;> omega) | omega)) (by (first | (apply Int.le_antisymm <;> omega) | omega)) (fun z => rfl)), if_neg (by (first | (apply Int.le_antisymm <;> omega) | omega)), if_pos (by unfold oc at oc1; (first | (apply Int.le_antisymm <;> omega) | omega))], by rw [show (sg_code32.getD ka 0) = x6 from ex6.symm]; exact Or.inr (Or.inr (Or.inr (Or.inr (Or.inr ⟨by unfold oc at oc1; dsimp only; (first | (apply Int.le_antisymm <;> omega) | omega), rfl⟩))))⟩, by simp, by rw [← ex2, show x2.toInt = tkn ka from by (first | (apply Int.le_antisymm <;> omega) | omega)]; exact sg_oc ka (by (first | (apply Int.le_antisymm <;> omega) | omega)) (by (first | (apply Int.le_antisymm <;> omega) | omega)), by rw [show (h0_pendingCount.toInt - (gpv p0.toNatClampNeg).toInt).toNat = j41_h0_pendingCount.toNatClampNeg from by rw [← ex2]; have := i32_clamp (x := j41_h0_pendingCount) (by (first | (apply Int.le_antisymm <;> omega) | omega)); (first | (apply Int.le_antisymm <;> omega) | omega), ← ex19]; exact xr20.2, by simp only [List.length_cons, List.length_nil]; (try dsimp only) <;> (first | (apply Int.le_antisymm <;> omega) | omega), by (try dsimp only); rw [bn17 (by (first | (apply Int.le_antisymm <;> omega) | omega)), bn8 (by (first | (apply Int.le_antisymm <;> omega) | omega))]; (try simp only [List.append_assoc]); rw [bn_s (x := x6) (by (first | (apply Int.le_antisymm <;> omega) | omega)) (by (first | (apply Int.le_antisymm <;> omega) | omega))]; (try rfl)⟩⟩⟩, va_P.he ht.symm hP9, va_K.moved hW.alike hK, hD9⟩, hS.F ht⟩) hS.2.2 d_CO_codeOwnCall_182)
        · have q131 := neI c131
          refine lv_aload_n hx hb d_CO_codeOwnCall_134 rfl (lv_at hl 0 rfl) ?_
          refine va_get (D := (dC, dI)) (ci := 2) (v := .ref bo) (C := R_CO) (T := F_CO) (N := 13) hx hb hts i_CO hown hK hP 0 rfl rfl 10 (by decide) (hts _ kF_CO_26) (fun _ h9 => h9) rfl d_CO_codeOwnCall_135 ?_
          refine lv_aload_n hx hb d_CO_codeOwnCall_138 rfl (lv_at hl 2 rfl) ?_
          refine va_getE (i := ka) (q := ("WaferForge$Sign", "code32", "I", sg_code32)) hx hb hSW.2.2.2.1 b9 hS hown (List.mem_of_getElem? (i := 2) rfl) (hts _ kF_CO_230) (fun _ h9 => h9) d_CO_codeOwnCall_139 ?_
          refine lv_topi (fun x23 ex23 => ?_)
          have ex23 : x23 = sg_code32.getD ka 0 := ex23
          have ox23 : x23 = x6 := ex23.trans ex6.symm
          have ox23 := congrArg Int32.toInt ox23
          have hPc := hP.sb (wq := []) [] rfl
          have hDc := hD.sb (wq := []) [] (by decide) rfl
          have hKc := hK.sb (tyq := []) [] rfl
          have hFc := va_free (wc := []) hD hS hA [] rfl
          refine va_calli (va_runS (As := [.int x23]) (rest := [.ref bo]) ⟨hx, hb, hml, hown, hts⟩ (c_CD_greatestAlignmentr l dC dI H.size x23) ⟨callB_of 1 hts (gW kC_CD_greatestAlignment) rfl rfl rfl (hts _ kI_CD) (hts _ kM_CO_265) (by decide +kernel) ⟨Nat.le_of_ble_eq_true rfl, Nat.le_of_ble_eq_true rfl⟩, hts _ kT_CD_greatestAlignment⟩ ⟨fun a U g mk z => by obtain ⟨z0, z1, zP, zK, zD⟩ := z; exact ⟨z0, z1, zP, va_K.moved (u := U) (U := U.calling g mk a) (Vm.Alike.refl U.vm) zK, zD⟩, fun U hU hW => ⟨rfl, by rw [hU], va_P.he hU.symm hPc, va_K.moved hW.alike hKc, hDc.weaken (fun _ _ _ _ => trivial)⟩⟩ rfl rfl hl.1 rfl (lv_room (Nat.le_of_ble_eq_true rfl)) d_CO_codeOwnCall_142 ⟨(Nat.zero_le _), (Nat.zero_le _)⟩) hS (fun q _ h => hFc q h) hFc (fun r24 u t H1 locs ht hvm hw hB hz1 hk1 hS => ?_)
          try dsimp only at hw
          have xr24 := hw
          try clear hw
          obtain ⟨hP1, hK1, hD1⟩ := hB
          replace hP1 := va_P.he ht hP1
          obtain ⟨hP, hD⟩ := va_join (wr := (wz_183 h0 pr kn lt h0_localCount pe j41_h0_pendingCount h0_gives h0_depth h0_loopDepth to bo cs se pr gl fu pa pf sf pk pg pp pz pv pr_reason pr_place pr_scanner_r pr_stepCount pr_open pr_twoSides pr_waiting_r pr_waitingPlaces_r pr_waitingCount pe cpe gpe pg cpg (fun j => (gpg j).map (sg sa)) pp cpp gpp pv cpv gpv bo bob n8 bob cbob f9)) (w1 := []) hP hD [] [0, 1, 2, 3, 4, 5, 6, 7] rfl rfl (by decide) (by decide) hk1 hFc hP1 hD1
          clear hPc hDc hKc hFc hz1 hk1 hP1 hK1 hD1
          rename Heap => H
          have hP : va_P (dC, dI) cls (wz_183 h0 pr kn lt h0_localCount pe j41_h0_pendingCount h0_gives h0_depth h0_loopDepth to bo cs se pr gl fu pa pf sf pk pg pp pz pv pr_reason pr_place pr_scanner_r pr_stepCount pr_open pr_twoSides pr_waiting_r pr_waitingPlaces_r pr_waitingCount pe cpe gpe pg cpg (fun j => (gpg j).map (sg sa)) pp cpp gpp pv cpv gpv bo bob n8 bob cbob f9) H := hP
          have hD : va_D A (wz_183 h0 pr kn lt h0_localCount pe j41_h0_pendingCount h0_gives h0_depth h0_loopDepth to bo cs se pr gl fu pa pf sf pk pg pp pz pv pr_reason pr_place pr_scanner_r pr_stepCount pr_open pr_twoSides pr_waiting_r pr_waitingPlaces_r pr_waitingCount pe cpe gpe pg cpg (fun j => (gpg j).map (sg sa)) pp cpp gpp pv cpv gpv bo bob n8 bob cbob f9) := hD
          have hPc := hP.sb (wq := (wz_94 bo bob n8 bob cbob f9)) [6, 7] rfl
          have hDc := hD.sb (wq := (wz_94 bo bob n8 bob cbob f9)) [6, 7] (by decide) rfl
          have hKc := hK.sb (tyq := [(cbob, .byte)]) [1] rfl
          have hFc := va_free (wc := (wz_94 bo bob n8 bob cbob f9)) hD hS hA [6, 7] rfl
          refine va_callv (va_runV (As := [.int r24]) (rest := []) ⟨hx, hb, hml, hown, hts⟩ (c_BR_put l dC dI bo bob H.size cbob 8192 n8 f9 (by (first | (apply Int.le_antisymm <;> omega) | omega)) (by (first | (apply Int.le_antisymm <;> omega) | omega)) (by (first | (apply Int.le_antisymm <;> omega) | omega)) r24) (cwV 1 hts (gV kM_CO_76 kV_BR_put kS_BR_put kI_BR kC_BR_put) rfl rfl rfl (by decide +kernel) ⟨Nat.le_of_ble_eq_true rfl, Nat.le_of_ble_eq_true rfl⟩) ⟨fun a U g mk z => by obtain ⟨z0, z1, zP, zK, zD⟩ := z; exact ⟨z0, z1, zP, va_K.moved (u := U) (U := U.calling g mk a) (Vm.Alike.refl U.vm) zK, zD⟩, va_recv hKc hPc (ci := 1) (q0 := 0) rfl rfl, fun U hU hW => ⟨rfl, by rw [hU], va_P.he hU.symm hPc, va_K.moved hW.alike hKc, hDc.weaken (fun _ _ _ _ => trivial)⟩⟩ rfl rfl hl.1 rfl (lv_room (Nat.le_of_ble_eq_true rfl)) d_CO_codeOwnCall_145 ⟨(Nat.zero_le _), (Nat.zero_le _)⟩) hS (fun q _ h => hFc q h) hFc (fun u t H1 locs ht hvm hw hB hz1 hk1 hS => ?_)
          obtain ⟨n26, f27⟩ := u
          try dsimp only at hw
          have tn26 := br_put_in (by (first | (apply Int.le_antisymm <;> omega) | omega)) (by (first | (apply Int.le_antisymm <;> omega) | omega)) (by (first | (apply Int.le_antisymm <;> omega) | omega)) hw
          have bn26 := br_put_bl (by (first | (apply Int.le_antisymm <;> omega) | omega)) (by (first | (apply Int.le_antisymm <;> omega) | omega)) (by (first | (apply Int.le_antisymm <;> omega) | omega)) hw
          obtain ⟨hP1, hK1, hD1⟩ := hB
          replace hP1 := va_P.he ht hP1
          obtain ⟨hP, hD⟩ := va_join (wr := (wz_182 h0 pr kn lt h0_localCount pe j41_h0_pendingCount h0_gives h0_depth h0_loopDepth to bo cs se pr gl fu pa pf sf pk pg pp pz pv pr_reason pr_place pr_scanner_r pr_stepCount pr_open pr_twoSides pr_waiting_r pr_waitingPlaces_r pr_waitingCount pe cpe gpe pg cpg (fun j => (gpg j).map (sg sa)) pp cpp gpp pv cpv gpv)) (w1 := (wz_94 bo bob n26 bob cbob f27)) hP hD [6, 7] [0, 1, 2, 3, 4, 5] rfl rfl (by decide) (by decide) hk1 hFc hP1 hD1
          clear hPc hDc hKc hFc hz1 hk1 hP1 hK1 hD1
          rename Heap => H
          have hP : va_P (dC, dI) cls (wz_183 h0 pr kn lt h0_localCount pe j41_h0_pendingCount h0_gives h0_depth h0_loopDepth to bo cs se pr gl fu pa pf sf pk pg pp pz pv pr_reason pr_place pr_scanner_r pr_stepCount pr_open pr_twoSides pr_waiting_r pr_waitingPlaces_r pr_waitingCount pe cpe gpe pg cpg (fun j => (gpg j).map (sg sa)) pp cpp gpp pv cpv gpv bo bob n26 bob cbob f27) H := hP
          have hD : va_D A (wz_183 h0 pr kn lt h0_localCount pe j41_h0_pendingCount h0_gives h0_depth h0_loopDepth to bo cs se pr gl fu pa pf sf pk pg pp pz pv pr_reason pr_place pr_scanner_r pr_stepCount pr_open pr_twoSides pr_waiting_r pr_waitingPlaces_r pr_waitingCount pe cpe gpe pg cpg (fun j => (gpg j).map (sg sa)) pp cpp gpp pv cpv gpv bo bob n26 bob cbob f27) := hD
          refine lv_aload_n hx hb d_CO_codeOwnCall_148 rfl (lv_at hl 0 rfl) ?_
          refine va_get (D := (dC, dI)) (ci := 2) (v := .ref bo) (C := R_CO) (T := F_CO) (N := 13) hx hb hts i_CO hown hK hP 0 rfl rfl 10 (by decide) (hts _ kF_CO_26) (fun _ h9 => h9) rfl d_CO_codeOwnCall_149 ?_
          refine lv_iconst (v := 0) hx hb d_CO_codeOwnCall_152 (by decide) ?_
          have hPc := hP.sb (wq := (wz_94 bo bob n26 bob cbob f27)) [6, 7] rfl
          have hDc := hD.sb (wq := (wz_94 bo bob n26 bob cbob f27)) [6, 7] (by decide) rfl
          have hKc := hK.sb (tyq := [(cbob, .byte)]) [1] rfl
          have hFc := va_free (wc := (wz_94 bo bob n26 bob cbob f27)) hD hS hA [6, 7] rfl
          refine va_callv (va_runV (As := [.int 0]) (rest := []) ⟨hx, hb, hml, hown, hts⟩ (c_BR_put l dC dI bo bob H.size cbob 8192 n26 f27 (by (first | (apply Int.le_antisymm <;> omega) | omega)) (by (first | (apply Int.le_antisymm <;> omega) | omega)) (by (first | (apply Int.le_antisymm <;> omega) | omega)) 0) (cwV 1 hts (gV kM_CO_76 kV_BR_put kS_BR_put kI_BR kC_BR_put) rfl rfl rfl (by decide +kernel) ⟨Nat.le_of_ble_eq_true rfl, Nat.le_of_ble_eq_true rfl⟩) ⟨fun a U g mk z => by obtain ⟨z0, z1, zP, zK, zD⟩ := z; exact ⟨z0, z1, zP, va_K.moved (u := U) (U := U.calling g mk a) (Vm.Alike.refl U.vm) zK, zD⟩, va_recv hKc hPc (ci := 1) (q0 := 0) rfl rfl, fun U hU hW => ⟨rfl, by rw [hU], va_P.he hU.symm hPc, va_K.moved hW.alike hKc, hDc.weaken (fun _ _ _ _ => trivial)⟩⟩ rfl rfl hl.1 rfl (lv_room (Nat.le_of_ble_eq_true rfl)) d_CO_codeOwnCall_153 ⟨(Nat.zero_le _), (Nat.zero_le _)⟩) hS (fun q _ h => hFc q h) hFc (fun u t H1 locs ht hvm hw hB hz1 hk1 hS => ?_)
          obtain ⟨n29, f30⟩ := u
          try dsimp only at hw
          have tn29 := br_put_in (by (first | (apply Int.le_antisymm <;> omega) | omega)) (by (first | (apply Int.le_antisymm <;> omega) | omega)) (by (first | (apply Int.le_antisymm <;> omega) | omega)) hw
          have bn29 := br_put_bl (by (first | (apply Int.le_antisymm <;> omega) | omega)) (by (first | (apply Int.le_antisymm <;> omega) | omega)) (by (first | (apply Int.le_antisymm <;> omega) | omega)) hw
          obtain ⟨hP1, hK1, hD1⟩ := hB
          replace hP1 := va_P.he ht hP1
          obtain ⟨hP, hD⟩ := va_join (wr := (wz_182 h0 pr kn lt h0_localCount pe j41_h0_pendingCount h0_gives h0_depth h0_loopDepth to bo cs se pr gl fu pa pf sf pk pg pp pz pv pr_reason pr_place pr_scanner_r pr_stepCount pr_open pr_twoSides pr_waiting_r pr_waitingPlaces_r pr_waitingCount pe cpe gpe pg cpg (fun j => (gpg j).map (sg sa)) pp cpp gpp pv cpv gpv)) (w1 := (wz_94 bo bob n29 bob cbob f30)) hP hD [6, 7] [0, 1, 2, 3, 4, 5] rfl rfl (by decide) (by decide) hk1 hFc hP1 hD1
          clear hPc hDc hKc hFc hz1 hk1 hP1 hK1 hD1
          rename Heap => H
          have hP : va_P (dC, dI) cls (wz_183 h0 pr kn lt h0_localCount pe j41_h0_pendingCount h0_gives h0_depth h0_loopDepth to bo cs se pr gl fu pa pf sf pk pg pp pz pv pr_reason pr_place pr_scanner_r pr_stepCount pr_open pr_twoSides pr_waiting_r pr_waitingPlaces_r pr_waitingCount pe cpe gpe pg cpg (fun j => (gpg j).map (sg sa)) pp cpp gpp pv cpv gpv bo bob n29 bob cbob f30) H := hP
          have hD : va_D A (wz_183 h0 pr kn lt h0_localCount pe j41_h0_pendingCount h0_gives h0_depth h0_loopDepth to bo cs se pr gl fu pa pf sf pk pg pp pz pv pr_reason pr_place pr_scanner_r pr_stepCount pr_open pr_twoSides pr_waiting_r pr_waitingPlaces_r pr_waitingCount pe cpe gpe pg cpg (fun j => (gpg j).map (sg sa)) pp cpp gpp pv cpv gpv bo bob n29 bob cbob f30) := hD
          refine lv_goto (tgt := 174) hx hb d_CO_codeOwnCall_156 (by decide) ?_
          refine lv_aload_n hx hb d_CO_codeOwnCall_174 rfl (lv_at hl 0 rfl) ?_
          refine lv_aload_n hx hb d_CO_codeOwnCall_175 rfl (lv_at hl 2 rfl) ?_
          refine va_getE (i := ka) (q := ("WaferForge$Sign", "gives", "I", sg_gives)) hx hb hSW.2.2.2.1 b9 hS hown (List.mem_of_getElem? (i := 6) rfl) (hts _ kF_CO_272) (fun _ h9 => h9) d_CO_codeOwnCall_176 ?_
          refine lv_topi (fun x31 ex31 => ?_)
          have ex31 : x31 = sg_gives.getD ka 0 := ex31
          have hPc := hP.sb (wq := (wz_149 h0 pr kn lt h0_localCount pe j41_h0_pendingCount h0_gives h0_depth h0_loopDepth to bo cs se pe cpe gpe)) [0, 2] rfl
          have hDc := hD.sb (wq := (wz_149 h0 pr kn lt h0_localCount pe j41_h0_pendingCount h0_gives h0_depth h0_loopDepth to bo cs se pe cpe gpe)) [0, 2] (by decide) rfl
          have hKc := hK.sb (tyq := [(cpe, .int)]) [0] rfl
          have hFc := va_free (wc := (wz_149 h0 pr kn lt h0_localCount pe j41_h0_pendingCount h0_gives h0_depth h0_loopDepth to bo cs se pe cpe gpe)) hD hS hA [0, 2] rfl
          refine va_callv (va_runV (As := [.int x31]) (rest := []) ⟨hx, hb, hml, hown, hts⟩ (c_CO_push l dC dI H.size h0 pr kn lt pe to bo cs se cpe h0_localCount j41_h0_pendingCount h0_gives h0_depth h0_loopDepth gpe (b_j41_h0_pendingCount) x31 (by (try dsimp only) <;> (first | (apply Int.le_antisymm <;> omega) | omega))) (cwV 1 hts (gV kM_CO_183 kV_CO_push kS_CO_push kI_CO kC_CO_push) rfl rfl rfl (by decide +kernel) ⟨Nat.le_of_ble_eq_true rfl, Nat.le_of_ble_eq_true rfl⟩) ⟨fun a U g mk z => by obtain ⟨z0, z1, zP, zK, zD⟩ := z; exact ⟨z0, z1, zP, va_K.moved (u := U) (U := U.calling g mk a) (Vm.Alike.refl U.vm) zK, zD⟩, va_recv hKc hPc (ci := 2) (q0 := 0) rfl rfl, fun U hU hW => ⟨rfl, by rw [hU], va_P.he hU.symm hPc, va_K.moved hW.alike hKc, hDc.weaken (fun _ _ _ _ => trivial)⟩⟩ rfl rfl hl.1 rfl (lv_room (Nat.le_of_ble_eq_true rfl)) d_CO_codeOwnCall_179 ⟨(Nat.zero_le _), (Nat.zero_le _)⟩) hS (fun q _ h => hFc q h) hFc (fun u t H1 locs ht hvm hw hB hz1 hk1 hS => ?_)
          obtain ⟨n33, n34⟩ := u
          try dsimp only at hw
          obtain ⟨bn34, xr32⟩ := hw
          try clear hw
          obtain ⟨hP1, hK1, hD1⟩ := hB
          replace hP1 := va_P.he ht hP1
          obtain ⟨hP, hD⟩ := va_join (wr := (wz_184 pr gl fu pa pf sf pk pg pp pz pv pr_reason pr_place pr_scanner_r pr_stepCount pr_open pr_twoSides pr_waiting_r pr_waitingPlaces_r pr_waitingCount pg cpg (fun j => (gpg j).map (sg sa)) pp cpp gpp pv cpv gpv bo bob n29 bob cbob f30)) (w1 := (wz_149 h0 pr kn lt h0_localCount pe n34 h0_gives h0_depth h0_loopDepth to bo cs se pe cpe n33)) hP hD [0, 2] [1, 3, 4, 5, 6, 7] rfl rfl (by decide) (by decide) hk1 hFc hP1 hD1
          clear hPc hDc hKc hFc hz1 hk1 hP1 hK1 hD1
          rename Heap => H
          have hP : va_P (dC, dI) cls (wz_185 pr gl fu pa pf sf pk pg pp pz pv pr_reason pr_place pr_scanner_r pr_stepCount pr_open pr_twoSides pr_waiting_r pr_waitingPlaces_r pr_waitingCount pg cpg (fun j => (gpg j).map (sg sa)) pp cpp gpp pv cpv gpv bo bob n29 bob cbob f30 h0 pr kn lt h0_localCount pe n34 h0_gives h0_depth h0_loopDepth to bo cs se pe cpe n33) H := hP
          have hD : va_D A (wz_185 pr gl fu pa pf sf pk pg pp pz pv pr_reason pr_place pr_scanner_r pr_stepCount pr_open pr_twoSides pr_waiting_r pr_waitingPlaces_r pr_waitingCount pg cpg (fun j => (gpg j).map (sg sa)) pp cpp gpp pv cpv gpv bo bob n29 bob cbob f30 h0 pr kn lt h0_localCount pe n34 h0_gives h0_depth h0_loopDepth to bo cs se pe cpe n33) := hD
          have hP9 := hP.sb (wq := (wz_181 h0 pr kn lt h0_localCount pe n34 h0_gives h0_depth h0_loopDepth to bo cs se pr gl fu pa pf sf pk pg pp pz pv pr_reason pr_place pr_scanner_r pr_stepCount pr_open pr_twoSides pr_waiting_r pr_waitingPlaces_r pr_waitingCount pe cpe n33 bo bob n29 bob cbob f30 pg cpg (fun j => (gpg j).map (sg sa)) pp cpp gpp pv cpv gpv)) [6, 0, 7, 4, 5, 1, 2, 3] rfl
          have hD9 := hD.sb (wq := (wz_181 h0 pr kn lt h0_localCount pe n34 h0_gives h0_depth h0_loopDepth to bo cs se pr gl fu pa pf sf pk pg pp pz pv pr_reason pr_place pr_scanner_r pr_stepCount pr_open pr_twoSides pr_waiting_r pr_waitingPlaces_r pr_waitingCount pe cpe n33 bo bob n29 bob cbob f30 pg cpg (fun j => (gpg j).map (sg sa)) pp cpp gpp pv cpv gpv)) [6, 0, 7, 4, 5, 1, 2, 3] (by decide) rfl
          exact tz_up (fun _ => rfl) (W.vret hx hb hr (fun t ht hW => ⟨⟨(f30, n33, n29, n34, pr_place, pr_reason), ⟨rfl, ⟨by (try dsimp only) <;> (first | (apply Int.le_antisymm <;> omega) | omega), bn34, ⟨by have := hv; rw [← ex2] at this ⊢; (try dsimp only) <;> (first | (apply Int.le_antisymm <;> omega) | omega), fun j j1 j2 => k113.2 j (by rw [← ex2] at j1; (first | (apply Int.le_antisymm <;> omega) | omega)) j2, r24.toInt, [x6.toInt.toNat, r24.toInt.toNat, 0], ⟨by rw [show (sg_code32.getD ka 0) = x6 from ex6.symm]; rw [(en_own (a := r24.toInt) oc1 (by (first | (apply Int.le_antisymm <;> omega) | omega)) (by (first | (apply Int.le_antisymm <;> omega) | omega)) (fun z => by exfalso; (first | (apply Int.le_antisymm <;> omega) | omega))), if_neg (by (first | (apply Int.le_antisymm <;> omega) | omega)), if_neg (by (first | (apply Int.le_antisymm <;> omega) | omega))], by rw [show (sg_code32.getD ka 0) = x6 from ex6.symm]; exact Or.inr (Or.inr (Or.inr (Or.inr (Or.inl ⟨by dsimp only; (first | (apply Int.le_antisymm <;> omega) | omega), by dsimp only; (first | (apply Int.le_antisymm <;> omega) | omega), by dsimp only; (first | (apply Int.le_antisymm <;> omega) | omega)⟩))))⟩, by simp, by rw [← ex2, show x2.toInt = tkn ka from by (first | (apply Int.le_antisymm <;> omega) | omega)]; exact sg_oc ka (by (first | (apply Int.le_antisymm <;> omega) | omega)) (by (first | (apply Int.le_antisymm <;> omega) | omega)), by rw [show (h0_pendingCount.toInt - (gpv p0.toNatClampNeg).toInt).toNat = j41_h0_pendingCount.toNatClampNeg from by rw [← ex2]; have := i32_clamp (x := j41_h0_pendingCount) (by (first | (apply Int.le_antisymm <;> omega) | omega)); (first | (apply Int.le_antisymm <;> omega) | omega), ← ex31]; exact xr32.2, by simp only [List.length_cons, List.length_nil]; (try dsimp only) <;> (first | (apply Int.le_antisymm <;> omega) | omega), by (try dsimp only); rw [bn29 (by (first | (apply Int.le_antisymm <;> omega) | omega)), bn26 (by (first | (apply Int.le_antisymm <;> omega) | omega)), bn8 (by (first | (apply Int.le_antisymm <;> omega) | omega))]; (try simp only [List.append_assoc]); rw [bn_s (x := x6) (by (first | (apply Int.le_antisymm <;> omega) | omega)) (by (first | (apply Int.le_antisymm <;> omega) | omega)), bn_s (x := r24) (by (first | (apply Int.le_antisymm <;> omega) | omega)) (by (first | (apply Int.le_antisymm <;> omega) | omega))]; (try rfl)⟩⟩⟩, va_P.he ht.symm hP9, va_K.moved hW.alike hK, hD9⟩, hS.F ht⟩) hS.2.2 d_CO_codeOwnCall_182)
      · have q93 := eqI c93
        refine lv_aload_n hx hb d_CO_codeOwnCall_96 rfl (lv_at hl 0 rfl) ?_
        refine va_get (D := (dC, dI)) (ci := 2) (v := .ref pr) (C := R_CO) (T := F_CO) (N := 13) hx hb hts i_CO hown hK hP 0 rfl rfl 0 (by decide) (hts _ kF_CO_36) (fun _ h9 => h9) rfl d_CO_codeOwnCall_97 ?_
        refine lv_iconst (v := 3) hx hb d_CO_codeOwnCall_100 (by decide) ?_
        refine lv_aload_n hx hb d_CO_codeOwnCall_101 rfl (lv_at hl 0 rfl) ?_
        refine va_get (D := (dC, dI)) (ci := 2) (v := .ref pr) (C := R_CO) (T := F_CO) (N := 13) hx hb hts i_CO hown hK hP 0 rfl rfl 0 (by decide) (hts _ kF_CO_36) (fun _ h9 => h9) rfl d_CO_codeOwnCall_102 ?_
        refine va_get (D := (dC, dI)) (ci := 6) (v := .ref pp) (C := R_PR) (T := F_PR) (N := 19) hx hb hts i_PR hown hK hP 1 rfl rfl 7 (by decide) (hts _ kF_CO_193) (fun _ h9 => h9) rfl d_CO_codeOwnCall_105 ?_
        refine lv_iload_n hx hb d_CO_codeOwnCall_108 rfl (lv_at hl 1 rfl) ?_
        have g109 : vp_in p0 4100 := vp_in_iff.mpr ⟨by (first | (apply Int.le_antisymm <;> omega) | omega), by (first | (apply Int.le_antisymm <;> omega) | omega)⟩
        refine va_iald hx hb hK hP 6 3 rfl rfl g109 d_CO_codeOwnCall_109 ?_
        refine lv_topi (fun x35 ex35 => ?_)
        have hPc := hP.sb (wq := (wz_110 pr gl fu pa pf sf pk pg pp pz pv pr_reason pr_place pr_scanner_r pr_stepCount pr_open pr_twoSides pr_waiting_r pr_waitingPlaces_r pr_waitingCount)) [1] rfl
        have hDc := hD.sb (wq := (wz_110 pr gl fu pa pf sf pk pg pp pz pv pr_reason pr_place pr_scanner_r pr_stepCount pr_open pr_twoSides pr_waiting_r pr_waitingPlaces_r pr_waitingCount)) [1] (by decide) rfl
        have hKc := hK.sb (tyq := []) [] rfl
        have hFc := va_free (wc := (wz_110 pr gl fu pa pf sf pk pg pp pz pv pr_reason pr_place pr_scanner_r pr_stepCount pr_open pr_twoSides pr_waiting_r pr_waitingPlaces_r pr_waitingCount)) hD hS hA [1] rfl
        refine tq_callv (tz_runV (As := [.int 3, .int x35]) (rest := []) ⟨hx, hb, hml, hown, hts⟩ (c_PR_refuse l hlt dC dI H.size sa pr gl fu pa pf sf pk pg pp pz pv pr_scanner_r pr_waiting_r pr_waitingPlaces_r pr_reason pr_place pr_stepCount pr_open pr_twoSides pr_waitingCount 3 x35) (cwV 2 hts (gV kM_CO_105 kV_PR_refuse kS_PR_refuse kI_PR kC_PR_refuse) rfl rfl rfl (by decide +kernel) ⟨Nat.le_of_ble_eq_true rfl, Nat.le_of_ble_eq_true rfl⟩) ⟨fun a U g mk z => by obtain ⟨z0, z1, zP, zK, zD, zS⟩ := z; exact ⟨z0, z1, zP, va_K.moved (u := U) (U := U.calling g mk a) (Vm.Alike.refl U.vm) zK, zD, sw.same (u := U) (U := U.calling g mk a) rfl zS⟩, va_recv hKc hPc (ci := 6) (q0 := 0) rfl rfl, fun U hU hW => ⟨rfl, by rw [hU], va_P.he hU.symm hPc, va_K.moved hW.alike hKc, hDc.weaken (fun _ _ _ _ => trivial), hSW.call hS hFc hW hU⟩⟩ rfl rfl hl.1 rfl (lv_room (Nat.le_of_ble_eq_true rfl)) d_CO_codeOwnCall_110 ⟨Nat.le_of_ble_eq_true rfl, Nat.le_of_ble_eq_true rfl⟩) hS (fun q _ h => hFc q h) hFc (fun u t H1 locs ht hvm hw hB hz1 hk1 hS => ?_) (fun xx u t H1 locs ht hvm hw hXX hB hz1 hk1 hS => ?_)
        rotate_left
        · skip
          obtain ⟨n37, n38⟩ := u
          try dsimp only at hw
          obtain ⟨hP1, hK1, hD1⟩ := hB
          replace hP1 := va_P.he ht hP1
          obtain ⟨hP, hD⟩ := va_join (wr := [(h0, .inr (2, [.ref pr, .ref kn, .ref lt, .int h0_localCount, .ref pe, .int j41_h0_pendingCount, .int h0_gives, .int h0_depth, .int h0_loopDepth, .ref to, .ref bo, .ref cs, .ref se])), (pe, .inl (cpe, 680, .inl gpe)), (bo, .inr (1, [.ref bob, .int bo_length])), (bob, .inl (cbob, 8192, .inl gbob)), (pg, .inl (cpg, 4100, .inr (.inr (.inr (.inr (fun j => (gpg j).map (sg sa))))))), (pp, .inl (cpp, 4100, .inl gpp)), (pv, .inl (cpv, 4100, .inr (.inl gpv)))]) (w1 := (wz_110 pr gl fu pa pf sf pk pg pp pz pv n38 n37 pr_scanner_r pr_stepCount pr_open pr_twoSides pr_waiting_r pr_waitingPlaces_r pr_waitingCount)) hP hD [1] [0, 2, 3, 4, 5, 6, 7] rfl rfl (by decide) (by decide) hk1 hFc hP1 hD1
          have hP : va_P (dC, dI) cls [(h0, .inr (2, [.ref pr, .ref kn, .ref lt, .int h0_localCount, .ref pe, .int j41_h0_pendingCount, .int h0_gives, .int h0_depth, .int h0_loopDepth, .ref to, .ref bo, .ref cs, .ref se])), (pe, .inl (cpe, 680, .inl gpe)), (bo, .inr (1, [.ref bob, .int bo_length])), (bob, .inl (cbob, 8192, .inl gbob)), (pg, .inl (cpg, 4100, .inr (.inr (.inr (.inr (fun j => (gpg j).map (sg sa))))))), (pp, .inl (cpp, 4100, .inl gpp)), (pv, .inl (cpv, 4100, .inr (.inl gpv))), (pr, .inr (6, [.ref gl, .ref fu, .ref pa, .ref pf, .ref sf, .ref pk, .ref pg, .ref pp, .ref pz, .ref pv, .int n38, .int n37, .ref pr_scanner_r, .int pr_stepCount, .int pr_open, .int pr_twoSides, .ref pr_waiting_r, .ref pr_waitingPlaces_r, .int pr_waitingCount]))] H1 := hP
          have hD : va_D A [(h0, .inr (2, [.ref pr, .ref kn, .ref lt, .int h0_localCount, .ref pe, .int j41_h0_pendingCount, .int h0_gives, .int h0_depth, .int h0_loopDepth, .ref to, .ref bo, .ref cs, .ref se])), (pe, .inl (cpe, 680, .inl gpe)), (bo, .inr (1, [.ref bob, .int bo_length])), (bob, .inl (cbob, 8192, .inl gbob)), (pg, .inl (cpg, 4100, .inr (.inr (.inr (.inr (fun j => (gpg j).map (sg sa))))))), (pp, .inl (cpp, 4100, .inl gpp)), (pv, .inl (cpv, 4100, .inr (.inl gpv))), (pr, .inr (6, [.ref gl, .ref fu, .ref pa, .ref pf, .ref sf, .ref pk, .ref pg, .ref pp, .ref pz, .ref pv, .int n38, .int n37, .ref pr_scanner_r, .int pr_stepCount, .int pr_open, .int pr_twoSides, .ref pr_waiting_r, .ref pr_waitingPlaces_r, .int pr_waitingCount]))] := hD
          have hP9 := hP.sb (wq := (wz_181 h0 pr kn lt h0_localCount pe j41_h0_pendingCount h0_gives h0_depth h0_loopDepth to bo cs se pr gl fu pa pf sf pk pg pp pz pv n38 n37 pr_scanner_r pr_stepCount pr_open pr_twoSides pr_waiting_r pr_waitingPlaces_r pr_waitingCount pe cpe gpe bo bob bo_length bob cbob gbob pg cpg (fun j => (gpg j).map (sg sa)) pp cpp gpp pv cpv gpv)) [0, 7, 1, 2, 3, 4, 5, 6] rfl
          have hD9 := hD.sb (wq := (wz_181 h0 pr kn lt h0_localCount pe j41_h0_pendingCount h0_gives h0_depth h0_loopDepth to bo cs se pr gl fu pa pf sf pk pg pp pz pv n38 n37 pr_scanner_r pr_stepCount pr_open pr_twoSides pr_waiting_r pr_waitingPlaces_r pr_waitingCount pe cpe gpe bo bob bo_length bob cbob gbob pg cpg (fun j => (gpg j).map (sg sa)) pp cpp gpp pv cpv gpv)) [0, 7, 1, 2, 3, 4, 5, 6] (by decide) rfl
          exact tz_leave rfl hno hlocks (fun t ht hW => ⟨⟨(gbob, gpe, bo_length, j41_h0_pendingCount, n37, n38), ⟨⟨b_bo_length, b_j41_h0_pendingCount⟩, by rw [ht]; exact hXX.moved hW.alike⟩, va_P.he ht.symm hP9, va_K.moved hW.alike hK, hD9⟩, hS.F ht⟩) hS.2.2
        exact (show False from hw).elim
    · have q43 := nltI c43
      refine lv_aload_n hx hb d_CO_codeOwnCall_46 rfl (lv_at hl 0 rfl) ?_
      have hPc := hP.sb (wq := (wz_149 h0 pr kn lt h0_localCount pe j41_h0_pendingCount h0_gives h0_depth h0_loopDepth to bo cs se pe cpe gpe)) [0, 2] rfl
      have hDc := hD.sb (wq := (wz_149 h0 pr kn lt h0_localCount pe j41_h0_pendingCount h0_gives h0_depth h0_loopDepth to bo cs se pe cpe gpe)) [0, 2] (by decide) rfl
      have hKc := hK.sb (tyq := [(cpe, .int)]) [0] rfl
      have hFc := va_free (wc := (wz_149 h0 pr kn lt h0_localCount pe j41_h0_pendingCount h0_gives h0_depth h0_loopDepth to bo cs se pe cpe gpe)) hD hS hA [0, 2] rfl
      refine va_calli (va_runV (As := []) (rest := []) ⟨hx, hb, hml, hown, hts⟩ (c_CO_pop l dC dI H.size h0 pr kn lt pe to bo cs se cpe h0_localCount j41_h0_pendingCount h0_gives h0_depth h0_loopDepth gpe (b_j41_h0_pendingCount) (by (try dsimp only) <;> (first | (apply Int.le_antisymm <;> omega) | omega))) (cwV 0 hts (gV kM_CO_224 kV_CO_pop kS_CO_pop kI_CO kC_CO_pop) rfl rfl rfl (by decide +kernel) ⟨Nat.le_of_ble_eq_true rfl, Nat.le_of_ble_eq_true rfl⟩) ⟨fun a U g mk z => by obtain ⟨z0, z1, zP, zK, zD⟩ := z; exact ⟨z0, z1, zP, va_K.moved (u := U) (U := U.calling g mk a) (Vm.Alike.refl U.vm) zK, zD⟩, va_recv hKc hPc (ci := 2) (q0 := 0) rfl rfl, fun U hU hW => ⟨rfl, by rw [hU], va_P.he hU.symm hPc, va_K.moved hW.alike hKc, hDc.weaken (fun _ _ _ _ => trivial)⟩⟩ rfl rfl hl.1 rfl (lv_room (Nat.le_of_ble_eq_true rfl)) d_CO_codeOwnCall_47 ⟨(Nat.zero_le _), (Nat.zero_le _)⟩) hS (fun q _ h => hFc q h) hFc (fun r39 u t H1 locs ht hvm hw hB hz1 hk1 hS => ?_)
      obtain ⟨n40, rfl⟩ : ∃ z, z = u := ⟨_, rfl⟩
      try dsimp only at hw
      obtain ⟨bn40, xr39⟩ := hw
      try clear hw
      obtain ⟨hP1, hK1, hD1⟩ := hB
      replace hP1 := va_P.he ht hP1
      obtain ⟨hP, hD⟩ := va_join (wr := [(pr, .inr (6, [.ref gl, .ref fu, .ref pa, .ref pf, .ref sf, .ref pk, .ref pg, .ref pp, .ref pz, .ref pv, .int pr_reason, .int pr_place, .ref pr_scanner_r, .int pr_stepCount, .int pr_open, .int pr_twoSides, .ref pr_waiting_r, .ref pr_waitingPlaces_r, .int pr_waitingCount])), (bo, .inr (1, [.ref bob, .int bo_length])), (bob, .inl (cbob, 8192, .inl gbob)), (pg, .inl (cpg, 4100, .inr (.inr (.inr (.inr (fun j => (gpg j).map (sg sa))))))), (pp, .inl (cpp, 4100, .inl gpp)), (pv, .inl (cpv, 4100, .inr (.inl gpv)))]) (w1 := (wz_149 h0 pr kn lt h0_localCount pe n40 h0_gives h0_depth h0_loopDepth to bo cs se pe cpe gpe)) hP hD [0, 2] [1, 3, 4, 5, 6, 7] rfl rfl (by decide) (by decide) hk1 hFc hP1 hD1
      clear hPc hDc hKc hFc hz1 hk1 hP1 hK1 hD1
      rename Heap => H
      have hP : va_P (dC, dI) cls (wz_186 pr gl fu pa pf sf pk pg pp pz pv pr_reason pr_place pr_scanner_r pr_stepCount pr_open pr_twoSides pr_waiting_r pr_waitingPlaces_r pr_waitingCount bo bob bo_length bob cbob gbob pg cpg (fun j => (gpg j).map (sg sa)) pp cpp gpp pv cpv gpv h0 pr kn lt h0_localCount pe n40 h0_gives h0_depth h0_loopDepth to bo cs se pe cpe gpe) H := hP
      have hD : va_D A (wz_186 pr gl fu pa pf sf pk pg pp pz pv pr_reason pr_place pr_scanner_r pr_stepCount pr_open pr_twoSides pr_waiting_r pr_waitingPlaces_r pr_waitingCount bo bob bo_length bob cbob gbob pg cpg (fun j => (gpg j).map (sg sa)) pp cpp gpp pv cpv gpv h0 pr kn lt h0_localCount pe n40 h0_gives h0_depth h0_loopDepth to bo cs se pe cpe gpe) := hD
      refine lv_istore (lv' := [(6, .int r39), (0, .ref h0), (1, .int p0), (2, .ref (sg sa ka)), (4, .int j41_l4), (5, .int j41_l5)]) hx hb d_CO_codeOwnCall_50 hl (by decide) rfl (fun ls hl => ?_)
      refine lv_iload hx hb d_CO_codeOwnCall_52 (lv_at hl 4 rfl) ?_
      refine w_cut (pc2 := 83) (σ := Int32) (fun u H locs ls => match u with | j83_s0 => (j83_s0 = 0 ∨ j83_s0 = 1) ∧ (bx (j83_s0 = 1 → x3.toInt = tkn ka ∧ ∀ j : Nat, n40.toInt ≤ (j : Int) → (j : Int) < h0_pendingCount.toInt → (gpe j).toInt ≠ 64)) ∧ va_P (dC, dI) cls (wz_186 pr gl fu pa pf sf pk pg pp pz pv pr_reason pr_place pr_scanner_r pr_stepCount pr_open pr_twoSides pr_waiting_r pr_waitingPlaces_r pr_waitingCount bo bob bo_length bob cbob gbob pg cpg (fun j => (gpg j).map (sg sa)) pp cpp gpp pv cpv gpv h0 pr kn lt h0_localCount pe n40 h0_gives h0_depth h0_loopDepth to bo cs se pe cpe gpe) H ∧ va_D A (wz_186 pr gl fu pa pf sf pk pg pp pz pv pr_reason pr_place pr_scanner_r pr_stepCount pr_open pr_twoSides pr_waiting_r pr_waitingPlaces_r pr_waitingCount bo bob bo_length bob cbob gbob pg cpg (fun j => (gpg j).map (sg sa)) pp cpp gpp pv cpv gpv h0 pr kn lt h0_localCount pe n40 h0_gives h0_depth h0_loopDepth to bo cs se pe cpe gpe) ∧ va_S A s.heap H locs ∧ lv_has ls 7 [(0, .ref h0), (1, .int p0), (2, .ref (sg sa ka)), (5, .int j41_l5)]) (fun u => match u with | j83_s0 => [.int j83_s0]) ?_ (fun jn83 => ?_)
      · intro u H locs ls hI
        obtain ⟨j83_s0, rfl⟩ : ∃ z, z = u := ⟨_, rfl⟩
        obtain ⟨b_j83_s0, y83, hP, hD, hS, hl⟩ := hI
        have tj83_s0 := b01 b_j83_s0
        refine lv_istore (lv' := [(4, .int j83_s0), (0, .ref h0), (1, .int p0), (2, .ref (sg sa ka)), (5, .int j41_l5)]) hx hb d_CO_codeOwnCall_83 hl (by decide) rfl (fun ls hl => ?_)
        obtain ⟨x41, ex41⟩ : ∃ z : Int32, z = j41_l5 + (-1) := ⟨_, rfl⟩
        have tx41 : x41.toInt = j41_l5.toInt + (-1) := by have z := i32_add ex41 (by (first | (apply Int.le_antisymm <;> omega) | omega)) (by (first | (apply Int.le_antisymm <;> omega) | omega)); first | exact z | (first | (apply Int.le_antisymm <;> omega) | omega)
        refine lv_iinc (v := x41) (lv' := [(5, .int x41), (4, .int j83_s0), (0, .ref h0), (1, .int p0), (2, .ref (sg sa ka))]) hx hb d_CO_codeOwnCall_85 hl (k := 4) rfl (by rw [ex41]; rfl) (by decide) rfl (fun ls hl => ?_)
        refine lv_goto (tgt := 41) hx hb d_CO_codeOwnCall_88 (by decide) ?_
        exact ih41 (j83_s0, x41, n40) _ _ _ (by show (x41.toInt + 1).toNat < N41; (first | (apply Int.le_antisymm <;> omega) | omega)) ⟨b_j83_s0, bn40, by (try dsimp only) <;> (first | (apply Int.le_antisymm <;> omega) | omega), y83, hP.sub [6, 0, 7, 1, 2, 3, 4, 5] rfl, hD.sub [6, 0, 7, 1, 2, 3, 4, 5] (by decide) rfl, hS, lv_sub hl [2, 3, 4, 1, 0] rfl⟩
      · skip
        refine w_cut (pc2 := 82) (σ := Unit) (fun u H locs ls => match u with | _ => va_P (dC, dI) cls (wz_186 pr gl fu pa pf sf pk pg pp pz pv pr_reason pr_place pr_scanner_r pr_stepCount pr_open pr_twoSides pr_waiting_r pr_waitingPlaces_r pr_waitingCount bo bob bo_length bob cbob gbob pg cpg (fun j => (gpg j).map (sg sa)) pp cpp gpp pv cpv gpv h0 pr kn lt h0_localCount pe n40 h0_gives h0_depth h0_loopDepth to bo cs se pe cpe gpe) H ∧ va_D A (wz_186 pr gl fu pa pf sf pk pg pp pz pv pr_reason pr_place pr_scanner_r pr_stepCount pr_open pr_twoSides pr_waiting_r pr_waitingPlaces_r pr_waitingCount bo bob bo_length bob cbob gbob pg cpg (fun j => (gpg j).map (sg sa)) pp cpp gpp pv cpv gpv h0 pr kn lt h0_localCount pe n40 h0_gives h0_depth h0_loopDepth to bo cs se pe cpe gpe) ∧ va_S A s.heap H locs ∧ lv_has ls 7 [(0, .ref h0), (1, .int p0), (2, .ref (sg sa ka)), (5, .int j41_l5)]) (fun u => match u with | _ => []) ?_ (fun jn82 => ?_)
        · intro u H locs ls hI
          obtain ⟨hP, hD, hS, hl⟩ := hI
          refine lv_iconst (v := 0) hx hb d_CO_codeOwnCall_82 (by decide) ?_
          exact jn83 0 _ _ _ ⟨Or.inl rfl, fun z => absurd z (by decide), hP, hD, hS, lv_sub hl [0, 1, 2, 3] rfl⟩
        · skip
          refine lv_if_eq (tgt := 82) hx hb d_CO_codeOwnCall_54 (by decide) (fun c54 => ?_) (fun c54 => ?_)
          · have q54 := eqI c54
            exact jn82 () _ _ _ ⟨hP, hD, hS, lv_sub hl [1, 2, 3, 5] rfl⟩
          · have q54 := neI c54
            have k57 := hft.out (by rcases b_j41_l4 with z | z; (exfalso; rw [z] at q54; exact q54 rfl); exact z)
            refine lv_iload hx hb d_CO_codeOwnCall_57 (lv_at hl 0 rfl) ?_
            refine lv_iload hx hb d_CO_codeOwnCall_59 (lv_at hl 5 rfl) ?_
            refine w_cut (pc2 := 75) (σ := Int32) (fun u H locs ls => match u with | j75_s0 => ((j41_l5.toInt = 0 ∧ j75_s0.toInt = (sg_takesFirst.getD ka 0).toInt) ∨ (j41_l5.toInt ≠ 0 ∧ j75_s0.toInt = (sg_takesSecond.getD ka 0).toInt)) ∧ va_P (dC, dI) cls (wz_186 pr gl fu pa pf sf pk pg pp pz pv pr_reason pr_place pr_scanner_r pr_stepCount pr_open pr_twoSides pr_waiting_r pr_waitingPlaces_r pr_waitingCount bo bob bo_length bob cbob gbob pg cpg (fun j => (gpg j).map (sg sa)) pp cpp gpp pv cpv gpv h0 pr kn lt h0_localCount pe n40 h0_gives h0_depth h0_loopDepth to bo cs se pe cpe gpe) H ∧ va_D A (wz_186 pr gl fu pa pf sf pk pg pp pz pv pr_reason pr_place pr_scanner_r pr_stepCount pr_open pr_twoSides pr_waiting_r pr_waitingPlaces_r pr_waitingCount bo bob bo_length bob cbob gbob pg cpg (fun j => (gpg j).map (sg sa)) pp cpp gpp pv cpv gpv h0 pr kn lt h0_localCount pe n40 h0_gives h0_depth h0_loopDepth to bo cs se pe cpe gpe) ∧ va_S A s.heap H locs ∧ lv_has ls 7 [(0, .ref h0), (1, .int p0), (2, .ref (sg sa ka)), (5, .int j41_l5)]) (fun u => match u with | j75_s0 => [.int j75_s0, .int r39]) ?_ (fun jn75 => ?_)
            · intro u H locs ls hI
              obtain ⟨j75_s0, rfl⟩ : ∃ z, z = u := ⟨_, rfl⟩
              obtain ⟨y75, hP, hD, hS, hl⟩ := hI
              refine lv_icmp_ne (tgt := 82) hx hb d_CO_codeOwnCall_75 (by decide) (fun c75 => ?_) (fun c75 => ?_)
              · have q75 := neI c75
                exact jn82 () _ _ _ ⟨hP, hD, hS, lv_sub hl [0, 1, 2, 3] rfl⟩
              · have q75 := eqI c75
                refine lv_iconst (v := 1) hx hb d_CO_codeOwnCall_78 (by decide) ?_
                refine lv_goto (tgt := 83) hx hb d_CO_codeOwnCall_79 (by decide) ?_
                exact jn83 1 _ _ _ ⟨Or.inr rfl, fun _ => ⟨k57.1, fun j j1 j2 => by by_cases q : (j : Int) = n40.toInt; (rw [show j = n40.toNatClampNeg from by have := i32_clamp (x := n40) (by (first | (apply Int.le_antisymm <;> omega) | omega)); (first | (apply Int.le_antisymm <;> omega) | omega), ← xr39.2, show r39.toInt = j75_s0.toInt from by (first | (apply Int.le_antisymm <;> omega) | omega)]; rcases y75 with z | z; (have := tk34.2.1 (by have := k57.1; (first | (apply Int.le_antisymm <;> omega) | omega)); (first | (apply Int.le_antisymm <;> omega) | omega)); (have := tk34.2.2 (by have := k57.1; (first | (apply Int.le_antisymm <;> omega) | omega)); (first | (apply Int.le_antisymm <;> omega) | omega))); exact k57.2 j (by (first | (apply Int.le_antisymm <;> omega) | omega)) j2⟩, hP, hD, hS, lv_sub hl [0, 1, 2, 3] rfl⟩
            · skip
              refine lv_if_ne (tgt := 71) hx hb d_CO_codeOwnCall_61 (by decide) (fun c61 => ?_) (fun c61 => ?_)
              · have q61 := neI c61
                refine lv_aload_n hx hb d_CO_codeOwnCall_71 rfl (lv_at hl 3 rfl) ?_
                refine va_getE (i := ka) (q := ("WaferForge$Sign", "takesSecond", "I", sg_takesSecond)) hx hb hSW.2.2.2.1 b9 hS hown (List.mem_of_getElem? (i := 5) rfl) (hts _ kF_CO_256) (fun _ h9 => h9) d_CO_codeOwnCall_72 ?_
                refine lv_topi (fun x42 ex42 => ?_)
                have ex42 : x42 = sg_takesSecond.getD ka 0 := ex42
                exact jn75 x42 _ _ _ ⟨Or.inr ⟨by (first | (apply Int.le_antisymm <;> omega) | omega), by rw [ex42]⟩, hP, hD, hS, lv_sub hl [1, 2, 3, 5] rfl⟩
              · have q61 := eqI c61
                refine lv_aload_n hx hb d_CO_codeOwnCall_64 rfl (lv_at hl 3 rfl) ?_
                refine va_getE (i := ka) (q := ("WaferForge$Sign", "takesFirst", "I", sg_takesFirst)) hx hb hSW.2.2.2.1 b9 hS hown (List.mem_of_getElem? (i := 4) rfl) (hts _ kF_CO_253) (fun _ h9 => h9) d_CO_codeOwnCall_65 ?_
                refine lv_topi (fun x43 ex43 => ?_)
                have ex43 : x43 = sg_takesFirst.getD ka 0 := ex43
                refine lv_goto (tgt := 75) hx hb d_CO_codeOwnCall_68 (by decide) ?_
                exact jn75 x43 _ _ _ ⟨Or.inl ⟨by (first | (apply Int.le_antisymm <;> omega) | omega), by rw [ex43]⟩, hP, hD, hS, lv_sub hl [1, 2, 3, 5] rfl⟩
  · skip
    refine lv_icmp_ne (tgt := 33) hx hb d_CO_codeOwnCall_26 (by decide) (fun c26 => ?_) (fun c26 => ?_)
    · have q26 := neI c26
      refine lv_iconst (v := 0) hx hb d_CO_codeOwnCall_33 (by decide) ?_
      exact jn34 0 _ _ _ ⟨Or.inl rfl, fun z => absurd z (by decide), hP, hD, hS, lv_sub hl [2, 3, 1, 0] rfl⟩
    · have q26 := eqI c26
      refine lv_iconst (v := 1) hx hb d_CO_codeOwnCall_29 (by decide) ?_
      refine lv_goto (tgt := 34) hx hb d_CO_codeOwnCall_30 (by decide) ?_
      exact jn34 1 _ _ _ ⟨Or.inr rfl, fun _ => by have := tk34.1; (first | (apply Int.le_antisymm <;> omega) | omega), hP, hD, hS, lv_sub hl [2, 3, 1, 0] rfl⟩
end q_73

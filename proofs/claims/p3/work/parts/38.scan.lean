/-! Scanner: what a sign is -/
theorem sgB_len : ∀ k, k < 55 → ((sgB.getD k []).length ≤ 8 ∧ (k < 5 → (sgB.getD k []).length = 0) ∧ (5 ≤ k → 1 ≤ (sgB.getD k []).length)) := by decide
def pt (z : Int) : Int := 10 ^ z.toNat
theorem pt_succ {z : Int} (h : 0 ≤ z) : pt (z + 1) = 10 * pt z := by
  unfold pt
  rw [show (z + 1).toNat = z.toNat + 1 by omega, Int.pow_succ]
  omega
theorem pt_0 : pt 0 = 1 := rfl
theorem pt_pos (z : Int) : 1 ≤ pt z := by
  unfold pt
  have : 0 < (10 : Int) ^ z.toNat := Int.pow_pos (by decide)
  omega
theorem i64_mul {a b x : Int64} (e : x = a * b) (h1 : -9223372036854775808 ≤ a.toInt * b.toInt) (h2 : a.toInt * b.toInt ≤ 9223372036854775807) : x.toInt = a.toInt * b.toInt := by
  rw [e, Int64.toInt_mul]
  exact Int.bmod_eq_of_le (by omega) (by omega)
theorem i64_div10 {a d x : Int64} (e : x = a / d) (hd : d.toInt = 10) (h : 0 ≤ a.toInt) : x.toInt = a.toInt / 10 := by
  have hi := i64_hi a
  rw [e, Int64.toInt_div, hd, Int.tdiv_eq_ediv_of_nonneg h]
  exact Int.bmod_eq_of_le (by omega) (by omega)
def tkT (k : Nat) (z v : Int) : Prop := (k ≠ 0 → k ≠ 1 → 1 ≤ z) ∧ (k = 2 → z ≤ 20) ∧ (k = 3 → 0 ≤ v ∧ v < pt z ∧ v ≤ 2147483647) ∧ (k = 4 → 2 ≤ z ∧ 0 ≤ v ∧ v < pt (z - 1)) ∧ (5 ≤ k → z = (sgB.getD k []).length)
def tk1 (L : Int) (len : Int) (ss : Nat → Option Nat) (sp sz : Nat → Int32) (sv : Nat → Int64) (i k : Nat) : Prop :=
  k < 55 ∧ ss i = some k ∧ 0 ≤ (sp i).toInt ∧ 0 ≤ (sz i).toInt ∧ (sp i).toInt + (sz i).toInt ≤ L ∧ tkT k (sz i).toInt (sv i).toInt ∧ ((i : Int) + 1 < len → k ≠ 0 ∧ k ≠ 1 ∧ (sp i).toInt + (sz i).toInt ≤ (sp (i + 1)).toInt)
def tkP (L : Int) (len : Int) (ss : Nat → Option Nat) (sp sz : Nat → Int32) (sv : Nat → Int64) : Prop := ∀ i : Nat, (i : Int) < len → ∃ k, tk1 L len ss sp sz sv i k
def tkOK (L : Int) (len : Int) (ss : Nat → Option Nat) (sp sz : Nat → Int32) (sv : Nat → Int64) : Prop := 1 ≤ len ∧ tkP L len ss sp sz sv ∧ ∀ i : Nat, (i : Int) + 1 = len → ss i = some 0 ∨ ss i = some 1
abbrev b_SC_isLetter : ByteArray := prog_10_method_11_code
def y_SC_isLetter : MethodName := ⟨R_SC, "isLetter", "(I)Z"⟩
abbrev w_SC_isLetter : List Cond := .code y_SC_isLetter b_SC_isLetter 1 (Option.some .boolean) :: lw_g
theorem kC_SC_isLetter : Cond.code y_SC_isLetter b_SC_isLetter 1 (Option.some .boolean) ∈ lw_g := in_g 793 (by decide +kernel) rfl
theorem d_SC_isLetter_0 : decode b_SC_isLetter 0 = .ok (.iload_n 0, 1) := by decide +kernel
theorem d_SC_isLetter_1 : decode b_SC_isLetter 1 = .ok (.bipush 97, 2) := by decide +kernel
theorem d_SC_isLetter_3 : decode b_SC_isLetter 3 = .ok (.if_icmp .lt 9, 3) := by decide +kernel
theorem d_SC_isLetter_6 : decode b_SC_isLetter 6 = .ok (.iload_n 0, 1) := by decide +kernel
theorem d_SC_isLetter_7 : decode b_SC_isLetter 7 = .ok (.bipush 122, 2) := by decide +kernel
theorem d_SC_isLetter_9 : decode b_SC_isLetter 9 = .ok (.if_icmp .le 21, 3) := by decide +kernel
theorem d_SC_isLetter_12 : decode b_SC_isLetter 12 = .ok (.iload_n 0, 1) := by decide +kernel
theorem d_SC_isLetter_13 : decode b_SC_isLetter 13 = .ok (.bipush 65, 2) := by decide +kernel
theorem d_SC_isLetter_15 : decode b_SC_isLetter 15 = .ok (.if_icmp .lt 9, 3) := by decide +kernel
theorem d_SC_isLetter_18 : decode b_SC_isLetter 18 = .ok (.iload_n 0, 1) := by decide +kernel
theorem d_SC_isLetter_19 : decode b_SC_isLetter 19 = .ok (.bipush 90, 2) := by decide +kernel
theorem d_SC_isLetter_21 : decode b_SC_isLetter 21 = .ok (.if_icmp .le 9, 3) := by decide +kernel
theorem d_SC_isLetter_24 : decode b_SC_isLetter 24 = .ok (.iload_n 0, 1) := by decide +kernel
theorem d_SC_isLetter_25 : decode b_SC_isLetter 25 = .ok (.bipush 95, 2) := by decide +kernel
theorem d_SC_isLetter_27 : decode b_SC_isLetter 27 = .ok (.if_icmp .ne 7, 3) := by decide +kernel
theorem d_SC_isLetter_30 : decode b_SC_isLetter 30 = .ok (.iconst 1, 1) := by decide +kernel
theorem d_SC_isLetter_31 : decode b_SC_isLetter 31 = .ok (.goto 4, 3) := by decide +kernel
theorem d_SC_isLetter_34 : decode b_SC_isLetter 34 = .ok (.iconst 0, 1) := by decide +kernel
theorem d_SC_isLetter_35 : decode b_SC_isLetter 35 = .ok (.ireturn, 1) := by decide +kernel
abbrev at_SC_isLetter (dC : Nat → ClassId) (dI : Nat → Nat → Nat)  (A : Nat → Prop) (u : Unit) (t : State) : Prop := match u with | _ => va_P (dC, dI) cls [] t.heap ∧ va_K (dC, dI) cls [] t ∧ va_D A []
set_option maxHeartbeats 4000000 in
set_option maxRecDepth 100000 in
theorem c_SC_isLetter (l : Launch) (dC : Nat → ClassId) (dI : Nat → Nat → Nat) (sz : Nat)    (p0 : Int32)   : Met l y_SC_isLetter w_SC_isLetter ({ frames := 0, cells := 0, slots := 0, locals := 0 }) (va_Pc [.int p0] (fun U => U.heap.size = sz ∧ va_P (dC, dI) cls [] U.heap ∧ va_K (dC, dI) cls [] U ∧ va_D (fun _ => True) [])) (va_Qi (fun (r : Int32) (u : Unit) => match u with | _ => (r = 0 ∨ r = 1)) (at_SC_isLetter dC dI  (va_A [] sz)) (va_A [] sz)) 0 0 (va_A [] sz) := by
  refine Met.ofW (cc := b_SC_isLetter) (maxL := 1) (ret := (Option.some .boolean)) (by decide) rfl ?_
  intro p e s m args below meth c s₁ B hml hv
  obtain ⟨rfl, hsz, hP, hK, hD0⟩ := hv
  have hx := B.exec
  have hb := B.bytes
  have hr := B.returns
  have hts0 := atoms_spec (ws := w_SC_isLetter) B.pre
  have hts : ∀ w ∈ lw_g, w.before _ s = true := fun w h => hts0 w (List.mem_cons_of_mem _ h)
  have hown : s.vm.findClass R_SC = some m.cls := findClass_of_methodNamed B.named
  have hlocks := B.notSynchronized
  clear hts0
  subst hsz
  have hD := hD0.self (sz := s.heap.size)
  generalize hAe : va_A [] s.heap.size = A at hD ⊢
  have hA : ∀ q : Nat, s.heap.size ≤ q → A q := fun q h => by rw [← hAe]; exact Or.inr h
  clear hAe
  have hP : va_P (dC, dI) cls [] s.heap := hP
  have hl := lv_entry ([.int p0]) (n := 1) (Nat.le_of_ble_eq_true rfl)
  rw [lg_entry_eq]
  generalize (lg_sl ([.int p0]) ++ List.replicate (1 - (lg_sl ([.int p0])).length) Slot.unset).toArray = ls at hl ⊢
  have hl : lv_has ls 1 [(0, .int p0)] := hl
  have k0 : (0 : Int32).toInt = 0 := by decide
  refine w_gen (A := A) hP (fun H locs hP hS => ?_)
  have k1 : (1 : Int32).toInt = 1 := by decide
  have k65 : (65 : Int32).toInt = 65 := by decide
  have k90 : (90 : Int32).toInt = 90 := by decide
  have k95 : (95 : Int32).toInt = 95 := by decide
  have k97 : (97 : Int32).toInt = 97 := by decide
  have k122 : (122 : Int32).toInt = 122 := by decide
  have lo_p0 := i32_lo p0
  have hi_p0 := i32_hi p0
  refine lv_iload_n hx hb d_SC_isLetter_0 rfl (lv_at hl 0 rfl) ?_
  refine lv_bipush (v := 97) hx hb d_SC_isLetter_1 (by decide) ?_
  refine w_cut (pc2 := 12) (σ := Unit) (fun u H locs ls => match u with | _ => va_P (dC, dI) cls [] H ∧ va_D A [] ∧ va_S A s.heap H locs ∧ lv_has ls 1 [(0, .int p0)]) (fun u => match u with | _ => []) ?_ (fun jn12 => ?_)
  · intro u H locs ls hI
    obtain ⟨hP, hD, hS, hl⟩ := hI
    refine lv_iload_n hx hb d_SC_isLetter_12 rfl (lv_at hl 0 rfl) ?_
    refine lv_bipush (v := 65) hx hb d_SC_isLetter_13 (by decide) ?_
    refine w_cut (pc2 := 24) (σ := Unit) (fun u H locs ls => match u with | _ => va_P (dC, dI) cls [] H ∧ va_D A [] ∧ va_S A s.heap H locs ∧ lv_has ls 1 [(0, .int p0)]) (fun u => match u with | _ => []) ?_ (fun jn24 => ?_)
    · intro u H locs ls hI
      obtain ⟨hP, hD, hS, hl⟩ := hI
      refine lv_iload_n hx hb d_SC_isLetter_24 rfl (lv_at hl 0 rfl) ?_
      refine lv_bipush (v := 95) hx hb d_SC_isLetter_25 (by decide) ?_
      refine lv_icmp_ne (tgt := 34) hx hb d_SC_isLetter_27 (by decide) (fun c27 => ?_) (fun c27 => ?_)
      · have q27 := neI c27
        refine lv_iconst (v := 0) hx hb d_SC_isLetter_34 (by decide) ?_
        have hP9 := hP.sub (ws' := []) [] rfl
        have hD9 := hD.sub (ws' := []) [] (by decide) rfl
        exact W.zret (v := 0) hx hb hr (zn01 (Or.inl rfl)) (fun t ht hW => ⟨⟨0, (), rfl, (Or.inl rfl), by rw [ht]; exact hP9, va_K.moved hW.alike hK, hD9⟩, hS.F ht⟩) hS.2.2 d_SC_isLetter_35
      · have q27 := eqI c27
        refine lv_iconst (v := 1) hx hb d_SC_isLetter_30 (by decide) ?_
        refine lv_goto (tgt := 35) hx hb d_SC_isLetter_31 (by decide) ?_
        have hP9 := hP.sub (ws' := []) [] rfl
        have hD9 := hD.sub (ws' := []) [] (by decide) rfl
        exact W.zret (v := 1) hx hb hr (zn01 (Or.inr rfl)) (fun t ht hW => ⟨⟨1, (), rfl, (Or.inr rfl), by rw [ht]; exact hP9, va_K.moved hW.alike hK, hD9⟩, hS.F ht⟩) hS.2.2 d_SC_isLetter_35
    · skip
      refine lv_icmp_lt (tgt := 24) hx hb d_SC_isLetter_15 (by decide) (fun c15 => ?_) (fun c15 => ?_)
      · have q15 := ltI c15
        exact jn24 () _ _ _ ⟨hP, hD, hS, lv_sub hl [0] rfl⟩
      · have q15 := nltI c15
        refine lv_iload_n hx hb d_SC_isLetter_18 rfl (lv_at hl 0 rfl) ?_
        refine lv_bipush (v := 90) hx hb d_SC_isLetter_19 (by decide) ?_
        refine lv_icmp_le (tgt := 30) hx hb d_SC_isLetter_21 (by decide) (fun c21 => ?_) (fun c21 => ?_)
        · have q21 := leI c21
          refine lv_iconst (v := 1) hx hb d_SC_isLetter_30 (by decide) ?_
          refine lv_goto (tgt := 35) hx hb d_SC_isLetter_31 (by decide) ?_
          have hP9 := hP.sub (ws' := []) [] rfl
          have hD9 := hD.sub (ws' := []) [] (by decide) rfl
          exact W.zret (v := 1) hx hb hr (zn01 (Or.inr rfl)) (fun t ht hW => ⟨⟨1, (), rfl, (Or.inr rfl), by rw [ht]; exact hP9, va_K.moved hW.alike hK, hD9⟩, hS.F ht⟩) hS.2.2 d_SC_isLetter_35
        · have q21 := nleI c21
          exact jn24 () _ _ _ ⟨hP, hD, hS, lv_sub hl [0] rfl⟩
  · skip
    refine lv_icmp_lt (tgt := 12) hx hb d_SC_isLetter_3 (by decide) (fun c3 => ?_) (fun c3 => ?_)
    · have q3 := ltI c3
      exact jn12 () _ _ _ ⟨hP, hD, hS, lv_sub hl [0] rfl⟩
    · have q3 := nltI c3
      refine lv_iload_n hx hb d_SC_isLetter_6 rfl (lv_at hl 0 rfl) ?_
      refine lv_bipush (v := 122) hx hb d_SC_isLetter_7 (by decide) ?_
      refine lv_icmp_le (tgt := 30) hx hb d_SC_isLetter_9 (by decide) (fun c9 => ?_) (fun c9 => ?_)
      · have q9 := leI c9
        refine lv_iconst (v := 1) hx hb d_SC_isLetter_30 (by decide) ?_
        refine lv_goto (tgt := 35) hx hb d_SC_isLetter_31 (by decide) ?_
        have hP9 := hP.sub (ws' := []) [] rfl
        have hD9 := hD.sub (ws' := []) [] (by decide) rfl
        exact W.zret (v := 1) hx hb hr (zn01 (Or.inr rfl)) (fun t ht hW => ⟨⟨1, (), rfl, (Or.inr rfl), by rw [ht]; exact hP9, va_K.moved hW.alike hK, hD9⟩, hS.F ht⟩) hS.2.2 d_SC_isLetter_35
      · have q9 := nleI c9
        exact jn12 () _ _ _ ⟨hP, hD, hS, lv_sub hl [0] rfl⟩
abbrev b_SC_isDigit : ByteArray := prog_10_method_12_code
def y_SC_isDigit : MethodName := ⟨R_SC, "isDigit", "(I)Z"⟩
abbrev w_SC_isDigit : List Cond := .code y_SC_isDigit b_SC_isDigit 1 (Option.some .boolean) :: lw_g
theorem kC_SC_isDigit : Cond.code y_SC_isDigit b_SC_isDigit 1 (Option.some .boolean) ∈ lw_g := in_g 803 (by decide +kernel) rfl
theorem d_SC_isDigit_0 : decode b_SC_isDigit 0 = .ok (.iload_n 0, 1) := by decide +kernel
theorem d_SC_isDigit_1 : decode b_SC_isDigit 1 = .ok (.bipush 48, 2) := by decide +kernel
theorem d_SC_isDigit_3 : decode b_SC_isDigit 3 = .ok (.if_icmp .lt 13, 3) := by decide +kernel
theorem d_SC_isDigit_6 : decode b_SC_isDigit 6 = .ok (.iload_n 0, 1) := by decide +kernel
theorem d_SC_isDigit_7 : decode b_SC_isDigit 7 = .ok (.bipush 57, 2) := by decide +kernel
theorem d_SC_isDigit_9 : decode b_SC_isDigit 9 = .ok (.if_icmp .gt 7, 3) := by decide +kernel
theorem d_SC_isDigit_12 : decode b_SC_isDigit 12 = .ok (.iconst 1, 1) := by decide +kernel
theorem d_SC_isDigit_13 : decode b_SC_isDigit 13 = .ok (.goto 4, 3) := by decide +kernel
theorem d_SC_isDigit_16 : decode b_SC_isDigit 16 = .ok (.iconst 0, 1) := by decide +kernel
theorem d_SC_isDigit_17 : decode b_SC_isDigit 17 = .ok (.ireturn, 1) := by decide +kernel
abbrev at_SC_isDigit (dC : Nat → ClassId) (dI : Nat → Nat → Nat)  (A : Nat → Prop) (u : Unit) (t : State) : Prop := match u with | _ => va_P (dC, dI) cls [] t.heap ∧ va_K (dC, dI) cls [] t ∧ va_D A []
set_option maxHeartbeats 4000000 in
set_option maxRecDepth 100000 in
theorem c_SC_isDigit (l : Launch) (dC : Nat → ClassId) (dI : Nat → Nat → Nat) (sz : Nat)    (p0 : Int32)   : Met l y_SC_isDigit w_SC_isDigit ({ frames := 0, cells := 0, slots := 0, locals := 0 }) (va_Pc [.int p0] (fun U => U.heap.size = sz ∧ va_P (dC, dI) cls [] U.heap ∧ va_K (dC, dI) cls [] U ∧ va_D (fun _ => True) [])) (va_Qi (fun (r : Int32) (u : Unit) => match u with | _ => (r = 0 ∨ r = 1) ∧ ((r = 1 → 48 ≤ p0.toInt ∧ p0.toInt ≤ 57) ∧ (r = 0 → p0.toInt < 48 ∨ 57 < p0.toInt))) (at_SC_isDigit dC dI  (va_A [] sz)) (va_A [] sz)) 0 0 (va_A [] sz) := by
  refine Met.ofW (cc := b_SC_isDigit) (maxL := 1) (ret := (Option.some .boolean)) (by decide) rfl ?_
  intro p e s m args below meth c s₁ B hml hv
  obtain ⟨rfl, hsz, hP, hK, hD0⟩ := hv
  have hx := B.exec
  have hb := B.bytes
  have hr := B.returns
  have hts0 := atoms_spec (ws := w_SC_isDigit) B.pre
  have hts : ∀ w ∈ lw_g, w.before _ s = true := fun w h => hts0 w (List.mem_cons_of_mem _ h)
  have hown : s.vm.findClass R_SC = some m.cls := findClass_of_methodNamed B.named
  have hlocks := B.notSynchronized
  clear hts0
  subst hsz
  have hD := hD0.self (sz := s.heap.size)
  generalize hAe : va_A [] s.heap.size = A at hD ⊢
  have hA : ∀ q : Nat, s.heap.size ≤ q → A q := fun q h => by rw [← hAe]; exact Or.inr h
  clear hAe
  have hP : va_P (dC, dI) cls [] s.heap := hP
  have hl := lv_entry ([.int p0]) (n := 1) (Nat.le_of_ble_eq_true rfl)
  rw [lg_entry_eq]
  generalize (lg_sl ([.int p0]) ++ List.replicate (1 - (lg_sl ([.int p0])).length) Slot.unset).toArray = ls at hl ⊢
  have hl : lv_has ls 1 [(0, .int p0)] := hl
  have k0 : (0 : Int32).toInt = 0 := by decide
  refine w_gen (A := A) hP (fun H locs hP hS => ?_)
  have k1 : (1 : Int32).toInt = 1 := by decide
  have k48 : (48 : Int32).toInt = 48 := by decide
  have k57 : (57 : Int32).toInt = 57 := by decide
  have lo_p0 := i32_lo p0
  have hi_p0 := i32_hi p0
  refine lv_iload_n hx hb d_SC_isDigit_0 rfl (lv_at hl 0 rfl) ?_
  refine lv_bipush (v := 48) hx hb d_SC_isDigit_1 (by decide) ?_
  refine lv_icmp_lt (tgt := 16) hx hb d_SC_isDigit_3 (by decide) (fun c3 => ?_) (fun c3 => ?_)
  · have q3 := ltI c3
    refine lv_iconst (v := 0) hx hb d_SC_isDigit_16 (by decide) ?_
    have hP9 := hP.sub (ws' := []) [] rfl
    have hD9 := hD.sub (ws' := []) [] (by decide) rfl
    exact W.zret (v := 0) hx hb hr (zn01 (Or.inl rfl)) (fun t ht hW => ⟨⟨0, (), rfl, ⟨Or.inl rfl, ⟨fun z => absurd z (by decide), fun _ => by omega⟩⟩, by rw [ht]; exact hP9, va_K.moved hW.alike hK, hD9⟩, hS.F ht⟩) hS.2.2 d_SC_isDigit_17
  · have q3 := nltI c3
    refine lv_iload_n hx hb d_SC_isDigit_6 rfl (lv_at hl 0 rfl) ?_
    refine lv_bipush (v := 57) hx hb d_SC_isDigit_7 (by decide) ?_
    refine lv_icmp_gt (tgt := 16) hx hb d_SC_isDigit_9 (by decide) (fun c9 => ?_) (fun c9 => ?_)
    · have q9 := ltI c9
      refine lv_iconst (v := 0) hx hb d_SC_isDigit_16 (by decide) ?_
      have hP9 := hP.sub (ws' := []) [] rfl
      have hD9 := hD.sub (ws' := []) [] (by decide) rfl
      exact W.zret (v := 0) hx hb hr (zn01 (Or.inl rfl)) (fun t ht hW => ⟨⟨0, (), rfl, ⟨Or.inl rfl, ⟨fun z => absurd z (by decide), fun _ => by omega⟩⟩, by rw [ht]; exact hP9, va_K.moved hW.alike hK, hD9⟩, hS.F ht⟩) hS.2.2 d_SC_isDigit_17
    · have q9 := nltI c9
      refine lv_iconst (v := 1) hx hb d_SC_isDigit_12 (by decide) ?_
      refine lv_goto (tgt := 17) hx hb d_SC_isDigit_13 (by decide) ?_
      have hP9 := hP.sub (ws' := []) [] rfl
      have hD9 := hD.sub (ws' := []) [] (by decide) rfl
      exact W.zret (v := 1) hx hb hr (zn01 (Or.inr rfl)) (fun t ht hW => ⟨⟨1, (), rfl, ⟨Or.inr rfl, ⟨fun _ => by omega, fun z => absurd z (by decide)⟩⟩, by rw [ht]; exact hP9, va_K.moved hW.alike hK, hD9⟩, hS.F ht⟩) hS.2.2 d_SC_isDigit_17
abbrev b_SC_isNamePart : ByteArray := prog_10_method_13_code
def y_SC_isNamePart : MethodName := ⟨R_SC, "isNamePart", "(I)Z"⟩
abbrev w_SC_isNamePart : List Cond := .code y_SC_isNamePart b_SC_isNamePart 1 (Option.some .boolean) :: lw_g
theorem kC_SC_isNamePart : Cond.code y_SC_isNamePart b_SC_isNamePart 1 (Option.some .boolean) ∈ lw_g := in_g 800 (by decide +kernel) rfl
theorem d_SC_isNamePart_0 : decode b_SC_isNamePart 0 = .ok (.iload_n 0, 1) := by decide +kernel
theorem d_SC_isNamePart_1 : decode b_SC_isNamePart 1 = .ok (.invokestatic 83, 3) := by decide +kernel
theorem d_SC_isNamePart_4 : decode b_SC_isNamePart 4 = .ok (.ifCond .ne 10, 3) := by decide +kernel
theorem d_SC_isNamePart_7 : decode b_SC_isNamePart 7 = .ok (.iload_n 0, 1) := by decide +kernel
theorem d_SC_isNamePart_8 : decode b_SC_isNamePart 8 = .ok (.invokestatic 90, 3) := by decide +kernel
theorem d_SC_isNamePart_11 : decode b_SC_isNamePart 11 = .ok (.ifCond .eq 7, 3) := by decide +kernel
theorem d_SC_isNamePart_14 : decode b_SC_isNamePart 14 = .ok (.iconst 1, 1) := by decide +kernel
theorem d_SC_isNamePart_15 : decode b_SC_isNamePart 15 = .ok (.goto 4, 3) := by decide +kernel
theorem d_SC_isNamePart_18 : decode b_SC_isNamePart 18 = .ok (.iconst 0, 1) := by decide +kernel
theorem d_SC_isNamePart_19 : decode b_SC_isNamePart 19 = .ok (.ireturn, 1) := by decide +kernel
theorem kM_SC_83 : Cond.methodLink R_SC 83 y_SC_isLetter ∈ lw_g := in_g 791 (by decide +kernel) rfl
theorem kT_SC_isLetter : Cond.static y_SC_isLetter ∈ lw_g := in_g 792 (by decide +kernel) rfl
theorem kM_SC_90 : Cond.methodLink R_SC 90 y_SC_isDigit ∈ lw_g := in_g 801 (by decide +kernel) rfl
theorem kT_SC_isDigit : Cond.static y_SC_isDigit ∈ lw_g := in_g 802 (by decide +kernel) rfl
abbrev at_SC_isNamePart (dC : Nat → ClassId) (dI : Nat → Nat → Nat)  (A : Nat → Prop) (u : Unit) (t : State) : Prop := match u with | _ => va_P (dC, dI) cls [] t.heap ∧ va_K (dC, dI) cls [] t ∧ va_D A []
set_option maxHeartbeats 4000000 in
set_option maxRecDepth 100000 in
theorem c_SC_isNamePart (l : Launch) (dC : Nat → ClassId) (dI : Nat → Nat → Nat) (sz : Nat)    (p0 : Int32)   : Met l y_SC_isNamePart w_SC_isNamePart ({ frames := 1, cells := 0, slots := 0, locals := 20 }) (va_Pc [.int p0] (fun U => U.heap.size = sz ∧ va_P (dC, dI) cls [] U.heap ∧ va_K (dC, dI) cls [] U ∧ va_D (fun _ => True) [])) (va_Qi (fun (r : Int32) (u : Unit) => match u with | _ => (r = 0 ∨ r = 1)) (at_SC_isNamePart dC dI  (va_A [] sz)) (va_A [] sz)) 0 0 (va_A [] sz) := by
  refine Met.ofW (cc := b_SC_isNamePart) (maxL := 1) (ret := (Option.some .boolean)) (by decide) rfl ?_
  intro p e s m args below meth c s₁ B hml hv
  obtain ⟨rfl, hsz, hP, hK, hD0⟩ := hv
  have hx := B.exec
  have hb := B.bytes
  have hr := B.returns
  have hts0 := atoms_spec (ws := w_SC_isNamePart) B.pre
  have hts : ∀ w ∈ lw_g, w.before _ s = true := fun w h => hts0 w (List.mem_cons_of_mem _ h)
  have hown : s.vm.findClass R_SC = some m.cls := findClass_of_methodNamed B.named
  have hlocks := B.notSynchronized
  clear hts0
  subst hsz
  have hD := hD0.self (sz := s.heap.size)
  generalize hAe : va_A [] s.heap.size = A at hD ⊢
  have hA : ∀ q : Nat, s.heap.size ≤ q → A q := fun q h => by rw [← hAe]; exact Or.inr h
  clear hAe
  have hP : va_P (dC, dI) cls [] s.heap := hP
  have hl := lv_entry ([.int p0]) (n := 1) (Nat.le_of_ble_eq_true rfl)
  rw [lg_entry_eq]
  generalize (lg_sl ([.int p0]) ++ List.replicate (1 - (lg_sl ([.int p0])).length) Slot.unset).toArray = ls at hl ⊢
  have hl : lv_has ls 1 [(0, .int p0)] := hl
  have k0 : (0 : Int32).toInt = 0 := by decide
  refine w_gen (A := A) hP (fun H locs hP hS => ?_)
  have k1 : (1 : Int32).toInt = 1 := by decide
  have lo_p0 := i32_lo p0
  have hi_p0 := i32_hi p0
  refine lv_iload_n hx hb d_SC_isNamePart_0 rfl (lv_at hl 0 rfl) ?_
  have hPc := hP.sub (ws' := []) [] rfl
  have hDc := hD.sub (ws' := []) [] (by decide) rfl
  have hKc := hK.sub (tys' := []) [] rfl
  have hFc := va_free (wc := []) hD hS hA [] rfl
  refine va_calli (va_runS (As := [.int p0]) (rest := []) ⟨hx, hb, hml, hown, hts⟩ (c_SC_isLetter l dC dI H.size p0) ⟨callB_of 1 hts (gW kC_SC_isLetter) rfl rfl rfl (hts _ kI_SC) (hts _ kM_SC_83) (by decide +kernel) ⟨Nat.le_of_ble_eq_true rfl, Nat.le_of_ble_eq_true rfl⟩, hts _ kT_SC_isLetter⟩ ⟨fun a U g mk z => by obtain ⟨z0, z1, zP, zK, zD⟩ := z; exact ⟨z0, z1, zP, va_K.moved (u := U) (U := U.calling g mk a) (Vm.Alike.refl U.vm) zK, zD⟩, fun U hU hW => ⟨rfl, by rw [hU], by rw [hU]; exact hPc, va_K.moved hW.alike hKc, hDc.weaken (fun _ _ _ _ => trivial)⟩⟩ rfl rfl hl.1 rfl (lv_room (Nat.le_of_ble_eq_true rfl)) d_SC_isNamePart_1 ⟨(Nat.zero_le _), (Nat.zero_le _)⟩) hS (fun q _ h => hFc q h) hFc (fun r1 u t H1 locs ht hvm hw hB hz1 hk1 hS => ?_)
  try dsimp only at hw
  have br1 := hw
  try clear hw
  have tr1 := b01 br1
  obtain ⟨hP1, hK1, hD1⟩ := hB
  rw [ht] at hP1
  obtain ⟨hP, hD⟩ := va_join (wr := []) (w1 := []) hP hD [] [] rfl rfl (by decide) (by decide) hk1 hFc hP1 hD1
  clear hPc hDc hKc hFc hz1 hk1 hP1 hK1 hD1
  generalize H1 = H at hP hS ⊢
  have hP : va_P (dC, dI) cls [] H := hP
  have hD : va_D A [] := hD
  refine lv_if_ne (tgt := 14) hx hb d_SC_isNamePart_4 (by decide) (fun c4 => ?_) (fun c4 => ?_)
  · have q4 := neI c4
    refine lv_iconst (v := 1) hx hb d_SC_isNamePart_14 (by decide) ?_
    refine lv_goto (tgt := 19) hx hb d_SC_isNamePart_15 (by decide) ?_
    have hP9 := hP.sub (ws' := []) [] rfl
    have hD9 := hD.sub (ws' := []) [] (by decide) rfl
    exact W.zret (v := 1) hx hb hr (zn01 (Or.inr rfl)) (fun t ht hW => ⟨⟨1, (), rfl, (Or.inr rfl), by rw [ht]; exact hP9, va_K.moved hW.alike hK, hD9⟩, hS.F ht⟩) hS.2.2 d_SC_isNamePart_19
  · have q4 := eqI c4
    refine lv_iload_n hx hb d_SC_isNamePart_7 rfl (lv_at hl 0 rfl) ?_
    have hPc := hP.sub (ws' := []) [] rfl
    have hDc := hD.sub (ws' := []) [] (by decide) rfl
    have hKc := hK.sub (tys' := []) [] rfl
    have hFc := va_free (wc := []) hD hS hA [] rfl
    refine va_calli (va_runS (As := [.int p0]) (rest := []) ⟨hx, hb, hml, hown, hts⟩ (c_SC_isDigit l dC dI H.size p0) ⟨callB_of 1 hts (gW kC_SC_isDigit) rfl rfl rfl (hts _ kI_SC) (hts _ kM_SC_90) (by decide +kernel) ⟨Nat.le_of_ble_eq_true rfl, Nat.le_of_ble_eq_true rfl⟩, hts _ kT_SC_isDigit⟩ ⟨fun a U g mk z => by obtain ⟨z0, z1, zP, zK, zD⟩ := z; exact ⟨z0, z1, zP, va_K.moved (u := U) (U := U.calling g mk a) (Vm.Alike.refl U.vm) zK, zD⟩, fun U hU hW => ⟨rfl, by rw [hU], by rw [hU]; exact hPc, va_K.moved hW.alike hKc, hDc.weaken (fun _ _ _ _ => trivial)⟩⟩ rfl rfl hl.1 rfl (lv_room (Nat.le_of_ble_eq_true rfl)) d_SC_isNamePart_8 ⟨(Nat.zero_le _), (Nat.zero_le _)⟩) hS (fun q _ h => hFc q h) hFc (fun r2 u t H1 locs ht hvm hw hB hz1 hk1 hS => ?_)
    try dsimp only at hw
    obtain ⟨br2, xr2⟩ := hw
    try clear hw
    have tr2 := b01 br2
    obtain ⟨hP1, hK1, hD1⟩ := hB
    rw [ht] at hP1
    obtain ⟨hP, hD⟩ := va_join (wr := []) (w1 := []) hP hD [] [] rfl rfl (by decide) (by decide) hk1 hFc hP1 hD1
    clear hPc hDc hKc hFc hz1 hk1 hP1 hK1 hD1
    generalize H1 = H at hP hS ⊢
    have hP : va_P (dC, dI) cls [] H := hP
    have hD : va_D A [] := hD
    refine lv_if_eq (tgt := 18) hx hb d_SC_isNamePart_11 (by decide) (fun c11 => ?_) (fun c11 => ?_)
    · have q11 := eqI c11
      refine lv_iconst (v := 0) hx hb d_SC_isNamePart_18 (by decide) ?_
      have hP9 := hP.sub (ws' := []) [] rfl
      have hD9 := hD.sub (ws' := []) [] (by decide) rfl
      exact W.zret (v := 0) hx hb hr (zn01 (Or.inl rfl)) (fun t ht hW => ⟨⟨0, (), rfl, (Or.inl rfl), by rw [ht]; exact hP9, va_K.moved hW.alike hK, hD9⟩, hS.F ht⟩) hS.2.2 d_SC_isNamePart_19
    · have q11 := neI c11
      refine lv_iconst (v := 1) hx hb d_SC_isNamePart_14 (by decide) ?_
      refine lv_goto (tgt := 19) hx hb d_SC_isNamePart_15 (by decide) ?_
      have hP9 := hP.sub (ws' := []) [] rfl
      have hD9 := hD.sub (ws' := []) [] (by decide) rfl
      exact W.zret (v := 1) hx hb hr (zn01 (Or.inr rfl)) (fun t ht hW => ⟨⟨1, (), rfl, (Or.inr rfl), by rw [ht]; exact hP9, va_K.moved hW.alike hK, hD9⟩, hS.F ht⟩) hS.2.2 d_SC_isNamePart_19
abbrev b_SC_skipBlanks : ByteArray := prog_10_method_6_code
def y_SC_skipBlanks : MethodName := ⟨R_SC, "skipBlanks", "()V"⟩
abbrev w_SC_skipBlanks : List Cond := .code y_SC_skipBlanks b_SC_skipBlanks 3 none :: lw_g
theorem kC_SC_skipBlanks : Cond.code y_SC_skipBlanks b_SC_skipBlanks 3 none ∈ lw_g := in_g 785 (by decide +kernel) rfl
theorem d_SC_skipBlanks_0 : decode b_SC_skipBlanks 0 = .ok (.iconst 0, 1) := by decide +kernel
theorem d_SC_skipBlanks_1 : decode b_SC_skipBlanks 1 = .ok (.istore_n 1, 1) := by decide +kernel
theorem d_SC_skipBlanks_2 : decode b_SC_skipBlanks 2 = .ok (.aload_n 0, 1) := by decide +kernel
theorem d_SC_skipBlanks_3 : decode b_SC_skipBlanks 3 = .ok (.dup, 1) := by decide +kernel
theorem d_SC_skipBlanks_4 : decode b_SC_skipBlanks 4 = .ok (.getfield 39, 3) := by decide +kernel
theorem d_SC_skipBlanks_7 : decode b_SC_skipBlanks 7 = .ok (.aload_n 0, 1) := by decide +kernel
theorem d_SC_skipBlanks_8 : decode b_SC_skipBlanks 8 = .ok (.getfield 43, 3) := by decide +kernel
theorem d_SC_skipBlanks_11 : decode b_SC_skipBlanks 11 = .ok (.iadd, 1) := by decide +kernel
theorem d_SC_skipBlanks_12 : decode b_SC_skipBlanks 12 = .ok (.putfield 39, 3) := by decide +kernel
theorem d_SC_skipBlanks_15 : decode b_SC_skipBlanks 15 = .ok (.aload_n 0, 1) := by decide +kernel
theorem d_SC_skipBlanks_16 : decode b_SC_skipBlanks 16 = .ok (.getfield 39, 3) := by decide +kernel
theorem d_SC_skipBlanks_19 : decode b_SC_skipBlanks 19 = .ok (.aload_n 0, 1) := by decide +kernel
theorem d_SC_skipBlanks_20 : decode b_SC_skipBlanks 20 = .ok (.getfield 35, 3) := by decide +kernel
theorem d_SC_skipBlanks_23 : decode b_SC_skipBlanks 23 = .ok (.getfield 77, 3) := by decide +kernel
theorem d_SC_skipBlanks_26 : decode b_SC_skipBlanks 26 = .ok (.if_icmp .ge 101, 3) := by decide +kernel
theorem d_SC_skipBlanks_29 : decode b_SC_skipBlanks 29 = .ok (.aload_n 0, 1) := by decide +kernel
theorem d_SC_skipBlanks_30 : decode b_SC_skipBlanks 30 = .ok (.getfield 35, 3) := by decide +kernel
theorem d_SC_skipBlanks_33 : decode b_SC_skipBlanks 33 = .ok (.aload_n 0, 1) := by decide +kernel
theorem d_SC_skipBlanks_34 : decode b_SC_skipBlanks 34 = .ok (.getfield 39, 3) := by decide +kernel
theorem d_SC_skipBlanks_37 : decode b_SC_skipBlanks 37 = .ok (.invokevirtual 80, 3) := by decide +kernel
theorem d_SC_skipBlanks_40 : decode b_SC_skipBlanks 40 = .ok (.istore_n 2, 1) := by decide +kernel
theorem d_SC_skipBlanks_41 : decode b_SC_skipBlanks 41 = .ok (.iload_n 1, 1) := by decide +kernel
theorem d_SC_skipBlanks_42 : decode b_SC_skipBlanks 42 = .ok (.ifCond .eq 18, 3) := by decide +kernel
theorem d_SC_skipBlanks_45 : decode b_SC_skipBlanks 45 = .ok (.iload_n 2, 1) := by decide +kernel
theorem d_SC_skipBlanks_46 : decode b_SC_skipBlanks 46 = .ok (.bipush 10, 2) := by decide +kernel
theorem d_SC_skipBlanks_48 : decode b_SC_skipBlanks 48 = .ok (.if_icmp .eq 7, 3) := by decide +kernel
theorem d_SC_skipBlanks_51 : decode b_SC_skipBlanks 51 = .ok (.iconst 1, 1) := by decide +kernel
theorem d_SC_skipBlanks_52 : decode b_SC_skipBlanks 52 = .ok (.goto 4, 3) := by decide +kernel
theorem d_SC_skipBlanks_55 : decode b_SC_skipBlanks 55 = .ok (.iconst 0, 1) := by decide +kernel
theorem d_SC_skipBlanks_56 : decode b_SC_skipBlanks 56 = .ok (.istore_n 1, 1) := by decide +kernel
theorem d_SC_skipBlanks_57 : decode b_SC_skipBlanks 57 = .ok (.goto 57, 3) := by decide +kernel
theorem d_SC_skipBlanks_60 : decode b_SC_skipBlanks 60 = .ok (.iload_n 2, 1) := by decide +kernel
theorem d_SC_skipBlanks_61 : decode b_SC_skipBlanks 61 = .ok (.bipush 47, 2) := by decide +kernel
theorem d_SC_skipBlanks_63 : decode b_SC_skipBlanks 63 = .ok (.if_icmp .ne 26, 3) := by decide +kernel
theorem d_SC_skipBlanks_66 : decode b_SC_skipBlanks 66 = .ok (.aload_n 0, 1) := by decide +kernel
theorem d_SC_skipBlanks_67 : decode b_SC_skipBlanks 67 = .ok (.getfield 35, 3) := by decide +kernel
theorem d_SC_skipBlanks_70 : decode b_SC_skipBlanks 70 = .ok (.aload_n 0, 1) := by decide +kernel
theorem d_SC_skipBlanks_71 : decode b_SC_skipBlanks 71 = .ok (.getfield 39, 3) := by decide +kernel
theorem d_SC_skipBlanks_74 : decode b_SC_skipBlanks 74 = .ok (.iconst 1, 1) := by decide +kernel
theorem d_SC_skipBlanks_75 : decode b_SC_skipBlanks 75 = .ok (.iadd, 1) := by decide +kernel
theorem d_SC_skipBlanks_76 : decode b_SC_skipBlanks 76 = .ok (.invokevirtual 80, 3) := by decide +kernel
theorem d_SC_skipBlanks_79 : decode b_SC_skipBlanks 79 = .ok (.bipush 47, 2) := by decide +kernel
theorem d_SC_skipBlanks_81 : decode b_SC_skipBlanks 81 = .ok (.if_icmp .ne 8, 3) := by decide +kernel
theorem d_SC_skipBlanks_84 : decode b_SC_skipBlanks 84 = .ok (.iconst 1, 1) := by decide +kernel
theorem d_SC_skipBlanks_85 : decode b_SC_skipBlanks 85 = .ok (.istore_n 1, 1) := by decide +kernel
theorem d_SC_skipBlanks_86 : decode b_SC_skipBlanks 86 = .ok (.goto 28, 3) := by decide +kernel
theorem d_SC_skipBlanks_89 : decode b_SC_skipBlanks 89 = .ok (.iload_n 2, 1) := by decide +kernel
theorem d_SC_skipBlanks_90 : decode b_SC_skipBlanks 90 = .ok (.bipush 9, 2) := by decide +kernel
theorem d_SC_skipBlanks_92 : decode b_SC_skipBlanks 92 = .ok (.if_icmp .eq 22, 3) := by decide +kernel
theorem d_SC_skipBlanks_95 : decode b_SC_skipBlanks 95 = .ok (.iload_n 2, 1) := by decide +kernel
theorem d_SC_skipBlanks_96 : decode b_SC_skipBlanks 96 = .ok (.bipush 10, 2) := by decide +kernel
theorem d_SC_skipBlanks_98 : decode b_SC_skipBlanks 98 = .ok (.if_icmp .eq 16, 3) := by decide +kernel
theorem d_SC_skipBlanks_101 : decode b_SC_skipBlanks 101 = .ok (.iload_n 2, 1) := by decide +kernel
theorem d_SC_skipBlanks_102 : decode b_SC_skipBlanks 102 = .ok (.bipush 13, 2) := by decide +kernel
theorem d_SC_skipBlanks_104 : decode b_SC_skipBlanks 104 = .ok (.if_icmp .eq 10, 3) := by decide +kernel
theorem d_SC_skipBlanks_107 : decode b_SC_skipBlanks 107 = .ok (.iload_n 2, 1) := by decide +kernel
theorem d_SC_skipBlanks_108 : decode b_SC_skipBlanks 108 = .ok (.bipush 32, 2) := by decide +kernel
theorem d_SC_skipBlanks_110 : decode b_SC_skipBlanks 110 = .ok (.if_icmp .eq 4, 3) := by decide +kernel
theorem d_SC_skipBlanks_113 : decode b_SC_skipBlanks 113 = .ok (.return_, 1) := by decide +kernel
theorem d_SC_skipBlanks_114 : decode b_SC_skipBlanks 114 = .ok (.aload_n 0, 1) := by decide +kernel
theorem d_SC_skipBlanks_115 : decode b_SC_skipBlanks 115 = .ok (.dup, 1) := by decide +kernel
theorem d_SC_skipBlanks_116 : decode b_SC_skipBlanks 116 = .ok (.getfield 39, 3) := by decide +kernel
theorem d_SC_skipBlanks_119 : decode b_SC_skipBlanks 119 = .ok (.iconst 1, 1) := by decide +kernel
theorem d_SC_skipBlanks_120 : decode b_SC_skipBlanks 120 = .ok (.iadd, 1) := by decide +kernel
theorem d_SC_skipBlanks_121 : decode b_SC_skipBlanks 121 = .ok (.putfield 39, 3) := by decide +kernel
theorem d_SC_skipBlanks_124 : decode b_SC_skipBlanks 124 = .ok (.goto (-109), 3) := by decide +kernel
theorem d_SC_skipBlanks_127 : decode b_SC_skipBlanks 127 = .ok (.return_, 1) := by decide +kernel
theorem kM_SC_80 : Cond.methodLink R_SC 80 y_BR_at ∈ lw_g := in_g 786 (by decide +kernel) rfl
theorem kF_SC_39 : Cond.fieldLink R_SC 39 "WaferForge$Scanner" "place" "I" ∈ lw_g := in_g 268 (by decide +kernel) rfl
theorem kF_SC_43 : Cond.fieldLink R_SC 43 "WaferForge$Scanner" "size" "I" ∈ lw_g := in_g 270 (by decide +kernel) rfl
theorem kF_SC_35 : Cond.fieldLink R_SC 35 "WaferForge$Scanner" "text" "LWaferForge$ByteRow;" ∈ lw_g := in_g 264 (by decide +kernel) rfl
theorem kF_SC_77 : Cond.fieldLink R_SC 77 "WaferForge$ByteRow" "length" "I" ∈ lw_g := in_g 62 (by decide +kernel) rfl
abbrev at_SC_skipBlanks (dC : Nat → ClassId) (dI : Nat → Nat → Nat) (sa : Nat → Nat) (h0 tr ss sp szs sv tx : Nat) (ctx : ClassId) (h0_sign : Nat) (h0_size : Int32) (h0_value : Int64) (h0_length : Int32) (h0_at : Int32) (tr_length : Int32) (gtx : Nat → Int32) (A : Nat → Prop) (u : Int32) (t : State) : Prop := match u with | h0_place => va_P (dC, dI) cls [(h0, .inr (8, [.ref tr, .ref (sg sa h0_sign), .int h0_place, .int h0_size, .long h0_value, .ref ss, .ref sp, .ref szs, .ref sv, .int h0_length, .int h0_at])), (tr, .inr (1, [.ref tx, .int tr_length])), (tx, .inl (ctx, 2000, .inl gtx))] t.heap ∧ va_K (dC, dI) cls [(ctx, .byte)] t ∧ va_D A [(h0, .inr (8, [.ref tr, .ref (sg sa h0_sign), .int h0_place, .int h0_size, .long h0_value, .ref ss, .ref sp, .ref szs, .ref sv, .int h0_length, .int h0_at])), (tr, .inr (1, [.ref tx, .int tr_length])), (tx, .inl (ctx, 2000, .inl gtx))]
set_option maxHeartbeats 4000000 in
set_option maxRecDepth 100000 in
theorem c_SC_skipBlanks (l : Launch) (dC : Nat → ClassId) (dI : Nat → Nat → Nat) (sz : Nat) (sa : Nat → Nat) (h0 tr ss sp szs sv tx : Nat) (ctx : ClassId) (h0_sign : Nat) (h0_place : Int32) (h0_size : Int32) (h0_value : Int64) (h0_length : Int32) (h0_at : Int32) (tr_length : Int32) (gtx : Nat → Int32)  (b_h0_place : 0 ≤ h0_place.toInt ∧ h0_place.toInt ≤ 2000) (b_h0_size : 0 ≤ h0_size.toInt ∧ h0_size.toInt ≤ 2000) (b_tr_length : 0 ≤ tr_length.toInt ∧ tr_length.toInt ≤ 2000)   (hps : h0_place.toInt + h0_size.toInt ≤ tr_length.toInt) : Met l y_SC_skipBlanks w_SC_skipBlanks ({ frames := 1, cells := 0, slots := 0, locals := 21 }) (va_Pc [.ref h0] (fun U => U.heap.size = sz ∧ va_P (dC, dI) cls [(h0, .inr (8, [.ref tr, .ref (sg sa h0_sign), .int h0_place, .int h0_size, .long h0_value, .ref ss, .ref sp, .ref szs, .ref sv, .int h0_length, .int h0_at])), (tr, .inr (1, [.ref tx, .int tr_length])), (tx, .inl (ctx, 2000, .inl gtx))] U.heap ∧ va_K (dC, dI) cls [(ctx, .byte)] U ∧ va_D (fun _ => True) [(h0, .inr (8, [.ref tr, .ref (sg sa h0_sign), .int h0_place, .int h0_size, .long h0_value, .ref ss, .ref sp, .ref szs, .ref sv, .int h0_length, .int h0_at])), (tr, .inr (1, [.ref tx, .int tr_length])), (tx, .inl (ctx, 2000, .inl gtx))] ∧ sw sa (va_A [(h0, .inr (8, [.ref tr, .ref (sg sa h0_sign), .int h0_place, .int h0_size, .long h0_value, .ref ss, .ref sp, .ref szs, .ref sv, .int h0_length, .int h0_at])), (tr, .inr (1, [.ref tx, .int tr_length])), (tx, .inl (ctx, 2000, .inl gtx))] sz) U U.heap)) (va_Qv (fun (u : Int32) => match u with | h0_place2 => (0 ≤ h0_place2.toInt ∧ h0_place2.toInt ≤ 2000) ∧ (h0_place.toInt + h0_size.toInt ≤ h0_place2.toInt ∧ h0_place2.toInt ≤ tr_length.toInt)) (at_SC_skipBlanks dC dI sa h0 tr ss sp szs sv tx ctx h0_sign h0_size h0_value h0_length h0_at tr_length gtx (va_A [(h0, .inr (8, [.ref tr, .ref (sg sa h0_sign), .int h0_place, .int h0_size, .long h0_value, .ref ss, .ref sp, .ref szs, .ref sv, .int h0_length, .int h0_at])), (tr, .inr (1, [.ref tx, .int tr_length])), (tx, .inl (ctx, 2000, .inl gtx))] sz)) (va_A [(h0, .inr (8, [.ref tr, .ref (sg sa h0_sign), .int h0_place, .int h0_size, .long h0_value, .ref ss, .ref sp, .ref szs, .ref sv, .int h0_length, .int h0_at])), (tr, .inr (1, [.ref tx, .int tr_length])), (tx, .inl (ctx, 2000, .inl gtx))] sz)) 0 0 (va_A [(h0, .inr (8, [.ref tr, .ref (sg sa h0_sign), .int h0_place, .int h0_size, .long h0_value, .ref ss, .ref sp, .ref szs, .ref sv, .int h0_length, .int h0_at])), (tr, .inr (1, [.ref tx, .int tr_length])), (tx, .inl (ctx, 2000, .inl gtx))] sz) := by
  refine Met.ofW (cc := b_SC_skipBlanks) (maxL := 3) (ret := none) (by decide) rfl ?_
  intro p e s m args below meth c s₁ B hml hv
  obtain ⟨rfl, hsz, hP, hK, hD0, hSW⟩ := hv
  have hx := B.exec
  have hb := B.bytes
  have hr := B.returns
  have hts0 := atoms_spec (ws := w_SC_skipBlanks) B.pre
  have hts : ∀ w ∈ lw_g, w.before _ s = true := fun w h => hts0 w (List.mem_cons_of_mem _ h)
  have hown : s.vm.findClass R_SC = some m.cls := findClass_of_methodNamed B.named
  have hlocks := B.notSynchronized
  clear hts0
  subst hsz
  have hD := hD0.self (sz := s.heap.size)
  generalize hAe : va_A [(h0, .inr (8, [.ref tr, .ref (sg sa h0_sign), .int h0_place, .int h0_size, .long h0_value, .ref ss, .ref sp, .ref szs, .ref sv, .int h0_length, .int h0_at])), (tr, .inr (1, [.ref tx, .int tr_length])), (tx, .inl (ctx, 2000, .inl gtx))] s.heap.size = A at hD hSW ⊢
  have hA : ∀ q : Nat, s.heap.size ≤ q → A q := fun q h => by rw [← hAe]; exact Or.inr h
  clear hAe
  have hP : va_P (dC, dI) cls [(h0, .inr (8, [.ref tr, .ref (sg sa h0_sign), .int h0_place, .int h0_size, .long h0_value, .ref ss, .ref sp, .ref szs, .ref sv, .int h0_length, .int h0_at])), (tr, .inr (1, [.ref tx, .int tr_length])), (tx, .inl (ctx, 2000, .inl gtx))] s.heap := hP
  have hl := lv_entry ([.ref h0]) (n := 3) (Nat.le_of_ble_eq_true rfl)
  rw [lg_entry_eq]
  generalize (lg_sl ([.ref h0]) ++ List.replicate (3 - (lg_sl ([.ref h0])).length) Slot.unset).toArray = ls at hl ⊢
  have hl : lv_has ls 3 [(0, .ref h0)] := hl
  have k0 : (0 : Int32).toInt = 0 := by decide
  refine w_gen (A := A) hP (fun H locs hP hS => ?_)
  have k1 : (1 : Int32).toInt = 1 := by decide
  have k9 : (9 : Int32).toInt = 9 := by decide
  have k10 : (10 : Int32).toInt = 10 := by decide
  have k13 : (13 : Int32).toInt = 13 := by decide
  have k32 : (32 : Int32).toInt = 32 := by decide
  have k47 : (47 : Int32).toInt = 47 := by decide
  refine lv_iconst (v := 0) hx hb d_SC_skipBlanks_0 (by decide) ?_
  refine lv_istore_n (lv' := [(1, .int 0), (0, .ref h0)]) hx hb d_SC_skipBlanks_1 rfl hl (by decide) rfl (fun ls hl => ?_)
  refine lv_aload_n hx hb d_SC_skipBlanks_2 rfl (lv_at hl 1 rfl) ?_
  refine lv_dup hx hb d_SC_skipBlanks_3 rfl ?_
  refine va_get (D := (dC, dI)) (ci := 8) (v := .int h0_place) (C := R_SC) (T := F_SC) (N := 11) hx hb hts i_SC hown hK hP 0 rfl rfl 2 (by decide) (hts _ kF_SC_39) (fun _ h9 => h9) rfl d_SC_skipBlanks_4 ?_
  refine lv_aload_n hx hb d_SC_skipBlanks_7 rfl (lv_at hl 1 rfl) ?_
  refine va_get (D := (dC, dI)) (ci := 8) (v := .int h0_size) (C := R_SC) (T := F_SC) (N := 11) hx hb hts i_SC hown hK hP 0 rfl rfl 3 (by decide) (hts _ kF_SC_43) (fun _ h9 => h9) rfl d_SC_skipBlanks_8 ?_
  refine lv_iadd hx hb d_SC_skipBlanks_11 ?_
  refine lv_topi (fun x1 ex1 => ?_)
  have tx1 : x1.toInt = h0_place.toInt + h0_size.toInt := by have z := i32_add ex1 (by omega) (by omega); omega
  refine va_put (D := (dC, dI)) (ci := 8) (v := .int x1) (ty := .int) (C := R_SC) (T := F_SC) (N := 11) hx hb hts i_SC t_SC t_SC_ok n_SC hown hK hP hD hS 0 rfl rfl 2 (by decide) (hts _ kF_SC_39) (fun _ h9 => h9) rfl (by decide +kernel) rfl rfl (Nat.le_of_ble_eq_true rfl) d_SC_skipBlanks_12 (fun H locs hP hD hS => ?_)
  refine w_loop (σ := Int32 × Int32) (fun u H locs ls => match u with | (j15_l1, j15_h0_place) => (j15_l1 = 0 ∨ j15_l1 = 1) ∧ (0 ≤ j15_h0_place.toInt ∧ j15_h0_place.toInt ≤ 2000) ∧ (h0_place.toInt + h0_size.toInt ≤ j15_h0_place.toInt ∧ j15_h0_place.toInt ≤ tr_length.toInt) ∧ va_P (dC, dI) cls [(h0, .inr (8, [.ref tr, .ref (sg sa h0_sign), .int j15_h0_place, .int h0_size, .long h0_value, .ref ss, .ref sp, .ref szs, .ref sv, .int h0_length, .int h0_at])), (tr, .inr (1, [.ref tx, .int tr_length])), (tx, .inl (ctx, 2000, .inl gtx))] H ∧ va_D A [(h0, .inr (8, [.ref tr, .ref (sg sa h0_sign), .int j15_h0_place, .int h0_size, .long h0_value, .ref ss, .ref sp, .ref szs, .ref sv, .int h0_length, .int h0_at])), (tr, .inr (1, [.ref tx, .int tr_length])), (tx, .inl (ctx, 2000, .inl gtx))] ∧ va_S A s.heap H locs ∧ lv_has ls 3 [(0, .ref h0), (1, .int j15_l1)]) (fun u => match u with | (j15_l1, j15_h0_place) => (tr_length.toInt - j15_h0_place.toInt).toNat) ?_ (0, x1) ⟨Or.inl rfl, by (try dsimp only) <;> omega, by (try dsimp only) <;> omega, hP, hD, hS, lv_sub hl [1, 0] rfl⟩
  intro N15 ih15 u H locs ls hN15 hI
  obtain ⟨j15_l1, j15_h0_place⟩ := u
  obtain ⟨b_j15_l1, b_j15_h0_place, v1, hP, hD, hS, hl⟩ := hI
  have tj15_l1 := b01 b_j15_l1
  have hN15 : (tr_length.toInt - j15_h0_place.toInt).toNat < N15 + 1 := hN15
  refine lv_aload_n hx hb d_SC_skipBlanks_15 rfl (lv_at hl 0 rfl) ?_
  refine va_get (D := (dC, dI)) (ci := 8) (v := .int j15_h0_place) (C := R_SC) (T := F_SC) (N := 11) hx hb hts i_SC hown hK hP 0 rfl rfl 2 (by decide) (hts _ kF_SC_39) (fun _ h9 => h9) rfl d_SC_skipBlanks_16 ?_
  refine lv_aload_n hx hb d_SC_skipBlanks_19 rfl (lv_at hl 0 rfl) ?_
  refine va_get (D := (dC, dI)) (ci := 8) (v := .ref tr) (C := R_SC) (T := F_SC) (N := 11) hx hb hts i_SC hown hK hP 0 rfl rfl 0 (by decide) (hts _ kF_SC_35) (fun _ h9 => h9) rfl d_SC_skipBlanks_20 ?_
  refine va_get (D := (dC, dI)) (ci := 1) (v := .int tr_length) (C := R_BR) (T := F_BR) (N := 2) hx hb hts i_BR hown hK hP 1 rfl rfl 1 (by decide) (hts _ kF_SC_77) (fun _ h9 => h9) rfl d_SC_skipBlanks_23 ?_
  refine lv_icmp_ge (tgt := 127) hx hb d_SC_skipBlanks_26 (by decide) (fun c26 => ?_) (fun c26 => ?_)
  · have q26 := leI c26
    have hP9 := hP.sub (ws' := [(h0, .inr (8, [.ref tr, .ref (sg sa h0_sign), .int j15_h0_place, .int h0_size, .long h0_value, .ref ss, .ref sp, .ref szs, .ref sv, .int h0_length, .int h0_at])), (tr, .inr (1, [.ref tx, .int tr_length])), (tx, .inl (ctx, 2000, .inl gtx))]) [0, 1, 2] rfl
    have hD9 := hD.sub (ws' := [(h0, .inr (8, [.ref tr, .ref (sg sa h0_sign), .int j15_h0_place, .int h0_size, .long h0_value, .ref ss, .ref sp, .ref szs, .ref sv, .int h0_length, .int h0_at])), (tr, .inr (1, [.ref tx, .int tr_length])), (tx, .inl (ctx, 2000, .inl gtx))]) [0, 1, 2] (by decide) rfl
    exact W.vret hx hb hr (fun t ht hW => ⟨⟨j15_h0_place, rfl, ⟨b_j15_h0_place, by (try dsimp only) <;> omega⟩, by rw [ht]; exact hP9, va_K.moved hW.alike hK, hD9⟩, hS.F ht⟩) hS.2.2 d_SC_skipBlanks_127
  · have q26 := nleI c26
    refine lv_aload_n hx hb d_SC_skipBlanks_29 rfl (lv_at hl 0 rfl) ?_
    refine va_get (D := (dC, dI)) (ci := 8) (v := .ref tr) (C := R_SC) (T := F_SC) (N := 11) hx hb hts i_SC hown hK hP 0 rfl rfl 0 (by decide) (hts _ kF_SC_35) (fun _ h9 => h9) rfl d_SC_skipBlanks_30 ?_
    refine lv_aload_n hx hb d_SC_skipBlanks_33 rfl (lv_at hl 0 rfl) ?_
    refine va_get (D := (dC, dI)) (ci := 8) (v := .int j15_h0_place) (C := R_SC) (T := F_SC) (N := 11) hx hb hts i_SC hown hK hP 0 rfl rfl 2 (by decide) (hts _ kF_SC_39) (fun _ h9 => h9) rfl d_SC_skipBlanks_34 ?_
    have hPc := hP.sub (ws' := [(tr, .inr (1, [.ref tx, .int tr_length])), (tx, .inl (ctx, 2000, .inl gtx))]) [1, 2] rfl
    have hDc := hD.sub (ws' := [(tr, .inr (1, [.ref tx, .int tr_length])), (tx, .inl (ctx, 2000, .inl gtx))]) [1, 2] (by decide) rfl
    have hKc := hK.sub (tys' := [(ctx, .byte)]) [0] rfl
    have hFc := va_free (wc := [(tr, .inr (1, [.ref tx, .int tr_length])), (tx, .inl (ctx, 2000, .inl gtx))]) hD hS hA [1, 2] rfl
    refine va_calli (va_runV (As := [.int j15_h0_place]) (rest := []) ⟨hx, hb, hml, hown, hts⟩ (c_BR_at l dC dI tr tx H.size ctx 2000 tr_length gtx (by omega) (by omega) (by omega) j15_h0_place) (cwV 1 hts (gV kM_SC_80 kV_BR_at kS_BR_at kI_BR kC_BR_at) rfl rfl rfl (by decide +kernel) ⟨Nat.le_of_ble_eq_true rfl, Nat.le_of_ble_eq_true rfl⟩) ⟨fun a U g mk z => by obtain ⟨z0, z1, zP, zK, zD⟩ := z; exact ⟨z0, z1, zP, va_K.moved (u := U) (U := U.calling g mk a) (Vm.Alike.refl U.vm) zK, zD⟩, va_recv hKc hPc (ci := 1) (q0 := 0) rfl rfl, fun U hU hW => ⟨rfl, by rw [hU], by rw [hU]; exact hPc, va_K.moved hW.alike hKc, hDc.weaken (fun _ _ _ _ => trivial)⟩⟩ rfl rfl hl.1 rfl (lv_room (Nat.le_of_ble_eq_true rfl)) d_SC_skipBlanks_37 ⟨(Nat.zero_le _), (Nat.zero_le _)⟩) hS (fun q _ h => hFc q h) hFc (fun r2 u t H1 locs ht hvm hw hB hz1 hk1 hS => ?_)
    obtain ⟨er2, rfl⟩ := hw
    have tr2 := br_get_in gtx tr_length j15_h0_place
    rw [← er2] at tr2
    obtain ⟨hP1, hK1, hD1⟩ := hB
    rw [ht] at hP1
    obtain ⟨hP, hD⟩ := va_join (wr := [(h0, .inr (8, [.ref tr, .ref (sg sa h0_sign), .int j15_h0_place, .int h0_size, .long h0_value, .ref ss, .ref sp, .ref szs, .ref sv, .int h0_length, .int h0_at]))]) (w1 := [(tr, .inr (1, [.ref tx, .int tr_length])), (tx, .inl (ctx, 2000, .inl gtx))]) hP hD [1, 2] [0] rfl rfl (by decide) (by decide) hk1 hFc hP1 hD1
    clear hPc hDc hKc hFc hz1 hk1 hP1 hK1 hD1
    generalize H1 = H at hP hS ⊢
    have hP : va_P (dC, dI) cls [(h0, .inr (8, [.ref tr, .ref (sg sa h0_sign), .int j15_h0_place, .int h0_size, .long h0_value, .ref ss, .ref sp, .ref szs, .ref sv, .int h0_length, .int h0_at])), (tr, .inr (1, [.ref tx, .int tr_length])), (tx, .inl (ctx, 2000, .inl gtx))] H := hP
    have hD : va_D A [(h0, .inr (8, [.ref tr, .ref (sg sa h0_sign), .int j15_h0_place, .int h0_size, .long h0_value, .ref ss, .ref sp, .ref szs, .ref sv, .int h0_length, .int h0_at])), (tr, .inr (1, [.ref tx, .int tr_length])), (tx, .inl (ctx, 2000, .inl gtx))] := hD
    refine lv_istore_n (lv' := [(2, .int r2), (0, .ref h0), (1, .int j15_l1)]) hx hb d_SC_skipBlanks_40 rfl hl (by decide) rfl (fun ls hl => ?_)
    refine lv_iload_n hx hb d_SC_skipBlanks_41 rfl (lv_at hl 2 rfl) ?_
    refine w_cut (pc2 := 114) (σ := Int32) (fun u H locs ls => match u with | j114_l1 => (j114_l1 = 0 ∨ j114_l1 = 1) ∧ va_P (dC, dI) cls [(h0, .inr (8, [.ref tr, .ref (sg sa h0_sign), .int j15_h0_place, .int h0_size, .long h0_value, .ref ss, .ref sp, .ref szs, .ref sv, .int h0_length, .int h0_at])), (tr, .inr (1, [.ref tx, .int tr_length])), (tx, .inl (ctx, 2000, .inl gtx))] H ∧ va_D A [(h0, .inr (8, [.ref tr, .ref (sg sa h0_sign), .int j15_h0_place, .int h0_size, .long h0_value, .ref ss, .ref sp, .ref szs, .ref sv, .int h0_length, .int h0_at])), (tr, .inr (1, [.ref tx, .int tr_length])), (tx, .inl (ctx, 2000, .inl gtx))] ∧ va_S A s.heap H locs ∧ lv_has ls 3 [(0, .ref h0), (1, .int j114_l1)]) (fun u => match u with | j114_l1 => []) ?_ (fun jn114 => ?_)
    · intro u H locs ls hI
      obtain ⟨j114_l1, rfl⟩ : ∃ z, z = u := ⟨_, rfl⟩
      obtain ⟨b_j114_l1, hP, hD, hS, hl⟩ := hI
      have tj114_l1 := b01 b_j114_l1
      refine lv_aload_n hx hb d_SC_skipBlanks_114 rfl (lv_at hl 0 rfl) ?_
      refine lv_dup hx hb d_SC_skipBlanks_115 rfl ?_
      refine va_get (D := (dC, dI)) (ci := 8) (v := .int j15_h0_place) (C := R_SC) (T := F_SC) (N := 11) hx hb hts i_SC hown hK hP 0 rfl rfl 2 (by decide) (hts _ kF_SC_39) (fun _ h9 => h9) rfl d_SC_skipBlanks_116 ?_
      refine lv_iconst (v := 1) hx hb d_SC_skipBlanks_119 (by decide) ?_
      refine lv_iadd hx hb d_SC_skipBlanks_120 ?_
      refine lv_topi (fun x3 ex3 => ?_)
      have tx3 : x3.toInt = j15_h0_place.toInt + 1 := by have z := i32_add ex3 (by omega) (by omega); omega
      refine va_put (D := (dC, dI)) (ci := 8) (v := .int x3) (ty := .int) (C := R_SC) (T := F_SC) (N := 11) hx hb hts i_SC t_SC t_SC_ok n_SC hown hK hP hD hS 0 rfl rfl 2 (by decide) (hts _ kF_SC_39) (fun _ h9 => h9) rfl (by decide +kernel) rfl rfl (Nat.le_of_ble_eq_true rfl) d_SC_skipBlanks_121 (fun H locs hP hD hS => ?_)
      refine lv_goto (tgt := 15) hx hb d_SC_skipBlanks_124 (by decide) ?_
      exact ih15 (j114_l1, x3) _ _ _ (by show (tr_length.toInt - x3.toInt).toNat < N15; omega) ⟨b_j114_l1, by (try dsimp only) <;> omega, by (try dsimp only) <;> omega, hP, hD, hS, lv_sub hl [0, 1] rfl⟩
    · skip
      refine lv_if_eq (tgt := 60) hx hb d_SC_skipBlanks_42 (by decide) (fun c42 => ?_) (fun c42 => ?_)
      · have q42 := eqI c42
        refine lv_iload_n hx hb d_SC_skipBlanks_60 rfl (lv_at hl 0 rfl) ?_
        refine lv_bipush (v := 47) hx hb d_SC_skipBlanks_61 (by decide) ?_
        refine lv_icmp_ne (tgt := 89) hx hb d_SC_skipBlanks_63 (by decide) (fun c63 => ?_) (fun c63 => ?_)
        · have q63 := neI c63
          refine lv_iload_n hx hb d_SC_skipBlanks_89 rfl (lv_at hl 0 rfl) ?_
          refine lv_bipush (v := 9) hx hb d_SC_skipBlanks_90 (by decide) ?_
          refine lv_icmp_eq (tgt := 114) hx hb d_SC_skipBlanks_92 (by decide) (fun c92 => ?_) (fun c92 => ?_)
          · have q92 := eqI c92
            exact jn114 j15_l1 _ _ _ ⟨b_j15_l1, hP, hD, hS, lv_sub hl [1, 2] rfl⟩
          · have q92 := neI c92
            refine lv_iload_n hx hb d_SC_skipBlanks_95 rfl (lv_at hl 0 rfl) ?_
            refine lv_bipush (v := 10) hx hb d_SC_skipBlanks_96 (by decide) ?_
            refine lv_icmp_eq (tgt := 114) hx hb d_SC_skipBlanks_98 (by decide) (fun c98 => ?_) (fun c98 => ?_)
            · have q98 := eqI c98
              exact jn114 j15_l1 _ _ _ ⟨b_j15_l1, hP, hD, hS, lv_sub hl [1, 2] rfl⟩
            · have q98 := neI c98
              refine lv_iload_n hx hb d_SC_skipBlanks_101 rfl (lv_at hl 0 rfl) ?_
              refine lv_bipush (v := 13) hx hb d_SC_skipBlanks_102 (by decide) ?_
              refine lv_icmp_eq (tgt := 114) hx hb d_SC_skipBlanks_104 (by decide) (fun c104 => ?_) (fun c104 => ?_)
              · have q104 := eqI c104
                exact jn114 j15_l1 _ _ _ ⟨b_j15_l1, hP, hD, hS, lv_sub hl [1, 2] rfl⟩
              · have q104 := neI c104
                refine lv_iload_n hx hb d_SC_skipBlanks_107 rfl (lv_at hl 0 rfl) ?_
                refine lv_bipush (v := 32) hx hb d_SC_skipBlanks_108 (by decide) ?_
                refine lv_icmp_eq (tgt := 114) hx hb d_SC_skipBlanks_110 (by decide) (fun c110 => ?_) (fun c110 => ?_)
                · have q110 := eqI c110
                  exact jn114 j15_l1 _ _ _ ⟨b_j15_l1, hP, hD, hS, lv_sub hl [1, 2] rfl⟩
                · have q110 := neI c110
                  have hP9 := hP.sub (ws' := [(h0, .inr (8, [.ref tr, .ref (sg sa h0_sign), .int j15_h0_place, .int h0_size, .long h0_value, .ref ss, .ref sp, .ref szs, .ref sv, .int h0_length, .int h0_at])), (tr, .inr (1, [.ref tx, .int tr_length])), (tx, .inl (ctx, 2000, .inl gtx))]) [0, 1, 2] rfl
                  have hD9 := hD.sub (ws' := [(h0, .inr (8, [.ref tr, .ref (sg sa h0_sign), .int j15_h0_place, .int h0_size, .long h0_value, .ref ss, .ref sp, .ref szs, .ref sv, .int h0_length, .int h0_at])), (tr, .inr (1, [.ref tx, .int tr_length])), (tx, .inl (ctx, 2000, .inl gtx))]) [0, 1, 2] (by decide) rfl
                  exact W.vret hx hb hr (fun t ht hW => ⟨⟨j15_h0_place, rfl, ⟨b_j15_h0_place, by (try dsimp only) <;> omega⟩, by rw [ht]; exact hP9, va_K.moved hW.alike hK, hD9⟩, hS.F ht⟩) hS.2.2 d_SC_skipBlanks_113
        · have q63 := eqI c63
          refine lv_aload_n hx hb d_SC_skipBlanks_66 rfl (lv_at hl 1 rfl) ?_
          refine va_get (D := (dC, dI)) (ci := 8) (v := .ref tr) (C := R_SC) (T := F_SC) (N := 11) hx hb hts i_SC hown hK hP 0 rfl rfl 0 (by decide) (hts _ kF_SC_35) (fun _ h9 => h9) rfl d_SC_skipBlanks_67 ?_
          refine lv_aload_n hx hb d_SC_skipBlanks_70 rfl (lv_at hl 1 rfl) ?_
          refine va_get (D := (dC, dI)) (ci := 8) (v := .int j15_h0_place) (C := R_SC) (T := F_SC) (N := 11) hx hb hts i_SC hown hK hP 0 rfl rfl 2 (by decide) (hts _ kF_SC_39) (fun _ h9 => h9) rfl d_SC_skipBlanks_71 ?_
          refine lv_iconst (v := 1) hx hb d_SC_skipBlanks_74 (by decide) ?_
          refine lv_iadd hx hb d_SC_skipBlanks_75 ?_
          refine lv_topi (fun x4 ex4 => ?_)
          have tx4 : x4.toInt = j15_h0_place.toInt + 1 := by have z := i32_add ex4 (by omega) (by omega); omega
          have hPc := hP.sub (ws' := [(tr, .inr (1, [.ref tx, .int tr_length])), (tx, .inl (ctx, 2000, .inl gtx))]) [1, 2] rfl
          have hDc := hD.sub (ws' := [(tr, .inr (1, [.ref tx, .int tr_length])), (tx, .inl (ctx, 2000, .inl gtx))]) [1, 2] (by decide) rfl
          have hKc := hK.sub (tys' := [(ctx, .byte)]) [0] rfl
          have hFc := va_free (wc := [(tr, .inr (1, [.ref tx, .int tr_length])), (tx, .inl (ctx, 2000, .inl gtx))]) hD hS hA [1, 2] rfl
          refine va_calli (va_runV (As := [.int x4]) (rest := []) ⟨hx, hb, hml, hown, hts⟩ (c_BR_at l dC dI tr tx H.size ctx 2000 tr_length gtx (by omega) (by omega) (by omega) x4) (cwV 1 hts (gV kM_SC_80 kV_BR_at kS_BR_at kI_BR kC_BR_at) rfl rfl rfl (by decide +kernel) ⟨Nat.le_of_ble_eq_true rfl, Nat.le_of_ble_eq_true rfl⟩) ⟨fun a U g mk z => by obtain ⟨z0, z1, zP, zK, zD⟩ := z; exact ⟨z0, z1, zP, va_K.moved (u := U) (U := U.calling g mk a) (Vm.Alike.refl U.vm) zK, zD⟩, va_recv hKc hPc (ci := 1) (q0 := 0) rfl rfl, fun U hU hW => ⟨rfl, by rw [hU], by rw [hU]; exact hPc, va_K.moved hW.alike hKc, hDc.weaken (fun _ _ _ _ => trivial)⟩⟩ rfl rfl hl.1 rfl (lv_room (Nat.le_of_ble_eq_true rfl)) d_SC_skipBlanks_76 ⟨(Nat.zero_le _), (Nat.zero_le _)⟩) hS (fun q _ h => hFc q h) hFc (fun r5 u t H1 locs ht hvm hw hB hz1 hk1 hS => ?_)
          obtain ⟨er5, rfl⟩ := hw
          have tr5 := br_get_in gtx tr_length x4
          rw [← er5] at tr5
          obtain ⟨hP1, hK1, hD1⟩ := hB
          rw [ht] at hP1
          obtain ⟨hP, hD⟩ := va_join (wr := [(h0, .inr (8, [.ref tr, .ref (sg sa h0_sign), .int j15_h0_place, .int h0_size, .long h0_value, .ref ss, .ref sp, .ref szs, .ref sv, .int h0_length, .int h0_at]))]) (w1 := [(tr, .inr (1, [.ref tx, .int tr_length])), (tx, .inl (ctx, 2000, .inl gtx))]) hP hD [1, 2] [0] rfl rfl (by decide) (by decide) hk1 hFc hP1 hD1
          clear hPc hDc hKc hFc hz1 hk1 hP1 hK1 hD1
          generalize H1 = H at hP hS ⊢
          have hP : va_P (dC, dI) cls [(h0, .inr (8, [.ref tr, .ref (sg sa h0_sign), .int j15_h0_place, .int h0_size, .long h0_value, .ref ss, .ref sp, .ref szs, .ref sv, .int h0_length, .int h0_at])), (tr, .inr (1, [.ref tx, .int tr_length])), (tx, .inl (ctx, 2000, .inl gtx))] H := hP
          have hD : va_D A [(h0, .inr (8, [.ref tr, .ref (sg sa h0_sign), .int j15_h0_place, .int h0_size, .long h0_value, .ref ss, .ref sp, .ref szs, .ref sv, .int h0_length, .int h0_at])), (tr, .inr (1, [.ref tx, .int tr_length])), (tx, .inl (ctx, 2000, .inl gtx))] := hD
          refine lv_bipush (v := 47) hx hb d_SC_skipBlanks_79 (by decide) ?_
          refine lv_icmp_ne (tgt := 89) hx hb d_SC_skipBlanks_81 (by decide) (fun c81 => ?_) (fun c81 => ?_)
          · have q81 := neI c81
            refine lv_iload_n hx hb d_SC_skipBlanks_89 rfl (lv_at hl 0 rfl) ?_
            refine lv_bipush (v := 9) hx hb d_SC_skipBlanks_90 (by decide) ?_
            refine lv_icmp_eq (tgt := 114) hx hb d_SC_skipBlanks_92 (by decide) (fun c92 => ?_) (fun c92 => ?_)
            · have q92 := eqI c92
              exact jn114 j15_l1 _ _ _ ⟨b_j15_l1, hP, hD, hS, lv_sub hl [1, 2] rfl⟩
            · have q92 := neI c92
              refine lv_iload_n hx hb d_SC_skipBlanks_95 rfl (lv_at hl 0 rfl) ?_
              refine lv_bipush (v := 10) hx hb d_SC_skipBlanks_96 (by decide) ?_
              refine lv_icmp_eq (tgt := 114) hx hb d_SC_skipBlanks_98 (by decide) (fun c98 => ?_) (fun c98 => ?_)
              · have q98 := eqI c98
                exact jn114 j15_l1 _ _ _ ⟨b_j15_l1, hP, hD, hS, lv_sub hl [1, 2] rfl⟩
              · have q98 := neI c98
                refine lv_iload_n hx hb d_SC_skipBlanks_101 rfl (lv_at hl 0 rfl) ?_
                refine lv_bipush (v := 13) hx hb d_SC_skipBlanks_102 (by decide) ?_
                refine lv_icmp_eq (tgt := 114) hx hb d_SC_skipBlanks_104 (by decide) (fun c104 => ?_) (fun c104 => ?_)
                · have q104 := eqI c104
                  exact jn114 j15_l1 _ _ _ ⟨b_j15_l1, hP, hD, hS, lv_sub hl [1, 2] rfl⟩
                · have q104 := neI c104
                  refine lv_iload_n hx hb d_SC_skipBlanks_107 rfl (lv_at hl 0 rfl) ?_
                  refine lv_bipush (v := 32) hx hb d_SC_skipBlanks_108 (by decide) ?_
                  refine lv_icmp_eq (tgt := 114) hx hb d_SC_skipBlanks_110 (by decide) (fun c110 => ?_) (fun c110 => ?_)
                  · have q110 := eqI c110
                    exact jn114 j15_l1 _ _ _ ⟨b_j15_l1, hP, hD, hS, lv_sub hl [1, 2] rfl⟩
                  · have q110 := neI c110
                    have hP9 := hP.sub (ws' := [(h0, .inr (8, [.ref tr, .ref (sg sa h0_sign), .int j15_h0_place, .int h0_size, .long h0_value, .ref ss, .ref sp, .ref szs, .ref sv, .int h0_length, .int h0_at])), (tr, .inr (1, [.ref tx, .int tr_length])), (tx, .inl (ctx, 2000, .inl gtx))]) [0, 1, 2] rfl
                    have hD9 := hD.sub (ws' := [(h0, .inr (8, [.ref tr, .ref (sg sa h0_sign), .int j15_h0_place, .int h0_size, .long h0_value, .ref ss, .ref sp, .ref szs, .ref sv, .int h0_length, .int h0_at])), (tr, .inr (1, [.ref tx, .int tr_length])), (tx, .inl (ctx, 2000, .inl gtx))]) [0, 1, 2] (by decide) rfl
                    exact W.vret hx hb hr (fun t ht hW => ⟨⟨j15_h0_place, rfl, ⟨b_j15_h0_place, by (try dsimp only) <;> omega⟩, by rw [ht]; exact hP9, va_K.moved hW.alike hK, hD9⟩, hS.F ht⟩) hS.2.2 d_SC_skipBlanks_113
          · have q81 := eqI c81
            refine lv_iconst (v := 1) hx hb d_SC_skipBlanks_84 (by decide) ?_
            refine lv_istore_n (lv' := [(1, .int 1), (2, .int r2), (0, .ref h0)]) hx hb d_SC_skipBlanks_85 rfl hl (by decide) rfl (fun ls hl => ?_)
            refine lv_goto (tgt := 114) hx hb d_SC_skipBlanks_86 (by decide) ?_
            exact jn114 1 _ _ _ ⟨Or.inr rfl, hP, hD, hS, lv_sub hl [2, 0] rfl⟩
      · have q42 := neI c42
        refine lv_iload_n hx hb d_SC_skipBlanks_45 rfl (lv_at hl 0 rfl) ?_
        refine lv_bipush (v := 10) hx hb d_SC_skipBlanks_46 (by decide) ?_
        refine w_cut (pc2 := 56) (σ := Int32) (fun u H locs ls => match u with | j56_s0 => (j56_s0 = 0 ∨ j56_s0 = 1) ∧ va_P (dC, dI) cls [(h0, .inr (8, [.ref tr, .ref (sg sa h0_sign), .int j15_h0_place, .int h0_size, .long h0_value, .ref ss, .ref sp, .ref szs, .ref sv, .int h0_length, .int h0_at])), (tr, .inr (1, [.ref tx, .int tr_length])), (tx, .inl (ctx, 2000, .inl gtx))] H ∧ va_D A [(h0, .inr (8, [.ref tr, .ref (sg sa h0_sign), .int j15_h0_place, .int h0_size, .long h0_value, .ref ss, .ref sp, .ref szs, .ref sv, .int h0_length, .int h0_at])), (tr, .inr (1, [.ref tx, .int tr_length])), (tx, .inl (ctx, 2000, .inl gtx))] ∧ va_S A s.heap H locs ∧ lv_has ls 3 [(0, .ref h0)]) (fun u => match u with | j56_s0 => [.int j56_s0]) ?_ (fun jn56 => ?_)
        · intro u H locs ls hI
          obtain ⟨j56_s0, rfl⟩ : ∃ z, z = u := ⟨_, rfl⟩
          obtain ⟨b_j56_s0, hP, hD, hS, hl⟩ := hI
          have tj56_s0 := b01 b_j56_s0
          refine lv_istore_n (lv' := [(1, .int j56_s0), (0, .ref h0)]) hx hb d_SC_skipBlanks_56 rfl hl (by decide) rfl (fun ls hl => ?_)
          refine lv_goto (tgt := 114) hx hb d_SC_skipBlanks_57 (by decide) ?_
          exact jn114 j56_s0 _ _ _ ⟨b_j56_s0, hP, hD, hS, lv_sub hl [1, 0] rfl⟩
        · skip
          refine lv_icmp_eq (tgt := 55) hx hb d_SC_skipBlanks_48 (by decide) (fun c48 => ?_) (fun c48 => ?_)
          · have q48 := eqI c48
            refine lv_iconst (v := 0) hx hb d_SC_skipBlanks_55 (by decide) ?_
            exact jn56 0 _ _ _ ⟨Or.inl rfl, hP, hD, hS, lv_sub hl [1] rfl⟩
          · have q48 := neI c48
            refine lv_iconst (v := 1) hx hb d_SC_skipBlanks_51 (by decide) ?_
            refine lv_goto (tgt := 56) hx hb d_SC_skipBlanks_52 (by decide) ?_
            exact jn56 1 _ _ _ ⟨Or.inr rfl, hP, hD, hS, lv_sub hl [1] rfl⟩
abbrev b_SC_readName : ByteArray := prog_10_method_8_code
def y_SC_readName : MethodName := ⟨R_SC, "readName", "()V"⟩
abbrev w_SC_readName : List Cond := .code y_SC_readName b_SC_readName 2 none :: lw_g
theorem kC_SC_readName : Cond.code y_SC_readName b_SC_readName 2 none ∈ lw_g := in_g 797 (by decide +kernel) rfl
theorem d_SC_readName_0 : decode b_SC_readName 0 = .ok (.aload_n 0, 1) := by decide +kernel
theorem d_SC_readName_1 : decode b_SC_readName 1 = .ok (.iconst 1, 1) := by decide +kernel
theorem d_SC_readName_2 : decode b_SC_readName 2 = .ok (.putfield 43, 3) := by decide +kernel
theorem d_SC_readName_5 : decode b_SC_readName 5 = .ok (.aload_n 0, 1) := by decide +kernel
theorem d_SC_readName_6 : decode b_SC_readName 6 = .ok (.getfield 39, 3) := by decide +kernel
theorem d_SC_readName_9 : decode b_SC_readName 9 = .ok (.aload_n 0, 1) := by decide +kernel
theorem d_SC_readName_10 : decode b_SC_readName 10 = .ok (.getfield 43, 3) := by decide +kernel
theorem d_SC_readName_13 : decode b_SC_readName 13 = .ok (.iadd, 1) := by decide +kernel
theorem d_SC_readName_14 : decode b_SC_readName 14 = .ok (.aload_n 0, 1) := by decide +kernel
theorem d_SC_readName_15 : decode b_SC_readName 15 = .ok (.getfield 35, 3) := by decide +kernel
theorem d_SC_readName_18 : decode b_SC_readName 18 = .ok (.getfield 77, 3) := by decide +kernel
theorem d_SC_readName_21 : decode b_SC_readName 21 = .ok (.if_icmp .ge 38, 3) := by decide +kernel
theorem d_SC_readName_24 : decode b_SC_readName 24 = .ok (.aload_n 0, 1) := by decide +kernel
theorem d_SC_readName_25 : decode b_SC_readName 25 = .ok (.getfield 35, 3) := by decide +kernel
theorem d_SC_readName_28 : decode b_SC_readName 28 = .ok (.aload_n 0, 1) := by decide +kernel
theorem d_SC_readName_29 : decode b_SC_readName 29 = .ok (.getfield 39, 3) := by decide +kernel
theorem d_SC_readName_32 : decode b_SC_readName 32 = .ok (.aload_n 0, 1) := by decide +kernel
theorem d_SC_readName_33 : decode b_SC_readName 33 = .ok (.getfield 43, 3) := by decide +kernel
theorem d_SC_readName_36 : decode b_SC_readName 36 = .ok (.iadd, 1) := by decide +kernel
theorem d_SC_readName_37 : decode b_SC_readName 37 = .ok (.invokevirtual 80, 3) := by decide +kernel
theorem d_SC_readName_40 : decode b_SC_readName 40 = .ok (.invokestatic 99, 3) := by decide +kernel
theorem d_SC_readName_43 : decode b_SC_readName 43 = .ok (.ifCond .eq 16, 3) := by decide +kernel
theorem d_SC_readName_46 : decode b_SC_readName 46 = .ok (.aload_n 0, 1) := by decide +kernel
theorem d_SC_readName_47 : decode b_SC_readName 47 = .ok (.dup, 1) := by decide +kernel
theorem d_SC_readName_48 : decode b_SC_readName 48 = .ok (.getfield 43, 3) := by decide +kernel
theorem d_SC_readName_51 : decode b_SC_readName 51 = .ok (.iconst 1, 1) := by decide +kernel
theorem d_SC_readName_52 : decode b_SC_readName 52 = .ok (.iadd, 1) := by decide +kernel
theorem d_SC_readName_53 : decode b_SC_readName 53 = .ok (.putfield 43, 3) := by decide +kernel
theorem d_SC_readName_56 : decode b_SC_readName 56 = .ok (.goto (-51), 3) := by decide +kernel
theorem d_SC_readName_59 : decode b_SC_readName 59 = .ok (.aload_n 0, 1) := by decide +kernel
theorem d_SC_readName_60 : decode b_SC_readName 60 = .ok (.aload_n 0, 1) := by decide +kernel
theorem d_SC_readName_61 : decode b_SC_readName 61 = .ok (.getfield 43, 3) := by decide +kernel
theorem d_SC_readName_64 : decode b_SC_readName 64 = .ok (.bipush 20, 2) := by decide +kernel
theorem d_SC_readName_66 : decode b_SC_readName 66 = .ok (.if_icmp .le 9, 3) := by decide +kernel
theorem d_SC_readName_69 : decode b_SC_readName 69 = .ok (.getstatic 52, 3) := by decide +kernel
theorem d_SC_readName_72 : decode b_SC_readName 72 = .ok (.goto 6, 3) := by decide +kernel
theorem d_SC_readName_75 : decode b_SC_readName 75 = .ok (.getstatic 46, 3) := by decide +kernel
theorem d_SC_readName_78 : decode b_SC_readName 78 = .ok (.putfield 15, 3) := by decide +kernel
theorem d_SC_readName_81 : decode b_SC_readName 81 = .ok (.iconst 0, 1) := by decide +kernel
theorem d_SC_readName_82 : decode b_SC_readName 82 = .ok (.istore_n 1, 1) := by decide +kernel
theorem d_SC_readName_83 : decode b_SC_readName 83 = .ok (.iload_n 1, 1) := by decide +kernel
theorem d_SC_readName_84 : decode b_SC_readName 84 = .ok (.getstatic 102, 3) := by decide +kernel
theorem d_SC_readName_87 : decode b_SC_readName 87 = .ok (.arraylength, 1) := by decide +kernel
theorem d_SC_readName_88 : decode b_SC_readName 88 = .ok (.if_icmp .ge 58, 3) := by decide +kernel
theorem d_SC_readName_91 : decode b_SC_readName 91 = .ok (.getstatic 102, 3) := by decide +kernel
theorem d_SC_readName_94 : decode b_SC_readName 94 = .ok (.iload_n 1, 1) := by decide +kernel
theorem d_SC_readName_95 : decode b_SC_readName 95 = .ok (.aaload, 1) := by decide +kernel
theorem d_SC_readName_96 : decode b_SC_readName 96 = .ok (.getfield 105, 3) := by decide +kernel
theorem d_SC_readName_99 : decode b_SC_readName 99 = .ok (.invokevirtual 108, 3) := by decide +kernel
theorem d_SC_readName_102 : decode b_SC_readName 102 = .ok (.aload_n 0, 1) := by decide +kernel
theorem d_SC_readName_103 : decode b_SC_readName 103 = .ok (.getfield 43, 3) := by decide +kernel
theorem d_SC_readName_106 : decode b_SC_readName 106 = .ok (.if_icmp .ne 34, 3) := by decide +kernel
theorem d_SC_readName_109 : decode b_SC_readName 109 = .ok (.aload_n 0, 1) := by decide +kernel
theorem d_SC_readName_110 : decode b_SC_readName 110 = .ok (.getfield 35, 3) := by decide +kernel
theorem d_SC_readName_113 : decode b_SC_readName 113 = .ok (.aload_n 0, 1) := by decide +kernel
theorem d_SC_readName_114 : decode b_SC_readName 114 = .ok (.getfield 39, 3) := by decide +kernel
theorem d_SC_readName_117 : decode b_SC_readName 117 = .ok (.getstatic 102, 3) := by decide +kernel
theorem d_SC_readName_120 : decode b_SC_readName 120 = .ok (.iload_n 1, 1) := by decide +kernel
theorem d_SC_readName_121 : decode b_SC_readName 121 = .ok (.aaload, 1) := by decide +kernel
theorem d_SC_readName_122 : decode b_SC_readName 122 = .ok (.getfield 105, 3) := by decide +kernel
theorem d_SC_readName_125 : decode b_SC_readName 125 = .ok (.invokevirtual 113, 3) := by decide +kernel
theorem d_SC_readName_128 : decode b_SC_readName 128 = .ok (.ifCond .eq 12, 3) := by decide +kernel
theorem d_SC_readName_131 : decode b_SC_readName 131 = .ok (.aload_n 0, 1) := by decide +kernel
theorem d_SC_readName_132 : decode b_SC_readName 132 = .ok (.getstatic 102, 3) := by decide +kernel
theorem d_SC_readName_135 : decode b_SC_readName 135 = .ok (.iload_n 1, 1) := by decide +kernel
theorem d_SC_readName_136 : decode b_SC_readName 136 = .ok (.aaload, 1) := by decide +kernel
theorem d_SC_readName_137 : decode b_SC_readName 137 = .ok (.putfield 15, 3) := by decide +kernel
theorem d_SC_readName_140 : decode b_SC_readName 140 = .ok (.iinc 1 1, 3) := by decide +kernel
theorem d_SC_readName_143 : decode b_SC_readName 143 = .ok (.goto (-60), 3) := by decide +kernel
theorem d_SC_readName_146 : decode b_SC_readName 146 = .ok (.return_, 1) := by decide +kernel
theorem kM_SC_99 : Cond.methodLink R_SC 99 y_SC_isNamePart ∈ lw_g := in_g 798 (by decide +kernel) rfl
theorem kT_SC_isNamePart : Cond.static y_SC_isNamePart ∈ lw_g := in_g 799 (by decide +kernel) rfl
theorem kM_SC_108 : Cond.methodLink R_SC 108 y_JS_length ∈ lw_g := in_g 806 (by decide +kernel) rfl
theorem kM_SC_113 : Cond.methodLink R_SC 113 y_BR_holds ∈ lw_g := in_g 816 (by decide +kernel) rfl
theorem kV_BR_holds : Cond.instanceMethod y_BR_holds ∈ lw_g := in_g 817 (by decide +kernel) rfl
theorem kS_BR_holds : Cond.selects R_BR y_BR_holds y_BR_holds ∈ lw_g := in_g 818 (by decide +kernel) rfl
theorem kF_SC_15 : Cond.fieldLink R_SC 15 "WaferForge$Scanner" "sign" "LWaferForge$Sign;" ∈ lw_g := in_g 266 (by decide +kernel) rfl
theorem kF_SC_105 : Cond.fieldLink R_SC 105 "WaferForge$Sign" "text" "Ljava/lang/String;" ∈ lw_g := in_g 3112 (by decide +kernel) rfl
theorem kF_SC_46 : Cond.fieldLink R_SC 46 "WaferForge$Sign" "NAME" "LWaferForge$Sign;" ∈ lw_g := in_g 778 (by decide +kernel) rfl
theorem kF_SC_52 : Cond.fieldLink R_SC 52 "WaferForge$Sign" "WRONG" "LWaferForge$Sign;" ∈ lw_g := in_g 780 (by decide +kernel) rfl
abbrev at_SC_readName (dC : Nat → ClassId) (dI : Nat → Nat → Nat) (sa : Nat → Nat) (h0 tr ss sp szs sv tx : Nat) (ctx : ClassId) (h0_place : Int32) (h0_value : Int64) (h0_length : Int32) (h0_at : Int32) (tr_length : Int32) (gtx : Nat → Int32) (A : Nat → Prop) (u : Nat × Int32) (t : State) : Prop := match u with | (h0_sign, h0_size) => va_P (dC, dI) cls [(h0, .inr (8, [.ref tr, .ref (sg sa h0_sign), .int h0_place, .int h0_size, .long h0_value, .ref ss, .ref sp, .ref szs, .ref sv, .int h0_length, .int h0_at])), (tr, .inr (1, [.ref tx, .int tr_length])), (tx, .inl (ctx, 2000, .inl gtx))] t.heap ∧ va_K (dC, dI) cls [(ctx, .byte)] t ∧ va_D A [(h0, .inr (8, [.ref tr, .ref (sg sa h0_sign), .int h0_place, .int h0_size, .long h0_value, .ref ss, .ref sp, .ref szs, .ref sv, .int h0_length, .int h0_at])), (tr, .inr (1, [.ref tx, .int tr_length])), (tx, .inl (ctx, 2000, .inl gtx))]
set_option maxHeartbeats 4000000 in
set_option maxRecDepth 100000 in
theorem c_SC_readName (l : Launch) (dC : Nat → ClassId) (dI : Nat → Nat → Nat) (sz : Nat) (sa : Nat → Nat) (h0 tr ss sp szs sv tx : Nat) (ctx : ClassId) (h0_sign : Nat) (h0_place : Int32) (h0_size : Int32) (h0_value : Int64) (h0_length : Int32) (h0_at : Int32) (tr_length : Int32) (gtx : Nat → Int32)  (b_h0_sign : h0_sign < 55) (b_h0_place : 0 ≤ h0_place.toInt ∧ h0_place.toInt ≤ 2000) (b_h0_size : 0 ≤ h0_size.toInt ∧ h0_size.toInt ≤ 2000) (b_tr_length : 0 ≤ tr_length.toInt ∧ tr_length.toInt ≤ 2000)   (hpl : h0_place.toInt < tr_length.toInt) : Met l y_SC_readName w_SC_readName ({ frames := 5, cells := 0, slots := 0, locals := 108 }) (va_Pc [.ref h0] (fun U => U.heap.size = sz ∧ va_P (dC, dI) cls [(h0, .inr (8, [.ref tr, .ref (sg sa h0_sign), .int h0_place, .int h0_size, .long h0_value, .ref ss, .ref sp, .ref szs, .ref sv, .int h0_length, .int h0_at])), (tr, .inr (1, [.ref tx, .int tr_length])), (tx, .inl (ctx, 2000, .inl gtx))] U.heap ∧ va_K (dC, dI) cls [(ctx, .byte)] U ∧ va_D (fun _ => True) [(h0, .inr (8, [.ref tr, .ref (sg sa h0_sign), .int h0_place, .int h0_size, .long h0_value, .ref ss, .ref sp, .ref szs, .ref sv, .int h0_length, .int h0_at])), (tr, .inr (1, [.ref tx, .int tr_length])), (tx, .inl (ctx, 2000, .inl gtx))] ∧ sw sa (va_A [(h0, .inr (8, [.ref tr, .ref (sg sa h0_sign), .int h0_place, .int h0_size, .long h0_value, .ref ss, .ref sp, .ref szs, .ref sv, .int h0_length, .int h0_at])), (tr, .inr (1, [.ref tx, .int tr_length])), (tx, .inl (ctx, 2000, .inl gtx))] sz) U U.heap)) (va_Qv (fun (u : Nat × Int32) => match u with | (h0_sign2, h0_size2) => (h0_sign2 < 55) ∧ (0 ≤ h0_size2.toInt ∧ h0_size2.toInt ≤ 2000) ∧ ((1 ≤ h0_size2.toInt ∧ h0_place.toInt + h0_size2.toInt ≤ tr_length.toInt) ∧ (h0_sign2 = 1 ∨ (h0_sign2 = 2 ∧ h0_size2.toInt ≤ 20) ∨ (5 ≤ h0_sign2 ∧ h0_size2.toInt = (sgB.getD h0_sign2 []).length)))) (at_SC_readName dC dI sa h0 tr ss sp szs sv tx ctx h0_place h0_value h0_length h0_at tr_length gtx (va_A [(h0, .inr (8, [.ref tr, .ref (sg sa h0_sign), .int h0_place, .int h0_size, .long h0_value, .ref ss, .ref sp, .ref szs, .ref sv, .int h0_length, .int h0_at])), (tr, .inr (1, [.ref tx, .int tr_length])), (tx, .inl (ctx, 2000, .inl gtx))] sz)) (va_A [(h0, .inr (8, [.ref tr, .ref (sg sa h0_sign), .int h0_place, .int h0_size, .long h0_value, .ref ss, .ref sp, .ref szs, .ref sv, .int h0_length, .int h0_at])), (tr, .inr (1, [.ref tx, .int tr_length])), (tx, .inl (ctx, 2000, .inl gtx))] sz)) 0 0 (va_A [(h0, .inr (8, [.ref tr, .ref (sg sa h0_sign), .int h0_place, .int h0_size, .long h0_value, .ref ss, .ref sp, .ref szs, .ref sv, .int h0_length, .int h0_at])), (tr, .inr (1, [.ref tx, .int tr_length])), (tx, .inl (ctx, 2000, .inl gtx))] sz) := by
  refine Met.ofW (cc := b_SC_readName) (maxL := 2) (ret := none) (by decide) rfl ?_
  intro p e s m args below meth c s₁ B hml hv
  obtain ⟨rfl, hsz, hP, hK, hD0, hSW⟩ := hv
  have hx := B.exec
  have hb := B.bytes
  have hr := B.returns
  have hts0 := atoms_spec (ws := w_SC_readName) B.pre
  have hts : ∀ w ∈ lw_g, w.before _ s = true := fun w h => hts0 w (List.mem_cons_of_mem _ h)
  have hown : s.vm.findClass R_SC = some m.cls := findClass_of_methodNamed B.named
  have hlocks := B.notSynchronized
  clear hts0
  subst hsz
  have hD := hD0.self (sz := s.heap.size)
  generalize hAe : va_A [(h0, .inr (8, [.ref tr, .ref (sg sa h0_sign), .int h0_place, .int h0_size, .long h0_value, .ref ss, .ref sp, .ref szs, .ref sv, .int h0_length, .int h0_at])), (tr, .inr (1, [.ref tx, .int tr_length])), (tx, .inl (ctx, 2000, .inl gtx))] s.heap.size = A at hD hSW ⊢
  have hA : ∀ q : Nat, s.heap.size ≤ q → A q := fun q h => by rw [← hAe]; exact Or.inr h
  clear hAe
  have hP : va_P (dC, dI) cls [(h0, .inr (8, [.ref tr, .ref (sg sa h0_sign), .int h0_place, .int h0_size, .long h0_value, .ref ss, .ref sp, .ref szs, .ref sv, .int h0_length, .int h0_at])), (tr, .inr (1, [.ref tx, .int tr_length])), (tx, .inl (ctx, 2000, .inl gtx))] s.heap := hP
  have hl := lv_entry ([.ref h0]) (n := 2) (Nat.le_of_ble_eq_true rfl)
  rw [lg_entry_eq]
  generalize (lg_sl ([.ref h0]) ++ List.replicate (2 - (lg_sl ([.ref h0])).length) Slot.unset).toArray = ls at hl ⊢
  have hl : lv_has ls 2 [(0, .ref h0)] := hl
  have k0 : (0 : Int32).toInt = 0 := by decide
  refine w_gen (A := A) hP (fun H locs hP hS => ?_)
  have k1 : (1 : Int32).toInt = 1 := by decide
  have k20 : (20 : Int32).toInt = 20 := by decide
  refine lv_aload_n hx hb d_SC_readName_0 rfl (lv_at hl 0 rfl) ?_
  refine lv_iconst (v := 1) hx hb d_SC_readName_1 (by decide) ?_
  refine va_put (D := (dC, dI)) (ci := 8) (v := .int 1) (ty := .int) (C := R_SC) (T := F_SC) (N := 11) hx hb hts i_SC t_SC t_SC_ok n_SC hown hK hP hD hS 0 rfl rfl 3 (by decide) (hts _ kF_SC_43) (fun _ h9 => h9) rfl (by decide +kernel) rfl rfl (Nat.le_of_ble_eq_true rfl) d_SC_readName_2 (fun H locs hP hD hS => ?_)
  refine w_loop (σ := Int32) (fun u H locs ls => match u with | j5_h0_size => (0 ≤ j5_h0_size.toInt ∧ j5_h0_size.toInt ≤ 2000) ∧ (1 ≤ j5_h0_size.toInt ∧ h0_place.toInt + j5_h0_size.toInt ≤ tr_length.toInt) ∧ va_P (dC, dI) cls [(h0, .inr (8, [.ref tr, .ref (sg sa h0_sign), .int h0_place, .int j5_h0_size, .long h0_value, .ref ss, .ref sp, .ref szs, .ref sv, .int h0_length, .int h0_at])), (tr, .inr (1, [.ref tx, .int tr_length])), (tx, .inl (ctx, 2000, .inl gtx))] H ∧ va_D A [(h0, .inr (8, [.ref tr, .ref (sg sa h0_sign), .int h0_place, .int j5_h0_size, .long h0_value, .ref ss, .ref sp, .ref szs, .ref sv, .int h0_length, .int h0_at])), (tr, .inr (1, [.ref tx, .int tr_length])), (tx, .inl (ctx, 2000, .inl gtx))] ∧ va_S A s.heap H locs ∧ lv_has ls 2 [(0, .ref h0)]) (fun u => match u with | j5_h0_size => (tr_length.toInt - j5_h0_size.toInt).toNat) ?_ 1 ⟨by (try dsimp only) <;> omega, by (try dsimp only) <;> omega, hP, hD, hS, lv_sub hl [0] rfl⟩
  intro N5 ih5 u H locs ls hN5 hI
  obtain ⟨j5_h0_size, rfl⟩ : ∃ z, z = u := ⟨_, rfl⟩
  obtain ⟨b_j5_h0_size, v1, hP, hD, hS, hl⟩ := hI
  have hN5 : (tr_length.toInt - j5_h0_size.toInt).toNat < N5 + 1 := hN5
  refine lv_aload_n hx hb d_SC_readName_5 rfl (lv_at hl 0 rfl) ?_
  refine va_get (D := (dC, dI)) (ci := 8) (v := .int h0_place) (C := R_SC) (T := F_SC) (N := 11) hx hb hts i_SC hown hK hP 0 rfl rfl 2 (by decide) (hts _ kF_SC_39) (fun _ h9 => h9) rfl d_SC_readName_6 ?_
  refine lv_aload_n hx hb d_SC_readName_9 rfl (lv_at hl 0 rfl) ?_
  refine va_get (D := (dC, dI)) (ci := 8) (v := .int j5_h0_size) (C := R_SC) (T := F_SC) (N := 11) hx hb hts i_SC hown hK hP 0 rfl rfl 3 (by decide) (hts _ kF_SC_43) (fun _ h9 => h9) rfl d_SC_readName_10 ?_
  refine lv_iadd hx hb d_SC_readName_13 ?_
  refine lv_topi (fun x1 ex1 => ?_)
  have tx1 : x1.toInt = h0_place.toInt + j5_h0_size.toInt := by have z := i32_add ex1 (by omega) (by omega); omega
  refine lv_aload_n hx hb d_SC_readName_14 rfl (lv_at hl 0 rfl) ?_
  refine va_get (D := (dC, dI)) (ci := 8) (v := .ref tr) (C := R_SC) (T := F_SC) (N := 11) hx hb hts i_SC hown hK hP 0 rfl rfl 0 (by decide) (hts _ kF_SC_35) (fun _ h9 => h9) rfl d_SC_readName_15 ?_
  refine va_get (D := (dC, dI)) (ci := 1) (v := .int tr_length) (C := R_BR) (T := F_BR) (N := 2) hx hb hts i_BR hown hK hP 1 rfl rfl 1 (by decide) (hts _ kF_SC_77) (fun _ h9 => h9) rfl d_SC_readName_18 ?_
  refine w_cut (pc2 := 59) (σ := Unit) (fun u H locs ls => match u with | _ => va_P (dC, dI) cls [(h0, .inr (8, [.ref tr, .ref (sg sa h0_sign), .int h0_place, .int j5_h0_size, .long h0_value, .ref ss, .ref sp, .ref szs, .ref sv, .int h0_length, .int h0_at])), (tr, .inr (1, [.ref tx, .int tr_length])), (tx, .inl (ctx, 2000, .inl gtx))] H ∧ va_D A [(h0, .inr (8, [.ref tr, .ref (sg sa h0_sign), .int h0_place, .int j5_h0_size, .long h0_value, .ref ss, .ref sp, .ref szs, .ref sv, .int h0_length, .int h0_at])), (tr, .inr (1, [.ref tx, .int tr_length])), (tx, .inl (ctx, 2000, .inl gtx))] ∧ va_S A s.heap H locs ∧ lv_has ls 2 [(0, .ref h0)]) (fun u => match u with | _ => []) ?_ (fun jn59 => ?_)
  · intro u H locs ls hI
    obtain ⟨hP, hD, hS, hl⟩ := hI
    refine lv_aload_n hx hb d_SC_readName_59 rfl (lv_at hl 0 rfl) ?_
    refine lv_aload_n hx hb d_SC_readName_60 rfl (lv_at hl 0 rfl) ?_
    refine va_get (D := (dC, dI)) (ci := 8) (v := .int j5_h0_size) (C := R_SC) (T := F_SC) (N := 11) hx hb hts i_SC hown hK hP 0 rfl rfl 3 (by decide) (hts _ kF_SC_43) (fun _ h9 => h9) rfl d_SC_readName_61 ?_
    refine lv_bipush (v := 20) hx hb d_SC_readName_64 (by decide) ?_
    refine w_cut (pc2 := 78) (σ := Nat) (fun u H locs ls => match u with | j78_s0 => (j78_s0 < 55) ∧ (j78_s0 = 1 ∨ (j78_s0 = 2 ∧ j5_h0_size.toInt ≤ 20)) ∧ va_P (dC, dI) cls [(h0, .inr (8, [.ref tr, .ref (sg sa h0_sign), .int h0_place, .int j5_h0_size, .long h0_value, .ref ss, .ref sp, .ref szs, .ref sv, .int h0_length, .int h0_at])), (tr, .inr (1, [.ref tx, .int tr_length])), (tx, .inl (ctx, 2000, .inl gtx))] H ∧ va_D A [(h0, .inr (8, [.ref tr, .ref (sg sa h0_sign), .int h0_place, .int j5_h0_size, .long h0_value, .ref ss, .ref sp, .ref szs, .ref sv, .int h0_length, .int h0_at])), (tr, .inr (1, [.ref tx, .int tr_length])), (tx, .inl (ctx, 2000, .inl gtx))] ∧ va_S A s.heap H locs ∧ lv_has ls 2 [(0, .ref h0)]) (fun u => match u with | j78_s0 => [.ref (sg sa j78_s0), .ref h0]) ?_ (fun jn78 => ?_)
    · intro u H locs ls hI
      obtain ⟨j78_s0, rfl⟩ : ∃ z, z = u := ⟨_, rfl⟩
      obtain ⟨b_j78_s0, y78, hP, hD, hS, hl⟩ := hI
      refine va_put (D := (dC, dI)) (ci := 8) (v := .ref (sg sa j78_s0)) (ty := .object "WaferForge$Sign") (C := R_SC) (T := F_SC) (N := 11) hx hb hts i_SC t_SC t_SC_ok n_SC hown hK hP hD hS 0 rfl rfl 1 (by decide) (hts _ kF_SC_15) (fun _ h9 => h9) rfl (by decide +kernel) rfl rfl (Nat.le_of_ble_eq_true rfl) d_SC_readName_78 (fun H locs hP hD hS => ?_)
      refine lv_iconst (v := 0) hx hb d_SC_readName_81 (by decide) ?_
      refine lv_istore_n (lv' := [(1, .int 0), (0, .ref h0)]) hx hb d_SC_readName_82 rfl hl (by decide) rfl (fun ls hl => ?_)
      refine w_loop (σ := Int32 × Nat) (fun u H locs ls => match u with | (j83_l1, j83_h0_sign) => (0 ≤ j83_l1.toInt ∧ j83_l1.toInt ≤ 55) ∧ (j83_h0_sign < 55) ∧ (j83_h0_sign = 1 ∨ (j83_h0_sign = 2 ∧ j5_h0_size.toInt ≤ 20) ∨ (5 ≤ j83_h0_sign ∧ j5_h0_size.toInt = (sgB.getD j83_h0_sign []).length)) ∧ va_P (dC, dI) cls [(h0, .inr (8, [.ref tr, .ref (sg sa j83_h0_sign), .int h0_place, .int j5_h0_size, .long h0_value, .ref ss, .ref sp, .ref szs, .ref sv, .int h0_length, .int h0_at])), (tr, .inr (1, [.ref tx, .int tr_length])), (tx, .inl (ctx, 2000, .inl gtx))] H ∧ va_D A [(h0, .inr (8, [.ref tr, .ref (sg sa j83_h0_sign), .int h0_place, .int j5_h0_size, .long h0_value, .ref ss, .ref sp, .ref szs, .ref sv, .int h0_length, .int h0_at])), (tr, .inr (1, [.ref tx, .int tr_length])), (tx, .inl (ctx, 2000, .inl gtx))] ∧ va_S A s.heap H locs ∧ lv_has ls 2 [(0, .ref h0), (1, .int j83_l1)]) (fun u => match u with | (j83_l1, j83_h0_sign) => (55 - j83_l1.toInt).toNat) ?_ (0, j78_s0) ⟨by (try dsimp only) <;> omega, b_j78_s0, by (try dsimp only) <;> omega, hP, hD, hS, lv_sub hl [1, 0] rfl⟩
      intro N83 ih83 u H locs ls hN83 hI
      obtain ⟨j83_l1, j83_h0_sign⟩ := u
      obtain ⟨b_j83_l1, b_j83_h0_sign, u1, hP, hD, hS, hl⟩ := hI
      have hN83 : (55 - j83_l1.toInt).toNat < N83 + 1 := hN83
      refine lv_iload_n hx hb d_SC_readName_83 rfl (lv_at hl 1 rfl) ?_
      refine va_getsN (C := "WaferForge") (n := "SIGNS") (d := "[LWaferForge$Sign;") (v := .ref ((sa 1))) hx hb (hSW.2.1.1) hS hown (sw_nf (k := 0) hSW rfl) (fun _ h9 => h9) d_SC_readName_84 ?_
      refine va_tlen (v := 55) hx hb (hSW.2.1.2) hS rfl d_SC_readName_87 ?_
      have k987 : (55 : Int32).toInt = 55 := by decide
      refine lv_icmp_ge (tgt := 146) hx hb d_SC_readName_88 (by decide) (fun c88 => ?_) (fun c88 => ?_)
      · have q88 := leI c88
        have hP9 := hP.sub (ws' := [(h0, .inr (8, [.ref tr, .ref (sg sa j83_h0_sign), .int h0_place, .int j5_h0_size, .long h0_value, .ref ss, .ref sp, .ref szs, .ref sv, .int h0_length, .int h0_at])), (tr, .inr (1, [.ref tx, .int tr_length])), (tx, .inl (ctx, 2000, .inl gtx))]) [0, 1, 2] rfl
        have hD9 := hD.sub (ws' := [(h0, .inr (8, [.ref tr, .ref (sg sa j83_h0_sign), .int h0_place, .int j5_h0_size, .long h0_value, .ref ss, .ref sp, .ref szs, .ref sv, .int h0_length, .int h0_at])), (tr, .inr (1, [.ref tx, .int tr_length])), (tx, .inl (ctx, 2000, .inl gtx))]) [0, 1, 2] (by decide) rfl
        exact W.vret hx hb hr (fun t ht hW => ⟨⟨(j83_h0_sign, j5_h0_size), rfl, ⟨b_j83_h0_sign, b_j5_h0_size, ⟨v1, u1⟩⟩, by rw [ht]; exact hP9, va_K.moved hW.alike hK, hD9⟩, hS.F ht⟩) hS.2.2 d_SC_readName_146
      · have q88 := nleI c88
        refine va_getsN (C := "WaferForge") (n := "SIGNS") (d := "[LWaferForge$Sign;") (v := .ref ((sa 1))) hx hb (hSW.2.1.1) hS hown (sw_nf (k := 0) hSW rfl) (fun _ h9 => h9) d_SC_readName_91 ?_
        refine lv_iload_n hx hb d_SC_readName_94 rfl (lv_at hl 1 rfl) ?_
        have g95 : vp_in j83_l1 55 := vp_in_iff.mpr ⟨by omega, by omega⟩
        obtain ⟨k3, ek3⟩ : ∃ z : Nat, z = j83_l1.toNatClampNeg := ⟨_, rfl⟩
        have hk3 : k3 < 55 := by have z := i32_clamp (x := j83_l1) (by omega); omega
        refine vb_tq (v := .ref (sg sa k3)) hx hb (hSW.2.1.2) hS g95 (by rw [ek3]) d_SC_readName_95 ?_
        refine va_getX (i := k3) hx hb hSW.2.2.2.2.1 hk3 hS hown (hts _ kF_SC_105) (fun _ h9 => h9) d_SC_readName_96 ?_
        have hPc := hP.sub (ws' := []) [] rfl
        have hDc := hD.sub (ws' := []) [] (by decide) rfl
        have hKc := hK.sub (tys' := []) [] rfl
        have hFc := va_free (wc := []) hD hS hA [] rfl
        refine va_calli (va_runV (As := []) (rest := []) ⟨hx, hb, hml, hown, hts⟩ (c_JS_length l dC dI H.size sa ((sa (200 + k3))) ((sa (300 + k3))) ((sgB.getD k3 [])) (by have z := (sgB_len k3 hk3).1; omega)) (cwV 0 hts (gV kM_SC_108 kV_JS_length kS_JS_length kI_JS kC_JS_length) rfl rfl rfl (by decide +kernel) ⟨Nat.le_of_ble_eq_true rfl, Nat.le_of_ble_eq_true rfl⟩) ⟨fun a U g mk z => by obtain ⟨z0, z1, zP, zK, zD, zS, zR0⟩ := z; exact ⟨z0, z1, zP, va_K.moved (u := U) (U := U.calling g mk a) (Vm.Alike.refl U.vm) zK, zD, sw.same (u := U) (U := U.calling g mk a) rfl zS, zR0.moved (u := U) (U := U.calling g mk a) (Vm.Alike.refl U.vm)⟩, so_recv ((hSW.2.2.2.2.2.1 k3 hk3).1) hS, fun U hU hW => ⟨rfl, by rw [hU], by rw [hU]; exact hPc, va_K.moved hW.alike hKc, hDc.weaken (fun _ _ _ _ => trivial), hSW.call hS hFc hW hU, ((hSW.2.2.2.2.2.1 k3 hk3)).call hS hFc hW hU⟩⟩ rfl rfl hl.1 rfl (lv_room (Nat.le_of_ble_eq_true rfl)) d_SC_readName_99 ⟨(Nat.zero_le _), (Nat.zero_le _)⟩) hS (fun q _ h => hFc q h) hFc (fun r4 u t H1 locs ht hvm hw hB hz1 hk1 hS => ?_)
        try dsimp only at hw
        have xr4 := hw
        try clear hw
        obtain ⟨hP1, hK1, hD1⟩ := hB
        rw [ht] at hP1
        obtain ⟨hP, hD⟩ := va_join (wr := [(h0, .inr (8, [.ref tr, .ref (sg sa j83_h0_sign), .int h0_place, .int j5_h0_size, .long h0_value, .ref ss, .ref sp, .ref szs, .ref sv, .int h0_length, .int h0_at])), (tr, .inr (1, [.ref tx, .int tr_length])), (tx, .inl (ctx, 2000, .inl gtx))]) (w1 := []) hP hD [] [0, 1, 2] rfl rfl (by decide) (by decide) hk1 hFc hP1 hD1
        clear hPc hDc hKc hFc hz1 hk1 hP1 hK1 hD1
        generalize H1 = H at hP hS ⊢
        have hP : va_P (dC, dI) cls [(h0, .inr (8, [.ref tr, .ref (sg sa j83_h0_sign), .int h0_place, .int j5_h0_size, .long h0_value, .ref ss, .ref sp, .ref szs, .ref sv, .int h0_length, .int h0_at])), (tr, .inr (1, [.ref tx, .int tr_length])), (tx, .inl (ctx, 2000, .inl gtx))] H := hP
        have hD : va_D A [(h0, .inr (8, [.ref tr, .ref (sg sa j83_h0_sign), .int h0_place, .int j5_h0_size, .long h0_value, .ref ss, .ref sp, .ref szs, .ref sv, .int h0_length, .int h0_at])), (tr, .inr (1, [.ref tx, .int tr_length])), (tx, .inl (ctx, 2000, .inl gtx))] := hD
        refine lv_aload_n hx hb d_SC_readName_102 rfl (lv_at hl 0 rfl) ?_
        refine va_get (D := (dC, dI)) (ci := 8) (v := .int j5_h0_size) (C := R_SC) (T := F_SC) (N := 11) hx hb hts i_SC hown hK hP 0 rfl rfl 3 (by decide) (hts _ kF_SC_43) (fun _ h9 => h9) rfl d_SC_readName_103 ?_
        refine w_cut (pc2 := 140) (σ := Nat) (fun u H locs ls => match u with | j140_h0_sign => (j140_h0_sign < 55) ∧ (j140_h0_sign = 1 ∨ (j140_h0_sign = 2 ∧ j5_h0_size.toInt ≤ 20) ∨ (5 ≤ j140_h0_sign ∧ j5_h0_size.toInt = (sgB.getD j140_h0_sign []).length)) ∧ va_P (dC, dI) cls [(h0, .inr (8, [.ref tr, .ref (sg sa j140_h0_sign), .int h0_place, .int j5_h0_size, .long h0_value, .ref ss, .ref sp, .ref szs, .ref sv, .int h0_length, .int h0_at])), (tr, .inr (1, [.ref tx, .int tr_length])), (tx, .inl (ctx, 2000, .inl gtx))] H ∧ va_D A [(h0, .inr (8, [.ref tr, .ref (sg sa j140_h0_sign), .int h0_place, .int j5_h0_size, .long h0_value, .ref ss, .ref sp, .ref szs, .ref sv, .int h0_length, .int h0_at])), (tr, .inr (1, [.ref tx, .int tr_length])), (tx, .inl (ctx, 2000, .inl gtx))] ∧ va_S A s.heap H locs ∧ lv_has ls 2 [(0, .ref h0), (1, .int j83_l1)]) (fun u => match u with | j140_h0_sign => []) ?_ (fun jn140 => ?_)
        · intro u H locs ls hI
          obtain ⟨j140_h0_sign, rfl⟩ : ∃ z, z = u := ⟨_, rfl⟩
          obtain ⟨b_j140_h0_sign, u2, hP, hD, hS, hl⟩ := hI
          obtain ⟨x5, ex5⟩ : ∃ z : Int32, z = j83_l1 + 1 := ⟨_, rfl⟩
          have tx5 : x5.toInt = j83_l1.toInt + 1 := by have z := i32_add ex5 (by omega) (by omega); omega
          refine lv_iinc (v := x5) (lv' := [(1, .int x5), (0, .ref h0)]) hx hb d_SC_readName_140 hl (k := 1) rfl (by rw [ex5]; rfl) (by decide) rfl (fun ls hl => ?_)
          refine lv_goto (tgt := 83) hx hb d_SC_readName_143 (by decide) ?_
          exact ih83 (x5, j140_h0_sign) _ _ _ (by show (55 - x5.toInt).toNat < N83; omega) ⟨by (try dsimp only) <;> omega, b_j140_h0_sign, u2, hP, hD, hS, lv_sub hl [1, 0] rfl⟩
        · skip
          refine lv_icmp_ne (tgt := 140) hx hb d_SC_readName_106 (by decide) (fun c106 => ?_) (fun c106 => ?_)
          · have q106 := neI c106
            exact jn140 j83_h0_sign _ _ _ ⟨b_j83_h0_sign, u1, hP, hD, hS, lv_sub hl [0, 1] rfl⟩
          · have q106 := eqI c106
            refine lv_aload_n hx hb d_SC_readName_109 rfl (lv_at hl 0 rfl) ?_
            refine va_get (D := (dC, dI)) (ci := 8) (v := .ref tr) (C := R_SC) (T := F_SC) (N := 11) hx hb hts i_SC hown hK hP 0 rfl rfl 0 (by decide) (hts _ kF_SC_35) (fun _ h9 => h9) rfl d_SC_readName_110 ?_
            refine lv_aload_n hx hb d_SC_readName_113 rfl (lv_at hl 0 rfl) ?_
            refine va_get (D := (dC, dI)) (ci := 8) (v := .int h0_place) (C := R_SC) (T := F_SC) (N := 11) hx hb hts i_SC hown hK hP 0 rfl rfl 2 (by decide) (hts _ kF_SC_39) (fun _ h9 => h9) rfl d_SC_readName_114 ?_
            refine va_getsN (C := "WaferForge") (n := "SIGNS") (d := "[LWaferForge$Sign;") (v := .ref ((sa 1))) hx hb (hSW.2.1.1) hS hown (sw_nf (k := 0) hSW rfl) (fun _ h9 => h9) d_SC_readName_117 ?_
            refine lv_iload_n hx hb d_SC_readName_120 rfl (lv_at hl 1 rfl) ?_
            have g121 : vp_in j83_l1 55 := vp_in_iff.mpr ⟨by omega, by omega⟩
            obtain ⟨k7, ek7⟩ : ∃ z : Nat, z = j83_l1.toNatClampNeg := ⟨_, rfl⟩
            have hk7 : k7 < 55 := by have z := i32_clamp (x := j83_l1) (by omega); omega
            refine vb_tq (v := .ref (sg sa k7)) hx hb (hSW.2.1.2) hS g121 (by rw [ek7]) d_SC_readName_121 ?_
            refine va_getX (i := k7) hx hb hSW.2.2.2.2.1 hk7 hS hown (hts _ kF_SC_105) (fun _ h9 => h9) d_SC_readName_122 ?_
            have hPc := hP.sub (ws' := [(tr, .inr (1, [.ref tx, .int tr_length])), (tx, .inl (ctx, 2000, .inl gtx))]) [1, 2] rfl
            have hDc := hD.sub (ws' := [(tr, .inr (1, [.ref tx, .int tr_length])), (tx, .inl (ctx, 2000, .inl gtx))]) [1, 2] (by decide) rfl
            have hKc := hK.sub (tys' := [(ctx, .byte)]) [0] rfl
            have hFc := va_free (wc := [(tr, .inr (1, [.ref tx, .int tr_length])), (tx, .inl (ctx, 2000, .inl gtx))]) hD hS hA [1, 2] rfl
            refine va_calli (va_runV (As := [.int h0_place, .ref (sa (200 + k7))]) (rest := []) ⟨hx, hb, hml, hown, hts⟩ (c_BR_holds l dC dI H.size sa ((sa (200 + k7))) ((sa (300 + k7))) ((sgB.getD k7 [])) tr tx ctx tr_length 2000 gtx h0_place (by omega) (by have z := (sgB_len k7 hk7).1; omega) (by omega)) (cwV 2 hts (gV kM_SC_113 kV_BR_holds kS_BR_holds kI_BR kC_BR_holds) rfl rfl rfl (by decide +kernel) ⟨Nat.le_of_ble_eq_true rfl, Nat.le_of_ble_eq_true rfl⟩) ⟨fun a U g mk z => by obtain ⟨z0, z1, zP, zK, zD, zS, zR0⟩ := z; exact ⟨z0, z1, zP, va_K.moved (u := U) (U := U.calling g mk a) (Vm.Alike.refl U.vm) zK, zD, sw.same (u := U) (U := U.calling g mk a) rfl zS, zR0.moved (u := U) (U := U.calling g mk a) (Vm.Alike.refl U.vm)⟩, va_recv hKc hPc (ci := 1) (q0 := 0) rfl rfl, fun U hU hW => ⟨rfl, by rw [hU], by rw [hU]; exact hPc, va_K.moved hW.alike hKc, hDc.weaken (fun _ _ _ _ => trivial), hSW.call hS hFc hW hU, ((hSW.2.2.2.2.2.1 k7 hk7)).call hS hFc hW hU⟩⟩ rfl rfl hl.1 rfl (lv_room (Nat.le_of_ble_eq_true rfl)) d_SC_readName_125 ⟨(Nat.zero_le _), (Nat.zero_le _)⟩) hS (fun q _ h => hFc q h) hFc (fun r8 u t H1 locs ht hvm hw hB hz1 hk1 hS => ?_)
            try dsimp only at hw
            obtain ⟨br8, xr8⟩ := hw
            try clear hw
            have tr8 := b01 br8
            obtain ⟨hP1, hK1, hD1⟩ := hB
            rw [ht] at hP1
            obtain ⟨hP, hD⟩ := va_join (wr := [(h0, .inr (8, [.ref tr, .ref (sg sa j83_h0_sign), .int h0_place, .int j5_h0_size, .long h0_value, .ref ss, .ref sp, .ref szs, .ref sv, .int h0_length, .int h0_at]))]) (w1 := [(tr, .inr (1, [.ref tx, .int tr_length])), (tx, .inl (ctx, 2000, .inl gtx))]) hP hD [1, 2] [0] rfl rfl (by decide) (by decide) hk1 hFc hP1 hD1
            clear hPc hDc hKc hFc hz1 hk1 hP1 hK1 hD1
            generalize H1 = H at hP hS ⊢
            have hP : va_P (dC, dI) cls [(h0, .inr (8, [.ref tr, .ref (sg sa j83_h0_sign), .int h0_place, .int j5_h0_size, .long h0_value, .ref ss, .ref sp, .ref szs, .ref sv, .int h0_length, .int h0_at])), (tr, .inr (1, [.ref tx, .int tr_length])), (tx, .inl (ctx, 2000, .inl gtx))] H := hP
            have hD : va_D A [(h0, .inr (8, [.ref tr, .ref (sg sa j83_h0_sign), .int h0_place, .int j5_h0_size, .long h0_value, .ref ss, .ref sp, .ref szs, .ref sv, .int h0_length, .int h0_at])), (tr, .inr (1, [.ref tx, .int tr_length])), (tx, .inl (ctx, 2000, .inl gtx))] := hD
            refine lv_if_eq (tgt := 140) hx hb d_SC_readName_128 (by decide) (fun c128 => ?_) (fun c128 => ?_)
            · have q128 := eqI c128
              exact jn140 j83_h0_sign _ _ _ ⟨b_j83_h0_sign, u1, hP, hD, hS, lv_sub hl [0, 1] rfl⟩
            · have q128 := neI c128
              refine lv_aload_n hx hb d_SC_readName_131 rfl (lv_at hl 0 rfl) ?_
              refine va_getsN (C := "WaferForge") (n := "SIGNS") (d := "[LWaferForge$Sign;") (v := .ref ((sa 1))) hx hb (hSW.2.1.1) hS hown (sw_nf (k := 0) hSW rfl) (fun _ h9 => h9) d_SC_readName_132 ?_
              refine lv_iload_n hx hb d_SC_readName_135 rfl (lv_at hl 1 rfl) ?_
              have g136 : vp_in j83_l1 55 := vp_in_iff.mpr ⟨by omega, by omega⟩
              obtain ⟨k10, ek10⟩ : ∃ z : Nat, z = j83_l1.toNatClampNeg := ⟨_, rfl⟩
              have hk10 : k10 < 55 := by have z := i32_clamp (x := j83_l1) (by omega); omega
              refine vb_tq (v := .ref (sg sa k10)) hx hb (hSW.2.1.2) hS g136 (by rw [ek10]) d_SC_readName_136 ?_
              refine va_put (D := (dC, dI)) (ci := 8) (v := .ref (sg sa k10)) (ty := .object "WaferForge$Sign") (C := R_SC) (T := F_SC) (N := 11) hx hb hts i_SC t_SC t_SC_ok n_SC hown hK hP hD hS 0 rfl rfl 1 (by decide) (hts _ kF_SC_15) (fun _ h9 => h9) rfl (by decide +kernel) rfl rfl (Nat.le_of_ble_eq_true rfl) d_SC_readName_137 (fun H locs hP hD hS => ?_)
              have q5 : k10 = k3 := by rw [ek10, ek3]
              have q6 := sgB_len k3 hk3
              have u9 : k10 = 1 ∨ (k10 = 2 ∧ j5_h0_size.toInt ≤ 20) ∨ (5 ≤ k10 ∧ j5_h0_size.toInt = (sgB.getD k10 []).length) := Or.inr (Or.inr (by rw [q5]; exact ⟨by omega, by omega⟩))
              exact jn140 k10 _ _ _ ⟨hk10, u9, hP, hD, hS, lv_sub hl [0, 1] rfl⟩
    · skip
      refine lv_icmp_le (tgt := 75) hx hb d_SC_readName_66 (by decide) (fun c66 => ?_) (fun c66 => ?_)
      · have q66 := leI c66
        refine va_gets (C := "WaferForge$Sign") (n := "NAME") (d := "LWaferForge$Sign;") (v := .ref (sg sa 2)) hx hb ((hSW.2.2.2.1.1 2 (by decide)).1) hS hown (hts _ kF_SC_46) (fun _ h9 => h9) d_SC_readName_75 ?_
        exact jn78 2 _ _ _ ⟨(by decide : 2 < 55), by (try dsimp only) <;> omega, hP, hD, hS, lv_sub hl [0] rfl⟩
      · have q66 := nleI c66
        refine va_gets (C := "WaferForge$Sign") (n := "WRONG") (d := "LWaferForge$Sign;") (v := .ref (sg sa 1)) hx hb ((hSW.2.2.2.1.1 1 (by decide)).1) hS hown (hts _ kF_SC_52) (fun _ h9 => h9) d_SC_readName_69 ?_
        refine lv_goto (tgt := 78) hx hb d_SC_readName_72 (by decide) ?_
        exact jn78 1 _ _ _ ⟨(by decide : 1 < 55), by (try dsimp only) <;> omega, hP, hD, hS, lv_sub hl [0] rfl⟩
  · skip
    refine lv_icmp_ge (tgt := 59) hx hb d_SC_readName_21 (by decide) (fun c21 => ?_) (fun c21 => ?_)
    · have q21 := leI c21
      exact jn59 () _ _ _ ⟨hP, hD, hS, lv_sub hl [0] rfl⟩
    · have q21 := nleI c21
      refine lv_aload_n hx hb d_SC_readName_24 rfl (lv_at hl 0 rfl) ?_
      refine va_get (D := (dC, dI)) (ci := 8) (v := .ref tr) (C := R_SC) (T := F_SC) (N := 11) hx hb hts i_SC hown hK hP 0 rfl rfl 0 (by decide) (hts _ kF_SC_35) (fun _ h9 => h9) rfl d_SC_readName_25 ?_
      refine lv_aload_n hx hb d_SC_readName_28 rfl (lv_at hl 0 rfl) ?_
      refine va_get (D := (dC, dI)) (ci := 8) (v := .int h0_place) (C := R_SC) (T := F_SC) (N := 11) hx hb hts i_SC hown hK hP 0 rfl rfl 2 (by decide) (hts _ kF_SC_39) (fun _ h9 => h9) rfl d_SC_readName_29 ?_
      refine lv_aload_n hx hb d_SC_readName_32 rfl (lv_at hl 0 rfl) ?_
      refine va_get (D := (dC, dI)) (ci := 8) (v := .int j5_h0_size) (C := R_SC) (T := F_SC) (N := 11) hx hb hts i_SC hown hK hP 0 rfl rfl 3 (by decide) (hts _ kF_SC_43) (fun _ h9 => h9) rfl d_SC_readName_33 ?_
      refine lv_iadd hx hb d_SC_readName_36 ?_
      refine lv_topi (fun x11 ex11 => ?_)
      have tx11 : x11.toInt = h0_place.toInt + j5_h0_size.toInt := by have z := i32_add ex11 (by omega) (by omega); omega
      have hPc := hP.sub (ws' := [(tr, .inr (1, [.ref tx, .int tr_length])), (tx, .inl (ctx, 2000, .inl gtx))]) [1, 2] rfl
      have hDc := hD.sub (ws' := [(tr, .inr (1, [.ref tx, .int tr_length])), (tx, .inl (ctx, 2000, .inl gtx))]) [1, 2] (by decide) rfl
      have hKc := hK.sub (tys' := [(ctx, .byte)]) [0] rfl
      have hFc := va_free (wc := [(tr, .inr (1, [.ref tx, .int tr_length])), (tx, .inl (ctx, 2000, .inl gtx))]) hD hS hA [1, 2] rfl
      refine va_calli (va_runV (As := [.int x11]) (rest := []) ⟨hx, hb, hml, hown, hts⟩ (c_BR_at l dC dI tr tx H.size ctx 2000 tr_length gtx (by omega) (by omega) (by omega) x11) (cwV 1 hts (gV kM_SC_80 kV_BR_at kS_BR_at kI_BR kC_BR_at) rfl rfl rfl (by decide +kernel) ⟨Nat.le_of_ble_eq_true rfl, Nat.le_of_ble_eq_true rfl⟩) ⟨fun a U g mk z => by obtain ⟨z0, z1, zP, zK, zD⟩ := z; exact ⟨z0, z1, zP, va_K.moved (u := U) (U := U.calling g mk a) (Vm.Alike.refl U.vm) zK, zD⟩, va_recv hKc hPc (ci := 1) (q0 := 0) rfl rfl, fun U hU hW => ⟨rfl, by rw [hU], by rw [hU]; exact hPc, va_K.moved hW.alike hKc, hDc.weaken (fun _ _ _ _ => trivial)⟩⟩ rfl rfl hl.1 rfl (lv_room (Nat.le_of_ble_eq_true rfl)) d_SC_readName_37 ⟨(Nat.zero_le _), (Nat.zero_le _)⟩) hS (fun q _ h => hFc q h) hFc (fun r12 u t H1 locs ht hvm hw hB hz1 hk1 hS => ?_)
      obtain ⟨er12, rfl⟩ := hw
      have tr12 := br_get_in gtx tr_length x11
      rw [← er12] at tr12
      obtain ⟨hP1, hK1, hD1⟩ := hB
      rw [ht] at hP1
      obtain ⟨hP, hD⟩ := va_join (wr := [(h0, .inr (8, [.ref tr, .ref (sg sa h0_sign), .int h0_place, .int j5_h0_size, .long h0_value, .ref ss, .ref sp, .ref szs, .ref sv, .int h0_length, .int h0_at]))]) (w1 := [(tr, .inr (1, [.ref tx, .int tr_length])), (tx, .inl (ctx, 2000, .inl gtx))]) hP hD [1, 2] [0] rfl rfl (by decide) (by decide) hk1 hFc hP1 hD1
      clear hPc hDc hKc hFc hz1 hk1 hP1 hK1 hD1
      generalize H1 = H at hP hS ⊢
      have hP : va_P (dC, dI) cls [(h0, .inr (8, [.ref tr, .ref (sg sa h0_sign), .int h0_place, .int j5_h0_size, .long h0_value, .ref ss, .ref sp, .ref szs, .ref sv, .int h0_length, .int h0_at])), (tr, .inr (1, [.ref tx, .int tr_length])), (tx, .inl (ctx, 2000, .inl gtx))] H := hP
      have hD : va_D A [(h0, .inr (8, [.ref tr, .ref (sg sa h0_sign), .int h0_place, .int j5_h0_size, .long h0_value, .ref ss, .ref sp, .ref szs, .ref sv, .int h0_length, .int h0_at])), (tr, .inr (1, [.ref tx, .int tr_length])), (tx, .inl (ctx, 2000, .inl gtx))] := hD
      have hPc := hP.sub (ws' := []) [] rfl
      have hDc := hD.sub (ws' := []) [] (by decide) rfl
      have hKc := hK.sub (tys' := []) [] rfl
      have hFc := va_free (wc := []) hD hS hA [] rfl
      refine va_calli (va_runS (As := [.int r12]) (rest := []) ⟨hx, hb, hml, hown, hts⟩ (c_SC_isNamePart l dC dI H.size r12) ⟨callB_of 1 hts (gW kC_SC_isNamePart) rfl rfl rfl (hts _ kI_SC) (hts _ kM_SC_99) (by decide +kernel) ⟨Nat.le_of_ble_eq_true rfl, Nat.le_of_ble_eq_true rfl⟩, hts _ kT_SC_isNamePart⟩ ⟨fun a U g mk z => by obtain ⟨z0, z1, zP, zK, zD⟩ := z; exact ⟨z0, z1, zP, va_K.moved (u := U) (U := U.calling g mk a) (Vm.Alike.refl U.vm) zK, zD⟩, fun U hU hW => ⟨rfl, by rw [hU], by rw [hU]; exact hPc, va_K.moved hW.alike hKc, hDc.weaken (fun _ _ _ _ => trivial)⟩⟩ rfl rfl hl.1 rfl (lv_room (Nat.le_of_ble_eq_true rfl)) d_SC_readName_40 ⟨(Nat.zero_le _), (Nat.zero_le _)⟩) hS (fun q _ h => hFc q h) hFc (fun r13 u t H1 locs ht hvm hw hB hz1 hk1 hS => ?_)
      try dsimp only at hw
      have br13 := hw
      try clear hw
      have tr13 := b01 br13
      obtain ⟨hP1, hK1, hD1⟩ := hB
      rw [ht] at hP1
      obtain ⟨hP, hD⟩ := va_join (wr := [(h0, .inr (8, [.ref tr, .ref (sg sa h0_sign), .int h0_place, .int j5_h0_size, .long h0_value, .ref ss, .ref sp, .ref szs, .ref sv, .int h0_length, .int h0_at])), (tr, .inr (1, [.ref tx, .int tr_length])), (tx, .inl (ctx, 2000, .inl gtx))]) (w1 := []) hP hD [] [0, 1, 2] rfl rfl (by decide) (by decide) hk1 hFc hP1 hD1
      clear hPc hDc hKc hFc hz1 hk1 hP1 hK1 hD1
      generalize H1 = H at hP hS ⊢
      have hP : va_P (dC, dI) cls [(h0, .inr (8, [.ref tr, .ref (sg sa h0_sign), .int h0_place, .int j5_h0_size, .long h0_value, .ref ss, .ref sp, .ref szs, .ref sv, .int h0_length, .int h0_at])), (tr, .inr (1, [.ref tx, .int tr_length])), (tx, .inl (ctx, 2000, .inl gtx))] H := hP
      have hD : va_D A [(h0, .inr (8, [.ref tr, .ref (sg sa h0_sign), .int h0_place, .int j5_h0_size, .long h0_value, .ref ss, .ref sp, .ref szs, .ref sv, .int h0_length, .int h0_at])), (tr, .inr (1, [.ref tx, .int tr_length])), (tx, .inl (ctx, 2000, .inl gtx))] := hD
      refine lv_if_eq (tgt := 59) hx hb d_SC_readName_43 (by decide) (fun c43 => ?_) (fun c43 => ?_)
      · have q43 := eqI c43
        exact jn59 () _ _ _ ⟨hP, hD, hS, lv_sub hl [0] rfl⟩
      · have q43 := neI c43
        refine lv_aload_n hx hb d_SC_readName_46 rfl (lv_at hl 0 rfl) ?_
        refine lv_dup hx hb d_SC_readName_47 rfl ?_
        refine va_get (D := (dC, dI)) (ci := 8) (v := .int j5_h0_size) (C := R_SC) (T := F_SC) (N := 11) hx hb hts i_SC hown hK hP 0 rfl rfl 3 (by decide) (hts _ kF_SC_43) (fun _ h9 => h9) rfl d_SC_readName_48 ?_
        refine lv_iconst (v := 1) hx hb d_SC_readName_51 (by decide) ?_
        refine lv_iadd hx hb d_SC_readName_52 ?_
        refine lv_topi (fun x14 ex14 => ?_)
        have tx14 : x14.toInt = j5_h0_size.toInt + 1 := by have z := i32_add ex14 (by omega) (by omega); omega
        refine va_put (D := (dC, dI)) (ci := 8) (v := .int x14) (ty := .int) (C := R_SC) (T := F_SC) (N := 11) hx hb hts i_SC t_SC t_SC_ok n_SC hown hK hP hD hS 0 rfl rfl 3 (by decide) (hts _ kF_SC_43) (fun _ h9 => h9) rfl (by decide +kernel) rfl rfl (Nat.le_of_ble_eq_true rfl) d_SC_readName_53 (fun H locs hP hD hS => ?_)
        refine lv_goto (tgt := 5) hx hb d_SC_readName_56 (by decide) ?_
        exact ih5 x14 _ _ _ (by show (tr_length.toInt - x14.toInt).toNat < N5; omega) ⟨by (try dsimp only) <;> omega, by (try dsimp only) <;> omega, hP, hD, hS, lv_sub hl [0] rfl⟩
abbrev b_SC_readMark : ByteArray := prog_10_method_10_code
def y_SC_readMark : MethodName := ⟨R_SC, "readMark", "()V"⟩
abbrev w_SC_readMark : List Cond := .code y_SC_readMark b_SC_readMark 2 none :: lw_g
theorem kC_SC_readMark : Cond.code y_SC_readMark b_SC_readMark 2 none ∈ lw_g := in_g 874 (by decide +kernel) rfl
theorem d_SC_readMark_0 : decode b_SC_readMark 0 = .ok (.aload_n 0, 1) := by decide +kernel
theorem d_SC_readMark_1 : decode b_SC_readMark 1 = .ok (.getstatic 52, 3) := by decide +kernel
theorem d_SC_readMark_4 : decode b_SC_readMark 4 = .ok (.putfield 15, 3) := by decide +kernel
theorem d_SC_readMark_7 : decode b_SC_readMark 7 = .ok (.aload_n 0, 1) := by decide +kernel
theorem d_SC_readMark_8 : decode b_SC_readMark 8 = .ok (.iconst 0, 1) := by decide +kernel
theorem d_SC_readMark_9 : decode b_SC_readMark 9 = .ok (.putfield 43, 3) := by decide +kernel
theorem d_SC_readMark_12 : decode b_SC_readMark 12 = .ok (.iconst 0, 1) := by decide +kernel
theorem d_SC_readMark_13 : decode b_SC_readMark 13 = .ok (.istore_n 1, 1) := by decide +kernel
theorem d_SC_readMark_14 : decode b_SC_readMark 14 = .ok (.iload_n 1, 1) := by decide +kernel
theorem d_SC_readMark_15 : decode b_SC_readMark 15 = .ok (.getstatic 102, 3) := by decide +kernel
theorem d_SC_readMark_18 : decode b_SC_readMark 18 = .ok (.arraylength, 1) := by decide +kernel
theorem d_SC_readMark_19 : decode b_SC_readMark 19 = .ok (.if_icmp .ge 72, 3) := by decide +kernel
theorem d_SC_readMark_22 : decode b_SC_readMark 22 = .ok (.getstatic 102, 3) := by decide +kernel
theorem d_SC_readMark_25 : decode b_SC_readMark 25 = .ok (.iload_n 1, 1) := by decide +kernel
theorem d_SC_readMark_26 : decode b_SC_readMark 26 = .ok (.aaload, 1) := by decide +kernel
theorem d_SC_readMark_27 : decode b_SC_readMark 27 = .ok (.getfield 105, 3) := by decide +kernel
theorem d_SC_readMark_30 : decode b_SC_readMark 30 = .ok (.invokevirtual 108, 3) := by decide +kernel
theorem d_SC_readMark_33 : decode b_SC_readMark 33 = .ok (.aload_n 0, 1) := by decide +kernel
theorem d_SC_readMark_34 : decode b_SC_readMark 34 = .ok (.getfield 43, 3) := by decide +kernel
theorem d_SC_readMark_37 : decode b_SC_readMark 37 = .ok (.if_icmp .le 48, 3) := by decide +kernel
theorem d_SC_readMark_40 : decode b_SC_readMark 40 = .ok (.aload_n 0, 1) := by decide +kernel
theorem d_SC_readMark_41 : decode b_SC_readMark 41 = .ok (.getfield 35, 3) := by decide +kernel
theorem d_SC_readMark_44 : decode b_SC_readMark 44 = .ok (.aload_n 0, 1) := by decide +kernel
theorem d_SC_readMark_45 : decode b_SC_readMark 45 = .ok (.getfield 39, 3) := by decide +kernel
theorem d_SC_readMark_48 : decode b_SC_readMark 48 = .ok (.getstatic 102, 3) := by decide +kernel
theorem d_SC_readMark_51 : decode b_SC_readMark 51 = .ok (.iload_n 1, 1) := by decide +kernel
theorem d_SC_readMark_52 : decode b_SC_readMark 52 = .ok (.aaload, 1) := by decide +kernel
theorem d_SC_readMark_53 : decode b_SC_readMark 53 = .ok (.getfield 105, 3) := by decide +kernel
theorem d_SC_readMark_56 : decode b_SC_readMark 56 = .ok (.invokevirtual 113, 3) := by decide +kernel
theorem d_SC_readMark_59 : decode b_SC_readMark 59 = .ok (.ifCond .eq 26, 3) := by decide +kernel
theorem d_SC_readMark_62 : decode b_SC_readMark 62 = .ok (.aload_n 0, 1) := by decide +kernel
theorem d_SC_readMark_63 : decode b_SC_readMark 63 = .ok (.getstatic 102, 3) := by decide +kernel
theorem d_SC_readMark_66 : decode b_SC_readMark 66 = .ok (.iload_n 1, 1) := by decide +kernel
theorem d_SC_readMark_67 : decode b_SC_readMark 67 = .ok (.aaload, 1) := by decide +kernel
theorem d_SC_readMark_68 : decode b_SC_readMark 68 = .ok (.putfield 15, 3) := by decide +kernel
theorem d_SC_readMark_71 : decode b_SC_readMark 71 = .ok (.aload_n 0, 1) := by decide +kernel
theorem d_SC_readMark_72 : decode b_SC_readMark 72 = .ok (.aload_n 0, 1) := by decide +kernel
theorem d_SC_readMark_73 : decode b_SC_readMark 73 = .ok (.getfield 15, 3) := by decide +kernel
theorem d_SC_readMark_76 : decode b_SC_readMark 76 = .ok (.getfield 105, 3) := by decide +kernel
theorem d_SC_readMark_79 : decode b_SC_readMark 79 = .ok (.invokevirtual 108, 3) := by decide +kernel
theorem d_SC_readMark_82 : decode b_SC_readMark 82 = .ok (.putfield 43, 3) := by decide +kernel
theorem d_SC_readMark_85 : decode b_SC_readMark 85 = .ok (.iinc 1 1, 3) := by decide +kernel
theorem d_SC_readMark_88 : decode b_SC_readMark 88 = .ok (.goto (-74), 3) := by decide +kernel
theorem d_SC_readMark_91 : decode b_SC_readMark 91 = .ok (.return_, 1) := by decide +kernel
abbrev at_SC_readMark (dC : Nat → ClassId) (dI : Nat → Nat → Nat) (sa : Nat → Nat) (h0 tr ss sp szs sv tx : Nat) (ctx : ClassId) (h0_place : Int32) (h0_value : Int64) (h0_length : Int32) (h0_at : Int32) (tr_length : Int32) (gtx : Nat → Int32) (A : Nat → Prop) (u : Nat × Int32) (t : State) : Prop := match u with | (h0_sign, h0_size) => va_P (dC, dI) cls [(h0, .inr (8, [.ref tr, .ref (sg sa h0_sign), .int h0_place, .int h0_size, .long h0_value, .ref ss, .ref sp, .ref szs, .ref sv, .int h0_length, .int h0_at])), (tr, .inr (1, [.ref tx, .int tr_length])), (tx, .inl (ctx, 2000, .inl gtx))] t.heap ∧ va_K (dC, dI) cls [(ctx, .byte)] t ∧ va_D A [(h0, .inr (8, [.ref tr, .ref (sg sa h0_sign), .int h0_place, .int h0_size, .long h0_value, .ref ss, .ref sp, .ref szs, .ref sv, .int h0_length, .int h0_at])), (tr, .inr (1, [.ref tx, .int tr_length])), (tx, .inl (ctx, 2000, .inl gtx))]
set_option maxHeartbeats 4000000 in
set_option maxRecDepth 100000 in
theorem c_SC_readMark (l : Launch) (dC : Nat → ClassId) (dI : Nat → Nat → Nat) (sz : Nat) (sa : Nat → Nat) (h0 tr ss sp szs sv tx : Nat) (ctx : ClassId) (h0_sign : Nat) (h0_place : Int32) (h0_size : Int32) (h0_value : Int64) (h0_length : Int32) (h0_at : Int32) (tr_length : Int32) (gtx : Nat → Int32)  (b_h0_sign : h0_sign < 55) (b_h0_place : 0 ≤ h0_place.toInt ∧ h0_place.toInt ≤ 2000) (b_h0_size : 0 ≤ h0_size.toInt ∧ h0_size.toInt ≤ 2000) (b_tr_length : 0 ≤ tr_length.toInt ∧ tr_length.toInt ≤ 2000)   (hpl : h0_place.toInt < tr_length.toInt) : Met l y_SC_readMark w_SC_readMark ({ frames := 5, cells := 0, slots := 0, locals := 108 }) (va_Pc [.ref h0] (fun U => U.heap.size = sz ∧ va_P (dC, dI) cls [(h0, .inr (8, [.ref tr, .ref (sg sa h0_sign), .int h0_place, .int h0_size, .long h0_value, .ref ss, .ref sp, .ref szs, .ref sv, .int h0_length, .int h0_at])), (tr, .inr (1, [.ref tx, .int tr_length])), (tx, .inl (ctx, 2000, .inl gtx))] U.heap ∧ va_K (dC, dI) cls [(ctx, .byte)] U ∧ va_D (fun _ => True) [(h0, .inr (8, [.ref tr, .ref (sg sa h0_sign), .int h0_place, .int h0_size, .long h0_value, .ref ss, .ref sp, .ref szs, .ref sv, .int h0_length, .int h0_at])), (tr, .inr (1, [.ref tx, .int tr_length])), (tx, .inl (ctx, 2000, .inl gtx))] ∧ sw sa (va_A [(h0, .inr (8, [.ref tr, .ref (sg sa h0_sign), .int h0_place, .int h0_size, .long h0_value, .ref ss, .ref sp, .ref szs, .ref sv, .int h0_length, .int h0_at])), (tr, .inr (1, [.ref tx, .int tr_length])), (tx, .inl (ctx, 2000, .inl gtx))] sz) U U.heap)) (va_Qv (fun (u : Nat × Int32) => match u with | (h0_sign2, h0_size2) => (h0_sign2 < 55) ∧ (0 ≤ h0_size2.toInt ∧ h0_size2.toInt ≤ 2000) ∧ ((h0_sign2 = 1 ∧ h0_size2.toInt = 0) ∨ (5 ≤ h0_sign2 ∧ h0_size2.toInt = (sgB.getD h0_sign2 []).length ∧ h0_place.toInt + h0_size2.toInt ≤ tr_length.toInt))) (at_SC_readMark dC dI sa h0 tr ss sp szs sv tx ctx h0_place h0_value h0_length h0_at tr_length gtx (va_A [(h0, .inr (8, [.ref tr, .ref (sg sa h0_sign), .int h0_place, .int h0_size, .long h0_value, .ref ss, .ref sp, .ref szs, .ref sv, .int h0_length, .int h0_at])), (tr, .inr (1, [.ref tx, .int tr_length])), (tx, .inl (ctx, 2000, .inl gtx))] sz)) (va_A [(h0, .inr (8, [.ref tr, .ref (sg sa h0_sign), .int h0_place, .int h0_size, .long h0_value, .ref ss, .ref sp, .ref szs, .ref sv, .int h0_length, .int h0_at])), (tr, .inr (1, [.ref tx, .int tr_length])), (tx, .inl (ctx, 2000, .inl gtx))] sz)) 0 0 (va_A [(h0, .inr (8, [.ref tr, .ref (sg sa h0_sign), .int h0_place, .int h0_size, .long h0_value, .ref ss, .ref sp, .ref szs, .ref sv, .int h0_length, .int h0_at])), (tr, .inr (1, [.ref tx, .int tr_length])), (tx, .inl (ctx, 2000, .inl gtx))] sz) := by
  refine Met.ofW (cc := b_SC_readMark) (maxL := 2) (ret := none) (by decide) rfl ?_
  intro p e s m args below meth c s₁ B hml hv
  obtain ⟨rfl, hsz, hP, hK, hD0, hSW⟩ := hv
  have hx := B.exec
  have hb := B.bytes
  have hr := B.returns
  have hts0 := atoms_spec (ws := w_SC_readMark) B.pre
  have hts : ∀ w ∈ lw_g, w.before _ s = true := fun w h => hts0 w (List.mem_cons_of_mem _ h)
  have hown : s.vm.findClass R_SC = some m.cls := findClass_of_methodNamed B.named
  have hlocks := B.notSynchronized
  clear hts0
  subst hsz
  have hD := hD0.self (sz := s.heap.size)
  generalize hAe : va_A [(h0, .inr (8, [.ref tr, .ref (sg sa h0_sign), .int h0_place, .int h0_size, .long h0_value, .ref ss, .ref sp, .ref szs, .ref sv, .int h0_length, .int h0_at])), (tr, .inr (1, [.ref tx, .int tr_length])), (tx, .inl (ctx, 2000, .inl gtx))] s.heap.size = A at hD hSW ⊢
  have hA : ∀ q : Nat, s.heap.size ≤ q → A q := fun q h => by rw [← hAe]; exact Or.inr h
  clear hAe
  have hP : va_P (dC, dI) cls [(h0, .inr (8, [.ref tr, .ref (sg sa h0_sign), .int h0_place, .int h0_size, .long h0_value, .ref ss, .ref sp, .ref szs, .ref sv, .int h0_length, .int h0_at])), (tr, .inr (1, [.ref tx, .int tr_length])), (tx, .inl (ctx, 2000, .inl gtx))] s.heap := hP
  have hl := lv_entry ([.ref h0]) (n := 2) (Nat.le_of_ble_eq_true rfl)
  rw [lg_entry_eq]
  generalize (lg_sl ([.ref h0]) ++ List.replicate (2 - (lg_sl ([.ref h0])).length) Slot.unset).toArray = ls at hl ⊢
  have hl : lv_has ls 2 [(0, .ref h0)] := hl
  have k0 : (0 : Int32).toInt = 0 := by decide
  refine w_gen (A := A) hP (fun H locs hP hS => ?_)
  have k1 : (1 : Int32).toInt = 1 := by decide
  refine lv_aload_n hx hb d_SC_readMark_0 rfl (lv_at hl 0 rfl) ?_
  refine va_gets (C := "WaferForge$Sign") (n := "WRONG") (d := "LWaferForge$Sign;") (v := .ref (sg sa 1)) hx hb ((hSW.2.2.2.1.1 1 (by decide)).1) hS hown (hts _ kF_SC_52) (fun _ h9 => h9) d_SC_readMark_1 ?_
  refine va_put (D := (dC, dI)) (ci := 8) (v := .ref (sg sa 1)) (ty := .object "WaferForge$Sign") (C := R_SC) (T := F_SC) (N := 11) hx hb hts i_SC t_SC t_SC_ok n_SC hown hK hP hD hS 0 rfl rfl 1 (by decide) (hts _ kF_SC_15) (fun _ h9 => h9) rfl (by decide +kernel) rfl rfl (Nat.le_of_ble_eq_true rfl) d_SC_readMark_4 (fun H locs hP hD hS => ?_)
  refine lv_aload_n hx hb d_SC_readMark_7 rfl (lv_at hl 0 rfl) ?_
  refine lv_iconst (v := 0) hx hb d_SC_readMark_8 (by decide) ?_
  refine va_put (D := (dC, dI)) (ci := 8) (v := .int 0) (ty := .int) (C := R_SC) (T := F_SC) (N := 11) hx hb hts i_SC t_SC t_SC_ok n_SC hown hK hP hD hS 0 rfl rfl 3 (by decide) (hts _ kF_SC_43) (fun _ h9 => h9) rfl (by decide +kernel) rfl rfl (Nat.le_of_ble_eq_true rfl) d_SC_readMark_9 (fun H locs hP hD hS => ?_)
  refine lv_iconst (v := 0) hx hb d_SC_readMark_12 (by decide) ?_
  refine lv_istore_n (lv' := [(1, .int 0), (0, .ref h0)]) hx hb d_SC_readMark_13 rfl hl (by decide) rfl (fun ls hl => ?_)
  refine w_loop (σ := Int32 × Nat × Int32) (fun u H locs ls => match u with | (j14_l1, j14_h0_sign, j14_h0_size) => (0 ≤ j14_l1.toInt ∧ j14_l1.toInt ≤ 55) ∧ (j14_h0_sign < 55) ∧ (0 ≤ j14_h0_size.toInt ∧ j14_h0_size.toInt ≤ 2000) ∧ ((j14_h0_sign = 1 ∧ j14_h0_size.toInt = 0) ∨ (5 ≤ j14_h0_sign ∧ j14_h0_size.toInt = (sgB.getD j14_h0_sign []).length ∧ h0_place.toInt + j14_h0_size.toInt ≤ tr_length.toInt)) ∧ va_P (dC, dI) cls [(h0, .inr (8, [.ref tr, .ref (sg sa j14_h0_sign), .int h0_place, .int j14_h0_size, .long h0_value, .ref ss, .ref sp, .ref szs, .ref sv, .int h0_length, .int h0_at])), (tr, .inr (1, [.ref tx, .int tr_length])), (tx, .inl (ctx, 2000, .inl gtx))] H ∧ va_D A [(h0, .inr (8, [.ref tr, .ref (sg sa j14_h0_sign), .int h0_place, .int j14_h0_size, .long h0_value, .ref ss, .ref sp, .ref szs, .ref sv, .int h0_length, .int h0_at])), (tr, .inr (1, [.ref tx, .int tr_length])), (tx, .inl (ctx, 2000, .inl gtx))] ∧ va_S A s.heap H locs ∧ lv_has ls 2 [(0, .ref h0), (1, .int j14_l1)]) (fun u => match u with | (j14_l1, j14_h0_sign, j14_h0_size) => (55 - j14_l1.toInt).toNat) ?_ (0, 1, 0) ⟨by (try dsimp only) <;> omega, (by decide : 1 < 55), by (try dsimp only) <;> omega, by (try dsimp only) <;> omega, hP, hD, hS, lv_sub hl [1, 0] rfl⟩
  intro N14 ih14 u H locs ls hN14 hI
  obtain ⟨j14_l1, j14_h0_sign, j14_h0_size⟩ := u
  obtain ⟨b_j14_l1, b_j14_h0_sign, b_j14_h0_size, u1, hP, hD, hS, hl⟩ := hI
  have hN14 : (55 - j14_l1.toInt).toNat < N14 + 1 := hN14
  refine lv_iload_n hx hb d_SC_readMark_14 rfl (lv_at hl 1 rfl) ?_
  refine va_getsN (C := "WaferForge") (n := "SIGNS") (d := "[LWaferForge$Sign;") (v := .ref ((sa 1))) hx hb (hSW.2.1.1) hS hown (sw_nf (k := 0) hSW rfl) (fun _ h9 => h9) d_SC_readMark_15 ?_
  refine va_tlen (v := 55) hx hb (hSW.2.1.2) hS rfl d_SC_readMark_18 ?_
  have k918 : (55 : Int32).toInt = 55 := by decide
  refine lv_icmp_ge (tgt := 91) hx hb d_SC_readMark_19 (by decide) (fun c19 => ?_) (fun c19 => ?_)
  · have q19 := leI c19
    have hP9 := hP.sub (ws' := [(h0, .inr (8, [.ref tr, .ref (sg sa j14_h0_sign), .int h0_place, .int j14_h0_size, .long h0_value, .ref ss, .ref sp, .ref szs, .ref sv, .int h0_length, .int h0_at])), (tr, .inr (1, [.ref tx, .int tr_length])), (tx, .inl (ctx, 2000, .inl gtx))]) [0, 1, 2] rfl
    have hD9 := hD.sub (ws' := [(h0, .inr (8, [.ref tr, .ref (sg sa j14_h0_sign), .int h0_place, .int j14_h0_size, .long h0_value, .ref ss, .ref sp, .ref szs, .ref sv, .int h0_length, .int h0_at])), (tr, .inr (1, [.ref tx, .int tr_length])), (tx, .inl (ctx, 2000, .inl gtx))]) [0, 1, 2] (by decide) rfl
    exact W.vret hx hb hr (fun t ht hW => ⟨⟨(j14_h0_sign, j14_h0_size), rfl, ⟨b_j14_h0_sign, b_j14_h0_size, u1⟩, by rw [ht]; exact hP9, va_K.moved hW.alike hK, hD9⟩, hS.F ht⟩) hS.2.2 d_SC_readMark_91
  · have q19 := nleI c19
    refine va_getsN (C := "WaferForge") (n := "SIGNS") (d := "[LWaferForge$Sign;") (v := .ref ((sa 1))) hx hb (hSW.2.1.1) hS hown (sw_nf (k := 0) hSW rfl) (fun _ h9 => h9) d_SC_readMark_22 ?_
    refine lv_iload_n hx hb d_SC_readMark_25 rfl (lv_at hl 1 rfl) ?_
    have g26 : vp_in j14_l1 55 := vp_in_iff.mpr ⟨by omega, by omega⟩
    obtain ⟨k2, ek2⟩ : ∃ z : Nat, z = j14_l1.toNatClampNeg := ⟨_, rfl⟩
    have hk2 : k2 < 55 := by have z := i32_clamp (x := j14_l1) (by omega); omega
    refine vb_tq (v := .ref (sg sa k2)) hx hb (hSW.2.1.2) hS g26 (by rw [ek2]) d_SC_readMark_26 ?_
    refine va_getX (i := k2) hx hb hSW.2.2.2.2.1 hk2 hS hown (hts _ kF_SC_105) (fun _ h9 => h9) d_SC_readMark_27 ?_
    have hPc := hP.sub (ws' := []) [] rfl
    have hDc := hD.sub (ws' := []) [] (by decide) rfl
    have hKc := hK.sub (tys' := []) [] rfl
    have hFc := va_free (wc := []) hD hS hA [] rfl
    refine va_calli (va_runV (As := []) (rest := []) ⟨hx, hb, hml, hown, hts⟩ (c_JS_length l dC dI H.size sa ((sa (200 + k2))) ((sa (300 + k2))) ((sgB.getD k2 [])) (by have z := (sgB_len k2 hk2).1; omega)) (cwV 0 hts (gV kM_SC_108 kV_JS_length kS_JS_length kI_JS kC_JS_length) rfl rfl rfl (by decide +kernel) ⟨Nat.le_of_ble_eq_true rfl, Nat.le_of_ble_eq_true rfl⟩) ⟨fun a U g mk z => by obtain ⟨z0, z1, zP, zK, zD, zS, zR0⟩ := z; exact ⟨z0, z1, zP, va_K.moved (u := U) (U := U.calling g mk a) (Vm.Alike.refl U.vm) zK, zD, sw.same (u := U) (U := U.calling g mk a) rfl zS, zR0.moved (u := U) (U := U.calling g mk a) (Vm.Alike.refl U.vm)⟩, so_recv ((hSW.2.2.2.2.2.1 k2 hk2).1) hS, fun U hU hW => ⟨rfl, by rw [hU], by rw [hU]; exact hPc, va_K.moved hW.alike hKc, hDc.weaken (fun _ _ _ _ => trivial), hSW.call hS hFc hW hU, ((hSW.2.2.2.2.2.1 k2 hk2)).call hS hFc hW hU⟩⟩ rfl rfl hl.1 rfl (lv_room (Nat.le_of_ble_eq_true rfl)) d_SC_readMark_30 ⟨(Nat.zero_le _), (Nat.zero_le _)⟩) hS (fun q _ h => hFc q h) hFc (fun r3 u t H1 locs ht hvm hw hB hz1 hk1 hS => ?_)
    try dsimp only at hw
    have xr3 := hw
    try clear hw
    obtain ⟨hP1, hK1, hD1⟩ := hB
    rw [ht] at hP1
    obtain ⟨hP, hD⟩ := va_join (wr := [(h0, .inr (8, [.ref tr, .ref (sg sa j14_h0_sign), .int h0_place, .int j14_h0_size, .long h0_value, .ref ss, .ref sp, .ref szs, .ref sv, .int h0_length, .int h0_at])), (tr, .inr (1, [.ref tx, .int tr_length])), (tx, .inl (ctx, 2000, .inl gtx))]) (w1 := []) hP hD [] [0, 1, 2] rfl rfl (by decide) (by decide) hk1 hFc hP1 hD1
    clear hPc hDc hKc hFc hz1 hk1 hP1 hK1 hD1
    generalize H1 = H at hP hS ⊢
    have hP : va_P (dC, dI) cls [(h0, .inr (8, [.ref tr, .ref (sg sa j14_h0_sign), .int h0_place, .int j14_h0_size, .long h0_value, .ref ss, .ref sp, .ref szs, .ref sv, .int h0_length, .int h0_at])), (tr, .inr (1, [.ref tx, .int tr_length])), (tx, .inl (ctx, 2000, .inl gtx))] H := hP
    have hD : va_D A [(h0, .inr (8, [.ref tr, .ref (sg sa j14_h0_sign), .int h0_place, .int j14_h0_size, .long h0_value, .ref ss, .ref sp, .ref szs, .ref sv, .int h0_length, .int h0_at])), (tr, .inr (1, [.ref tx, .int tr_length])), (tx, .inl (ctx, 2000, .inl gtx))] := hD
    refine lv_aload_n hx hb d_SC_readMark_33 rfl (lv_at hl 0 rfl) ?_
    refine va_get (D := (dC, dI)) (ci := 8) (v := .int j14_h0_size) (C := R_SC) (T := F_SC) (N := 11) hx hb hts i_SC hown hK hP 0 rfl rfl 3 (by decide) (hts _ kF_SC_43) (fun _ h9 => h9) rfl d_SC_readMark_34 ?_
    refine w_cut (pc2 := 85) (σ := Nat × Int32) (fun u H locs ls => match u with | (j85_h0_sign, j85_h0_size) => (j85_h0_sign < 55) ∧ (0 ≤ j85_h0_size.toInt ∧ j85_h0_size.toInt ≤ 2000) ∧ ((j85_h0_sign = 1 ∧ j85_h0_size.toInt = 0) ∨ (5 ≤ j85_h0_sign ∧ j85_h0_size.toInt = (sgB.getD j85_h0_sign []).length ∧ h0_place.toInt + j85_h0_size.toInt ≤ tr_length.toInt)) ∧ va_P (dC, dI) cls [(h0, .inr (8, [.ref tr, .ref (sg sa j85_h0_sign), .int h0_place, .int j85_h0_size, .long h0_value, .ref ss, .ref sp, .ref szs, .ref sv, .int h0_length, .int h0_at])), (tr, .inr (1, [.ref tx, .int tr_length])), (tx, .inl (ctx, 2000, .inl gtx))] H ∧ va_D A [(h0, .inr (8, [.ref tr, .ref (sg sa j85_h0_sign), .int h0_place, .int j85_h0_size, .long h0_value, .ref ss, .ref sp, .ref szs, .ref sv, .int h0_length, .int h0_at])), (tr, .inr (1, [.ref tx, .int tr_length])), (tx, .inl (ctx, 2000, .inl gtx))] ∧ va_S A s.heap H locs ∧ lv_has ls 2 [(0, .ref h0), (1, .int j14_l1)]) (fun u => match u with | (j85_h0_sign, j85_h0_size) => []) ?_ (fun jn85 => ?_)
    · intro u H locs ls hI
      obtain ⟨j85_h0_sign, j85_h0_size⟩ := u
      obtain ⟨b_j85_h0_sign, b_j85_h0_size, u2, hP, hD, hS, hl⟩ := hI
      obtain ⟨x4, ex4⟩ : ∃ z : Int32, z = j14_l1 + 1 := ⟨_, rfl⟩
      have tx4 : x4.toInt = j14_l1.toInt + 1 := by have z := i32_add ex4 (by omega) (by omega); omega
      refine lv_iinc (v := x4) (lv' := [(1, .int x4), (0, .ref h0)]) hx hb d_SC_readMark_85 hl (k := 1) rfl (by rw [ex4]; rfl) (by decide) rfl (fun ls hl => ?_)
      refine lv_goto (tgt := 14) hx hb d_SC_readMark_88 (by decide) ?_
      exact ih14 (x4, j85_h0_sign, j85_h0_size) _ _ _ (by show (55 - x4.toInt).toNat < N14; omega) ⟨by (try dsimp only) <;> omega, b_j85_h0_sign, b_j85_h0_size, u2, hP, hD, hS, lv_sub hl [1, 0] rfl⟩
    · skip
      refine lv_icmp_le (tgt := 85) hx hb d_SC_readMark_37 (by decide) (fun c37 => ?_) (fun c37 => ?_)
      · have q37 := leI c37
        exact jn85 (j14_h0_sign, j14_h0_size) _ _ _ ⟨b_j14_h0_sign, b_j14_h0_size, u1, hP, hD, hS, lv_sub hl [0, 1] rfl⟩
      · have q37 := nleI c37
        refine lv_aload_n hx hb d_SC_readMark_40 rfl (lv_at hl 0 rfl) ?_
        refine va_get (D := (dC, dI)) (ci := 8) (v := .ref tr) (C := R_SC) (T := F_SC) (N := 11) hx hb hts i_SC hown hK hP 0 rfl rfl 0 (by decide) (hts _ kF_SC_35) (fun _ h9 => h9) rfl d_SC_readMark_41 ?_
        refine lv_aload_n hx hb d_SC_readMark_44 rfl (lv_at hl 0 rfl) ?_
        refine va_get (D := (dC, dI)) (ci := 8) (v := .int h0_place) (C := R_SC) (T := F_SC) (N := 11) hx hb hts i_SC hown hK hP 0 rfl rfl 2 (by decide) (hts _ kF_SC_39) (fun _ h9 => h9) rfl d_SC_readMark_45 ?_
        refine va_getsN (C := "WaferForge") (n := "SIGNS") (d := "[LWaferForge$Sign;") (v := .ref ((sa 1))) hx hb (hSW.2.1.1) hS hown (sw_nf (k := 0) hSW rfl) (fun _ h9 => h9) d_SC_readMark_48 ?_
        refine lv_iload_n hx hb d_SC_readMark_51 rfl (lv_at hl 1 rfl) ?_
        have g52 : vp_in j14_l1 55 := vp_in_iff.mpr ⟨by omega, by omega⟩
        obtain ⟨k6, ek6⟩ : ∃ z : Nat, z = j14_l1.toNatClampNeg := ⟨_, rfl⟩
        have hk6 : k6 < 55 := by have z := i32_clamp (x := j14_l1) (by omega); omega
        refine vb_tq (v := .ref (sg sa k6)) hx hb (hSW.2.1.2) hS g52 (by rw [ek6]) d_SC_readMark_52 ?_
        refine va_getX (i := k6) hx hb hSW.2.2.2.2.1 hk6 hS hown (hts _ kF_SC_105) (fun _ h9 => h9) d_SC_readMark_53 ?_
        have hPc := hP.sub (ws' := [(tr, .inr (1, [.ref tx, .int tr_length])), (tx, .inl (ctx, 2000, .inl gtx))]) [1, 2] rfl
        have hDc := hD.sub (ws' := [(tr, .inr (1, [.ref tx, .int tr_length])), (tx, .inl (ctx, 2000, .inl gtx))]) [1, 2] (by decide) rfl
        have hKc := hK.sub (tys' := [(ctx, .byte)]) [0] rfl
        have hFc := va_free (wc := [(tr, .inr (1, [.ref tx, .int tr_length])), (tx, .inl (ctx, 2000, .inl gtx))]) hD hS hA [1, 2] rfl
        refine va_calli (va_runV (As := [.int h0_place, .ref (sa (200 + k6))]) (rest := []) ⟨hx, hb, hml, hown, hts⟩ (c_BR_holds l dC dI H.size sa ((sa (200 + k6))) ((sa (300 + k6))) ((sgB.getD k6 [])) tr tx ctx tr_length 2000 gtx h0_place (by omega) (by have z := (sgB_len k6 hk6).1; omega) (by omega)) (cwV 2 hts (gV kM_SC_113 kV_BR_holds kS_BR_holds kI_BR kC_BR_holds) rfl rfl rfl (by decide +kernel) ⟨Nat.le_of_ble_eq_true rfl, Nat.le_of_ble_eq_true rfl⟩) ⟨fun a U g mk z => by obtain ⟨z0, z1, zP, zK, zD, zS, zR0⟩ := z; exact ⟨z0, z1, zP, va_K.moved (u := U) (U := U.calling g mk a) (Vm.Alike.refl U.vm) zK, zD, sw.same (u := U) (U := U.calling g mk a) rfl zS, zR0.moved (u := U) (U := U.calling g mk a) (Vm.Alike.refl U.vm)⟩, va_recv hKc hPc (ci := 1) (q0 := 0) rfl rfl, fun U hU hW => ⟨rfl, by rw [hU], by rw [hU]; exact hPc, va_K.moved hW.alike hKc, hDc.weaken (fun _ _ _ _ => trivial), hSW.call hS hFc hW hU, ((hSW.2.2.2.2.2.1 k6 hk6)).call hS hFc hW hU⟩⟩ rfl rfl hl.1 rfl (lv_room (Nat.le_of_ble_eq_true rfl)) d_SC_readMark_56 ⟨(Nat.zero_le _), (Nat.zero_le _)⟩) hS (fun q _ h => hFc q h) hFc (fun r7 u t H1 locs ht hvm hw hB hz1 hk1 hS => ?_)
        try dsimp only at hw
        obtain ⟨br7, xr7⟩ := hw
        try clear hw
        have tr7 := b01 br7
        obtain ⟨hP1, hK1, hD1⟩ := hB
        rw [ht] at hP1
        obtain ⟨hP, hD⟩ := va_join (wr := [(h0, .inr (8, [.ref tr, .ref (sg sa j14_h0_sign), .int h0_place, .int j14_h0_size, .long h0_value, .ref ss, .ref sp, .ref szs, .ref sv, .int h0_length, .int h0_at]))]) (w1 := [(tr, .inr (1, [.ref tx, .int tr_length])), (tx, .inl (ctx, 2000, .inl gtx))]) hP hD [1, 2] [0] rfl rfl (by decide) (by decide) hk1 hFc hP1 hD1
        clear hPc hDc hKc hFc hz1 hk1 hP1 hK1 hD1
        generalize H1 = H at hP hS ⊢
        have hP : va_P (dC, dI) cls [(h0, .inr (8, [.ref tr, .ref (sg sa j14_h0_sign), .int h0_place, .int j14_h0_size, .long h0_value, .ref ss, .ref sp, .ref szs, .ref sv, .int h0_length, .int h0_at])), (tr, .inr (1, [.ref tx, .int tr_length])), (tx, .inl (ctx, 2000, .inl gtx))] H := hP
        have hD : va_D A [(h0, .inr (8, [.ref tr, .ref (sg sa j14_h0_sign), .int h0_place, .int j14_h0_size, .long h0_value, .ref ss, .ref sp, .ref szs, .ref sv, .int h0_length, .int h0_at])), (tr, .inr (1, [.ref tx, .int tr_length])), (tx, .inl (ctx, 2000, .inl gtx))] := hD
        refine lv_if_eq (tgt := 85) hx hb d_SC_readMark_59 (by decide) (fun c59 => ?_) (fun c59 => ?_)
        · have q59 := eqI c59
          exact jn85 (j14_h0_sign, j14_h0_size) _ _ _ ⟨b_j14_h0_sign, b_j14_h0_size, u1, hP, hD, hS, lv_sub hl [0, 1] rfl⟩
        · have q59 := neI c59
          have y56 := xr7 (by have z := br7; rcases z with z | z; (exfalso; rw [z] at q59; exact q59 rfl); exact z)
          refine lv_aload_n hx hb d_SC_readMark_62 rfl (lv_at hl 0 rfl) ?_
          refine va_getsN (C := "WaferForge") (n := "SIGNS") (d := "[LWaferForge$Sign;") (v := .ref ((sa 1))) hx hb (hSW.2.1.1) hS hown (sw_nf (k := 0) hSW rfl) (fun _ h9 => h9) d_SC_readMark_63 ?_
          refine lv_iload_n hx hb d_SC_readMark_66 rfl (lv_at hl 1 rfl) ?_
          have g67 : vp_in j14_l1 55 := vp_in_iff.mpr ⟨by omega, by omega⟩
          obtain ⟨k9, ek9⟩ : ∃ z : Nat, z = j14_l1.toNatClampNeg := ⟨_, rfl⟩
          have hk9 : k9 < 55 := by have z := i32_clamp (x := j14_l1) (by omega); omega
          refine vb_tq (v := .ref (sg sa k9)) hx hb (hSW.2.1.2) hS g67 (by rw [ek9]) d_SC_readMark_67 ?_
          refine va_put (D := (dC, dI)) (ci := 8) (v := .ref (sg sa k9)) (ty := .object "WaferForge$Sign") (C := R_SC) (T := F_SC) (N := 11) hx hb hts i_SC t_SC t_SC_ok n_SC hown hK hP hD hS 0 rfl rfl 1 (by decide) (hts _ kF_SC_15) (fun _ h9 => h9) rfl (by decide +kernel) rfl rfl (Nat.le_of_ble_eq_true rfl) d_SC_readMark_68 (fun H locs hP hD hS => ?_)
          refine lv_aload_n hx hb d_SC_readMark_71 rfl (lv_at hl 0 rfl) ?_
          refine lv_aload_n hx hb d_SC_readMark_72 rfl (lv_at hl 0 rfl) ?_
          refine va_get (D := (dC, dI)) (ci := 8) (v := .ref (sg sa k9)) (C := R_SC) (T := F_SC) (N := 11) hx hb hts i_SC hown hK hP 0 rfl rfl 1 (by decide) (hts _ kF_SC_15) (fun _ h9 => h9) rfl d_SC_readMark_73 ?_
          refine va_getX (i := k9) hx hb hSW.2.2.2.2.1 hk9 hS hown (hts _ kF_SC_105) (fun _ h9 => h9) d_SC_readMark_76 ?_
          have hPc := hP.sub (ws' := []) [] rfl
          have hDc := hD.sub (ws' := []) [] (by decide) rfl
          have hKc := hK.sub (tys' := []) [] rfl
          have hFc := va_free (wc := []) hD hS hA [] rfl
          refine va_calli (va_runV (As := []) (rest := [.ref h0]) ⟨hx, hb, hml, hown, hts⟩ (c_JS_length l dC dI H.size sa ((sa (200 + k9))) ((sa (300 + k9))) ((sgB.getD k9 [])) (by have z := (sgB_len k9 hk9).1; omega)) (cwV 0 hts (gV kM_SC_108 kV_JS_length kS_JS_length kI_JS kC_JS_length) rfl rfl rfl (by decide +kernel) ⟨Nat.le_of_ble_eq_true rfl, Nat.le_of_ble_eq_true rfl⟩) ⟨fun a U g mk z => by obtain ⟨z0, z1, zP, zK, zD, zS, zR0⟩ := z; exact ⟨z0, z1, zP, va_K.moved (u := U) (U := U.calling g mk a) (Vm.Alike.refl U.vm) zK, zD, sw.same (u := U) (U := U.calling g mk a) rfl zS, zR0.moved (u := U) (U := U.calling g mk a) (Vm.Alike.refl U.vm)⟩, so_recv ((hSW.2.2.2.2.2.1 k9 hk9).1) hS, fun U hU hW => ⟨rfl, by rw [hU], by rw [hU]; exact hPc, va_K.moved hW.alike hKc, hDc.weaken (fun _ _ _ _ => trivial), hSW.call hS hFc hW hU, ((hSW.2.2.2.2.2.1 k9 hk9)).call hS hFc hW hU⟩⟩ rfl rfl hl.1 rfl (lv_room (Nat.le_of_ble_eq_true rfl)) d_SC_readMark_79 ⟨(Nat.zero_le _), (Nat.zero_le _)⟩) hS (fun q _ h => hFc q h) hFc (fun r10 u t H1 locs ht hvm hw hB hz1 hk1 hS => ?_)
          try dsimp only at hw
          have xr10 := hw
          try clear hw
          obtain ⟨hP1, hK1, hD1⟩ := hB
          rw [ht] at hP1
          obtain ⟨hP, hD⟩ := va_join (wr := [(h0, .inr (8, [.ref tr, .ref (sg sa k9), .int h0_place, .int j14_h0_size, .long h0_value, .ref ss, .ref sp, .ref szs, .ref sv, .int h0_length, .int h0_at])), (tr, .inr (1, [.ref tx, .int tr_length])), (tx, .inl (ctx, 2000, .inl gtx))]) (w1 := []) hP hD [] [0, 1, 2] rfl rfl (by decide) (by decide) hk1 hFc hP1 hD1
          clear hPc hDc hKc hFc hz1 hk1 hP1 hK1 hD1
          generalize H1 = H at hP hS ⊢
          have hP : va_P (dC, dI) cls [(h0, .inr (8, [.ref tr, .ref (sg sa k9), .int h0_place, .int j14_h0_size, .long h0_value, .ref ss, .ref sp, .ref szs, .ref sv, .int h0_length, .int h0_at])), (tr, .inr (1, [.ref tx, .int tr_length])), (tx, .inl (ctx, 2000, .inl gtx))] H := hP
          have hD : va_D A [(h0, .inr (8, [.ref tr, .ref (sg sa k9), .int h0_place, .int j14_h0_size, .long h0_value, .ref ss, .ref sp, .ref szs, .ref sv, .int h0_length, .int h0_at])), (tr, .inr (1, [.ref tx, .int tr_length])), (tx, .inl (ctx, 2000, .inl gtx))] := hD
          refine va_put (D := (dC, dI)) (ci := 8) (v := .int r10) (ty := .int) (C := R_SC) (T := F_SC) (N := 11) hx hb hts i_SC t_SC t_SC_ok n_SC hown hK hP hD hS 0 rfl rfl 3 (by decide) (hts _ kF_SC_43) (fun _ h9 => h9) rfl (by decide +kernel) rfl rfl (Nat.le_of_ble_eq_true rfl) d_SC_readMark_82 (fun H locs hP hD hS => ?_)
          have q5 : k9 = k2 := by rw [ek9, ek2]
          have q7 : k6 = k2 := by rw [ek6, ek2]
          have q6 := sgB_len k2 hk2
          rw [q7] at y56
          rw [q5] at xr10
          have u9 : (k9 = 1 ∧ r10.toInt = 0) ∨ (5 ≤ k9 ∧ r10.toInt = (sgB.getD k9 []).length ∧ h0_place.toInt + r10.toInt ≤ tr_length.toInt) := Or.inr (by rw [q5]; exact ⟨by omega, by omega, by omega⟩)
          exact jn85 (k9, r10) _ _ _ ⟨hk9, by (try dsimp only) <;> omega, u9, hP, hD, hS, lv_sub hl [0, 1] rfl⟩

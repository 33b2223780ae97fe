/-! Reader: its small reads, of whatever bytes -/
abbrev re_at (dC : Nat → ClassId) (dI : Nat → Nat → Nat) (h0 aw ac ao ab ax : Nat) (cB : ClassId) (n : Nat) (lim cc oc len : Int32) (f : Nat → Int32) (wf : List Value) (A : Nat → Prop) (u : Int32 × Int32) (t : State) : Prop := match u with
  | (pa, snd) => va_P (dC, dI) cls (wz_1 h0 aw ac pa lim snd cc ao oc aw wf ab ax len ax cB n f) t.heap ∧ va_K (dC, dI) cls [(cB, .byte)] t ∧ va_D A (wz_1 h0 aw ac pa lim snd cc ao oc aw wf ab ax len ax cB n f)
theorem b01 {x : Int32} (h : x = 0 ∨ x = 1) : x.toInt = 0 ∨ x.toInt = 1 := by rcases h with rfl | rfl <;> decide
abbrev b_RE_next : ByteArray := prog_9_method_21_code
def y_RE_next : MethodName := ⟨R_RE, "next", "()I"⟩
abbrev w_RE_next : List Cond := .code y_RE_next b_RE_next 1 (Option.some .int) :: lw_g
theorem kC_RE_next : Cond.code y_RE_next b_RE_next 1 (Option.some .int) ∈ lw_g := in_c6 84 rfl rfl
theorem d_RE_next_0 : decode b_RE_next 0 = .ok (.aload_n 0, 1) := bz_c42 (by decide +kernel)
theorem d_RE_next_1 : decode b_RE_next 1 = .ok (.getfield 45, 3) := bz_c180 (by decide +kernel)
theorem d_RE_next_4 : decode b_RE_next 4 = .ok (.ifCond .eq 14, 3) := bz_c153 (by decide +kernel)
theorem d_RE_next_7 : decode b_RE_next 7 = .ok (.aload_n 0, 1) := bz_c42 (by decide +kernel)
theorem d_RE_next_8 : decode b_RE_next 8 = .ok (.getfield 29, 3) := bz_c180 (by decide +kernel)
theorem d_RE_next_11 : decode b_RE_next 11 = .ok (.aload_n 0, 1) := bz_c42 (by decide +kernel)
theorem d_RE_next_12 : decode b_RE_next 12 = .ok (.getfield 42, 3) := bz_c180 (by decide +kernel)
theorem d_RE_next_15 : decode b_RE_next 15 = .ok (.if_icmp .lt 10, 3) := bz_c161 (by decide +kernel)
theorem d_RE_next_18 : decode b_RE_next 18 = .ok (.aload_n 0, 1) := bz_c42 (by decide +kernel)
theorem d_RE_next_19 : decode b_RE_next 19 = .ok (.iconst 0, 1) := bz_c3 (by decide +kernel)
theorem d_RE_next_20 : decode b_RE_next 20 = .ok (.putfield 45, 3) := bz_c181 (by decide +kernel)
theorem d_RE_next_23 : decode b_RE_next 23 = .ok (.iconst 0, 1) := bz_c3 (by decide +kernel)
theorem d_RE_next_24 : decode b_RE_next 24 = .ok (.ireturn, 1) := bz_c172 (by decide +kernel)
theorem d_RE_next_25 : decode b_RE_next 25 = .ok (.aload_n 0, 1) := bz_c42 (by decide +kernel)
theorem d_RE_next_26 : decode b_RE_next 26 = .ok (.getfield 15, 3) := bz_c180 (by decide +kernel)
theorem d_RE_next_29 : decode b_RE_next 29 = .ok (.getfield 33, 3) := bz_c180 (by decide +kernel)
theorem d_RE_next_32 : decode b_RE_next 32 = .ok (.getfield 237, 3) := bz_c180 (by decide +kernel)
theorem d_RE_next_35 : decode b_RE_next 35 = .ok (.aload_n 0, 1) := bz_c42 (by decide +kernel)
theorem d_RE_next_36 : decode b_RE_next 36 = .ok (.dup, 1) := bz_c89 (by decide +kernel)
theorem d_RE_next_37 : decode b_RE_next 37 = .ok (.getfield 29, 3) := bz_c180 (by decide +kernel)
theorem d_RE_next_40 : decode b_RE_next 40 = .ok (.dup_x1, 1) := by decide +kernel
theorem d_RE_next_41 : decode b_RE_next 41 = .ok (.iconst 1, 1) := bz_c4 (by decide +kernel)
theorem d_RE_next_42 : decode b_RE_next 42 = .ok (.iadd, 1) := bz_c96 (by decide +kernel)
theorem d_RE_next_43 : decode b_RE_next 43 = .ok (.putfield 29, 3) := bz_c181 (by decide +kernel)
theorem d_RE_next_46 : decode b_RE_next 46 = .ok (.baload, 1) := bz_c51 (by decide +kernel)
theorem d_RE_next_47 : decode b_RE_next 47 = .ok (.sipush 255, 3) := bz_c17 (by decide +kernel)
theorem d_RE_next_50 : decode b_RE_next 50 = .ok (.iand, 1) := bz_c126 (by decide +kernel)
theorem d_RE_next_51 : decode b_RE_next 51 = .ok (.ireturn, 1) := bz_c172 (by decide +kernel)
theorem kF_RE_45 : Cond.fieldLink R_RE 45 "WaferForge$Reader" "sound" "Z" ∈ lw_g := in_c2 230 rfl rfl
theorem kF_RE_29 : Cond.fieldLink R_RE 29 "WaferForge$Reader" "at" "I" ∈ lw_g := in_c2 228 rfl rfl
theorem kF_RE_42 : Cond.fieldLink R_RE 42 "WaferForge$Reader" "limit" "I" ∈ lw_g := in_c2 229 rfl rfl
theorem kF_RE_15 : Cond.fieldLink R_RE 15 "WaferForge$Reader" "wafer" "LWaferForge$Wafer;" ∈ lw_g := in_c2 226 rfl rfl
theorem kF_RE_33 : Cond.fieldLink R_RE 33 "WaferForge$Wafer" "bytes" "LWaferForge$ByteRow;" ∈ lw_g := in_c1 142 rfl rfl
theorem kF_RE_237 : Cond.fieldLink R_RE 237 "WaferForge$ByteRow" "bytes" "[B" ∈ lw_g := in_c1 56 rfl rfl
set_option maxHeartbeats 4000000 in
set_option maxRecDepth 100000 in
theorem c_RE_next (l : Launch) (dC : Nat → ClassId) (dI : Nat → Nat → Nat) (h0 aw ac ao ab ax sz : Nat) (cB : ClassId) (n : Nat) (pa lim snd cc oc len : Int32) (f : Nat → Int32) (wf : List Value) (pwf : wf[0]? = some (.ref ab)) (pwl : wf.length = 21) (hs : snd = 0 ∨ snd = 1) (ha : 0 ≤ pa.toInt ∧ pa.toInt ≤ lim.toInt ∧ lim.toInt ≤ len.toInt ∧ len.toInt ≤ n ∧ n < 2147483648)  : Met l y_RE_next w_RE_next ({ frames := 0, cells := 0, slots := 0, locals := 0 }) (va_Pc [.ref h0] (fun U => U.heap.size = sz ∧ va_P (dC, dI) cls (wz_1 h0 aw ac pa lim snd cc ao oc aw wf ab ax len ax cB n f) U.heap ∧ va_K (dC, dI) cls [(cB, .byte)] U ∧ va_D (fun _ => True) (wz_1 h0 aw ac pa lim snd cc ao oc aw wf ab ax len ax cB n f))) (va_Qi (fun (r : Int32) (u : Int32 × Int32) => (u.2 = 0 ∨ u.2 = 1) ∧ 0 ≤ r.toInt ∧ r.toInt ≤ 255 ∧ pa.toInt ≤ u.1.toInt ∧ u.1.toInt ≤ lim.toInt ∧ u.1.toInt ≤ pa.toInt + 1 ∧ (u.2.toInt = 1 → snd.toInt = 1 ∧ u.1.toInt = pa.toInt + 1 ∧ r.toInt = (bn (f pa.toNatClampNeg) : Nat)) ∧ (snd.toInt = 1 → pa.toInt < lim.toInt → u.2.toInt = 1)) (re_at dC dI h0 aw ac ao ab ax cB n lim cc oc len f wf (va_A (wz_1 h0 aw ac pa lim snd cc ao oc aw wf ab ax len ax cB n f) sz)) (va_A (wz_1 h0 aw ac pa lim snd cc ao oc aw wf ab ax len ax cB n f) sz)) 0 0 (va_A (wz_1 h0 aw ac pa lim snd cc ao oc aw wf ab ax len ax cB n f) sz) := by
  refine Met.ofW (cc := b_RE_next) (maxL := 1) (ret := (Option.some .int)) (by decide) rfl ?_
  intro p e s m args below meth c s₁ B hml hv
  obtain ⟨rfl, hsz, hP, hK, hD0⟩ := hv
  have hx := B.exec
  have hb := B.bytes
  have hr := B.returns
  have hts0 := atoms_spec (ws := w_RE_next) B.pre
  have hts : ∀ w ∈ lw_g, w.before _ s = true := fun w h => hts0 w (List.mem_cons_of_mem _ h)
  have hown : s.vm.findClass R_RE = some m.cls := findClass_of_methodNamed B.named
  have hlocks := B.notSynchronized
  clear hts0
  subst hsz
  have hD := hD0.self (sz := s.heap.size)
  generalize hAe : va_A (wz_1 h0 aw ac pa lim snd cc ao oc aw wf ab ax len ax cB n f) s.heap.size = A at hD ⊢
  have hA : ∀ q : Nat, s.heap.size ≤ q → A q := fun q h => by rw [← hAe]; exact Or.inr h
  clear hAe
  have hP : va_P (dC, dI) cls (wz_1 h0 aw ac pa lim snd cc ao oc aw wf ab ax len ax cB n f) s.heap := hP
  have hl := lv_entry ([.ref h0]) (n := 1) (Nat.le_of_ble_eq_true rfl)
  rw [lg_entry_eq]
  generalize (lg_sl ([.ref h0]) ++ List.replicate (1 - (lg_sl ([.ref h0])).length) Slot.unset).toArray = ls at hl ⊢
  have hl : lv_has ls 1 [(0, .ref h0)] := hl
  have k0 : (0 : Int32).toInt = 0 := by decide
  refine w_gen (A := A) hP (fun H locs hP hS => ?_)
  have hs0 := b01 hs
  refine lv_aload_n hx hb d_RE_next_0 rfl (lv_at hl 0 rfl) ?_
  refine va_get (D := (dC, dI)) (ci := 7) (v := .int snd) (C := R_RE) (T := F_RE) (N := 8) hx hb hts i_RE hown hK hP 0 rfl rfl 4 (by decide) (hts _ kF_RE_45) (fun _ h9 => h9) rfl d_RE_next_1 ?_
  refine lv_if_eq (tgt := 18) hx hb d_RE_next_4 (by decide) (fun c4 => ?_) (fun c4 => ?_)
  · have q4 := eqI c4
    refine lv_aload_n hx hb d_RE_next_18 rfl (lv_at hl 0 rfl) ?_
    refine lv_iconst (v := 0) hx hb d_RE_next_19 (by decide) ?_
    have k0 : (0 : Int32).toInt = 0 := by decide
    refine va_put (D := (dC, dI)) (ci := 7) (v := .int 0) (ty := .boolean) (C := R_RE) (T := F_RE) (N := 8) hx hb hts i_RE t_RE t_RE_ok n_RE hown hK hP hD hS 0 rfl rfl 4 (by decide) (hts _ kF_RE_45) (fun _ h9 => h9) rfl (by decide +kernel) rfl rfl (Nat.le_of_ble_eq_true rfl) d_RE_next_20 (fun H locs hP hD hS => ?_)
    have hP : va_P (dC, dI) cls (wz_1 h0 aw ac pa lim 0 cc ao oc aw wf ab ax len ax cB n f) H := hP
    have hD : va_D A (wz_1 h0 aw ac pa lim 0 cc ao oc aw wf ab ax len ax cB n f) := hD
    refine lv_iconst (v := 0) hx hb d_RE_next_23 (by decide) ?_
    have k0 : (0 : Int32).toInt = 0 := by decide
    have z9 : ((0 : Int32) = 0 ∨ (0 : Int32) = 1) ∧ 0 ≤ (0 : Int32).toInt ∧ (0 : Int32).toInt ≤ 255 ∧ pa.toInt ≤ pa.toInt ∧ pa.toInt ≤ lim.toInt ∧ pa.toInt ≤ pa.toInt + 1 ∧ ((0 : Int32).toInt = 1 → snd.toInt = 1 ∧ pa.toInt = pa.toInt + 1 ∧ (0 : Int32).toInt = (bn (f pa.toNatClampNeg) : Nat)) ∧ (snd.toInt = 1 → pa.toInt < lim.toInt → (0 : Int32).toInt = 1) := ⟨Or.inl rfl, by (first | (apply Int.le_antisymm <;> omega) | omega), by (first | (apply Int.le_antisymm <;> omega) | omega), by (first | (apply Int.le_antisymm <;> omega) | omega), by (first | (apply Int.le_antisymm <;> omega) | omega), by (first | (apply Int.le_antisymm <;> omega) | omega), fun z => absurd z (by (first | (apply Int.le_antisymm <;> omega) | omega)), fun z1 z2 => by (first | (apply Int.le_antisymm <;> omega) | omega)⟩
    have hP9 := hP.sb (wq := (wz_1 h0 aw ac pa lim 0 cc ao oc aw wf ab ax len ax cB n f)) [0, 1, 2, 3] rfl
    have hD9 := hD.sb (wq := (wz_1 h0 aw ac pa lim 0 cc ao oc aw wf ab ax len ax cB n f)) [0, 1, 2, 3] (by decide) rfl
    exact W.iret (v := 0) hx hb hr (fun t ht hW => ⟨⟨0, (pa, 0), rfl, z9, va_P.he ht.symm hP9, va_K.moved hW.alike hK, hD9⟩, hS.F ht⟩) hS.2.2 d_RE_next_24
  · have q4 := neI c4
    refine lv_aload_n hx hb d_RE_next_7 rfl (lv_at hl 0 rfl) ?_
    refine va_get (D := (dC, dI)) (ci := 7) (v := .int pa) (C := R_RE) (T := F_RE) (N := 8) hx hb hts i_RE hown hK hP 0 rfl rfl 2 (by decide) (hts _ kF_RE_29) (fun _ h9 => h9) rfl d_RE_next_8 ?_
    refine lv_aload_n hx hb d_RE_next_11 rfl (lv_at hl 0 rfl) ?_
    refine va_get (D := (dC, dI)) (ci := 7) (v := .int lim) (C := R_RE) (T := F_RE) (N := 8) hx hb hts i_RE hown hK hP 0 rfl rfl 3 (by decide) (hts _ kF_RE_42) (fun _ h9 => h9) rfl d_RE_next_12 ?_
    refine lv_icmp_lt (tgt := 25) hx hb d_RE_next_15 (by decide) (fun c15 => ?_) (fun c15 => ?_)
    · have q15 := ltI c15
      refine lv_aload_n hx hb d_RE_next_25 rfl (lv_at hl 0 rfl) ?_
      refine va_get (D := (dC, dI)) (ci := 7) (v := .ref aw) (C := R_RE) (T := F_RE) (N := 8) hx hb hts i_RE hown hK hP 0 rfl rfl 0 (by decide) (hts _ kF_RE_15) (fun _ h9 => h9) rfl d_RE_next_26 ?_
      refine va_get (D := (dC, dI)) (ci := 10) (v := .ref ab) (C := R_WA) (T := F_WA) (N := 21) hx hb hts i_WA hown hK hP 1 rfl rfl 0 (by decide) (hts _ kF_RE_33) (fun _ h9 => h9) pwf d_RE_next_29 ?_
      refine va_get (D := (dC, dI)) (ci := 1) (v := .ref ax) (C := R_BR) (T := F_BR) (N := 2) hx hb hts i_BR hown hK hP 2 rfl rfl 0 (by decide) (hts _ kF_RE_237) (fun _ h9 => h9) rfl d_RE_next_32 ?_
      refine lv_aload_n hx hb d_RE_next_35 rfl (lv_at hl 0 rfl) ?_
      refine lv_dup hx hb d_RE_next_36 rfl ?_
      refine va_get (D := (dC, dI)) (ci := 7) (v := .int pa) (C := R_RE) (T := F_RE) (N := 8) hx hb hts i_RE hown hK hP 0 rfl rfl 2 (by decide) (hts _ kF_RE_29) (fun _ h9 => h9) rfl d_RE_next_37 ?_
      refine lv_dup_x1 hx hb d_RE_next_40 rfl rfl ?_
      refine lv_iconst (v := 1) hx hb d_RE_next_41 (by decide) ?_
      have k1 : (1 : Int32).toInt = 1 := by decide
      refine lv_iadd hx hb d_RE_next_42 ?_
      refine lv_topi (fun x1 ex1 => ?_)
      have tx1 : x1.toInt = pa.toInt + 1 := by have z := i32_add ex1 (by (first | (apply Int.le_antisymm <;> omega) | omega)) (by (first | (apply Int.le_antisymm <;> omega) | omega)); first | exact z | (first | (apply Int.le_antisymm <;> omega) | omega)
      refine va_put (D := (dC, dI)) (ci := 7) (v := .int x1) (ty := .int) (C := R_RE) (T := F_RE) (N := 8) hx hb hts i_RE t_RE t_RE_ok n_RE hown hK hP hD hS 0 rfl rfl 2 (by decide) (hts _ kF_RE_29) (fun _ h9 => h9) rfl (by decide +kernel) rfl rfl (Nat.le_of_ble_eq_true rfl) d_RE_next_43 (fun H locs hP hD hS => ?_)
      have hP : va_P (dC, dI) cls (wz_1 h0 aw ac x1 lim snd cc ao oc aw wf ab ax len ax cB n f) H := hP
      have hD : va_D A (wz_1 h0 aw ac x1 lim snd cc ao oc aw wf ab ax len ax cB n f) := hD
      have g46 : vp_in pa n := vp_in_iff.mpr ⟨by (first | (apply Int.le_antisymm <;> omega) | omega), by (first | (apply Int.le_antisymm <;> omega) | omega)⟩
      refine va_bald hx hb hK hP 3 0 rfl rfl g46 d_RE_next_46 ?_
      refine lv_topi (fun x2 ex2 => ?_)
      refine lv_sipush (v := 255) hx hb d_RE_next_47 (by decide) ?_
      have k255 : (255 : Int32).toInt = 255 := by decide
      refine lv_iand hx hb d_RE_next_50 ?_
      refine lv_topi (fun x3 ex3 => ?_)
      have z8 : x3.toInt = (bn (f pa.toNatClampNeg) : Nat) := by rw [ex3, ex2, bn_and]; exact nI_toInt (by have := bn_lt (f pa.toNatClampNeg); (first | (apply Int.le_antisymm <;> omega) | omega))
      have z7 := bn_lt (f pa.toNatClampNeg)
      have z9 : (snd = 0 ∨ snd = 1) ∧ 0 ≤ x3.toInt ∧ x3.toInt ≤ 255 ∧ pa.toInt ≤ x1.toInt ∧ x1.toInt ≤ lim.toInt ∧ x1.toInt ≤ pa.toInt + 1 ∧ (snd.toInt = 1 → snd.toInt = 1 ∧ x1.toInt = pa.toInt + 1 ∧ x3.toInt = (bn (f pa.toNatClampNeg) : Nat)) ∧ (snd.toInt = 1 → pa.toInt < lim.toInt → snd.toInt = 1) := ⟨hs, by (first | (apply Int.le_antisymm <;> omega) | omega), by (first | (apply Int.le_antisymm <;> omega) | omega), by (first | (apply Int.le_antisymm <;> omega) | omega), by (first | (apply Int.le_antisymm <;> omega) | omega), by (first | (apply Int.le_antisymm <;> omega) | omega), fun z => ⟨z, by (first | (apply Int.le_antisymm <;> omega) | omega), z8⟩, fun z _ => z⟩
      have hP9 := hP.sb (wq := (wz_1 h0 aw ac x1 lim snd cc ao oc aw wf ab ax len ax cB n f)) [0, 1, 2, 3] rfl
      have hD9 := hD.sb (wq := (wz_1 h0 aw ac x1 lim snd cc ao oc aw wf ab ax len ax cB n f)) [0, 1, 2, 3] (by decide) rfl
      exact W.iret (v := x3) hx hb hr (fun t ht hW => ⟨⟨x3, (x1, snd), rfl, z9, va_P.he ht.symm hP9, va_K.moved hW.alike hK, hD9⟩, hS.F ht⟩) hS.2.2 d_RE_next_51
    · have q15 := nltI c15
      refine lv_aload_n hx hb d_RE_next_18 rfl (lv_at hl 0 rfl) ?_
      refine lv_iconst (v := 0) hx hb d_RE_next_19 (by decide) ?_
      have k0 : (0 : Int32).toInt = 0 := by decide
      refine va_put (D := (dC, dI)) (ci := 7) (v := .int 0) (ty := .boolean) (C := R_RE) (T := F_RE) (N := 8) hx hb hts i_RE t_RE t_RE_ok n_RE hown hK hP hD hS 0 rfl rfl 4 (by decide) (hts _ kF_RE_45) (fun _ h9 => h9) rfl (by decide +kernel) rfl rfl (Nat.le_of_ble_eq_true rfl) d_RE_next_20 (fun H locs hP hD hS => ?_)
      have hP : va_P (dC, dI) cls (wz_1 h0 aw ac pa lim 0 cc ao oc aw wf ab ax len ax cB n f) H := hP
      have hD : va_D A (wz_1 h0 aw ac pa lim 0 cc ao oc aw wf ab ax len ax cB n f) := hD
      refine lv_iconst (v := 0) hx hb d_RE_next_23 (by decide) ?_
      have k0 : (0 : Int32).toInt = 0 := by decide
      have z9 : ((0 : Int32) = 0 ∨ (0 : Int32) = 1) ∧ 0 ≤ (0 : Int32).toInt ∧ (0 : Int32).toInt ≤ 255 ∧ pa.toInt ≤ pa.toInt ∧ pa.toInt ≤ lim.toInt ∧ pa.toInt ≤ pa.toInt + 1 ∧ ((0 : Int32).toInt = 1 → snd.toInt = 1 ∧ pa.toInt = pa.toInt + 1 ∧ (0 : Int32).toInt = (bn (f pa.toNatClampNeg) : Nat)) ∧ (snd.toInt = 1 → pa.toInt < lim.toInt → (0 : Int32).toInt = 1) := ⟨Or.inl rfl, by (first | (apply Int.le_antisymm <;> omega) | omega), by (first | (apply Int.le_antisymm <;> omega) | omega), by (first | (apply Int.le_antisymm <;> omega) | omega), by (first | (apply Int.le_antisymm <;> omega) | omega), by (first | (apply Int.le_antisymm <;> omega) | omega), fun z => absurd z (by (first | (apply Int.le_antisymm <;> omega) | omega)), fun z1 z2 => by (first | (apply Int.le_antisymm <;> omega) | omega)⟩
      have hP9 := hP.sb (wq := (wz_1 h0 aw ac pa lim 0 cc ao oc aw wf ab ax len ax cB n f)) [0, 1, 2, 3] rfl
      have hD9 := hD.sb (wq := (wz_1 h0 aw ac pa lim 0 cc ao oc aw wf ab ax len ax cB n f)) [0, 1, 2, 3] (by decide) rfl
      exact W.iret (v := 0) hx hb hr (fun t ht hW => ⟨⟨0, (pa, 0), rfl, z9, va_P.he ht.symm hP9, va_K.moved hW.alike hK, hD9⟩, hS.F ht⟩) hS.2.2 d_RE_next_24
abbrev b_RE_readUnsigned : ByteArray := prog_9_method_18_code
def y_RE_readUnsigned : MethodName := ⟨R_RE, "readUnsigned", "(J)J"⟩
abbrev w_RE_readUnsigned : List Cond := .code y_RE_readUnsigned b_RE_readUnsigned 7 (Option.some .long) :: lw_g
theorem kC_RE_readUnsigned : Cond.code y_RE_readUnsigned b_RE_readUnsigned 7 (Option.some .long) ∈ lw_g := in_c6 88 rfl rfl
theorem d_RE_readUnsigned_0 : decode b_RE_readUnsigned 0 = .ok (.lconst 0, 1) := bz_c9 (by decide +kernel)
theorem d_RE_readUnsigned_1 : decode b_RE_readUnsigned 1 = .ok (.lstore_n 3, 1) := bz_c66 (by decide +kernel)
theorem d_RE_readUnsigned_2 : decode b_RE_readUnsigned 2 = .ok (.iconst 0, 1) := bz_c3 (by decide +kernel)
theorem d_RE_readUnsigned_3 : decode b_RE_readUnsigned 3 = .ok (.istore 5, 2) := bz_c54 (by decide +kernel)
theorem d_RE_readUnsigned_5 : decode b_RE_readUnsigned 5 = .ok (.iload 5, 2) := bz_c21 (by decide +kernel)
theorem d_RE_readUnsigned_7 : decode b_RE_readUnsigned 7 = .ok (.bipush 35, 2) := bz_c16 (by decide +kernel)
theorem d_RE_readUnsigned_9 : decode b_RE_readUnsigned 9 = .ok (.if_icmp .ge 70, 3) := bz_c162 (by decide +kernel)
theorem d_RE_readUnsigned_12 : decode b_RE_readUnsigned 12 = .ok (.aload_n 0, 1) := bz_c42 (by decide +kernel)
theorem d_RE_readUnsigned_13 : decode b_RE_readUnsigned 13 = .ok (.invokevirtual 60, 3) := bz_c182 (by decide +kernel)
theorem d_RE_readUnsigned_16 : decode b_RE_readUnsigned 16 = .ok (.istore 6, 2) := bz_c54 (by decide +kernel)
theorem d_RE_readUnsigned_18 : decode b_RE_readUnsigned 18 = .ok (.lload_n 3, 1) := bz_c33 (by decide +kernel)
theorem d_RE_readUnsigned_19 : decode b_RE_readUnsigned 19 = .ok (.iload 6, 2) := bz_c21 (by decide +kernel)
theorem d_RE_readUnsigned_21 : decode b_RE_readUnsigned 21 = .ok (.bipush 127, 2) := bz_c16 (by decide +kernel)
theorem d_RE_readUnsigned_23 : decode b_RE_readUnsigned 23 = .ok (.iand, 1) := bz_c126 (by decide +kernel)
theorem d_RE_readUnsigned_24 : decode b_RE_readUnsigned 24 = .ok (.i2l, 1) := bz_c133 (by decide +kernel)
theorem d_RE_readUnsigned_25 : decode b_RE_readUnsigned 25 = .ok (.iload 5, 2) := bz_c21 (by decide +kernel)
theorem d_RE_readUnsigned_27 : decode b_RE_readUnsigned 27 = .ok (.lshl, 1) := bz_c121 (by decide +kernel)
theorem d_RE_readUnsigned_28 : decode b_RE_readUnsigned 28 = .ok (.lor, 1) := bz_c129 (by decide +kernel)
theorem d_RE_readUnsigned_29 : decode b_RE_readUnsigned 29 = .ok (.lstore_n 3, 1) := bz_c66 (by decide +kernel)
theorem d_RE_readUnsigned_30 : decode b_RE_readUnsigned 30 = .ok (.iload 6, 2) := bz_c21 (by decide +kernel)
theorem d_RE_readUnsigned_32 : decode b_RE_readUnsigned 32 = .ok (.sipush 128, 3) := bz_c17 (by decide +kernel)
theorem d_RE_readUnsigned_35 : decode b_RE_readUnsigned 35 = .ok (.if_icmp .ge 38, 3) := bz_c162 (by decide +kernel)
theorem d_RE_readUnsigned_38 : decode b_RE_readUnsigned 38 = .ok (.aload_n 0, 1) := bz_c42 (by decide +kernel)
theorem d_RE_readUnsigned_39 : decode b_RE_readUnsigned 39 = .ok (.aload_n 0, 1) := bz_c42 (by decide +kernel)
theorem d_RE_readUnsigned_40 : decode b_RE_readUnsigned 40 = .ok (.getfield 45, 3) := bz_c180 (by decide +kernel)
theorem d_RE_readUnsigned_43 : decode b_RE_readUnsigned 43 = .ok (.ifCond .eq 13, 3) := bz_c153 (by decide +kernel)
theorem d_RE_readUnsigned_46 : decode b_RE_readUnsigned 46 = .ok (.lload_n 3, 1) := bz_c33 (by decide +kernel)
theorem d_RE_readUnsigned_47 : decode b_RE_readUnsigned 47 = .ok (.lload_n 1, 1) := bz_c31 (by decide +kernel)
theorem d_RE_readUnsigned_48 : decode b_RE_readUnsigned 48 = .ok (.lcmp, 1) := bz_c148 (by decide +kernel)
theorem d_RE_readUnsigned_49 : decode b_RE_readUnsigned 49 = .ok (.ifCond .gt 7, 3) := bz_c157 (by decide +kernel)
theorem d_RE_readUnsigned_52 : decode b_RE_readUnsigned 52 = .ok (.iconst 1, 1) := bz_c4 (by decide +kernel)
theorem d_RE_readUnsigned_53 : decode b_RE_readUnsigned 53 = .ok (.goto 4, 3) := bz_c167 (by decide +kernel)
theorem d_RE_readUnsigned_56 : decode b_RE_readUnsigned 56 = .ok (.iconst 0, 1) := bz_c3 (by decide +kernel)
theorem d_RE_readUnsigned_57 : decode b_RE_readUnsigned 57 = .ok (.putfield 45, 3) := bz_c181 (by decide +kernel)
theorem d_RE_readUnsigned_60 : decode b_RE_readUnsigned 60 = .ok (.aload_n 0, 1) := bz_c42 (by decide +kernel)
theorem d_RE_readUnsigned_61 : decode b_RE_readUnsigned 61 = .ok (.getfield 45, 3) := bz_c180 (by decide +kernel)
theorem d_RE_readUnsigned_64 : decode b_RE_readUnsigned 64 = .ok (.ifCond .eq 7, 3) := bz_c153 (by decide +kernel)
theorem d_RE_readUnsigned_67 : decode b_RE_readUnsigned 67 = .ok (.lload_n 3, 1) := bz_c33 (by decide +kernel)
theorem d_RE_readUnsigned_68 : decode b_RE_readUnsigned 68 = .ok (.goto 4, 3) := bz_c167 (by decide +kernel)
theorem d_RE_readUnsigned_71 : decode b_RE_readUnsigned 71 = .ok (.lconst 0, 1) := bz_c9 (by decide +kernel)
theorem d_RE_readUnsigned_72 : decode b_RE_readUnsigned 72 = .ok (.lreturn, 1) := bz_c173 (by decide +kernel)
theorem d_RE_readUnsigned_73 : decode b_RE_readUnsigned 73 = .ok (.iinc 5 7, 3) := by decide +kernel
theorem d_RE_readUnsigned_76 : decode b_RE_readUnsigned 76 = .ok (.goto (-71), 3) := bz_c167 (by decide +kernel)
theorem d_RE_readUnsigned_79 : decode b_RE_readUnsigned 79 = .ok (.aload_n 0, 1) := bz_c42 (by decide +kernel)
theorem d_RE_readUnsigned_80 : decode b_RE_readUnsigned 80 = .ok (.iconst 0, 1) := bz_c3 (by decide +kernel)
theorem d_RE_readUnsigned_81 : decode b_RE_readUnsigned 81 = .ok (.putfield 45, 3) := bz_c181 (by decide +kernel)
theorem d_RE_readUnsigned_84 : decode b_RE_readUnsigned 84 = .ok (.lconst 0, 1) := bz_c9 (by decide +kernel)
theorem d_RE_readUnsigned_85 : decode b_RE_readUnsigned 85 = .ok (.lreturn, 1) := bz_c173 (by decide +kernel)
theorem kM_RE_60 : Cond.methodLink R_RE 60 y_RE_next ∈ lw_g := in_c6 81 rfl rfl
theorem kV_RE_next : Cond.instanceMethod y_RE_next ∈ lw_g := in_c6 83 rfl rfl
theorem kS_RE_next : Cond.selects R_RE y_RE_next y_RE_next ∈ lw_g := in_s 62 (by decide +kernel) rfl
set_option maxHeartbeats 4000000 in
set_option maxRecDepth 100000 in
theorem c_RE_readUnsigned (l : Launch) (dC : Nat → ClassId) (dI : Nat → Nat → Nat) (h0 aw ac ao ab ax sz : Nat) (cB : ClassId) (n : Nat) (pa lim snd cc oc len : Int32) (f : Nat → Int32) (wf : List Value) (pwf : wf[0]? = some (.ref ab)) (pwl : wf.length = 21) (hs : snd = 0 ∨ snd = 1) (ha : 0 ≤ pa.toInt ∧ pa.toInt ≤ lim.toInt ∧ lim.toInt ≤ len.toInt ∧ len.toInt ≤ n ∧ n < 2147483648) (p0 : Int64) (hm : 0 ≤ p0.toInt) : Met l y_RE_readUnsigned w_RE_readUnsigned ({ frames := 1, cells := 0, slots := 0, locals := 20 }) (va_Pc [.ref h0, .long p0] (fun U => U.heap.size = sz ∧ va_P (dC, dI) cls (wz_1 h0 aw ac pa lim snd cc ao oc aw wf ab ax len ax cB n f) U.heap ∧ va_K (dC, dI) cls [(cB, .byte)] U ∧ va_D (fun _ => True) (wz_1 h0 aw ac pa lim snd cc ao oc aw wf ab ax len ax cB n f))) (va_Ql (fun (r : Int64) (u : Int32 × Int32) => (u.2 = 0 ∨ u.2 = 1) ∧ 0 ≤ r.toInt ∧ r.toInt ≤ p0.toInt ∧ pa.toInt ≤ u.1.toInt ∧ u.1.toInt ≤ lim.toInt ∧ (u.2.toInt = 1 → snd.toInt = 1 ∧ pa.toInt < u.1.toInt)) (re_at dC dI h0 aw ac ao ab ax cB n lim cc oc len f wf (va_A (wz_1 h0 aw ac pa lim snd cc ao oc aw wf ab ax len ax cB n f) sz)) (va_A (wz_1 h0 aw ac pa lim snd cc ao oc aw wf ab ax len ax cB n f) sz)) 0 0 (va_A (wz_1 h0 aw ac pa lim snd cc ao oc aw wf ab ax len ax cB n f) sz) := by
  refine Met.ofW (cc := b_RE_readUnsigned) (maxL := 7) (ret := (Option.some .long)) (by decide) rfl ?_
  intro p e s m args below meth c s₁ B hml hv
  obtain ⟨rfl, hsz, hP, hK, hD0⟩ := hv
  have hx := B.exec
  have hb := B.bytes
  have hr := B.returns
  have hts0 := atoms_spec (ws := w_RE_readUnsigned) B.pre
  have hts : ∀ w ∈ lw_g, w.before _ s = true := fun w h => hts0 w (List.mem_cons_of_mem _ h)
  have hown : s.vm.findClass R_RE = some m.cls := findClass_of_methodNamed B.named
  have hlocks := B.notSynchronized
  clear hts0
  subst hsz
  have hD := hD0.self (sz := s.heap.size)
  generalize hAe : va_A (wz_1 h0 aw ac pa lim snd cc ao oc aw wf ab ax len ax cB n f) s.heap.size = A at hD ⊢
  have hA : ∀ q : Nat, s.heap.size ≤ q → A q := fun q h => by rw [← hAe]; exact Or.inr h
  clear hAe
  have hP : va_P (dC, dI) cls (wz_1 h0 aw ac pa lim snd cc ao oc aw wf ab ax len ax cB n f) s.heap := hP
  have hl := lv_entry ([.ref h0, .long p0]) (n := 7) (Nat.le_of_ble_eq_true rfl)
  rw [lg_entry_eq]
  generalize (lg_sl ([.ref h0, .long p0]) ++ List.replicate (7 - (lg_sl ([.ref h0, .long p0])).length) Slot.unset).toArray = ls at hl ⊢
  have hl : lv_has ls 7 [(0, .ref h0), (1, .long p0)] := hl
  have k0 : (0 : Int32).toInt = 0 := by decide
  refine w_gen (A := A) hP (fun H locs hP hS => ?_)
  have hs0 := b01 hs
  refine lv_lconst (v := 0) hx hb d_RE_readUnsigned_0 (by decide) ?_
  have kl0 : (0 : Int64).toInt = 0 := by decide
  refine lv_lstore_n (lv' := [(3, .long 0), (0, .ref h0), (1, .long p0)]) hx hb d_RE_readUnsigned_1 rfl hl (by decide) rfl (fun ls hl => ?_)
  refine lv_iconst (v := 0) hx hb d_RE_readUnsigned_2 (by decide) ?_
  refine lv_topi (fun x1 ex1 => ?_)
  have tx1 : x1.toInt = 0 := by rw [ex1]; decide
  refine lv_istore (lv' := [(5, .int x1), (3, .long 0), (0, .ref h0), (1, .long p0)]) hx hb d_RE_readUnsigned_3 hl (by decide) rfl (fun ls hl => ?_)
  refine w_loop (σ := Int64 × Int32 × Int32 × Int32) (fun u H locs ls => match u with | (v, i, a, sd) => (0 ≤ i.toInt ∧ i.toInt ≤ 35 ∧ i.toInt % 7 = 0) ∧ (0 ≤ v.toInt ∧ v.toInt < 34359738368) ∧ (pa.toInt ≤ a.toInt ∧ a.toInt ≤ lim.toInt) ∧ (sd = 0 ∨ sd = 1) ∧ (sd.toInt = 1 → snd.toInt = 1 ∧ (0 < i.toInt → pa.toInt < a.toInt)) ∧ va_P (dC, dI) cls (wz_1 h0 aw ac a lim sd cc ao oc aw wf ab ax len ax cB n f) H ∧ va_D A (wz_1 h0 aw ac a lim sd cc ao oc aw wf ab ax len ax cB n f) ∧ va_S A s.heap H locs ∧ lv_has ls 7 [(5, .int i), (3, .long v), (0, .ref h0), (1, .long p0)]) (fun u => match u with | (v, i, a, sd) => (35 - i.toInt).toNat) ?_ (0, x1, pa, snd) ⟨by (first | (apply Int.le_antisymm <;> omega) | omega), by (first | (apply Int.le_antisymm <;> omega) | omega), by (first | (apply Int.le_antisymm <;> omega) | omega), hs, by (first | (apply Int.le_antisymm <;> omega) | omega), hP, hD, hS, lv_sub hl [0, 1, 2, 3] rfl⟩
  intro N ih u H locs ls hN hI
  obtain ⟨v, i, a, sd⟩ := u
  obtain ⟨v1, v2, v3, v4, v5, hP, hD, hS, hl⟩ := hI
  have hN : (35 - i.toInt).toNat < N + 1 := hN
  have bv4 := b01 v4
  refine lv_iload hx hb d_RE_readUnsigned_5 (lv_at hl 0 rfl) ?_
  refine lv_bipush (v := 35) hx hb d_RE_readUnsigned_7 (by decide) ?_
  have k35 : (35 : Int32).toInt = 35 := by decide
  refine lv_icmp_ge (tgt := 79) hx hb d_RE_readUnsigned_9 (by decide) (fun c9 => ?_) (fun c9 => ?_)
  · have q9 := leI c9
    refine lv_aload_n hx hb d_RE_readUnsigned_79 rfl (lv_at hl 2 rfl) ?_
    refine lv_iconst (v := 0) hx hb d_RE_readUnsigned_80 (by decide) ?_
    have k0 : (0 : Int32).toInt = 0 := by decide
    refine va_put (D := (dC, dI)) (ci := 7) (v := .int 0) (ty := .boolean) (C := R_RE) (T := F_RE) (N := 8) hx hb hts i_RE t_RE t_RE_ok n_RE hown hK hP hD hS 0 rfl rfl 4 (by decide) (hts _ kF_RE_45) (fun _ h9 => h9) rfl (by decide +kernel) rfl rfl (Nat.le_of_ble_eq_true rfl) d_RE_readUnsigned_81 (fun H locs hP hD hS => ?_)
    have hP : va_P (dC, dI) cls (wz_1 h0 aw ac a lim 0 cc ao oc aw wf ab ax len ax cB n f) H := hP
    have hD : va_D A (wz_1 h0 aw ac a lim 0 cc ao oc aw wf ab ax len ax cB n f) := hD
    refine lv_lconst (v := 0) hx hb d_RE_readUnsigned_84 (by decide) ?_
    have kl0 : (0 : Int64).toInt = 0 := by decide
    have hP9 := hP.sb (wq := (wz_1 h0 aw ac a lim 0 cc ao oc aw wf ab ax len ax cB n f)) [0, 1, 2, 3] rfl
    have hD9 := hD.sb (wq := (wz_1 h0 aw ac a lim 0 cc ao oc aw wf ab ax len ax cB n f)) [0, 1, 2, 3] (by decide) rfl
    exact W.lret (v := 0) hx hb hr (fun t ht hW => ⟨⟨0, (a, 0), rfl, ⟨(Or.inl rfl), by (try dsimp only); (first | (apply Int.le_antisymm <;> omega) | omega), by (try dsimp only); (first | (apply Int.le_antisymm <;> omega) | omega), by (try dsimp only); (first | (apply Int.le_antisymm <;> omega) | omega), by (try dsimp only); (first | (apply Int.le_antisymm <;> omega) | omega), fun z => ⟨by (try dsimp only at z); (try dsimp only); (first | (apply Int.le_antisymm <;> omega) | omega), by (try dsimp only at z); (try dsimp only); (first | (apply Int.le_antisymm <;> omega) | omega)⟩⟩, va_P.he ht.symm hP9, va_K.moved hW.alike hK, hD9⟩, hS.F ht⟩) hS.2.2 d_RE_readUnsigned_85
  · have q9 := nleI c9
    refine lv_aload_n hx hb d_RE_readUnsigned_12 rfl (lv_at hl 2 rfl) ?_
    have hPc := hP.sb (wq := (wz_1 h0 aw ac a lim sd cc ao oc aw wf ab ax len ax cB n f)) [0, 1, 2, 3] rfl
    have hDc := hD.sb (wq := (wz_1 h0 aw ac a lim sd cc ao oc aw wf ab ax len ax cB n f)) [0, 1, 2, 3] (by decide) rfl
    have hKc := hK.sb (tyq := [(cB, .byte)]) [0] rfl
    have hFc := va_free (wc := (wz_1 h0 aw ac a lim sd cc ao oc aw wf ab ax len ax cB n f)) hD hS hA [0, 1, 2, 3] rfl
    refine va_calli (va_runV (As := []) (rest := []) ⟨hx, hb, hml, hown, hts⟩ (c_RE_next l dC dI h0 aw ac ao ab ax H.size cB n a lim sd cc oc len f wf pwf pwl v4 (by (first | (apply Int.le_antisymm <;> omega) | omega)) ) (cwV 0 hts (gV kM_RE_60 kV_RE_next kS_RE_next kI_RE kC_RE_next) rfl rfl rfl (by decide +kernel) ⟨Nat.le_of_ble_eq_true rfl, Nat.le_of_ble_eq_true rfl⟩) ⟨fun a U g mk z => by obtain ⟨z0, z1, zP, zK, zD⟩ := z; exact ⟨z0, z1, zP, va_K.moved (u := U) (U := U.calling g mk a) (Vm.Alike.refl U.vm) zK, zD⟩, va_recv hKc hPc (ci := 7) (q0 := 0) rfl rfl, fun U hU hW => ⟨rfl, by rw [hU], va_P.he hU.symm hPc, va_K.moved hW.alike hKc, hDc.weaken (fun _ _ _ _ => trivial)⟩⟩ rfl rfl hl.1 rfl (lv_room (Nat.le_of_ble_eq_true rfl)) d_RE_readUnsigned_13 ⟨(Nat.zero_le _), (Nat.zero_le _)⟩) hS (fun q _ h => hFc q h) hFc (fun r2 u t H1 locs ht hvm hw hB hz1 hk1 hS => ?_)
    obtain ⟨n3, n4⟩ := u
    try dsimp only at hw
    obtain ⟨hsn4, tn3⟩ := hw
    have bsn4 := b01 hsn4
    obtain ⟨hP1, hK1, hD1⟩ := hB
    replace hP1 := va_P.he ht hP1
    obtain ⟨hP, hD⟩ := va_join (wr := []) (w1 := (wz_1 h0 aw ac n3 lim n4 cc ao oc aw wf ab ax len ax cB n f)) hP hD [0, 1, 2, 3] [] rfl rfl (by decide) (by decide) hk1 hFc hP1 hD1
    clear hPc hDc hKc hFc hz1 hk1 hP1 hK1 hD1
    rename Heap => H
    have hP : va_P (dC, dI) cls (wz_1 h0 aw ac n3 lim n4 cc ao oc aw wf ab ax len ax cB n f) H := hP
    have hD : va_D A (wz_1 h0 aw ac n3 lim n4 cc ao oc aw wf ab ax len ax cB n f) := hD
    refine lv_istore (lv' := [(6, .int r2), (5, .int i), (3, .long v), (0, .ref h0), (1, .long p0)]) hx hb d_RE_readUnsigned_16 hl (by decide) rfl (fun ls hl => ?_)
    refine lv_lload_n hx hb d_RE_readUnsigned_18 rfl (lv_at hl 2 rfl) ?_
    refine lv_iload hx hb d_RE_readUnsigned_19 (lv_at hl 0 rfl) ?_
    refine lv_bipush (v := 127) hx hb d_RE_readUnsigned_21 (by decide) ?_
    have k127 : (127 : Int32).toInt = 127 := by decide
    refine lv_iand hx hb d_RE_readUnsigned_23 ?_
    refine lv_topi (fun x5 ex5 => ?_)
    have tx5 := i32_and127 r2
    rw [← ex5] at tx5
    refine lv_i2l hx hb d_RE_readUnsigned_24 rfl ?_
    refine lv_topl (fun x6 ex6 => ?_)
    have tx6 := i2l_t ex6
    refine lv_iload hx hb d_RE_readUnsigned_25 (lv_at hl 1 rfl) ?_
    refine lv_lshl hx hb d_RE_readUnsigned_27 rfl ?_
    refine lv_topl (fun x7 ex7 => ?_)
    refine lv_lor hx hb d_RE_readUnsigned_28 ?_
    refine lv_topl (fun x8 ex8 => ?_)
    have tx8 := lor_b ex7 ex8 v2 (by (first | (apply Int.le_antisymm <;> omega) | omega)) (by (first | (apply Int.le_antisymm <;> omega) | omega))
    refine lv_lstore_n (lv' := [(3, .long x8), (6, .int r2), (5, .int i), (0, .ref h0), (1, .long p0)]) hx hb d_RE_readUnsigned_29 rfl hl (by decide) rfl (fun ls hl => ?_)
    refine lv_iload hx hb d_RE_readUnsigned_30 (lv_at hl 1 rfl) ?_
    refine lv_sipush (v := 128) hx hb d_RE_readUnsigned_32 (by decide) ?_
    have k128 : (128 : Int32).toInt = 128 := by decide
    refine lv_icmp_ge (tgt := 73) hx hb d_RE_readUnsigned_35 (by decide) (fun c35 => ?_) (fun c35 => ?_)
    · have q35 := leI c35
      obtain ⟨x9, ex9⟩ : ∃ z : Int32, z = i + 7 := ⟨_, rfl⟩
      have k7 : (7 : Int32).toInt = 7 := by decide
      have tx9 : x9.toInt = i.toInt + 7 := by have z := i32_add ex9 (by (first | (apply Int.le_antisymm <;> omega) | omega)) (by (first | (apply Int.le_antisymm <;> omega) | omega)); first | exact z | (first | (apply Int.le_antisymm <;> omega) | omega)
      refine lv_iinc (v := x9) (lv' := [(5, .int x9), (3, .long x8), (6, .int r2), (0, .ref h0), (1, .long p0)]) hx hb d_RE_readUnsigned_73 hl (k := 2) rfl (by rw [ex9]; rfl) (by decide) rfl (fun ls hl => ?_)
      refine lv_goto (tgt := 5) hx hb d_RE_readUnsigned_76 (by decide) ?_
      skip
      exact ih (x8, x9, n3, n4) _ _ _ (by show (35 - x9.toInt).toNat < N; (first | (apply Int.le_antisymm <;> omega) | omega)) ⟨by (first | (apply Int.le_antisymm <;> omega) | omega), by (first | (apply Int.le_antisymm <;> omega) | omega), by (first | (apply Int.le_antisymm <;> omega) | omega), hsn4, by (first | (apply Int.le_antisymm <;> omega) | omega), hP, hD, hS, lv_sub hl [0, 1, 3, 4] rfl⟩
    · have q35 := nleI c35
      refine lv_aload_n hx hb d_RE_readUnsigned_38 rfl (lv_at hl 3 rfl) ?_
      refine lv_aload_n hx hb d_RE_readUnsigned_39 rfl (lv_at hl 3 rfl) ?_
      refine va_get (D := (dC, dI)) (ci := 7) (v := .int n4) (C := R_RE) (T := F_RE) (N := 8) hx hb hts i_RE hown hK hP 0 rfl rfl 4 (by decide) (hts _ kF_RE_45) (fun _ h9 => h9) rfl d_RE_readUnsigned_40 ?_
      refine lv_if_eq (tgt := 56) hx hb d_RE_readUnsigned_43 (by decide) (fun c43 => ?_) (fun c43 => ?_)
      · have q43 := eqI c43
        refine lv_iconst (v := 0) hx hb d_RE_readUnsigned_56 (by decide) ?_
        have k0 : (0 : Int32).toInt = 0 := by decide
        refine va_put (D := (dC, dI)) (ci := 7) (v := .int 0) (ty := .boolean) (C := R_RE) (T := F_RE) (N := 8) hx hb hts i_RE t_RE t_RE_ok n_RE hown hK hP hD hS 0 rfl rfl 4 (by decide) (hts _ kF_RE_45) (fun _ h9 => h9) rfl (by decide +kernel) rfl rfl (Nat.le_of_ble_eq_true rfl) d_RE_readUnsigned_57 (fun H locs hP hD hS => ?_)
        have hP : va_P (dC, dI) cls (wz_1 h0 aw ac n3 lim 0 cc ao oc aw wf ab ax len ax cB n f) H := hP
        have hD : va_D A (wz_1 h0 aw ac n3 lim 0 cc ao oc aw wf ab ax len ax cB n f) := hD
        refine lv_aload_n hx hb d_RE_readUnsigned_60 rfl (lv_at hl 3 rfl) ?_
        refine va_get (D := (dC, dI)) (ci := 7) (v := .int 0) (C := R_RE) (T := F_RE) (N := 8) hx hb hts i_RE hown hK hP 0 rfl rfl 4 (by decide) (hts _ kF_RE_45) (fun _ h9 => h9) rfl d_RE_readUnsigned_61 ?_
        refine lv_if_eq (tgt := 71) hx hb d_RE_readUnsigned_64 (by decide) (fun c64 => ?_) (fun c64 => absurd (neI c64) (by (first | (apply Int.le_antisymm <;> omega) | omega)))
        have q64 := eqI c64
        refine lv_lconst (v := 0) hx hb d_RE_readUnsigned_71 (by decide) ?_
        have kl0 : (0 : Int64).toInt = 0 := by decide
        have hP9 := hP.sb (wq := (wz_1 h0 aw ac n3 lim 0 cc ao oc aw wf ab ax len ax cB n f)) [0, 1, 2, 3] rfl
        have hD9 := hD.sb (wq := (wz_1 h0 aw ac n3 lim 0 cc ao oc aw wf ab ax len ax cB n f)) [0, 1, 2, 3] (by decide) rfl
        exact W.lret (v := 0) hx hb hr (fun t ht hW => ⟨⟨0, (n3, 0), rfl, ⟨(Or.inl rfl), by (try dsimp only); (first | (apply Int.le_antisymm <;> omega) | omega), by (try dsimp only); (first | (apply Int.le_antisymm <;> omega) | omega), by (try dsimp only); (first | (apply Int.le_antisymm <;> omega) | omega), by (try dsimp only); (first | (apply Int.le_antisymm <;> omega) | omega), fun z => ⟨by (try dsimp only at z); (try dsimp only); (first | (apply Int.le_antisymm <;> omega) | omega), by (try dsimp only at z); (try dsimp only); (first | (apply Int.le_antisymm <;> omega) | omega)⟩⟩, va_P.he ht.symm hP9, va_K.moved hW.alike hK, hD9⟩, hS.F ht⟩) hS.2.2 d_RE_readUnsigned_72
      · have q43 := neI c43
        refine lv_lload_n hx hb d_RE_readUnsigned_46 rfl (lv_at hl 0 rfl) ?_
        refine lv_lload_n hx hb d_RE_readUnsigned_47 rfl (lv_at hl 4 rfl) ?_
        refine W.lcmp hx hb d_RE_readUnsigned_48 ?_
        refine lv_topi (fun x10 ex10 => ?_)
        have tx10 := lgc ex10
        refine lv_if_gt (tgt := 56) hx hb d_RE_readUnsigned_49 (by decide) (fun c49 => ?_) (fun c49 => ?_)
        · have q49 := ltI c49
          refine lv_iconst (v := 0) hx hb d_RE_readUnsigned_56 (by decide) ?_
          have k0 : (0 : Int32).toInt = 0 := by decide
          refine va_put (D := (dC, dI)) (ci := 7) (v := .int 0) (ty := .boolean) (C := R_RE) (T := F_RE) (N := 8) hx hb hts i_RE t_RE t_RE_ok n_RE hown hK hP hD hS 0 rfl rfl 4 (by decide) (hts _ kF_RE_45) (fun _ h9 => h9) rfl (by decide +kernel) rfl rfl (Nat.le_of_ble_eq_true rfl) d_RE_readUnsigned_57 (fun H locs hP hD hS => ?_)
          have hP : va_P (dC, dI) cls (wz_1 h0 aw ac n3 lim 0 cc ao oc aw wf ab ax len ax cB n f) H := hP
          have hD : va_D A (wz_1 h0 aw ac n3 lim 0 cc ao oc aw wf ab ax len ax cB n f) := hD
          refine lv_aload_n hx hb d_RE_readUnsigned_60 rfl (lv_at hl 3 rfl) ?_
          refine va_get (D := (dC, dI)) (ci := 7) (v := .int 0) (C := R_RE) (T := F_RE) (N := 8) hx hb hts i_RE hown hK hP 0 rfl rfl 4 (by decide) (hts _ kF_RE_45) (fun _ h9 => h9) rfl d_RE_readUnsigned_61 ?_
          refine lv_if_eq (tgt := 71) hx hb d_RE_readUnsigned_64 (by decide) (fun c64 => ?_) (fun c64 => absurd (neI c64) (by (first | (apply Int.le_antisymm <;> omega) | omega)))
          have q64 := eqI c64
          refine lv_lconst (v := 0) hx hb d_RE_readUnsigned_71 (by decide) ?_
          have kl0 : (0 : Int64).toInt = 0 := by decide
          have hP9 := hP.sb (wq := (wz_1 h0 aw ac n3 lim 0 cc ao oc aw wf ab ax len ax cB n f)) [0, 1, 2, 3] rfl
          have hD9 := hD.sb (wq := (wz_1 h0 aw ac n3 lim 0 cc ao oc aw wf ab ax len ax cB n f)) [0, 1, 2, 3] (by decide) rfl
          exact W.lret (v := 0) hx hb hr (fun t ht hW => ⟨⟨0, (n3, 0), rfl, ⟨(Or.inl rfl), by (try dsimp only); (first | (apply Int.le_antisymm <;> omega) | omega), by (try dsimp only); (first | (apply Int.le_antisymm <;> omega) | omega), by (try dsimp only); (first | (apply Int.le_antisymm <;> omega) | omega), by (try dsimp only); (first | (apply Int.le_antisymm <;> omega) | omega), fun z => ⟨by (try dsimp only at z); (try dsimp only); (first | (apply Int.le_antisymm <;> omega) | omega), by (try dsimp only at z); (try dsimp only); (first | (apply Int.le_antisymm <;> omega) | omega)⟩⟩, va_P.he ht.symm hP9, va_K.moved hW.alike hK, hD9⟩, hS.F ht⟩) hS.2.2 d_RE_readUnsigned_72
        · have q49 := nltI c49
          refine lv_iconst (v := 1) hx hb d_RE_readUnsigned_52 (by decide) ?_
          have k1 : (1 : Int32).toInt = 1 := by decide
          refine lv_goto (tgt := 57) hx hb d_RE_readUnsigned_53 (by decide) ?_
          refine va_put (D := (dC, dI)) (ci := 7) (v := .int 1) (ty := .boolean) (C := R_RE) (T := F_RE) (N := 8) hx hb hts i_RE t_RE t_RE_ok n_RE hown hK hP hD hS 0 rfl rfl 4 (by decide) (hts _ kF_RE_45) (fun _ h9 => h9) rfl (by decide +kernel) rfl rfl (Nat.le_of_ble_eq_true rfl) d_RE_readUnsigned_57 (fun H locs hP hD hS => ?_)
          have hP : va_P (dC, dI) cls (wz_1 h0 aw ac n3 lim 1 cc ao oc aw wf ab ax len ax cB n f) H := hP
          have hD : va_D A (wz_1 h0 aw ac n3 lim 1 cc ao oc aw wf ab ax len ax cB n f) := hD
          refine lv_aload_n hx hb d_RE_readUnsigned_60 rfl (lv_at hl 3 rfl) ?_
          refine va_get (D := (dC, dI)) (ci := 7) (v := .int 1) (C := R_RE) (T := F_RE) (N := 8) hx hb hts i_RE hown hK hP 0 rfl rfl 4 (by decide) (hts _ kF_RE_45) (fun _ h9 => h9) rfl d_RE_readUnsigned_61 ?_
          refine lv_if_eq (tgt := 71) hx hb d_RE_readUnsigned_64 (by decide) (fun c64 => absurd (eqI c64) (by (first | (apply Int.le_antisymm <;> omega) | omega))) (fun c64 => ?_)
          have q64 := neI c64
          refine lv_lload_n hx hb d_RE_readUnsigned_67 rfl (lv_at hl 0 rfl) ?_
          refine lv_goto (tgt := 72) hx hb d_RE_readUnsigned_68 (by decide) ?_
          have hP9 := hP.sb (wq := (wz_1 h0 aw ac n3 lim 1 cc ao oc aw wf ab ax len ax cB n f)) [0, 1, 2, 3] rfl
          have hD9 := hD.sb (wq := (wz_1 h0 aw ac n3 lim 1 cc ao oc aw wf ab ax len ax cB n f)) [0, 1, 2, 3] (by decide) rfl
          exact W.lret (v := x8) hx hb hr (fun t ht hW => ⟨⟨x8, (n3, 1), rfl, ⟨(Or.inr rfl), by (try dsimp only); (first | (apply Int.le_antisymm <;> omega) | omega), by (try dsimp only); (first | (apply Int.le_antisymm <;> omega) | omega), by (try dsimp only); (first | (apply Int.le_antisymm <;> omega) | omega), by (try dsimp only); (first | (apply Int.le_antisymm <;> omega) | omega), fun z => ⟨by (try dsimp only at z); (try dsimp only); (first | (apply Int.le_antisymm <;> omega) | omega), by (try dsimp only at z); (try dsimp only); (first | (apply Int.le_antisymm <;> omega) | omega)⟩⟩, va_P.he ht.symm hP9, va_K.moved hW.alike hK, hD9⟩, hS.F ht⟩) hS.2.2 d_RE_readUnsigned_72
abbrev b_RE_readType : ByteArray := prog_9_method_16_code
def y_RE_readType : MethodName := ⟨R_RE, "readType", "()I"⟩
abbrev w_RE_readType : List Cond := .code y_RE_readType b_RE_readType 2 (Option.some .int) :: lw_g
theorem kC_RE_readType : Cond.code y_RE_readType b_RE_readType 2 (Option.some .int) ∈ lw_g := in_c6 102 rfl rfl
theorem d_RE_readType_0 : decode b_RE_readType 0 = .ok (.aload_n 0, 1) := bz_c42 (by decide +kernel)
theorem d_RE_readType_1 : decode b_RE_readType 1 = .ok (.invokevirtual 60, 3) := bz_c182 (by decide +kernel)
theorem d_RE_readType_4 : decode b_RE_readType 4 = .ok (.istore_n 1, 1) := bz_c60 (by decide +kernel)
theorem d_RE_readType_5 : decode b_RE_readType 5 = .ok (.aload_n 0, 1) := bz_c42 (by decide +kernel)
theorem d_RE_readType_6 : decode b_RE_readType 6 = .ok (.aload_n 0, 1) := bz_c42 (by decide +kernel)
theorem d_RE_readType_7 : decode b_RE_readType 7 = .ok (.getfield 45, 3) := bz_c180 (by decide +kernel)
theorem d_RE_readType_10 : decode b_RE_readType 10 = .ok (.ifCond .eq 19, 3) := bz_c153 (by decide +kernel)
theorem d_RE_readType_13 : decode b_RE_readType 13 = .ok (.iload_n 1, 1) := bz_c27 (by decide +kernel)
theorem d_RE_readType_14 : decode b_RE_readType 14 = .ok (.bipush 127, 2) := bz_c16 (by decide +kernel)
theorem d_RE_readType_16 : decode b_RE_readType 16 = .ok (.if_icmp .eq 9, 3) := bz_c159 (by decide +kernel)
theorem d_RE_readType_19 : decode b_RE_readType 19 = .ok (.iload_n 1, 1) := bz_c27 (by decide +kernel)
theorem d_RE_readType_20 : decode b_RE_readType 20 = .ok (.bipush 126, 2) := bz_c16 (by decide +kernel)
theorem d_RE_readType_22 : decode b_RE_readType 22 = .ok (.if_icmp .ne 7, 3) := bz_c160 (by decide +kernel)
theorem d_RE_readType_25 : decode b_RE_readType 25 = .ok (.iconst 1, 1) := bz_c4 (by decide +kernel)
theorem d_RE_readType_26 : decode b_RE_readType 26 = .ok (.goto 4, 3) := bz_c167 (by decide +kernel)
theorem d_RE_readType_29 : decode b_RE_readType 29 = .ok (.iconst 0, 1) := bz_c3 (by decide +kernel)
theorem d_RE_readType_30 : decode b_RE_readType 30 = .ok (.putfield 45, 3) := bz_c181 (by decide +kernel)
theorem d_RE_readType_33 : decode b_RE_readType 33 = .ok (.iload_n 1, 1) := bz_c27 (by decide +kernel)
theorem d_RE_readType_34 : decode b_RE_readType 34 = .ok (.ireturn, 1) := bz_c172 (by decide +kernel)
set_option maxHeartbeats 4000000 in
set_option maxRecDepth 100000 in
theorem c_RE_readType (l : Launch) (dC : Nat → ClassId) (dI : Nat → Nat → Nat) (h0 aw ac ao ab ax sz : Nat) (cB : ClassId) (n : Nat) (pa lim snd cc oc len : Int32) (f : Nat → Int32) (wf : List Value) (pwf : wf[0]? = some (.ref ab)) (pwl : wf.length = 21) (hs : snd = 0 ∨ snd = 1) (ha : 0 ≤ pa.toInt ∧ pa.toInt ≤ lim.toInt ∧ lim.toInt ≤ len.toInt ∧ len.toInt ≤ n ∧ n < 2147483648)  : Met l y_RE_readType w_RE_readType ({ frames := 1, cells := 0, slots := 0, locals := 20 }) (va_Pc [.ref h0] (fun U => U.heap.size = sz ∧ va_P (dC, dI) cls (wz_1 h0 aw ac pa lim snd cc ao oc aw wf ab ax len ax cB n f) U.heap ∧ va_K (dC, dI) cls [(cB, .byte)] U ∧ va_D (fun _ => True) (wz_1 h0 aw ac pa lim snd cc ao oc aw wf ab ax len ax cB n f))) (va_Qi (fun (r : Int32) (u : Int32 × Int32) => (u.2 = 0 ∨ u.2 = 1) ∧ 0 ≤ r.toInt ∧ r.toInt ≤ 255 ∧ pa.toInt ≤ u.1.toInt ∧ u.1.toInt ≤ lim.toInt ∧ (u.2.toInt = 1 → snd.toInt = 1 ∧ u.1.toInt = pa.toInt + 1 ∧ (r.toInt = 127 ∨ r.toInt = 126) ∧ r.toInt = (bn (f pa.toNatClampNeg) : Nat))) (re_at dC dI h0 aw ac ao ab ax cB n lim cc oc len f wf (va_A (wz_1 h0 aw ac pa lim snd cc ao oc aw wf ab ax len ax cB n f) sz)) (va_A (wz_1 h0 aw ac pa lim snd cc ao oc aw wf ab ax len ax cB n f) sz)) 0 0 (va_A (wz_1 h0 aw ac pa lim snd cc ao oc aw wf ab ax len ax cB n f) sz) := by
  refine Met.ofW (cc := b_RE_readType) (maxL := 2) (ret := (Option.some .int)) (by decide) rfl ?_
  intro p e s m args below meth c s₁ B hml hv
  obtain ⟨rfl, hsz, hP, hK, hD0⟩ := hv
  have hx := B.exec
  have hb := B.bytes
  have hr := B.returns
  have hts0 := atoms_spec (ws := w_RE_readType) B.pre
  have hts : ∀ w ∈ lw_g, w.before _ s = true := fun w h => hts0 w (List.mem_cons_of_mem _ h)
  have hown : s.vm.findClass R_RE = some m.cls := findClass_of_methodNamed B.named
  have hlocks := B.notSynchronized
  clear hts0
  subst hsz
  have hD := hD0.self (sz := s.heap.size)
  generalize hAe : va_A (wz_1 h0 aw ac pa lim snd cc ao oc aw wf ab ax len ax cB n f) s.heap.size = A at hD ⊢
  have hA : ∀ q : Nat, s.heap.size ≤ q → A q := fun q h => by rw [← hAe]; exact Or.inr h
  clear hAe
  have hP : va_P (dC, dI) cls (wz_1 h0 aw ac pa lim snd cc ao oc aw wf ab ax len ax cB n f) s.heap := hP
  have hl := lv_entry ([.ref h0]) (n := 2) (Nat.le_of_ble_eq_true rfl)
  rw [lg_entry_eq]
  generalize (lg_sl ([.ref h0]) ++ List.replicate (2 - (lg_sl ([.ref h0])).length) Slot.unset).toArray = ls at hl ⊢
  have hl : lv_has ls 2 [(0, .ref h0)] := hl
  have k0 : (0 : Int32).toInt = 0 := by decide
  refine w_gen (A := A) hP (fun H locs hP hS => ?_)
  have hs0 := b01 hs
  refine lv_aload_n hx hb d_RE_readType_0 rfl (lv_at hl 0 rfl) ?_
  have hPc := hP.sb (wq := (wz_1 h0 aw ac pa lim snd cc ao oc aw wf ab ax len ax cB n f)) [0, 1, 2, 3] rfl
  have hDc := hD.sb (wq := (wz_1 h0 aw ac pa lim snd cc ao oc aw wf ab ax len ax cB n f)) [0, 1, 2, 3] (by decide) rfl
  have hKc := hK.sb (tyq := [(cB, .byte)]) [0] rfl
  have hFc := va_free (wc := (wz_1 h0 aw ac pa lim snd cc ao oc aw wf ab ax len ax cB n f)) hD hS hA [0, 1, 2, 3] rfl
  refine va_calli (va_runV (As := []) (rest := []) ⟨hx, hb, hml, hown, hts⟩ (c_RE_next l dC dI h0 aw ac ao ab ax H.size cB n pa lim snd cc oc len f wf pwf pwl hs (by (first | (apply Int.le_antisymm <;> omega) | omega)) ) (cwV 0 hts (gV kM_RE_60 kV_RE_next kS_RE_next kI_RE kC_RE_next) rfl rfl rfl (by decide +kernel) ⟨Nat.le_of_ble_eq_true rfl, Nat.le_of_ble_eq_true rfl⟩) ⟨fun a U g mk z => by obtain ⟨z0, z1, zP, zK, zD⟩ := z; exact ⟨z0, z1, zP, va_K.moved (u := U) (U := U.calling g mk a) (Vm.Alike.refl U.vm) zK, zD⟩, va_recv hKc hPc (ci := 7) (q0 := 0) rfl rfl, fun U hU hW => ⟨rfl, by rw [hU], va_P.he hU.symm hPc, va_K.moved hW.alike hKc, hDc.weaken (fun _ _ _ _ => trivial)⟩⟩ rfl rfl hl.1 rfl (lv_room (Nat.le_of_ble_eq_true rfl)) d_RE_readType_1 ⟨(Nat.zero_le _), (Nat.zero_le _)⟩) hS (fun q _ h => hFc q h) hFc (fun r1 u t H1 locs ht hvm hw hB hz1 hk1 hS => ?_)
  obtain ⟨n2, n3⟩ := u
  try dsimp only at hw
  obtain ⟨hsn3, tn2⟩ := hw
  have bsn3 := b01 hsn3
  obtain ⟨hP1, hK1, hD1⟩ := hB
  replace hP1 := va_P.he ht hP1
  obtain ⟨hP, hD⟩ := va_join (wr := []) (w1 := (wz_1 h0 aw ac n2 lim n3 cc ao oc aw wf ab ax len ax cB n f)) hP hD [0, 1, 2, 3] [] rfl rfl (by decide) (by decide) hk1 hFc hP1 hD1
  clear hPc hDc hKc hFc hz1 hk1 hP1 hK1 hD1
  rename Heap => H
  have hP : va_P (dC, dI) cls (wz_1 h0 aw ac n2 lim n3 cc ao oc aw wf ab ax len ax cB n f) H := hP
  have hD : va_D A (wz_1 h0 aw ac n2 lim n3 cc ao oc aw wf ab ax len ax cB n f) := hD
  refine lv_istore_n (lv' := [(1, .int r1), (0, .ref h0)]) hx hb d_RE_readType_4 rfl hl (by decide) rfl (fun ls hl => ?_)
  refine lv_aload_n hx hb d_RE_readType_5 rfl (lv_at hl 1 rfl) ?_
  refine lv_aload_n hx hb d_RE_readType_6 rfl (lv_at hl 1 rfl) ?_
  refine va_get (D := (dC, dI)) (ci := 7) (v := .int n3) (C := R_RE) (T := F_RE) (N := 8) hx hb hts i_RE hown hK hP 0 rfl rfl 4 (by decide) (hts _ kF_RE_45) (fun _ h9 => h9) rfl d_RE_readType_7 ?_
  refine lv_if_eq (tgt := 29) hx hb d_RE_readType_10 (by decide) (fun c10 => ?_) (fun c10 => ?_)
  · have q10 := eqI c10
    refine lv_iconst (v := 0) hx hb d_RE_readType_29 (by decide) ?_
    have k0 : (0 : Int32).toInt = 0 := by decide
    refine va_put (D := (dC, dI)) (ci := 7) (v := .int 0) (ty := .boolean) (C := R_RE) (T := F_RE) (N := 8) hx hb hts i_RE t_RE t_RE_ok n_RE hown hK hP hD hS 0 rfl rfl 4 (by decide) (hts _ kF_RE_45) (fun _ h9 => h9) rfl (by decide +kernel) rfl rfl (Nat.le_of_ble_eq_true rfl) d_RE_readType_30 (fun H locs hP hD hS => ?_)
    have hP : va_P (dC, dI) cls (wz_1 h0 aw ac n2 lim 0 cc ao oc aw wf ab ax len ax cB n f) H := hP
    have hD : va_D A (wz_1 h0 aw ac n2 lim 0 cc ao oc aw wf ab ax len ax cB n f) := hD
    refine lv_iload_n hx hb d_RE_readType_33 rfl (lv_at hl 0 rfl) ?_
    have hP9 := hP.sb (wq := (wz_1 h0 aw ac n2 lim 0 cc ao oc aw wf ab ax len ax cB n f)) [0, 1, 2, 3] rfl
    have hD9 := hD.sb (wq := (wz_1 h0 aw ac n2 lim 0 cc ao oc aw wf ab ax len ax cB n f)) [0, 1, 2, 3] (by decide) rfl
    exact W.iret (v := r1) hx hb hr (fun t ht hW => ⟨⟨r1, (n2, 0), rfl, ⟨(Or.inl rfl), by (try dsimp only); (first | (apply Int.le_antisymm <;> omega) | omega), by (try dsimp only); (first | (apply Int.le_antisymm <;> omega) | omega), by (try dsimp only); (first | (apply Int.le_antisymm <;> omega) | omega), by (try dsimp only); (first | (apply Int.le_antisymm <;> omega) | omega), fun z => ⟨by (try dsimp only at z); (try dsimp only); (first | (apply Int.le_antisymm <;> omega) | omega), by (try dsimp only at z); (try dsimp only); (first | (apply Int.le_antisymm <;> omega) | omega), by (try dsimp only at z); (try dsimp only); (first | (apply Int.le_antisymm <;> omega) | omega), by (try dsimp only at z); (try dsimp only); (first | (apply Int.le_antisymm <;> omega) | omega)⟩⟩, va_P.he ht.symm hP9, va_K.moved hW.alike hK, hD9⟩, hS.F ht⟩) hS.2.2 d_RE_readType_34
  · have q10 := neI c10
    refine lv_iload_n hx hb d_RE_readType_13 rfl (lv_at hl 0 rfl) ?_
    refine lv_bipush (v := 127) hx hb d_RE_readType_14 (by decide) ?_
    have k127 : (127 : Int32).toInt = 127 := by decide
    refine lv_icmp_eq (tgt := 25) hx hb d_RE_readType_16 (by decide) (fun c16 => ?_) (fun c16 => ?_)
    · have q16 := eqI c16
      refine lv_iconst (v := 1) hx hb d_RE_readType_25 (by decide) ?_
      have k1 : (1 : Int32).toInt = 1 := by decide
      refine lv_goto (tgt := 30) hx hb d_RE_readType_26 (by decide) ?_
      refine va_put (D := (dC, dI)) (ci := 7) (v := .int 1) (ty := .boolean) (C := R_RE) (T := F_RE) (N := 8) hx hb hts i_RE t_RE t_RE_ok n_RE hown hK hP hD hS 0 rfl rfl 4 (by decide) (hts _ kF_RE_45) (fun _ h9 => h9) rfl (by decide +kernel) rfl rfl (Nat.le_of_ble_eq_true rfl) d_RE_readType_30 (fun H locs hP hD hS => ?_)
      have hP : va_P (dC, dI) cls (wz_1 h0 aw ac n2 lim 1 cc ao oc aw wf ab ax len ax cB n f) H := hP
      have hD : va_D A (wz_1 h0 aw ac n2 lim 1 cc ao oc aw wf ab ax len ax cB n f) := hD
      refine lv_iload_n hx hb d_RE_readType_33 rfl (lv_at hl 0 rfl) ?_
      have hP9 := hP.sb (wq := (wz_1 h0 aw ac n2 lim 1 cc ao oc aw wf ab ax len ax cB n f)) [0, 1, 2, 3] rfl
      have hD9 := hD.sb (wq := (wz_1 h0 aw ac n2 lim 1 cc ao oc aw wf ab ax len ax cB n f)) [0, 1, 2, 3] (by decide) rfl
      exact W.iret (v := r1) hx hb hr (fun t ht hW => ⟨⟨r1, (n2, 1), rfl, ⟨(Or.inr rfl), by (try dsimp only); (first | (apply Int.le_antisymm <;> omega) | omega), by (try dsimp only); (first | (apply Int.le_antisymm <;> omega) | omega), by (try dsimp only); (first | (apply Int.le_antisymm <;> omega) | omega), by (try dsimp only); (first | (apply Int.le_antisymm <;> omega) | omega), fun z => ⟨by (try dsimp only at z); (try dsimp only); (first | (apply Int.le_antisymm <;> omega) | omega), by (try dsimp only at z); (try dsimp only); (first | (apply Int.le_antisymm <;> omega) | omega), by (try dsimp only at z); (try dsimp only); (first | (apply Int.le_antisymm <;> omega) | omega), by (try dsimp only at z); (try dsimp only); (first | (apply Int.le_antisymm <;> omega) | omega)⟩⟩, va_P.he ht.symm hP9, va_K.moved hW.alike hK, hD9⟩, hS.F ht⟩) hS.2.2 d_RE_readType_34
    · have q16 := neI c16
      refine lv_iload_n hx hb d_RE_readType_19 rfl (lv_at hl 0 rfl) ?_
      refine lv_bipush (v := 126) hx hb d_RE_readType_20 (by decide) ?_
      have k126 : (126 : Int32).toInt = 126 := by decide
      refine lv_icmp_ne (tgt := 29) hx hb d_RE_readType_22 (by decide) (fun c22 => ?_) (fun c22 => ?_)
      · have q22 := neI c22
        refine lv_iconst (v := 0) hx hb d_RE_readType_29 (by decide) ?_
        have k0 : (0 : Int32).toInt = 0 := by decide
        refine va_put (D := (dC, dI)) (ci := 7) (v := .int 0) (ty := .boolean) (C := R_RE) (T := F_RE) (N := 8) hx hb hts i_RE t_RE t_RE_ok n_RE hown hK hP hD hS 0 rfl rfl 4 (by decide) (hts _ kF_RE_45) (fun _ h9 => h9) rfl (by decide +kernel) rfl rfl (Nat.le_of_ble_eq_true rfl) d_RE_readType_30 (fun H locs hP hD hS => ?_)
        have hP : va_P (dC, dI) cls (wz_1 h0 aw ac n2 lim 0 cc ao oc aw wf ab ax len ax cB n f) H := hP
        have hD : va_D A (wz_1 h0 aw ac n2 lim 0 cc ao oc aw wf ab ax len ax cB n f) := hD
        refine lv_iload_n hx hb d_RE_readType_33 rfl (lv_at hl 0 rfl) ?_
        have hP9 := hP.sb (wq := (wz_1 h0 aw ac n2 lim 0 cc ao oc aw wf ab ax len ax cB n f)) [0, 1, 2, 3] rfl
        have hD9 := hD.sb (wq := (wz_1 h0 aw ac n2 lim 0 cc ao oc aw wf ab ax len ax cB n f)) [0, 1, 2, 3] (by decide) rfl
        exact W.iret (v := r1) hx hb hr (fun t ht hW => ⟨⟨r1, (n2, 0), rfl, ⟨(Or.inl rfl), by (try dsimp only); (first | (apply Int.le_antisymm <;> omega) | omega), by (try dsimp only); (first | (apply Int.le_antisymm <;> omega) | omega), by (try dsimp only); (first | (apply Int.le_antisymm <;> omega) | omega), by (try dsimp only); (first | (apply Int.le_antisymm <;> omega) | omega), fun z => ⟨by (try dsimp only at z); (try dsimp only); (first | (apply Int.le_antisymm <;> omega) | omega), by (try dsimp only at z); (try dsimp only); (first | (apply Int.le_antisymm <;> omega) | omega), by (try dsimp only at z); (try dsimp only); (first | (apply Int.le_antisymm <;> omega) | omega), by (try dsimp only at z); (try dsimp only); (first | (apply Int.le_antisymm <;> omega) | omega)⟩⟩, va_P.he ht.symm hP9, va_K.moved hW.alike hK, hD9⟩, hS.F ht⟩) hS.2.2 d_RE_readType_34
      · have q22 := eqI c22
        refine lv_iconst (v := 1) hx hb d_RE_readType_25 (by decide) ?_
        have k1 : (1 : Int32).toInt = 1 := by decide
        refine lv_goto (tgt := 30) hx hb d_RE_readType_26 (by decide) ?_
        refine va_put (D := (dC, dI)) (ci := 7) (v := .int 1) (ty := .boolean) (C := R_RE) (T := F_RE) (N := 8) hx hb hts i_RE t_RE t_RE_ok n_RE hown hK hP hD hS 0 rfl rfl 4 (by decide) (hts _ kF_RE_45) (fun _ h9 => h9) rfl (by decide +kernel) rfl rfl (Nat.le_of_ble_eq_true rfl) d_RE_readType_30 (fun H locs hP hD hS => ?_)
        have hP : va_P (dC, dI) cls (wz_1 h0 aw ac n2 lim 1 cc ao oc aw wf ab ax len ax cB n f) H := hP
        have hD : va_D A (wz_1 h0 aw ac n2 lim 1 cc ao oc aw wf ab ax len ax cB n f) := hD
        refine lv_iload_n hx hb d_RE_readType_33 rfl (lv_at hl 0 rfl) ?_
        have hP9 := hP.sb (wq := (wz_1 h0 aw ac n2 lim 1 cc ao oc aw wf ab ax len ax cB n f)) [0, 1, 2, 3] rfl
        have hD9 := hD.sb (wq := (wz_1 h0 aw ac n2 lim 1 cc ao oc aw wf ab ax len ax cB n f)) [0, 1, 2, 3] (by decide) rfl
        exact W.iret (v := r1) hx hb hr (fun t ht hW => ⟨⟨r1, (n2, 1), rfl, ⟨(Or.inr rfl), by (try dsimp only); (first | (apply Int.le_antisymm <;> omega) | omega), by (try dsimp only); (first | (apply Int.le_antisymm <;> omega) | omega), by (try dsimp only); (first | (apply Int.le_antisymm <;> omega) | omega), by (try dsimp only); (first | (apply Int.le_antisymm <;> omega) | omega), fun z => ⟨by (try dsimp only at z); (try dsimp only); (first | (apply Int.le_antisymm <;> omega) | omega), by (try dsimp only at z); (try dsimp only); (first | (apply Int.le_antisymm <;> omega) | omega), by (try dsimp only at z); (try dsimp only); (first | (apply Int.le_antisymm <;> omega) | omega), by (try dsimp only at z); (try dsimp only); (first | (apply Int.le_antisymm <;> omega) | omega)⟩⟩, va_P.he ht.symm hP9, va_K.moved hW.alike hK, hD9⟩, hS.F ht⟩) hS.2.2 d_RE_readType_34
abbrev b_RE_readFlag : ByteArray := prog_9_method_17_code
def y_RE_readFlag : MethodName := ⟨R_RE, "readFlag", "()I"⟩
abbrev w_RE_readFlag : List Cond := .code y_RE_readFlag b_RE_readFlag 2 (Option.some .int) :: lw_g
theorem kC_RE_readFlag : Cond.code y_RE_readFlag b_RE_readFlag 2 (Option.some .int) ∈ lw_g := in_c6 112 rfl rfl
theorem d_RE_readFlag_0 : decode b_RE_readFlag 0 = .ok (.aload_n 0, 1) := bz_c42 (by decide +kernel)
theorem d_RE_readFlag_1 : decode b_RE_readFlag 1 = .ok (.invokevirtual 60, 3) := bz_c182 (by decide +kernel)
theorem d_RE_readFlag_4 : decode b_RE_readFlag 4 = .ok (.istore_n 1, 1) := bz_c60 (by decide +kernel)
theorem d_RE_readFlag_5 : decode b_RE_readFlag 5 = .ok (.aload_n 0, 1) := bz_c42 (by decide +kernel)
theorem d_RE_readFlag_6 : decode b_RE_readFlag 6 = .ok (.aload_n 0, 1) := bz_c42 (by decide +kernel)
theorem d_RE_readFlag_7 : decode b_RE_readFlag 7 = .ok (.getfield 45, 3) := bz_c180 (by decide +kernel)
theorem d_RE_readFlag_10 : decode b_RE_readFlag 10 = .ok (.ifCond .eq 12, 3) := bz_c153 (by decide +kernel)
theorem d_RE_readFlag_13 : decode b_RE_readFlag 13 = .ok (.iload_n 1, 1) := bz_c27 (by decide +kernel)
theorem d_RE_readFlag_14 : decode b_RE_readFlag 14 = .ok (.iconst 1, 1) := bz_c4 (by decide +kernel)
theorem d_RE_readFlag_15 : decode b_RE_readFlag 15 = .ok (.if_icmp .gt 7, 3) := bz_c163 (by decide +kernel)
theorem d_RE_readFlag_18 : decode b_RE_readFlag 18 = .ok (.iconst 1, 1) := bz_c4 (by decide +kernel)
theorem d_RE_readFlag_19 : decode b_RE_readFlag 19 = .ok (.goto 4, 3) := bz_c167 (by decide +kernel)
theorem d_RE_readFlag_22 : decode b_RE_readFlag 22 = .ok (.iconst 0, 1) := bz_c3 (by decide +kernel)
theorem d_RE_readFlag_23 : decode b_RE_readFlag 23 = .ok (.putfield 45, 3) := bz_c181 (by decide +kernel)
theorem d_RE_readFlag_26 : decode b_RE_readFlag 26 = .ok (.iload_n 1, 1) := bz_c27 (by decide +kernel)
theorem d_RE_readFlag_27 : decode b_RE_readFlag 27 = .ok (.ireturn, 1) := bz_c172 (by decide +kernel)
set_option maxHeartbeats 4000000 in
set_option maxRecDepth 100000 in
theorem c_RE_readFlag (l : Launch) (dC : Nat → ClassId) (dI : Nat → Nat → Nat) (h0 aw ac ao ab ax sz : Nat) (cB : ClassId) (n : Nat) (pa lim snd cc oc len : Int32) (f : Nat → Int32) (wf : List Value) (pwf : wf[0]? = some (.ref ab)) (pwl : wf.length = 21) (hs : snd = 0 ∨ snd = 1) (ha : 0 ≤ pa.toInt ∧ pa.toInt ≤ lim.toInt ∧ lim.toInt ≤ len.toInt ∧ len.toInt ≤ n ∧ n < 2147483648)  : Met l y_RE_readFlag w_RE_readFlag ({ frames := 1, cells := 0, slots := 0, locals := 20 }) (va_Pc [.ref h0] (fun U => U.heap.size = sz ∧ va_P (dC, dI) cls (wz_1 h0 aw ac pa lim snd cc ao oc aw wf ab ax len ax cB n f) U.heap ∧ va_K (dC, dI) cls [(cB, .byte)] U ∧ va_D (fun _ => True) (wz_1 h0 aw ac pa lim snd cc ao oc aw wf ab ax len ax cB n f))) (va_Qi (fun (r : Int32) (u : Int32 × Int32) => (u.2 = 0 ∨ u.2 = 1) ∧ 0 ≤ r.toInt ∧ r.toInt ≤ 255 ∧ pa.toInt ≤ u.1.toInt ∧ u.1.toInt ≤ lim.toInt ∧ (u.2.toInt = 1 → snd.toInt = 1 ∧ u.1.toInt = pa.toInt + 1 ∧ r.toInt ≤ 1 ∧ r.toInt = (bn (f pa.toNatClampNeg) : Nat))) (re_at dC dI h0 aw ac ao ab ax cB n lim cc oc len f wf (va_A (wz_1 h0 aw ac pa lim snd cc ao oc aw wf ab ax len ax cB n f) sz)) (va_A (wz_1 h0 aw ac pa lim snd cc ao oc aw wf ab ax len ax cB n f) sz)) 0 0 (va_A (wz_1 h0 aw ac pa lim snd cc ao oc aw wf ab ax len ax cB n f) sz) := by
  refine Met.ofW (cc := b_RE_readFlag) (maxL := 2) (ret := (Option.some .int)) (by decide) rfl ?_
  intro p e s m args below meth c s₁ B hml hv
  obtain ⟨rfl, hsz, hP, hK, hD0⟩ := hv
  have hx := B.exec
  have hb := B.bytes
  have hr := B.returns
  have hts0 := atoms_spec (ws := w_RE_readFlag) B.pre
  have hts : ∀ w ∈ lw_g, w.before _ s = true := fun w h => hts0 w (List.mem_cons_of_mem _ h)
  have hown : s.vm.findClass R_RE = some m.cls := findClass_of_methodNamed B.named
  have hlocks := B.notSynchronized
  clear hts0
  subst hsz
  have hD := hD0.self (sz := s.heap.size)
  generalize hAe : va_A (wz_1 h0 aw ac pa lim snd cc ao oc aw wf ab ax len ax cB n f) s.heap.size = A at hD ⊢
  have hA : ∀ q : Nat, s.heap.size ≤ q → A q := fun q h => by rw [← hAe]; exact Or.inr h
  clear hAe
  have hP : va_P (dC, dI) cls (wz_1 h0 aw ac pa lim snd cc ao oc aw wf ab ax len ax cB n f) s.heap := hP
  have hl := lv_entry ([.ref h0]) (n := 2) (Nat.le_of_ble_eq_true rfl)
  rw [lg_entry_eq]
  generalize (lg_sl ([.ref h0]) ++ List.replicate (2 - (lg_sl ([.ref h0])).length) Slot.unset).toArray = ls at hl ⊢
  have hl : lv_has ls 2 [(0, .ref h0)] := hl
  have k0 : (0 : Int32).toInt = 0 := by decide
  refine w_gen (A := A) hP (fun H locs hP hS => ?_)
  have hs0 := b01 hs
  refine lv_aload_n hx hb d_RE_readFlag_0 rfl (lv_at hl 0 rfl) ?_
  have hPc := hP.sb (wq := (wz_1 h0 aw ac pa lim snd cc ao oc aw wf ab ax len ax cB n f)) [0, 1, 2, 3] rfl
  have hDc := hD.sb (wq := (wz_1 h0 aw ac pa lim snd cc ao oc aw wf ab ax len ax cB n f)) [0, 1, 2, 3] (by decide) rfl
  have hKc := hK.sb (tyq := [(cB, .byte)]) [0] rfl
  have hFc := va_free (wc := (wz_1 h0 aw ac pa lim snd cc ao oc aw wf ab ax len ax cB n f)) hD hS hA [0, 1, 2, 3] rfl
  refine va_calli (va_runV (As := []) (rest := []) ⟨hx, hb, hml, hown, hts⟩ (c_RE_next l dC dI h0 aw ac ao ab ax H.size cB n pa lim snd cc oc len f wf pwf pwl hs (by (first | (apply Int.le_antisymm <;> omega) | omega)) ) (cwV 0 hts (gV kM_RE_60 kV_RE_next kS_RE_next kI_RE kC_RE_next) rfl rfl rfl (by decide +kernel) ⟨Nat.le_of_ble_eq_true rfl, Nat.le_of_ble_eq_true rfl⟩) ⟨fun a U g mk z => by obtain ⟨z0, z1, zP, zK, zD⟩ := z; exact ⟨z0, z1, zP, va_K.moved (u := U) (U := U.calling g mk a) (Vm.Alike.refl U.vm) zK, zD⟩, va_recv hKc hPc (ci := 7) (q0 := 0) rfl rfl, fun U hU hW => ⟨rfl, by rw [hU], va_P.he hU.symm hPc, va_K.moved hW.alike hKc, hDc.weaken (fun _ _ _ _ => trivial)⟩⟩ rfl rfl hl.1 rfl (lv_room (Nat.le_of_ble_eq_true rfl)) d_RE_readFlag_1 ⟨(Nat.zero_le _), (Nat.zero_le _)⟩) hS (fun q _ h => hFc q h) hFc (fun r1 u t H1 locs ht hvm hw hB hz1 hk1 hS => ?_)
  obtain ⟨n2, n3⟩ := u
  try dsimp only at hw
  obtain ⟨hsn3, tn2⟩ := hw
  have bsn3 := b01 hsn3
  obtain ⟨hP1, hK1, hD1⟩ := hB
  replace hP1 := va_P.he ht hP1
  obtain ⟨hP, hD⟩ := va_join (wr := []) (w1 := (wz_1 h0 aw ac n2 lim n3 cc ao oc aw wf ab ax len ax cB n f)) hP hD [0, 1, 2, 3] [] rfl rfl (by decide) (by decide) hk1 hFc hP1 hD1
  clear hPc hDc hKc hFc hz1 hk1 hP1 hK1 hD1
  rename Heap => H
  have hP : va_P (dC, dI) cls (wz_1 h0 aw ac n2 lim n3 cc ao oc aw wf ab ax len ax cB n f) H := hP
  have hD : va_D A (wz_1 h0 aw ac n2 lim n3 cc ao oc aw wf ab ax len ax cB n f) := hD
  refine lv_istore_n (lv' := [(1, .int r1), (0, .ref h0)]) hx hb d_RE_readFlag_4 rfl hl (by decide) rfl (fun ls hl => ?_)
  refine lv_aload_n hx hb d_RE_readFlag_5 rfl (lv_at hl 1 rfl) ?_
  refine lv_aload_n hx hb d_RE_readFlag_6 rfl (lv_at hl 1 rfl) ?_
  refine va_get (D := (dC, dI)) (ci := 7) (v := .int n3) (C := R_RE) (T := F_RE) (N := 8) hx hb hts i_RE hown hK hP 0 rfl rfl 4 (by decide) (hts _ kF_RE_45) (fun _ h9 => h9) rfl d_RE_readFlag_7 ?_
  refine lv_if_eq (tgt := 22) hx hb d_RE_readFlag_10 (by decide) (fun c10 => ?_) (fun c10 => ?_)
  · have q10 := eqI c10
    refine lv_iconst (v := 0) hx hb d_RE_readFlag_22 (by decide) ?_
    have k0 : (0 : Int32).toInt = 0 := by decide
    refine va_put (D := (dC, dI)) (ci := 7) (v := .int 0) (ty := .boolean) (C := R_RE) (T := F_RE) (N := 8) hx hb hts i_RE t_RE t_RE_ok n_RE hown hK hP hD hS 0 rfl rfl 4 (by decide) (hts _ kF_RE_45) (fun _ h9 => h9) rfl (by decide +kernel) rfl rfl (Nat.le_of_ble_eq_true rfl) d_RE_readFlag_23 (fun H locs hP hD hS => ?_)
    have hP : va_P (dC, dI) cls (wz_1 h0 aw ac n2 lim 0 cc ao oc aw wf ab ax len ax cB n f) H := hP
    have hD : va_D A (wz_1 h0 aw ac n2 lim 0 cc ao oc aw wf ab ax len ax cB n f) := hD
    refine lv_iload_n hx hb d_RE_readFlag_26 rfl (lv_at hl 0 rfl) ?_
    have hP9 := hP.sb (wq := (wz_1 h0 aw ac n2 lim 0 cc ao oc aw wf ab ax len ax cB n f)) [0, 1, 2, 3] rfl
    have hD9 := hD.sb (wq := (wz_1 h0 aw ac n2 lim 0 cc ao oc aw wf ab ax len ax cB n f)) [0, 1, 2, 3] (by decide) rfl
    exact W.iret (v := r1) hx hb hr (fun t ht hW => ⟨⟨r1, (n2, 0), rfl, ⟨(Or.inl rfl), by (try dsimp only); (first | (apply Int.le_antisymm <;> omega) | omega), by (try dsimp only); (first | (apply Int.le_antisymm <;> omega) | omega), by (try dsimp only); (first | (apply Int.le_antisymm <;> omega) | omega), by (try dsimp only); (first | (apply Int.le_antisymm <;> omega) | omega), fun z => ⟨by (try dsimp only at z); (try dsimp only); (first | (apply Int.le_antisymm <;> omega) | omega), by (try dsimp only at z); (try dsimp only); (first | (apply Int.le_antisymm <;> omega) | omega), by (try dsimp only at z); (try dsimp only); (first | (apply Int.le_antisymm <;> omega) | omega), by (try dsimp only at z); (try dsimp only); (first | (apply Int.le_antisymm <;> omega) | omega)⟩⟩, va_P.he ht.symm hP9, va_K.moved hW.alike hK, hD9⟩, hS.F ht⟩) hS.2.2 d_RE_readFlag_27
  · have q10 := neI c10
    refine lv_iload_n hx hb d_RE_readFlag_13 rfl (lv_at hl 0 rfl) ?_
    refine lv_iconst (v := 1) hx hb d_RE_readFlag_14 (by decide) ?_
    have k1 : (1 : Int32).toInt = 1 := by decide
    refine lv_icmp_gt (tgt := 22) hx hb d_RE_readFlag_15 (by decide) (fun c15 => ?_) (fun c15 => ?_)
    · have q15 := ltI c15
      refine lv_iconst (v := 0) hx hb d_RE_readFlag_22 (by decide) ?_
      have k0 : (0 : Int32).toInt = 0 := by decide
      refine va_put (D := (dC, dI)) (ci := 7) (v := .int 0) (ty := .boolean) (C := R_RE) (T := F_RE) (N := 8) hx hb hts i_RE t_RE t_RE_ok n_RE hown hK hP hD hS 0 rfl rfl 4 (by decide) (hts _ kF_RE_45) (fun _ h9 => h9) rfl (by decide +kernel) rfl rfl (Nat.le_of_ble_eq_true rfl) d_RE_readFlag_23 (fun H locs hP hD hS => ?_)
      have hP : va_P (dC, dI) cls (wz_1 h0 aw ac n2 lim 0 cc ao oc aw wf ab ax len ax cB n f) H := hP
      have hD : va_D A (wz_1 h0 aw ac n2 lim 0 cc ao oc aw wf ab ax len ax cB n f) := hD
      refine lv_iload_n hx hb d_RE_readFlag_26 rfl (lv_at hl 0 rfl) ?_
      have hP9 := hP.sb (wq := (wz_1 h0 aw ac n2 lim 0 cc ao oc aw wf ab ax len ax cB n f)) [0, 1, 2, 3] rfl
      have hD9 := hD.sb (wq := (wz_1 h0 aw ac n2 lim 0 cc ao oc aw wf ab ax len ax cB n f)) [0, 1, 2, 3] (by decide) rfl
      exact W.iret (v := r1) hx hb hr (fun t ht hW => ⟨⟨r1, (n2, 0), rfl, ⟨(Or.inl rfl), by (try dsimp only); (first | (apply Int.le_antisymm <;> omega) | omega), by (try dsimp only); (first | (apply Int.le_antisymm <;> omega) | omega), by (try dsimp only); (first | (apply Int.le_antisymm <;> omega) | omega), by (try dsimp only); (first | (apply Int.le_antisymm <;> omega) | omega), fun z => ⟨by (try dsimp only at z); (try dsimp only); (first | (apply Int.le_antisymm <;> omega) | omega), by (try dsimp only at z); (try dsimp only); (first | (apply Int.le_antisymm <;> omega) | omega), by (try dsimp only at z); (try dsimp only); (first | (apply Int.le_antisymm <;> omega) | omega), by (try dsimp only at z); (try dsimp only); (first | (apply Int.le_antisymm <;> omega) | omega)⟩⟩, va_P.he ht.symm hP9, va_K.moved hW.alike hK, hD9⟩, hS.F ht⟩) hS.2.2 d_RE_readFlag_27
    · have q15 := nltI c15
      refine lv_iconst (v := 1) hx hb d_RE_readFlag_18 (by decide) ?_
      have k1 : (1 : Int32).toInt = 1 := by decide
      refine lv_goto (tgt := 23) hx hb d_RE_readFlag_19 (by decide) ?_
      refine va_put (D := (dC, dI)) (ci := 7) (v := .int 1) (ty := .boolean) (C := R_RE) (T := F_RE) (N := 8) hx hb hts i_RE t_RE t_RE_ok n_RE hown hK hP hD hS 0 rfl rfl 4 (by decide) (hts _ kF_RE_45) (fun _ h9 => h9) rfl (by decide +kernel) rfl rfl (Nat.le_of_ble_eq_true rfl) d_RE_readFlag_23 (fun H locs hP hD hS => ?_)
      have hP : va_P (dC, dI) cls (wz_1 h0 aw ac n2 lim 1 cc ao oc aw wf ab ax len ax cB n f) H := hP
      have hD : va_D A (wz_1 h0 aw ac n2 lim 1 cc ao oc aw wf ab ax len ax cB n f) := hD
      refine lv_iload_n hx hb d_RE_readFlag_26 rfl (lv_at hl 0 rfl) ?_
      have hP9 := hP.sb (wq := (wz_1 h0 aw ac n2 lim 1 cc ao oc aw wf ab ax len ax cB n f)) [0, 1, 2, 3] rfl
      have hD9 := hD.sb (wq := (wz_1 h0 aw ac n2 lim 1 cc ao oc aw wf ab ax len ax cB n f)) [0, 1, 2, 3] (by decide) rfl
      exact W.iret (v := r1) hx hb hr (fun t ht hW => ⟨⟨r1, (n2, 1), rfl, ⟨(Or.inr rfl), by (try dsimp only); (first | (apply Int.le_antisymm <;> omega) | omega), by (try dsimp only); (first | (apply Int.le_antisymm <;> omega) | omega), by (try dsimp only); (first | (apply Int.le_antisymm <;> omega) | omega), by (try dsimp only); (first | (apply Int.le_antisymm <;> omega) | omega), fun z => ⟨by (try dsimp only at z); (try dsimp only); (first | (apply Int.le_antisymm <;> omega) | omega), by (try dsimp only at z); (try dsimp only); (first | (apply Int.le_antisymm <;> omega) | omega), by (try dsimp only at z); (try dsimp only); (first | (apply Int.le_antisymm <;> omega) | omega), by (try dsimp only at z); (try dsimp only); (first | (apply Int.le_antisymm <;> omega) | omega)⟩⟩, va_P.he ht.symm hP9, va_K.moved hW.alike hK, hD9⟩, hS.F ht⟩) hS.2.2 d_RE_readFlag_27
abbrev b_RE_expect : ByteArray := prog_9_method_20_code
def y_RE_expect : MethodName := ⟨R_RE, "expect", "(I)V"⟩
abbrev w_RE_expect : List Cond := .code y_RE_expect b_RE_expect 2 none :: lw_g
theorem kC_RE_expect : Cond.code y_RE_expect b_RE_expect 2 none ∈ lw_g := in_c6 80 rfl rfl
theorem d_RE_expect_0 : decode b_RE_expect 0 = .ok (.aload_n 0, 1) := bz_c42 (by decide +kernel)
theorem d_RE_expect_1 : decode b_RE_expect 1 = .ok (.aload_n 0, 1) := bz_c42 (by decide +kernel)
theorem d_RE_expect_2 : decode b_RE_expect 2 = .ok (.invokevirtual 60, 3) := bz_c182 (by decide +kernel)
theorem d_RE_expect_5 : decode b_RE_expect 5 = .ok (.iload_n 1, 1) := bz_c27 (by decide +kernel)
theorem d_RE_expect_6 : decode b_RE_expect 6 = .ok (.if_icmp .ne 14, 3) := bz_c160 (by decide +kernel)
theorem d_RE_expect_9 : decode b_RE_expect 9 = .ok (.aload_n 0, 1) := bz_c42 (by decide +kernel)
theorem d_RE_expect_10 : decode b_RE_expect 10 = .ok (.getfield 45, 3) := bz_c180 (by decide +kernel)
theorem d_RE_expect_13 : decode b_RE_expect 13 = .ok (.ifCond .eq 7, 3) := bz_c153 (by decide +kernel)
theorem d_RE_expect_16 : decode b_RE_expect 16 = .ok (.iconst 1, 1) := bz_c4 (by decide +kernel)
theorem d_RE_expect_17 : decode b_RE_expect 17 = .ok (.goto 4, 3) := bz_c167 (by decide +kernel)
theorem d_RE_expect_20 : decode b_RE_expect 20 = .ok (.iconst 0, 1) := bz_c3 (by decide +kernel)
theorem d_RE_expect_21 : decode b_RE_expect 21 = .ok (.putfield 45, 3) := bz_c181 (by decide +kernel)
theorem d_RE_expect_24 : decode b_RE_expect 24 = .ok (.return_, 1) := bz_c177 (by decide +kernel)
set_option maxHeartbeats 4000000 in
set_option maxRecDepth 100000 in
theorem c_RE_expect (l : Launch) (dC : Nat → ClassId) (dI : Nat → Nat → Nat) (h0 aw ac ao ab ax sz : Nat) (cB : ClassId) (n : Nat) (pa lim snd cc oc len : Int32) (f : Nat → Int32) (wf : List Value) (pwf : wf[0]? = some (.ref ab)) (pwl : wf.length = 21) (hs : snd = 0 ∨ snd = 1) (ha : 0 ≤ pa.toInt ∧ pa.toInt ≤ lim.toInt ∧ lim.toInt ≤ len.toInt ∧ len.toInt ≤ n ∧ n < 2147483648) (p0 : Int32) : Met l y_RE_expect w_RE_expect ({ frames := 1, cells := 0, slots := 0, locals := 20 }) (va_Pc [.ref h0, .int p0] (fun U => U.heap.size = sz ∧ va_P (dC, dI) cls (wz_1 h0 aw ac pa lim snd cc ao oc aw wf ab ax len ax cB n f) U.heap ∧ va_K (dC, dI) cls [(cB, .byte)] U ∧ va_D (fun _ => True) (wz_1 h0 aw ac pa lim snd cc ao oc aw wf ab ax len ax cB n f))) (va_Qv (fun (u : Int32 × Int32) => (u.2 = 0 ∨ u.2 = 1) ∧ pa.toInt ≤ u.1.toInt ∧ u.1.toInt ≤ lim.toInt ∧ (u.2.toInt = 1 → snd.toInt = 1 ∧ u.1.toInt = pa.toInt + 1 ∧ p0.toInt = (bn (f pa.toNatClampNeg) : Nat))) (re_at dC dI h0 aw ac ao ab ax cB n lim cc oc len f wf (va_A (wz_1 h0 aw ac pa lim snd cc ao oc aw wf ab ax len ax cB n f) sz)) (va_A (wz_1 h0 aw ac pa lim snd cc ao oc aw wf ab ax len ax cB n f) sz)) 0 0 (va_A (wz_1 h0 aw ac pa lim snd cc ao oc aw wf ab ax len ax cB n f) sz) := by
  refine Met.ofW (cc := b_RE_expect) (maxL := 2) (ret := none) (by decide) rfl ?_
  intro p e s m args below meth c s₁ B hml hv
  obtain ⟨rfl, hsz, hP, hK, hD0⟩ := hv
  have hx := B.exec
  have hb := B.bytes
  have hr := B.returns
  have hts0 := atoms_spec (ws := w_RE_expect) B.pre
  have hts : ∀ w ∈ lw_g, w.before _ s = true := fun w h => hts0 w (List.mem_cons_of_mem _ h)
  have hown : s.vm.findClass R_RE = some m.cls := findClass_of_methodNamed B.named
  have hlocks := B.notSynchronized
  clear hts0
  subst hsz
  have hD := hD0.self (sz := s.heap.size)
  generalize hAe : va_A (wz_1 h0 aw ac pa lim snd cc ao oc aw wf ab ax len ax cB n f) s.heap.size = A at hD ⊢
  have hA : ∀ q : Nat, s.heap.size ≤ q → A q := fun q h => by rw [← hAe]; exact Or.inr h
  clear hAe
  have hP : va_P (dC, dI) cls (wz_1 h0 aw ac pa lim snd cc ao oc aw wf ab ax len ax cB n f) s.heap := hP
  have hl := lv_entry ([.ref h0, .int p0]) (n := 2) (Nat.le_of_ble_eq_true rfl)
  rw [lg_entry_eq]
  generalize (lg_sl ([.ref h0, .int p0]) ++ List.replicate (2 - (lg_sl ([.ref h0, .int p0])).length) Slot.unset).toArray = ls at hl ⊢
  have hl : lv_has ls 2 [(0, .ref h0), (1, .int p0)] := hl
  have k0 : (0 : Int32).toInt = 0 := by decide
  refine w_gen (A := A) hP (fun H locs hP hS => ?_)
  have lo_p0 := i32_lo p0
  have hi_p0 := i32_hi p0
  have hs0 := b01 hs
  refine lv_aload_n hx hb d_RE_expect_0 rfl (lv_at hl 0 rfl) ?_
  refine lv_aload_n hx hb d_RE_expect_1 rfl (lv_at hl 0 rfl) ?_
  have hPc := hP.sb (wq := (wz_1 h0 aw ac pa lim snd cc ao oc aw wf ab ax len ax cB n f)) [0, 1, 2, 3] rfl
  have hDc := hD.sb (wq := (wz_1 h0 aw ac pa lim snd cc ao oc aw wf ab ax len ax cB n f)) [0, 1, 2, 3] (by decide) rfl
  have hKc := hK.sb (tyq := [(cB, .byte)]) [0] rfl
  have hFc := va_free (wc := (wz_1 h0 aw ac pa lim snd cc ao oc aw wf ab ax len ax cB n f)) hD hS hA [0, 1, 2, 3] rfl
  refine va_calli (va_runV (As := []) (rest := [.ref h0]) ⟨hx, hb, hml, hown, hts⟩ (c_RE_next l dC dI h0 aw ac ao ab ax H.size cB n pa lim snd cc oc len f wf pwf pwl hs (by (first | (apply Int.le_antisymm <;> omega) | omega)) ) (cwV 0 hts (gV kM_RE_60 kV_RE_next kS_RE_next kI_RE kC_RE_next) rfl rfl rfl (by decide +kernel) ⟨Nat.le_of_ble_eq_true rfl, Nat.le_of_ble_eq_true rfl⟩) ⟨fun a U g mk z => by obtain ⟨z0, z1, zP, zK, zD⟩ := z; exact ⟨z0, z1, zP, va_K.moved (u := U) (U := U.calling g mk a) (Vm.Alike.refl U.vm) zK, zD⟩, va_recv hKc hPc (ci := 7) (q0 := 0) rfl rfl, fun U hU hW => ⟨rfl, by rw [hU], va_P.he hU.symm hPc, va_K.moved hW.alike hKc, hDc.weaken (fun _ _ _ _ => trivial)⟩⟩ rfl rfl hl.1 rfl (lv_room (Nat.le_of_ble_eq_true rfl)) d_RE_expect_2 ⟨(Nat.zero_le _), (Nat.zero_le _)⟩) hS (fun q _ h => hFc q h) hFc (fun r1 u t H1 locs ht hvm hw hB hz1 hk1 hS => ?_)
  obtain ⟨n2, n3⟩ := u
  try dsimp only at hw
  obtain ⟨hsn3, tn2⟩ := hw
  have bsn3 := b01 hsn3
  obtain ⟨hP1, hK1, hD1⟩ := hB
  replace hP1 := va_P.he ht hP1
  obtain ⟨hP, hD⟩ := va_join (wr := []) (w1 := (wz_1 h0 aw ac n2 lim n3 cc ao oc aw wf ab ax len ax cB n f)) hP hD [0, 1, 2, 3] [] rfl rfl (by decide) (by decide) hk1 hFc hP1 hD1
  clear hPc hDc hKc hFc hz1 hk1 hP1 hK1 hD1
  rename Heap => H
  have hP : va_P (dC, dI) cls (wz_1 h0 aw ac n2 lim n3 cc ao oc aw wf ab ax len ax cB n f) H := hP
  have hD : va_D A (wz_1 h0 aw ac n2 lim n3 cc ao oc aw wf ab ax len ax cB n f) := hD
  refine lv_iload_n hx hb d_RE_expect_5 rfl (lv_at hl 1 rfl) ?_
  refine lv_icmp_ne (tgt := 20) hx hb d_RE_expect_6 (by decide) (fun c6 => ?_) (fun c6 => ?_)
  · have q6 := neI c6
    refine lv_iconst (v := 0) hx hb d_RE_expect_20 (by decide) ?_
    have k0 : (0 : Int32).toInt = 0 := by decide
    refine va_put (D := (dC, dI)) (ci := 7) (v := .int 0) (ty := .boolean) (C := R_RE) (T := F_RE) (N := 8) hx hb hts i_RE t_RE t_RE_ok n_RE hown hK hP hD hS 0 rfl rfl 4 (by decide) (hts _ kF_RE_45) (fun _ h9 => h9) rfl (by decide +kernel) rfl rfl (Nat.le_of_ble_eq_true rfl) d_RE_expect_21 (fun H locs hP hD hS => ?_)
    have hP : va_P (dC, dI) cls (wz_1 h0 aw ac n2 lim 0 cc ao oc aw wf ab ax len ax cB n f) H := hP
    have hD : va_D A (wz_1 h0 aw ac n2 lim 0 cc ao oc aw wf ab ax len ax cB n f) := hD
    have hP9 := hP.sb (wq := (wz_1 h0 aw ac n2 lim 0 cc ao oc aw wf ab ax len ax cB n f)) [0, 1, 2, 3] rfl
    have hD9 := hD.sb (wq := (wz_1 h0 aw ac n2 lim 0 cc ao oc aw wf ab ax len ax cB n f)) [0, 1, 2, 3] (by decide) rfl
    exact W.vret hx hb hr (fun t ht hW => ⟨⟨(n2, 0), rfl, ⟨(Or.inl rfl), by (try dsimp only); (first | (apply Int.le_antisymm <;> omega) | omega), by (try dsimp only); (first | (apply Int.le_antisymm <;> omega) | omega), fun z => ⟨by (try dsimp only at z); (try dsimp only); (first | (apply Int.le_antisymm <;> omega) | omega), by (try dsimp only at z); (try dsimp only); (first | (apply Int.le_antisymm <;> omega) | omega), by (try dsimp only at z); (try dsimp only); (first | (apply Int.le_antisymm <;> omega) | omega)⟩⟩, va_P.he ht.symm hP9, va_K.moved hW.alike hK, hD9⟩, hS.F ht⟩) hS.2.2 d_RE_expect_24
  · have q6 := eqI c6
    refine lv_aload_n hx hb d_RE_expect_9 rfl (lv_at hl 0 rfl) ?_
    refine va_get (D := (dC, dI)) (ci := 7) (v := .int n3) (C := R_RE) (T := F_RE) (N := 8) hx hb hts i_RE hown hK hP 0 rfl rfl 4 (by decide) (hts _ kF_RE_45) (fun _ h9 => h9) rfl d_RE_expect_10 ?_
    refine lv_if_eq (tgt := 20) hx hb d_RE_expect_13 (by decide) (fun c13 => ?_) (fun c13 => ?_)
    · have q13 := eqI c13
      refine lv_iconst (v := 0) hx hb d_RE_expect_20 (by decide) ?_
      have k0 : (0 : Int32).toInt = 0 := by decide
      refine va_put (D := (dC, dI)) (ci := 7) (v := .int 0) (ty := .boolean) (C := R_RE) (T := F_RE) (N := 8) hx hb hts i_RE t_RE t_RE_ok n_RE hown hK hP hD hS 0 rfl rfl 4 (by decide) (hts _ kF_RE_45) (fun _ h9 => h9) rfl (by decide +kernel) rfl rfl (Nat.le_of_ble_eq_true rfl) d_RE_expect_21 (fun H locs hP hD hS => ?_)
      have hP : va_P (dC, dI) cls (wz_1 h0 aw ac n2 lim 0 cc ao oc aw wf ab ax len ax cB n f) H := hP
      have hD : va_D A (wz_1 h0 aw ac n2 lim 0 cc ao oc aw wf ab ax len ax cB n f) := hD
      have hP9 := hP.sb (wq := (wz_1 h0 aw ac n2 lim 0 cc ao oc aw wf ab ax len ax cB n f)) [0, 1, 2, 3] rfl
      have hD9 := hD.sb (wq := (wz_1 h0 aw ac n2 lim 0 cc ao oc aw wf ab ax len ax cB n f)) [0, 1, 2, 3] (by decide) rfl
      exact W.vret hx hb hr (fun t ht hW => ⟨⟨(n2, 0), rfl, ⟨(Or.inl rfl), by (try dsimp only); (first | (apply Int.le_antisymm <;> omega) | omega), by (try dsimp only); (first | (apply Int.le_antisymm <;> omega) | omega), fun z => ⟨by (try dsimp only at z); (try dsimp only); (first | (apply Int.le_antisymm <;> omega) | omega), by (try dsimp only at z); (try dsimp only); (first | (apply Int.le_antisymm <;> omega) | omega), by (try dsimp only at z); (try dsimp only); (first | (apply Int.le_antisymm <;> omega) | omega)⟩⟩, va_P.he ht.symm hP9, va_K.moved hW.alike hK, hD9⟩, hS.F ht⟩) hS.2.2 d_RE_expect_24
    · have q13 := neI c13
      refine lv_iconst (v := 1) hx hb d_RE_expect_16 (by decide) ?_
      have k1 : (1 : Int32).toInt = 1 := by decide
      refine lv_goto (tgt := 21) hx hb d_RE_expect_17 (by decide) ?_
      refine va_put (D := (dC, dI)) (ci := 7) (v := .int 1) (ty := .boolean) (C := R_RE) (T := F_RE) (N := 8) hx hb hts i_RE t_RE t_RE_ok n_RE hown hK hP hD hS 0 rfl rfl 4 (by decide) (hts _ kF_RE_45) (fun _ h9 => h9) rfl (by decide +kernel) rfl rfl (Nat.le_of_ble_eq_true rfl) d_RE_expect_21 (fun H locs hP hD hS => ?_)
      have hP : va_P (dC, dI) cls (wz_1 h0 aw ac n2 lim 1 cc ao oc aw wf ab ax len ax cB n f) H := hP
      have hD : va_D A (wz_1 h0 aw ac n2 lim 1 cc ao oc aw wf ab ax len ax cB n f) := hD
      have hP9 := hP.sb (wq := (wz_1 h0 aw ac n2 lim 1 cc ao oc aw wf ab ax len ax cB n f)) [0, 1, 2, 3] rfl
      have hD9 := hD.sb (wq := (wz_1 h0 aw ac n2 lim 1 cc ao oc aw wf ab ax len ax cB n f)) [0, 1, 2, 3] (by decide) rfl
      exact W.vret hx hb hr (fun t ht hW => ⟨⟨(n2, 1), rfl, ⟨(Or.inr rfl), by (try dsimp only); (first | (apply Int.le_antisymm <;> omega) | omega), by (try dsimp only); (first | (apply Int.le_antisymm <;> omega) | omega), fun z => ⟨by (try dsimp only at z); (try dsimp only); (first | (apply Int.le_antisymm <;> omega) | omega), by (try dsimp only at z); (try dsimp only); (first | (apply Int.le_antisymm <;> omega) | omega), by (try dsimp only at z); (try dsimp only); (first | (apply Int.le_antisymm <;> omega) | omega)⟩⟩, va_P.he ht.symm hP9, va_K.moved hW.alike hK, hD9⟩, hS.F ht⟩) hS.2.2 d_RE_expect_24
abbrev b_RE_readSigned : ByteArray := prog_9_method_19_code
def y_RE_readSigned : MethodName := ⟨R_RE, "readSigned", "(I)J"⟩
abbrev w_RE_readSigned : List Cond := .code y_RE_readSigned b_RE_readSigned 8 (Option.some .long) :: lw_g
theorem kC_RE_readSigned : Cond.code y_RE_readSigned b_RE_readSigned 8 (Option.some .long) ∈ lw_g := in_c6 122 rfl rfl
theorem d_RE_readSigned_0 : decode b_RE_readSigned 0 = .ok (.lconst 0, 1) := bz_c9 (by decide +kernel)
theorem d_RE_readSigned_1 : decode b_RE_readSigned 1 = .ok (.lstore_n 2, 1) := bz_c65 (by decide +kernel)
theorem d_RE_readSigned_2 : decode b_RE_readSigned 2 = .ok (.iconst 0, 1) := bz_c3 (by decide +kernel)
theorem d_RE_readSigned_3 : decode b_RE_readSigned 3 = .ok (.istore 4, 2) := bz_c54 (by decide +kernel)
theorem d_RE_readSigned_5 : decode b_RE_readSigned 5 = .ok (.iload 4, 2) := bz_c21 (by decide +kernel)
theorem d_RE_readSigned_7 : decode b_RE_readSigned 7 = .ok (.iload_n 1, 1) := bz_c27 (by decide +kernel)
theorem d_RE_readSigned_8 : decode b_RE_readSigned 8 = .ok (.if_icmp .ge 127, 3) := bz_c162 (by decide +kernel)
theorem d_RE_readSigned_11 : decode b_RE_readSigned 11 = .ok (.aload_n 0, 1) := bz_c42 (by decide +kernel)
theorem d_RE_readSigned_12 : decode b_RE_readSigned 12 = .ok (.invokevirtual 60, 3) := bz_c182 (by decide +kernel)
theorem d_RE_readSigned_15 : decode b_RE_readSigned 15 = .ok (.istore 5, 2) := bz_c54 (by decide +kernel)
theorem d_RE_readSigned_17 : decode b_RE_readSigned 17 = .ok (.lload_n 2, 1) := bz_c32 (by decide +kernel)
theorem d_RE_readSigned_18 : decode b_RE_readSigned 18 = .ok (.iload 5, 2) := bz_c21 (by decide +kernel)
theorem d_RE_readSigned_20 : decode b_RE_readSigned 20 = .ok (.bipush 127, 2) := bz_c16 (by decide +kernel)
theorem d_RE_readSigned_22 : decode b_RE_readSigned 22 = .ok (.iand, 1) := bz_c126 (by decide +kernel)
theorem d_RE_readSigned_23 : decode b_RE_readSigned 23 = .ok (.i2l, 1) := bz_c133 (by decide +kernel)
theorem d_RE_readSigned_24 : decode b_RE_readSigned 24 = .ok (.iload 4, 2) := bz_c21 (by decide +kernel)
theorem d_RE_readSigned_26 : decode b_RE_readSigned 26 = .ok (.lshl, 1) := bz_c121 (by decide +kernel)
theorem d_RE_readSigned_27 : decode b_RE_readSigned 27 = .ok (.lor, 1) := bz_c129 (by decide +kernel)
theorem d_RE_readSigned_28 : decode b_RE_readSigned 28 = .ok (.lstore_n 2, 1) := bz_c65 (by decide +kernel)
theorem d_RE_readSigned_29 : decode b_RE_readSigned 29 = .ok (.iload 5, 2) := bz_c21 (by decide +kernel)
theorem d_RE_readSigned_31 : decode b_RE_readSigned 31 = .ok (.sipush 128, 3) := bz_c17 (by decide +kernel)
theorem d_RE_readSigned_34 : decode b_RE_readSigned 34 = .ok (.if_icmp .ge 95, 3) := bz_c162 (by decide +kernel)
theorem d_RE_readSigned_37 : decode b_RE_readSigned 37 = .ok (.iload 5, 2) := bz_c21 (by decide +kernel)
theorem d_RE_readSigned_39 : decode b_RE_readSigned 39 = .ok (.bipush 25, 2) := bz_c16 (by decide +kernel)
theorem d_RE_readSigned_41 : decode b_RE_readSigned 41 = .ok (.ishl, 1) := by decide +kernel
theorem d_RE_readSigned_42 : decode b_RE_readSigned 42 = .ok (.bipush 25, 2) := bz_c16 (by decide +kernel)
theorem d_RE_readSigned_44 : decode b_RE_readSigned 44 = .ok (.ishr, 1) := by decide +kernel
theorem d_RE_readSigned_45 : decode b_RE_readSigned 45 = .ok (.istore 6, 2) := bz_c54 (by decide +kernel)
theorem d_RE_readSigned_47 : decode b_RE_readSigned 47 = .ok (.iload_n 1, 1) := bz_c27 (by decide +kernel)
theorem d_RE_readSigned_48 : decode b_RE_readSigned 48 = .ok (.iload 4, 2) := bz_c21 (by decide +kernel)
theorem d_RE_readSigned_50 : decode b_RE_readSigned 50 = .ok (.isub, 1) := bz_c100 (by decide +kernel)
theorem d_RE_readSigned_51 : decode b_RE_readSigned 51 = .ok (.bipush 7, 2) := bz_c16 (by decide +kernel)
theorem d_RE_readSigned_53 : decode b_RE_readSigned 53 = .ok (.if_icmp .le 7, 3) := bz_c164 (by decide +kernel)
theorem d_RE_readSigned_56 : decode b_RE_readSigned 56 = .ok (.iconst 0, 1) := bz_c3 (by decide +kernel)
theorem d_RE_readSigned_57 : decode b_RE_readSigned 57 = .ok (.goto 12, 3) := bz_c167 (by decide +kernel)
theorem d_RE_readSigned_60 : decode b_RE_readSigned 60 = .ok (.iload 6, 2) := bz_c21 (by decide +kernel)
theorem d_RE_readSigned_62 : decode b_RE_readSigned 62 = .ok (.iload_n 1, 1) := bz_c27 (by decide +kernel)
theorem d_RE_readSigned_63 : decode b_RE_readSigned 63 = .ok (.iload 4, 2) := bz_c21 (by decide +kernel)
theorem d_RE_readSigned_65 : decode b_RE_readSigned 65 = .ok (.isub, 1) := bz_c100 (by decide +kernel)
theorem d_RE_readSigned_66 : decode b_RE_readSigned 66 = .ok (.iconst 1, 1) := bz_c4 (by decide +kernel)
theorem d_RE_readSigned_67 : decode b_RE_readSigned 67 = .ok (.isub, 1) := bz_c100 (by decide +kernel)
theorem d_RE_readSigned_68 : decode b_RE_readSigned 68 = .ok (.ishr, 1) := by decide +kernel
theorem d_RE_readSigned_69 : decode b_RE_readSigned 69 = .ok (.istore 7, 2) := bz_c54 (by decide +kernel)
theorem d_RE_readSigned_71 : decode b_RE_readSigned 71 = .ok (.aload_n 0, 1) := bz_c42 (by decide +kernel)
theorem d_RE_readSigned_72 : decode b_RE_readSigned 72 = .ok (.aload_n 0, 1) := bz_c42 (by decide +kernel)
theorem d_RE_readSigned_73 : decode b_RE_readSigned 73 = .ok (.getfield 45, 3) := bz_c180 (by decide +kernel)
theorem d_RE_readSigned_76 : decode b_RE_readSigned 76 = .ok (.ifCond .eq 18, 3) := bz_c153 (by decide +kernel)
theorem d_RE_readSigned_79 : decode b_RE_readSigned 79 = .ok (.iload 7, 2) := bz_c21 (by decide +kernel)
theorem d_RE_readSigned_81 : decode b_RE_readSigned 81 = .ok (.ifCond .eq 9, 3) := bz_c153 (by decide +kernel)
theorem d_RE_readSigned_84 : decode b_RE_readSigned 84 = .ok (.iload 7, 2) := bz_c21 (by decide +kernel)
theorem d_RE_readSigned_86 : decode b_RE_readSigned 86 = .ok (.iconst (-1), 1) := bz_c2 (by decide +kernel)
theorem d_RE_readSigned_87 : decode b_RE_readSigned 87 = .ok (.if_icmp .ne 7, 3) := bz_c160 (by decide +kernel)
theorem d_RE_readSigned_90 : decode b_RE_readSigned 90 = .ok (.iconst 1, 1) := bz_c4 (by decide +kernel)
theorem d_RE_readSigned_91 : decode b_RE_readSigned 91 = .ok (.goto 4, 3) := bz_c167 (by decide +kernel)
theorem d_RE_readSigned_94 : decode b_RE_readSigned 94 = .ok (.iconst 0, 1) := bz_c3 (by decide +kernel)
theorem d_RE_readSigned_95 : decode b_RE_readSigned 95 = .ok (.putfield 45, 3) := bz_c181 (by decide +kernel)
theorem d_RE_readSigned_98 : decode b_RE_readSigned 98 = .ok (.iload 4, 2) := bz_c21 (by decide +kernel)
theorem d_RE_readSigned_100 : decode b_RE_readSigned 100 = .ok (.bipush 7, 2) := bz_c16 (by decide +kernel)
theorem d_RE_readSigned_102 : decode b_RE_readSigned 102 = .ok (.iadd, 1) := bz_c96 (by decide +kernel)
theorem d_RE_readSigned_103 : decode b_RE_readSigned 103 = .ok (.bipush 64, 2) := bz_c16 (by decide +kernel)
theorem d_RE_readSigned_105 : decode b_RE_readSigned 105 = .ok (.if_icmp .ge 22, 3) := bz_c162 (by decide +kernel)
theorem d_RE_readSigned_108 : decode b_RE_readSigned 108 = .ok (.iload 6, 2) := bz_c21 (by decide +kernel)
theorem d_RE_readSigned_110 : decode b_RE_readSigned 110 = .ok (.ifCond .ge 17, 3) := bz_c156 (by decide +kernel)
theorem d_RE_readSigned_113 : decode b_RE_readSigned 113 = .ok (.lload_n 2, 1) := bz_c32 (by decide +kernel)
theorem d_RE_readSigned_114 : decode b_RE_readSigned 114 = .ok (.ldc2_w 127, 3) := bz_c20 (by decide +kernel)
theorem d_RE_readSigned_117 : decode b_RE_readSigned 117 = .ok (.iload 4, 2) := bz_c21 (by decide +kernel)
theorem d_RE_readSigned_119 : decode b_RE_readSigned 119 = .ok (.bipush 7, 2) := bz_c16 (by decide +kernel)
theorem d_RE_readSigned_121 : decode b_RE_readSigned 121 = .ok (.iadd, 1) := bz_c96 (by decide +kernel)
theorem d_RE_readSigned_122 : decode b_RE_readSigned 122 = .ok (.lshl, 1) := bz_c121 (by decide +kernel)
theorem d_RE_readSigned_123 : decode b_RE_readSigned 123 = .ok (.lor, 1) := bz_c129 (by decide +kernel)
theorem d_RE_readSigned_124 : decode b_RE_readSigned 124 = .ok (.goto 4, 3) := bz_c167 (by decide +kernel)
theorem d_RE_readSigned_127 : decode b_RE_readSigned 127 = .ok (.lload_n 2, 1) := bz_c32 (by decide +kernel)
theorem d_RE_readSigned_128 : decode b_RE_readSigned 128 = .ok (.lreturn, 1) := bz_c173 (by decide +kernel)
theorem d_RE_readSigned_129 : decode b_RE_readSigned 129 = .ok (.iinc 4 7, 3) := by decide +kernel
theorem d_RE_readSigned_132 : decode b_RE_readSigned 132 = .ok (.goto (-127), 3) := bz_c167 (by decide +kernel)
theorem d_RE_readSigned_135 : decode b_RE_readSigned 135 = .ok (.aload_n 0, 1) := bz_c42 (by decide +kernel)
theorem d_RE_readSigned_136 : decode b_RE_readSigned 136 = .ok (.iconst 0, 1) := bz_c3 (by decide +kernel)
theorem d_RE_readSigned_137 : decode b_RE_readSigned 137 = .ok (.putfield 45, 3) := bz_c181 (by decide +kernel)
theorem d_RE_readSigned_140 : decode b_RE_readSigned 140 = .ok (.lconst 0, 1) := bz_c9 (by decide +kernel)
theorem d_RE_readSigned_141 : decode b_RE_readSigned 141 = .ok (.lreturn, 1) := bz_c173 (by decide +kernel)
theorem kL_RE_127 : Cond.constantLong R_RE 127 (-1) ∈ lw_g := in_c6 114 rfl rfl
set_option maxHeartbeats 4000000 in
set_option maxRecDepth 100000 in
theorem c_RE_readSigned (l : Launch) (dC : Nat → ClassId) (dI : Nat → Nat → Nat) (h0 aw ac ao ab ax sz : Nat) (cB : ClassId) (n : Nat) (pa lim snd cc oc len : Int32) (f : Nat → Int32) (wf : List Value) (pwf : wf[0]? = some (.ref ab)) (pwl : wf.length = 21) (hs : snd = 0 ∨ snd = 1) (ha : 0 ≤ pa.toInt ∧ pa.toInt ≤ lim.toInt ∧ lim.toInt ≤ len.toInt ∧ len.toInt ≤ n ∧ n < 2147483648) (p0 : Int32) (hm : 0 ≤ p0.toInt ∧ p0.toInt ≤ 64) : Met l y_RE_readSigned w_RE_readSigned ({ frames := 1, cells := 0, slots := 0, locals := 20 }) (va_Pc [.ref h0, .int p0] (fun U => U.heap.size = sz ∧ va_P (dC, dI) cls (wz_1 h0 aw ac pa lim snd cc ao oc aw wf ab ax len ax cB n f) U.heap ∧ va_K (dC, dI) cls [(cB, .byte)] U ∧ va_D (fun _ => True) (wz_1 h0 aw ac pa lim snd cc ao oc aw wf ab ax len ax cB n f))) (va_Ql (fun (r : Int64) (u : Int32 × Int32) => (u.2 = 0 ∨ u.2 = 1) ∧ pa.toInt ≤ u.1.toInt ∧ u.1.toInt ≤ lim.toInt ∧ (u.2.toInt = 1 → snd.toInt = 1 ∧ pa.toInt < u.1.toInt)) (re_at dC dI h0 aw ac ao ab ax cB n lim cc oc len f wf (va_A (wz_1 h0 aw ac pa lim snd cc ao oc aw wf ab ax len ax cB n f) sz)) (va_A (wz_1 h0 aw ac pa lim snd cc ao oc aw wf ab ax len ax cB n f) sz)) 0 0 (va_A (wz_1 h0 aw ac pa lim snd cc ao oc aw wf ab ax len ax cB n f) sz) := by
  refine Met.ofW (cc := b_RE_readSigned) (maxL := 8) (ret := (Option.some .long)) (by decide) rfl ?_
  intro p e s m args below meth c s₁ B hml hv
  obtain ⟨rfl, hsz, hP, hK, hD0⟩ := hv
  have hx := B.exec
  have hb := B.bytes
  have hr := B.returns
  have hts0 := atoms_spec (ws := w_RE_readSigned) B.pre
  have hts : ∀ w ∈ lw_g, w.before _ s = true := fun w h => hts0 w (List.mem_cons_of_mem _ h)
  have hown : s.vm.findClass R_RE = some m.cls := findClass_of_methodNamed B.named
  have hlocks := B.notSynchronized
  clear hts0
  subst hsz
  have hD := hD0.self (sz := s.heap.size)
  generalize hAe : va_A (wz_1 h0 aw ac pa lim snd cc ao oc aw wf ab ax len ax cB n f) s.heap.size = A at hD ⊢
  have hA : ∀ q : Nat, s.heap.size ≤ q → A q := fun q h => by rw [← hAe]; exact Or.inr h
  clear hAe
  have hP : va_P (dC, dI) cls (wz_1 h0 aw ac pa lim snd cc ao oc aw wf ab ax len ax cB n f) s.heap := hP
  have hl := lv_entry ([.ref h0, .int p0]) (n := 8) (Nat.le_of_ble_eq_true rfl)
  rw [lg_entry_eq]
  generalize (lg_sl ([.ref h0, .int p0]) ++ List.replicate (8 - (lg_sl ([.ref h0, .int p0])).length) Slot.unset).toArray = ls at hl ⊢
  have hl : lv_has ls 8 [(0, .ref h0), (1, .int p0)] := hl
  have k0 : (0 : Int32).toInt = 0 := by decide
  refine w_gen (A := A) hP (fun H locs hP hS => ?_)
  have lo_p0 := i32_lo p0
  have hi_p0 := i32_hi p0
  have hs0 := b01 hs
  refine lv_lconst (v := 0) hx hb d_RE_readSigned_0 (by decide) ?_
  have kl0 : (0 : Int64).toInt = 0 := by decide
  refine lv_lstore_n (lv' := [(2, .long 0), (0, .ref h0), (1, .int p0)]) hx hb d_RE_readSigned_1 rfl hl (by decide) rfl (fun ls hl => ?_)
  refine lv_iconst (v := 0) hx hb d_RE_readSigned_2 (by decide) ?_
  refine lv_topi (fun x1 ex1 => ?_)
  have tx1 : x1.toInt = 0 := by rw [ex1]; decide
  refine lv_istore (lv' := [(4, .int x1), (2, .long 0), (0, .ref h0), (1, .int p0)]) hx hb d_RE_readSigned_3 hl (by decide) rfl (fun ls hl => ?_)
  refine w_loop (σ := Int64 × Int32 × Int32 × Int32) (fun u H locs ls => match u with | (v, i, a, sd) => (0 ≤ i.toInt ∧ i.toInt ≤ 70) ∧ (pa.toInt ≤ a.toInt ∧ a.toInt ≤ lim.toInt) ∧ (sd = 0 ∨ sd = 1) ∧ (sd.toInt = 1 → snd.toInt = 1 ∧ (0 < i.toInt → pa.toInt < a.toInt)) ∧ va_P (dC, dI) cls (wz_1 h0 aw ac a lim sd cc ao oc aw wf ab ax len ax cB n f) H ∧ va_D A (wz_1 h0 aw ac a lim sd cc ao oc aw wf ab ax len ax cB n f) ∧ va_S A s.heap H locs ∧ lv_has ls 8 [(4, .int i), (2, .long v), (0, .ref h0), (1, .int p0)]) (fun u => match u with | (v, i, a, sd) => (p0.toInt - i.toInt).toNat) ?_ (0, x1, pa, snd) ⟨by (first | (apply Int.le_antisymm <;> omega) | omega), by (first | (apply Int.le_antisymm <;> omega) | omega), hs, by (first | (apply Int.le_antisymm <;> omega) | omega), hP, hD, hS, lv_sub hl [0, 1, 2, 3] rfl⟩
  intro N ih u H locs ls hN hI
  obtain ⟨v, i, a, sd⟩ := u
  obtain ⟨v1, v3, v4, v5, hP, hD, hS, hl⟩ := hI
  have hN : (p0.toInt - i.toInt).toNat < N + 1 := hN
  have bv4 := b01 v4
  refine lv_iload hx hb d_RE_readSigned_5 (lv_at hl 0 rfl) ?_
  refine lv_iload_n hx hb d_RE_readSigned_7 rfl (lv_at hl 3 rfl) ?_
  refine lv_icmp_ge (tgt := 135) hx hb d_RE_readSigned_8 (by decide) (fun c8 => ?_) (fun c8 => ?_)
  · have q8 := leI c8
    refine lv_aload_n hx hb d_RE_readSigned_135 rfl (lv_at hl 2 rfl) ?_
    refine lv_iconst (v := 0) hx hb d_RE_readSigned_136 (by decide) ?_
    have k0 : (0 : Int32).toInt = 0 := by decide
    refine va_put (D := (dC, dI)) (ci := 7) (v := .int 0) (ty := .boolean) (C := R_RE) (T := F_RE) (N := 8) hx hb hts i_RE t_RE t_RE_ok n_RE hown hK hP hD hS 0 rfl rfl 4 (by decide) (hts _ kF_RE_45) (fun _ h9 => h9) rfl (by decide +kernel) rfl rfl (Nat.le_of_ble_eq_true rfl) d_RE_readSigned_137 (fun H locs hP hD hS => ?_)
    have hP : va_P (dC, dI) cls (wz_1 h0 aw ac a lim 0 cc ao oc aw wf ab ax len ax cB n f) H := hP
    have hD : va_D A (wz_1 h0 aw ac a lim 0 cc ao oc aw wf ab ax len ax cB n f) := hD
    refine lv_lconst (v := 0) hx hb d_RE_readSigned_140 (by decide) ?_
    have kl0 : (0 : Int64).toInt = 0 := by decide
    have hP9 := hP.sb (wq := (wz_1 h0 aw ac a lim 0 cc ao oc aw wf ab ax len ax cB n f)) [0, 1, 2, 3] rfl
    have hD9 := hD.sb (wq := (wz_1 h0 aw ac a lim 0 cc ao oc aw wf ab ax len ax cB n f)) [0, 1, 2, 3] (by decide) rfl
    exact W.lret (v := 0) hx hb hr (fun t ht hW => ⟨⟨0, (a, 0), rfl, ⟨(Or.inl rfl), by (try dsimp only); (first | (apply Int.le_antisymm <;> omega) | omega), by (try dsimp only); (first | (apply Int.le_antisymm <;> omega) | omega), fun z => ⟨by (try dsimp only at z); (try dsimp only); (first | (apply Int.le_antisymm <;> omega) | omega), by (try dsimp only at z); (try dsimp only); (first | (apply Int.le_antisymm <;> omega) | omega)⟩⟩, va_P.he ht.symm hP9, va_K.moved hW.alike hK, hD9⟩, hS.F ht⟩) hS.2.2 d_RE_readSigned_141
  · have q8 := nleI c8
    refine lv_aload_n hx hb d_RE_readSigned_11 rfl (lv_at hl 2 rfl) ?_
    have hPc := hP.sb (wq := (wz_1 h0 aw ac a lim sd cc ao oc aw wf ab ax len ax cB n f)) [0, 1, 2, 3] rfl
    have hDc := hD.sb (wq := (wz_1 h0 aw ac a lim sd cc ao oc aw wf ab ax len ax cB n f)) [0, 1, 2, 3] (by decide) rfl
    have hKc := hK.sb (tyq := [(cB, .byte)]) [0] rfl
    have hFc := va_free (wc := (wz_1 h0 aw ac a lim sd cc ao oc aw wf ab ax len ax cB n f)) hD hS hA [0, 1, 2, 3] rfl
    refine va_calli (va_runV (As := []) (rest := []) ⟨hx, hb, hml, hown, hts⟩ (c_RE_next l dC dI h0 aw ac ao ab ax H.size cB n a lim sd cc oc len f wf pwf pwl v4 (by (first | (apply Int.le_antisymm <;> omega) | omega)) ) (cwV 0 hts (gV kM_RE_60 kV_RE_next kS_RE_next kI_RE kC_RE_next) rfl rfl rfl (by decide +kernel) ⟨Nat.le_of_ble_eq_true rfl, Nat.le_of_ble_eq_true rfl⟩) ⟨fun a U g mk z => by obtain ⟨z0, z1, zP, zK, zD⟩ := z; exact ⟨z0, z1, zP, va_K.moved (u := U) (U := U.calling g mk a) (Vm.Alike.refl U.vm) zK, zD⟩, va_recv hKc hPc (ci := 7) (q0 := 0) rfl rfl, fun U hU hW => ⟨rfl, by rw [hU], va_P.he hU.symm hPc, va_K.moved hW.alike hKc, hDc.weaken (fun _ _ _ _ => trivial)⟩⟩ rfl rfl hl.1 rfl (lv_room (Nat.le_of_ble_eq_true rfl)) d_RE_readSigned_12 ⟨(Nat.zero_le _), (Nat.zero_le _)⟩) hS (fun q _ h => hFc q h) hFc (fun r2 u t H1 locs ht hvm hw hB hz1 hk1 hS => ?_)
    obtain ⟨n3, n4⟩ := u
    try dsimp only at hw
    obtain ⟨hsn4, tn3⟩ := hw
    have bsn4 := b01 hsn4
    obtain ⟨hP1, hK1, hD1⟩ := hB
    replace hP1 := va_P.he ht hP1
    obtain ⟨hP, hD⟩ := va_join (wr := []) (w1 := (wz_1 h0 aw ac n3 lim n4 cc ao oc aw wf ab ax len ax cB n f)) hP hD [0, 1, 2, 3] [] rfl rfl (by decide) (by decide) hk1 hFc hP1 hD1
    clear hPc hDc hKc hFc hz1 hk1 hP1 hK1 hD1
    rename Heap => H
    have hP : va_P (dC, dI) cls (wz_1 h0 aw ac n3 lim n4 cc ao oc aw wf ab ax len ax cB n f) H := hP
    have hD : va_D A (wz_1 h0 aw ac n3 lim n4 cc ao oc aw wf ab ax len ax cB n f) := hD
    refine lv_istore (lv' := [(5, .int r2), (4, .int i), (2, .long v), (0, .ref h0), (1, .int p0)]) hx hb d_RE_readSigned_15 hl (by decide) rfl (fun ls hl => ?_)
    refine lv_lload_n hx hb d_RE_readSigned_17 rfl (lv_at hl 2 rfl) ?_
    refine lv_iload hx hb d_RE_readSigned_18 (lv_at hl 0 rfl) ?_
    refine lv_bipush (v := 127) hx hb d_RE_readSigned_20 (by decide) ?_
    have k127 : (127 : Int32).toInt = 127 := by decide
    refine lv_iand hx hb d_RE_readSigned_22 ?_
    refine lv_topi (fun x5 ex5 => ?_)
    refine lv_i2l hx hb d_RE_readSigned_23 rfl ?_
    refine lv_topl (fun x6 ex6 => ?_)
    have tx6 := i2l_t ex6
    refine lv_iload hx hb d_RE_readSigned_24 (lv_at hl 1 rfl) ?_
    refine lv_lshl hx hb d_RE_readSigned_26 rfl ?_
    refine lv_topl (fun x7 ex7 => ?_)
    refine lv_lor hx hb d_RE_readSigned_27 ?_
    refine lv_topl (fun x8 ex8 => ?_)
    refine lv_lstore_n (lv' := [(2, .long x8), (5, .int r2), (4, .int i), (0, .ref h0), (1, .int p0)]) hx hb d_RE_readSigned_28 rfl hl (by decide) rfl (fun ls hl => ?_)
    refine lv_iload hx hb d_RE_readSigned_29 (lv_at hl 1 rfl) ?_
    refine lv_sipush (v := 128) hx hb d_RE_readSigned_31 (by decide) ?_
    have k128 : (128 : Int32).toInt = 128 := by decide
    refine lv_icmp_ge (tgt := 129) hx hb d_RE_readSigned_34 (by decide) (fun c34 => ?_) (fun c34 => ?_)
    · have q34 := leI c34
      obtain ⟨x9, ex9⟩ : ∃ z : Int32, z = i + 7 := ⟨_, rfl⟩
      have k7 : (7 : Int32).toInt = 7 := by decide
      have tx9 : x9.toInt = i.toInt + 7 := by have z := i32_add ex9 (by (first | (apply Int.le_antisymm <;> omega) | omega)) (by (first | (apply Int.le_antisymm <;> omega) | omega)); first | exact z | (first | (apply Int.le_antisymm <;> omega) | omega)
      refine lv_iinc (v := x9) (lv' := [(4, .int x9), (2, .long x8), (5, .int r2), (0, .ref h0), (1, .int p0)]) hx hb d_RE_readSigned_129 hl (k := 2) rfl (by rw [ex9]; rfl) (by decide) rfl (fun ls hl => ?_)
      refine lv_goto (tgt := 5) hx hb d_RE_readSigned_132 (by decide) ?_
      skip
      exact ih (x8, x9, n3, n4) _ _ _ (by show (p0.toInt - x9.toInt).toNat < N; (first | (apply Int.le_antisymm <;> omega) | omega)) ⟨by (first | (apply Int.le_antisymm <;> omega) | omega), by (first | (apply Int.le_antisymm <;> omega) | omega), hsn4, by (first | (apply Int.le_antisymm <;> omega) | omega), hP, hD, hS, lv_sub hl [0, 1, 3, 4] rfl⟩
    · have q34 := nleI c34
      refine lv_iload hx hb d_RE_readSigned_37 (lv_at hl 1 rfl) ?_
      refine lv_bipush (v := 25) hx hb d_RE_readSigned_39 (by decide) ?_
      have k25 : (25 : Int32).toInt = 25 := by decide
      refine lv_ishl hx hb d_RE_readSigned_41 ?_
      refine lv_topi (fun x10 ex10 => ?_)
      refine lv_bipush (v := 25) hx hb d_RE_readSigned_42 (by decide) ?_
      have k25 : (25 : Int32).toInt = 25 := by decide
      refine lv_ishr hx hb d_RE_readSigned_44 ?_
      refine lv_topi (fun x11 ex11 => ?_)
      refine lv_istore (lv' := [(6, .int x11), (2, .long x8), (5, .int r2), (4, .int i), (0, .ref h0), (1, .int p0)]) hx hb d_RE_readSigned_45 hl (by decide) rfl (fun ls hl => ?_)
      refine lv_iload_n hx hb d_RE_readSigned_47 rfl (lv_at hl 5 rfl) ?_
      refine lv_iload hx hb d_RE_readSigned_48 (lv_at hl 3 rfl) ?_
      refine lv_isub hx hb d_RE_readSigned_50 ?_
      refine lv_topi (fun x12 ex12 => ?_)
      have tx12 : x12.toInt = p0.toInt - i.toInt := by have z := i32_sub ex12 (by (first | (apply Int.le_antisymm <;> omega) | omega)) (by (first | (apply Int.le_antisymm <;> omega) | omega)); first | exact z | (first | (apply Int.le_antisymm <;> omega) | omega)
      refine lv_bipush (v := 7) hx hb d_RE_readSigned_51 (by decide) ?_
      have k7 : (7 : Int32).toInt = 7 := by decide
      refine lv_icmp_le (tgt := 60) hx hb d_RE_readSigned_53 (by decide) (fun c53 => ?_) (fun c53 => ?_)
      · have q53 := leI c53
        refine lv_iload hx hb d_RE_readSigned_60 (lv_at hl 0 rfl) ?_
        refine lv_iload_n hx hb d_RE_readSigned_62 rfl (lv_at hl 5 rfl) ?_
        refine lv_iload hx hb d_RE_readSigned_63 (lv_at hl 3 rfl) ?_
        refine lv_isub hx hb d_RE_readSigned_65 ?_
        refine lv_topi (fun x13 ex13 => ?_)
        have tx13 : x13.toInt = p0.toInt - i.toInt := by have z := i32_sub ex13 (by (first | (apply Int.le_antisymm <;> omega) | omega)) (by (first | (apply Int.le_antisymm <;> omega) | omega)); first | exact z | (first | (apply Int.le_antisymm <;> omega) | omega)
        refine lv_iconst (v := 1) hx hb d_RE_readSigned_66 (by decide) ?_
        have k1 : (1 : Int32).toInt = 1 := by decide
        refine lv_isub hx hb d_RE_readSigned_67 ?_
        refine lv_topi (fun x14 ex14 => ?_)
        have tx14 : x14.toInt = x13.toInt - 1 := by have z := i32_sub ex14 (by (first | (apply Int.le_antisymm <;> omega) | omega)) (by (first | (apply Int.le_antisymm <;> omega) | omega)); first | exact z | (first | (apply Int.le_antisymm <;> omega) | omega)
        refine lv_ishr hx hb d_RE_readSigned_68 ?_
        refine lv_topi (fun x15 ex15 => ?_)
        refine lv_istore (lv' := [(7, .int x15), (6, .int x11), (2, .long x8), (5, .int r2), (4, .int i), (0, .ref h0), (1, .int p0)]) hx hb d_RE_readSigned_69 hl (by decide) rfl (fun ls hl => ?_)
        refine lv_aload_n hx hb d_RE_readSigned_71 rfl (lv_at hl 5 rfl) ?_
        refine lv_aload_n hx hb d_RE_readSigned_72 rfl (lv_at hl 5 rfl) ?_
        refine va_get (D := (dC, dI)) (ci := 7) (v := .int n4) (C := R_RE) (T := F_RE) (N := 8) hx hb hts i_RE hown hK hP 0 rfl rfl 4 (by decide) (hts _ kF_RE_45) (fun _ h9 => h9) rfl d_RE_readSigned_73 ?_
        refine lv_if_eq (tgt := 94) hx hb d_RE_readSigned_76 (by decide) (fun c76 => ?_) (fun c76 => ?_)
        · have q76 := eqI c76
          refine lv_iconst (v := 0) hx hb d_RE_readSigned_94 (by decide) ?_
          have k0 : (0 : Int32).toInt = 0 := by decide
          refine va_put (D := (dC, dI)) (ci := 7) (v := .int 0) (ty := .boolean) (C := R_RE) (T := F_RE) (N := 8) hx hb hts i_RE t_RE t_RE_ok n_RE hown hK hP hD hS 0 rfl rfl 4 (by decide) (hts _ kF_RE_45) (fun _ h9 => h9) rfl (by decide +kernel) rfl rfl (Nat.le_of_ble_eq_true rfl) d_RE_readSigned_95 (fun H locs hP hD hS => ?_)
          have hP : va_P (dC, dI) cls (wz_1 h0 aw ac n3 lim 0 cc ao oc aw wf ab ax len ax cB n f) H := hP
          have hD : va_D A (wz_1 h0 aw ac n3 lim 0 cc ao oc aw wf ab ax len ax cB n f) := hD
          refine lv_iload hx hb d_RE_readSigned_98 (lv_at hl 4 rfl) ?_
          refine lv_bipush (v := 7) hx hb d_RE_readSigned_100 (by decide) ?_
          have k7 : (7 : Int32).toInt = 7 := by decide
          refine lv_iadd hx hb d_RE_readSigned_102 ?_
          refine lv_topi (fun x16 ex16 => ?_)
          have tx16 : x16.toInt = i.toInt + 7 := by have z := i32_add ex16 (by (first | (apply Int.le_antisymm <;> omega) | omega)) (by (first | (apply Int.le_antisymm <;> omega) | omega)); first | exact z | (first | (apply Int.le_antisymm <;> omega) | omega)
          refine lv_bipush (v := 64) hx hb d_RE_readSigned_103 (by decide) ?_
          have k64 : (64 : Int32).toInt = 64 := by decide
          refine lv_icmp_ge (tgt := 127) hx hb d_RE_readSigned_105 (by decide) (fun c105 => ?_) (fun c105 => ?_)
          · have q105 := leI c105
            refine lv_lload_n hx hb d_RE_readSigned_127 rfl (lv_at hl 2 rfl) ?_
            have hP9 := hP.sb (wq := (wz_1 h0 aw ac n3 lim 0 cc ao oc aw wf ab ax len ax cB n f)) [0, 1, 2, 3] rfl
            have hD9 := hD.sb (wq := (wz_1 h0 aw ac n3 lim 0 cc ao oc aw wf ab ax len ax cB n f)) [0, 1, 2, 3] (by decide) rfl
            exact W.lret (v := x8) hx hb hr (fun t ht hW => ⟨⟨x8, (n3, 0), rfl, ⟨(Or.inl rfl), by (try dsimp only); (first | (apply Int.le_antisymm <;> omega) | omega), by (try dsimp only); (first | (apply Int.le_antisymm <;> omega) | omega), fun z => ⟨by (try dsimp only at z); (try dsimp only); (first | (apply Int.le_antisymm <;> omega) | omega), by (try dsimp only at z); (try dsimp only); (first | (apply Int.le_antisymm <;> omega) | omega)⟩⟩, va_P.he ht.symm hP9, va_K.moved hW.alike hK, hD9⟩, hS.F ht⟩) hS.2.2 d_RE_readSigned_128
          · have q105 := nleI c105
            refine lv_iload hx hb d_RE_readSigned_108 (lv_at hl 1 rfl) ?_
            refine lv_if_ge (tgt := 127) hx hb d_RE_readSigned_110 (by decide) (fun c110 => ?_) (fun c110 => ?_)
            · have q110 := leI c110
              refine lv_lload_n hx hb d_RE_readSigned_127 rfl (lv_at hl 2 rfl) ?_
              have hP9 := hP.sb (wq := (wz_1 h0 aw ac n3 lim 0 cc ao oc aw wf ab ax len ax cB n f)) [0, 1, 2, 3] rfl
              have hD9 := hD.sb (wq := (wz_1 h0 aw ac n3 lim 0 cc ao oc aw wf ab ax len ax cB n f)) [0, 1, 2, 3] (by decide) rfl
              exact W.lret (v := x8) hx hb hr (fun t ht hW => ⟨⟨x8, (n3, 0), rfl, ⟨(Or.inl rfl), by (try dsimp only); (first | (apply Int.le_antisymm <;> omega) | omega), by (try dsimp only); (first | (apply Int.le_antisymm <;> omega) | omega), fun z => ⟨by (try dsimp only at z); (try dsimp only); (first | (apply Int.le_antisymm <;> omega) | omega), by (try dsimp only at z); (try dsimp only); (first | (apply Int.le_antisymm <;> omega) | omega)⟩⟩, va_P.he ht.symm hP9, va_K.moved hW.alike hK, hD9⟩, hS.F ht⟩) hS.2.2 d_RE_readSigned_128
            · have q110 := nleI c110
              refine lv_lload_n hx hb d_RE_readSigned_113 rfl (lv_at hl 2 rfl) ?_
              refine lv_ldc2 hx hb hown (hts _ kL_RE_127) d_RE_readSigned_114 ?_
              refine lv_topl (fun x17 ex17 => ?_)
              have tx17 : x17.toInt = -1 := by rw [ex17]; decide
              refine lv_iload hx hb d_RE_readSigned_117 (lv_at hl 4 rfl) ?_
              refine lv_bipush (v := 7) hx hb d_RE_readSigned_119 (by decide) ?_
              have k7 : (7 : Int32).toInt = 7 := by decide
              refine lv_iadd hx hb d_RE_readSigned_121 ?_
              refine lv_topi (fun x18 ex18 => ?_)
              have tx18 : x18.toInt = i.toInt + 7 := by have z := i32_add ex18 (by (first | (apply Int.le_antisymm <;> omega) | omega)) (by (first | (apply Int.le_antisymm <;> omega) | omega)); first | exact z | (first | (apply Int.le_antisymm <;> omega) | omega)
              refine lv_lshl hx hb d_RE_readSigned_122 rfl ?_
              refine lv_topl (fun x19 ex19 => ?_)
              refine lv_lor hx hb d_RE_readSigned_123 ?_
              refine lv_topl (fun x20 ex20 => ?_)
              refine lv_goto (tgt := 128) hx hb d_RE_readSigned_124 (by decide) ?_
              have hP9 := hP.sb (wq := (wz_1 h0 aw ac n3 lim 0 cc ao oc aw wf ab ax len ax cB n f)) [0, 1, 2, 3] rfl
              have hD9 := hD.sb (wq := (wz_1 h0 aw ac n3 lim 0 cc ao oc aw wf ab ax len ax cB n f)) [0, 1, 2, 3] (by decide) rfl
              exact W.lret (v := x20) hx hb hr (fun t ht hW => ⟨⟨x20, (n3, 0), rfl, ⟨(Or.inl rfl), by (try dsimp only); (first | (apply Int.le_antisymm <;> omega) | omega), by (try dsimp only); (first | (apply Int.le_antisymm <;> omega) | omega), fun z => ⟨by (try dsimp only at z); (try dsimp only); (first | (apply Int.le_antisymm <;> omega) | omega), by (try dsimp only at z); (try dsimp only); (first | (apply Int.le_antisymm <;> omega) | omega)⟩⟩, va_P.he ht.symm hP9, va_K.moved hW.alike hK, hD9⟩, hS.F ht⟩) hS.2.2 d_RE_readSigned_128
        · have q76 := neI c76
          refine lv_iload hx hb d_RE_readSigned_79 (lv_at hl 0 rfl) ?_
          refine lv_if_eq (tgt := 90) hx hb d_RE_readSigned_81 (by decide) (fun c81 => ?_) (fun c81 => ?_)
          · have q81 := eqI c81
            refine lv_iconst (v := 1) hx hb d_RE_readSigned_90 (by decide) ?_
            have k1 : (1 : Int32).toInt = 1 := by decide
            refine lv_goto (tgt := 95) hx hb d_RE_readSigned_91 (by decide) ?_
            refine va_put (D := (dC, dI)) (ci := 7) (v := .int 1) (ty := .boolean) (C := R_RE) (T := F_RE) (N := 8) hx hb hts i_RE t_RE t_RE_ok n_RE hown hK hP hD hS 0 rfl rfl 4 (by decide) (hts _ kF_RE_45) (fun _ h9 => h9) rfl (by decide +kernel) rfl rfl (Nat.le_of_ble_eq_true rfl) d_RE_readSigned_95 (fun H locs hP hD hS => ?_)
            have hP : va_P (dC, dI) cls (wz_1 h0 aw ac n3 lim 1 cc ao oc aw wf ab ax len ax cB n f) H := hP
            have hD : va_D A (wz_1 h0 aw ac n3 lim 1 cc ao oc aw wf ab ax len ax cB n f) := hD
            refine lv_iload hx hb d_RE_readSigned_98 (lv_at hl 4 rfl) ?_
            refine lv_bipush (v := 7) hx hb d_RE_readSigned_100 (by decide) ?_
            have k7 : (7 : Int32).toInt = 7 := by decide
            refine lv_iadd hx hb d_RE_readSigned_102 ?_
            refine lv_topi (fun x21 ex21 => ?_)
            have tx21 : x21.toInt = i.toInt + 7 := by have z := i32_add ex21 (by (first | (apply Int.le_antisymm <;> omega) | omega)) (by (first | (apply Int.le_antisymm <;> omega) | omega)); first | exact z | (first | (apply Int.le_antisymm <;> omega) | omega)
            refine lv_bipush (v := 64) hx hb d_RE_readSigned_103 (by decide) ?_
            have k64 : (64 : Int32).toInt = 64 := by decide
            refine lv_icmp_ge (tgt := 127) hx hb d_RE_readSigned_105 (by decide) (fun c105 => ?_) (fun c105 => ?_)
            · have q105 := leI c105
              refine lv_lload_n hx hb d_RE_readSigned_127 rfl (lv_at hl 2 rfl) ?_
              have hP9 := hP.sb (wq := (wz_1 h0 aw ac n3 lim 1 cc ao oc aw wf ab ax len ax cB n f)) [0, 1, 2, 3] rfl
              have hD9 := hD.sb (wq := (wz_1 h0 aw ac n3 lim 1 cc ao oc aw wf ab ax len ax cB n f)) [0, 1, 2, 3] (by decide) rfl
              exact W.lret (v := x8) hx hb hr (fun t ht hW => ⟨⟨x8, (n3, 1), rfl, ⟨(Or.inr rfl), by (try dsimp only); (first | (apply Int.le_antisymm <;> omega) | omega), by (try dsimp only); (first | (apply Int.le_antisymm <;> omega) | omega), fun z => ⟨by (try dsimp only at z); (try dsimp only); (first | (apply Int.le_antisymm <;> omega) | omega), by (try dsimp only at z); (try dsimp only); (first | (apply Int.le_antisymm <;> omega) | omega)⟩⟩, va_P.he ht.symm hP9, va_K.moved hW.alike hK, hD9⟩, hS.F ht⟩) hS.2.2 d_RE_readSigned_128
            · have q105 := nleI c105
              refine lv_iload hx hb d_RE_readSigned_108 (lv_at hl 1 rfl) ?_
              refine lv_if_ge (tgt := 127) hx hb d_RE_readSigned_110 (by decide) (fun c110 => ?_) (fun c110 => ?_)
              · have q110 := leI c110
                refine lv_lload_n hx hb d_RE_readSigned_127 rfl (lv_at hl 2 rfl) ?_
                have hP9 := hP.sb (wq := (wz_1 h0 aw ac n3 lim 1 cc ao oc aw wf ab ax len ax cB n f)) [0, 1, 2, 3] rfl
                have hD9 := hD.sb (wq := (wz_1 h0 aw ac n3 lim 1 cc ao oc aw wf ab ax len ax cB n f)) [0, 1, 2, 3] (by decide) rfl
                exact W.lret (v := x8) hx hb hr (fun t ht hW => ⟨⟨x8, (n3, 1), rfl, ⟨(Or.inr rfl), by (try dsimp only); (first | (apply Int.le_antisymm <;> omega) | omega), by (try dsimp only); (first | (apply Int.le_antisymm <;> omega) | omega), fun z => ⟨by (try dsimp only at z); (try dsimp only); (first | (apply Int.le_antisymm <;> omega) | omega), by (try dsimp only at z); (try dsimp only); (first | (apply Int.le_antisymm <;> omega) | omega)⟩⟩, va_P.he ht.symm hP9, va_K.moved hW.alike hK, hD9⟩, hS.F ht⟩) hS.2.2 d_RE_readSigned_128
              · have q110 := nleI c110
                refine lv_lload_n hx hb d_RE_readSigned_113 rfl (lv_at hl 2 rfl) ?_
                refine lv_ldc2 hx hb hown (hts _ kL_RE_127) d_RE_readSigned_114 ?_
                refine lv_topl (fun x22 ex22 => ?_)
                have tx22 : x22.toInt = -1 := by rw [ex22]; decide
                refine lv_iload hx hb d_RE_readSigned_117 (lv_at hl 4 rfl) ?_
                refine lv_bipush (v := 7) hx hb d_RE_readSigned_119 (by decide) ?_
                have k7 : (7 : Int32).toInt = 7 := by decide
                refine lv_iadd hx hb d_RE_readSigned_121 ?_
                refine lv_topi (fun x23 ex23 => ?_)
                have tx23 : x23.toInt = i.toInt + 7 := by have z := i32_add ex23 (by (first | (apply Int.le_antisymm <;> omega) | omega)) (by (first | (apply Int.le_antisymm <;> omega) | omega)); first | exact z | (first | (apply Int.le_antisymm <;> omega) | omega)
                refine lv_lshl hx hb d_RE_readSigned_122 rfl ?_
                refine lv_topl (fun x24 ex24 => ?_)
                refine lv_lor hx hb d_RE_readSigned_123 ?_
                refine lv_topl (fun x25 ex25 => ?_)
                refine lv_goto (tgt := 128) hx hb d_RE_readSigned_124 (by decide) ?_
                have hP9 := hP.sb (wq := (wz_1 h0 aw ac n3 lim 1 cc ao oc aw wf ab ax len ax cB n f)) [0, 1, 2, 3] rfl
                have hD9 := hD.sb (wq := (wz_1 h0 aw ac n3 lim 1 cc ao oc aw wf ab ax len ax cB n f)) [0, 1, 2, 3] (by decide) rfl
                exact W.lret (v := x25) hx hb hr (fun t ht hW => ⟨⟨x25, (n3, 1), rfl, ⟨(Or.inr rfl), by (try dsimp only); (first | (apply Int.le_antisymm <;> omega) | omega), by (try dsimp only); (first | (apply Int.le_antisymm <;> omega) | omega), fun z => ⟨by (try dsimp only at z); (try dsimp only); (first | (apply Int.le_antisymm <;> omega) | omega), by (try dsimp only at z); (try dsimp only); (first | (apply Int.le_antisymm <;> omega) | omega)⟩⟩, va_P.he ht.symm hP9, va_K.moved hW.alike hK, hD9⟩, hS.F ht⟩) hS.2.2 d_RE_readSigned_128
          · have q81 := neI c81
            refine lv_iload hx hb d_RE_readSigned_84 (lv_at hl 0 rfl) ?_
            refine lv_iconst (v := (-1)) hx hb d_RE_readSigned_86 (by decide) ?_
            have km1 : (-1 : Int32).toInt = -1 := by decide
            refine lv_icmp_ne (tgt := 94) hx hb d_RE_readSigned_87 (by decide) (fun c87 => ?_) (fun c87 => ?_)
            · have q87 := neI c87
              refine lv_iconst (v := 0) hx hb d_RE_readSigned_94 (by decide) ?_
              have k0 : (0 : Int32).toInt = 0 := by decide
              refine va_put (D := (dC, dI)) (ci := 7) (v := .int 0) (ty := .boolean) (C := R_RE) (T := F_RE) (N := 8) hx hb hts i_RE t_RE t_RE_ok n_RE hown hK hP hD hS 0 rfl rfl 4 (by decide) (hts _ kF_RE_45) (fun _ h9 => h9) rfl (by decide +kernel) rfl rfl (Nat.le_of_ble_eq_true rfl) d_RE_readSigned_95 (fun H locs hP hD hS => ?_)
              have hP : va_P (dC, dI) cls (wz_1 h0 aw ac n3 lim 0 cc ao oc aw wf ab ax len ax cB n f) H := hP
              have hD : va_D A (wz_1 h0 aw ac n3 lim 0 cc ao oc aw wf ab ax len ax cB n f) := hD
              refine lv_iload hx hb d_RE_readSigned_98 (lv_at hl 4 rfl) ?_
              refine lv_bipush (v := 7) hx hb d_RE_readSigned_100 (by decide) ?_
              have k7 : (7 : Int32).toInt = 7 := by decide
              refine lv_iadd hx hb d_RE_readSigned_102 ?_
              refine lv_topi (fun x26 ex26 => ?_)
              have tx26 : x26.toInt = i.toInt + 7 := by have z := i32_add ex26 (by (first | (apply Int.le_antisymm <;> omega) | omega)) (by (first | (apply Int.le_antisymm <;> omega) | omega)); first | exact z | (first | (apply Int.le_antisymm <;> omega) | omega)
              refine lv_bipush (v := 64) hx hb d_RE_readSigned_103 (by decide) ?_
              have k64 : (64 : Int32).toInt = 64 := by decide
              refine lv_icmp_ge (tgt := 127) hx hb d_RE_readSigned_105 (by decide) (fun c105 => ?_) (fun c105 => ?_)
              · have q105 := leI c105
                refine lv_lload_n hx hb d_RE_readSigned_127 rfl (lv_at hl 2 rfl) ?_
                have hP9 := hP.sb (wq := (wz_1 h0 aw ac n3 lim 0 cc ao oc aw wf ab ax len ax cB n f)) [0, 1, 2, 3] rfl
                have hD9 := hD.sb (wq := (wz_1 h0 aw ac n3 lim 0 cc ao oc aw wf ab ax len ax cB n f)) [0, 1, 2, 3] (by decide) rfl
                exact W.lret (v := x8) hx hb hr (fun t ht hW => ⟨⟨x8, (n3, 0), rfl, ⟨(Or.inl rfl), by (try dsimp only); (first | (apply Int.le_antisymm <;> omega) | omega), by (try dsimp only); (first | (apply Int.le_antisymm <;> omega) | omega), fun z => ⟨by (try dsimp only at z); (try dsimp only); (first | (apply Int.le_antisymm <;> omega) | omega), by (try dsimp only at z); (try dsimp only); (first | (apply Int.le_antisymm <;> omega) | omega)⟩⟩, va_P.he ht.symm hP9, va_K.moved hW.alike hK, hD9⟩, hS.F ht⟩) hS.2.2 d_RE_readSigned_128
              · have q105 := nleI c105
                refine lv_iload hx hb d_RE_readSigned_108 (lv_at hl 1 rfl) ?_
                refine lv_if_ge (tgt := 127) hx hb d_RE_readSigned_110 (by decide) (fun c110 => ?_) (fun c110 => ?_)
                · have q110 := leI c110
                  refine lv_lload_n hx hb d_RE_readSigned_127 rfl (lv_at hl 2 rfl) ?_
                  have hP9 := hP.sb (wq := (wz_1 h0 aw ac n3 lim 0 cc ao oc aw wf ab ax len ax cB n f)) [0, 1, 2, 3] rfl
                  have hD9 := hD.sb (wq := (wz_1 h0 aw ac n3 lim 0 cc ao oc aw wf ab ax len ax cB n f)) [0, 1, 2, 3] (by decide) rfl
                  exact W.lret (v := x8) hx hb hr (fun t ht hW => ⟨⟨x8, (n3, 0), rfl, ⟨(Or.inl rfl), by (try dsimp only); (first | (apply Int.le_antisymm <;> omega) | omega), by (try dsimp only); (first | (apply Int.le_antisymm <;> omega) | omega), fun z => ⟨by (try dsimp only at z); (try dsimp only); (first | (apply Int.le_antisymm <;> omega) | omega), by (try dsimp only at z); (try dsimp only); (first | (apply Int.le_antisymm <;> omega) | omega)⟩⟩, va_P.he ht.symm hP9, va_K.moved hW.alike hK, hD9⟩, hS.F ht⟩) hS.2.2 d_RE_readSigned_128
                · have q110 := nleI c110
                  refine lv_lload_n hx hb d_RE_readSigned_113 rfl (lv_at hl 2 rfl) ?_
                  refine lv_ldc2 hx hb hown (hts _ kL_RE_127) d_RE_readSigned_114 ?_
                  refine lv_topl (fun x27 ex27 => ?_)
                  have tx27 : x27.toInt = -1 := by rw [ex27]; decide
                  refine lv_iload hx hb d_RE_readSigned_117 (lv_at hl 4 rfl) ?_
                  refine lv_bipush (v := 7) hx hb d_RE_readSigned_119 (by decide) ?_
                  have k7 : (7 : Int32).toInt = 7 := by decide
                  refine lv_iadd hx hb d_RE_readSigned_121 ?_
                  refine lv_topi (fun x28 ex28 => ?_)
                  have tx28 : x28.toInt = i.toInt + 7 := by have z := i32_add ex28 (by (first | (apply Int.le_antisymm <;> omega) | omega)) (by (first | (apply Int.le_antisymm <;> omega) | omega)); first | exact z | (first | (apply Int.le_antisymm <;> omega) | omega)
                  refine lv_lshl hx hb d_RE_readSigned_122 rfl ?_
                  refine lv_topl (fun x29 ex29 => ?_)
                  refine lv_lor hx hb d_RE_readSigned_123 ?_
                  refine lv_topl (fun x30 ex30 => ?_)
                  refine lv_goto (tgt := 128) hx hb d_RE_readSigned_124 (by decide) ?_
                  have hP9 := hP.sb (wq := (wz_1 h0 aw ac n3 lim 0 cc ao oc aw wf ab ax len ax cB n f)) [0, 1, 2, 3] rfl
                  have hD9 := hD.sb (wq := (wz_1 h0 aw ac n3 lim 0 cc ao oc aw wf ab ax len ax cB n f)) [0, 1, 2, 3] (by decide) rfl
                  exact W.lret (v := x30) hx hb hr (fun t ht hW => ⟨⟨x30, (n3, 0), rfl, ⟨(Or.inl rfl), by (try dsimp only); (first | (apply Int.le_antisymm <;> omega) | omega), by (try dsimp only); (first | (apply Int.le_antisymm <;> omega) | omega), fun z => ⟨by (try dsimp only at z); (try dsimp only); (first | (apply Int.le_antisymm <;> omega) | omega), by (try dsimp only at z); (try dsimp only); (first | (apply Int.le_antisymm <;> omega) | omega)⟩⟩, va_P.he ht.symm hP9, va_K.moved hW.alike hK, hD9⟩, hS.F ht⟩) hS.2.2 d_RE_readSigned_128
            · have q87 := eqI c87
              refine lv_iconst (v := 1) hx hb d_RE_readSigned_90 (by decide) ?_
              have k1 : (1 : Int32).toInt = 1 := by decide
              refine lv_goto (tgt := 95) hx hb d_RE_readSigned_91 (by decide) ?_
              refine va_put (D := (dC, dI)) (ci := 7) (v := .int 1) (ty := .boolean) (C := R_RE) (T := F_RE) (N := 8) hx hb hts i_RE t_RE t_RE_ok n_RE hown hK hP hD hS 0 rfl rfl 4 (by decide) (hts _ kF_RE_45) (fun _ h9 => h9) rfl (by decide +kernel) rfl rfl (Nat.le_of_ble_eq_true rfl) d_RE_readSigned_95 (fun H locs hP hD hS => ?_)
              have hP : va_P (dC, dI) cls (wz_1 h0 aw ac n3 lim 1 cc ao oc aw wf ab ax len ax cB n f) H := hP
              have hD : va_D A (wz_1 h0 aw ac n3 lim 1 cc ao oc aw wf ab ax len ax cB n f) := hD
              refine lv_iload hx hb d_RE_readSigned_98 (lv_at hl 4 rfl) ?_
              refine lv_bipush (v := 7) hx hb d_RE_readSigned_100 (by decide) ?_
              have k7 : (7 : Int32).toInt = 7 := by decide
              refine lv_iadd hx hb d_RE_readSigned_102 ?_
              refine lv_topi (fun x31 ex31 => ?_)
              have tx31 : x31.toInt = i.toInt + 7 := by have z := i32_add ex31 (by (first | (apply Int.le_antisymm <;> omega) | omega)) (by (first | (apply Int.le_antisymm <;> omega) | omega)); first | exact z | (first | (apply Int.le_antisymm <;> omega) | omega)
              refine lv_bipush (v := 64) hx hb d_RE_readSigned_103 (by decide) ?_
              have k64 : (64 : Int32).toInt = 64 := by decide
              refine lv_icmp_ge (tgt := 127) hx hb d_RE_readSigned_105 (by decide) (fun c105 => ?_) (fun c105 => ?_)
              · have q105 := leI c105
                refine lv_lload_n hx hb d_RE_readSigned_127 rfl (lv_at hl 2 rfl) ?_
                have hP9 := hP.sb (wq := (wz_1 h0 aw ac n3 lim 1 cc ao oc aw wf ab ax len ax cB n f)) [0, 1, 2, 3] rfl
                have hD9 := hD.sb (wq := (wz_1 h0 aw ac n3 lim 1 cc ao oc aw wf ab ax len ax cB n f)) [0, 1, 2, 3] (by decide) rfl
                exact W.lret (v := x8) hx hb hr (fun t ht hW => ⟨⟨x8, (n3, 1), rfl, ⟨(Or.inr rfl), by (try dsimp only); (first | (apply Int.le_antisymm <;> omega) | omega), by (try dsimp only); (first | (apply Int.le_antisymm <;> omega) | omega), fun z => ⟨by (try dsimp only at z); (try dsimp only); (first | (apply Int.le_antisymm <;> omega) | omega), by (try dsimp only at z); (try dsimp only); (first | (apply Int.le_antisymm <;> omega) | omega)⟩⟩, va_P.he ht.symm hP9, va_K.moved hW.alike hK, hD9⟩, hS.F ht⟩) hS.2.2 d_RE_readSigned_128
              · have q105 := nleI c105
                refine lv_iload hx hb d_RE_readSigned_108 (lv_at hl 1 rfl) ?_
                refine lv_if_ge (tgt := 127) hx hb d_RE_readSigned_110 (by decide) (fun c110 => ?_) (fun c110 => ?_)
                · have q110 := leI c110
                  refine lv_lload_n hx hb d_RE_readSigned_127 rfl (lv_at hl 2 rfl) ?_
                  have hP9 := hP.sb (wq := (wz_1 h0 aw ac n3 lim 1 cc ao oc aw wf ab ax len ax cB n f)) [0, 1, 2, 3] rfl
                  have hD9 := hD.sb (wq := (wz_1 h0 aw ac n3 lim 1 cc ao oc aw wf ab ax len ax cB n f)) [0, 1, 2, 3] (by decide) rfl
                  exact W.lret (v := x8) hx hb hr (fun t ht hW => ⟨⟨x8, (n3, 1), rfl, ⟨(Or.inr rfl), by (try dsimp only); (first | (apply Int.le_antisymm <;> omega) | omega), by (try dsimp only); (first | (apply Int.le_antisymm <;> omega) | omega), fun z => ⟨by (try dsimp only at z); (try dsimp only); (first | (apply Int.le_antisymm <;> omega) | omega), by (try dsimp only at z); (try dsimp only); (first | (apply Int.le_antisymm <;> omega) | omega)⟩⟩, va_P.he ht.symm hP9, va_K.moved hW.alike hK, hD9⟩, hS.F ht⟩) hS.2.2 d_RE_readSigned_128
                · have q110 := nleI c110
                  refine lv_lload_n hx hb d_RE_readSigned_113 rfl (lv_at hl 2 rfl) ?_
                  refine lv_ldc2 hx hb hown (hts _ kL_RE_127) d_RE_readSigned_114 ?_
                  refine lv_topl (fun x32 ex32 => ?_)
                  have tx32 : x32.toInt = -1 := by rw [ex32]; decide
                  refine lv_iload hx hb d_RE_readSigned_117 (lv_at hl 4 rfl) ?_
                  refine lv_bipush (v := 7) hx hb d_RE_readSigned_119 (by decide) ?_
                  have k7 : (7 : Int32).toInt = 7 := by decide
                  refine lv_iadd hx hb d_RE_readSigned_121 ?_
                  refine lv_topi (fun x33 ex33 => ?_)
                  have tx33 : x33.toInt = i.toInt + 7 := by have z := i32_add ex33 (by (first | (apply Int.le_antisymm <;> omega) | omega)) (by (first | (apply Int.le_antisymm <;> omega) | omega)); first | exact z | (first | (apply Int.le_antisymm <;> omega) | omega)
                  refine lv_lshl hx hb d_RE_readSigned_122 rfl ?_
                  refine lv_topl (fun x34 ex34 => ?_)
                  refine lv_lor hx hb d_RE_readSigned_123 ?_
                  refine lv_topl (fun x35 ex35 => ?_)
                  refine lv_goto (tgt := 128) hx hb d_RE_readSigned_124 (by decide) ?_
                  have hP9 := hP.sb (wq := (wz_1 h0 aw ac n3 lim 1 cc ao oc aw wf ab ax len ax cB n f)) [0, 1, 2, 3] rfl
                  have hD9 := hD.sb (wq := (wz_1 h0 aw ac n3 lim 1 cc ao oc aw wf ab ax len ax cB n f)) [0, 1, 2, 3] (by decide) rfl
                  exact W.lret (v := x35) hx hb hr (fun t ht hW => ⟨⟨x35, (n3, 1), rfl, ⟨(Or.inr rfl), by (try dsimp only); (first | (apply Int.le_antisymm <;> omega) | omega), by (try dsimp only); (first | (apply Int.le_antisymm <;> omega) | omega), fun z => ⟨by (try dsimp only at z); (try dsimp only); (first | (apply Int.le_antisymm <;> omega) | omega), by (try dsimp only at z); (try dsimp only); (first | (apply Int.le_antisymm <;> omega) | omega)⟩⟩, va_P.he ht.symm hP9, va_K.moved hW.alike hK, hD9⟩, hS.F ht⟩) hS.2.2 d_RE_readSigned_128
      · have q53 := nleI c53
        refine lv_iconst (v := 0) hx hb d_RE_readSigned_56 (by decide) ?_
        have k0 : (0 : Int32).toInt = 0 := by decide
        refine lv_goto (tgt := 69) hx hb d_RE_readSigned_57 (by decide) ?_
        refine lv_istore (lv' := [(7, .int 0), (6, .int x11), (2, .long x8), (5, .int r2), (4, .int i), (0, .ref h0), (1, .int p0)]) hx hb d_RE_readSigned_69 hl (by decide) rfl (fun ls hl => ?_)
        refine lv_aload_n hx hb d_RE_readSigned_71 rfl (lv_at hl 5 rfl) ?_
        refine lv_aload_n hx hb d_RE_readSigned_72 rfl (lv_at hl 5 rfl) ?_
        refine va_get (D := (dC, dI)) (ci := 7) (v := .int n4) (C := R_RE) (T := F_RE) (N := 8) hx hb hts i_RE hown hK hP 0 rfl rfl 4 (by decide) (hts _ kF_RE_45) (fun _ h9 => h9) rfl d_RE_readSigned_73 ?_
        refine lv_if_eq (tgt := 94) hx hb d_RE_readSigned_76 (by decide) (fun c76 => ?_) (fun c76 => ?_)
        · have q76 := eqI c76
          refine lv_iconst (v := 0) hx hb d_RE_readSigned_94 (by decide) ?_
          have k0 : (0 : Int32).toInt = 0 := by decide
          refine va_put (D := (dC, dI)) (ci := 7) (v := .int 0) (ty := .boolean) (C := R_RE) (T := F_RE) (N := 8) hx hb hts i_RE t_RE t_RE_ok n_RE hown hK hP hD hS 0 rfl rfl 4 (by decide) (hts _ kF_RE_45) (fun _ h9 => h9) rfl (by decide +kernel) rfl rfl (Nat.le_of_ble_eq_true rfl) d_RE_readSigned_95 (fun H locs hP hD hS => ?_)
          have hP : va_P (dC, dI) cls (wz_1 h0 aw ac n3 lim 0 cc ao oc aw wf ab ax len ax cB n f) H := hP
          have hD : va_D A (wz_1 h0 aw ac n3 lim 0 cc ao oc aw wf ab ax len ax cB n f) := hD
          refine lv_iload hx hb d_RE_readSigned_98 (lv_at hl 4 rfl) ?_
          refine lv_bipush (v := 7) hx hb d_RE_readSigned_100 (by decide) ?_
          have k7 : (7 : Int32).toInt = 7 := by decide
          refine lv_iadd hx hb d_RE_readSigned_102 ?_
          refine lv_topi (fun x36 ex36 => ?_)
          have tx36 : x36.toInt = i.toInt + 7 := by have z := i32_add ex36 (by (first | (apply Int.le_antisymm <;> omega) | omega)) (by (first | (apply Int.le_antisymm <;> omega) | omega)); first | exact z | (first | (apply Int.le_antisymm <;> omega) | omega)
          refine lv_bipush (v := 64) hx hb d_RE_readSigned_103 (by decide) ?_
          have k64 : (64 : Int32).toInt = 64 := by decide
          refine lv_icmp_ge (tgt := 127) hx hb d_RE_readSigned_105 (by decide) (fun c105 => ?_) (fun c105 => ?_)
          · have q105 := leI c105
            refine lv_lload_n hx hb d_RE_readSigned_127 rfl (lv_at hl 2 rfl) ?_
            have hP9 := hP.sb (wq := (wz_1 h0 aw ac n3 lim 0 cc ao oc aw wf ab ax len ax cB n f)) [0, 1, 2, 3] rfl
            have hD9 := hD.sb (wq := (wz_1 h0 aw ac n3 lim 0 cc ao oc aw wf ab ax len ax cB n f)) [0, 1, 2, 3] (by decide) rfl
            exact W.lret (v := x8) hx hb hr (fun t ht hW => ⟨⟨x8, (n3, 0), rfl, ⟨(Or.inl rfl), by (try dsimp only); (first | (apply Int.le_antisymm <;> omega) | omega), by (try dsimp only); (first | (apply Int.le_antisymm <;> omega) | omega), fun z => ⟨by (try dsimp only at z); (try dsimp only); (first | (apply Int.le_antisymm <;> omega) | omega), by (try dsimp only at z); (try dsimp only); (first | (apply Int.le_antisymm <;> omega) | omega)⟩⟩, va_P.he ht.symm hP9, va_K.moved hW.alike hK, hD9⟩, hS.F ht⟩) hS.2.2 d_RE_readSigned_128
          · have q105 := nleI c105
            refine lv_iload hx hb d_RE_readSigned_108 (lv_at hl 1 rfl) ?_
            refine lv_if_ge (tgt := 127) hx hb d_RE_readSigned_110 (by decide) (fun c110 => ?_) (fun c110 => ?_)
            · have q110 := leI c110
              refine lv_lload_n hx hb d_RE_readSigned_127 rfl (lv_at hl 2 rfl) ?_
              have hP9 := hP.sb (wq := (wz_1 h0 aw ac n3 lim 0 cc ao oc aw wf ab ax len ax cB n f)) [0, 1, 2, 3] rfl
              have hD9 := hD.sb (wq := (wz_1 h0 aw ac n3 lim 0 cc ao oc aw wf ab ax len ax cB n f)) [0, 1, 2, 3] (by decide) rfl
              exact W.lret (v := x8) hx hb hr (fun t ht hW => ⟨⟨x8, (n3, 0), rfl, ⟨(Or.inl rfl), by (try dsimp only); (first | (apply Int.le_antisymm <;> omega) | omega), by (try dsimp only); (first | (apply Int.le_antisymm <;> omega) | omega), fun z => ⟨by (try dsimp only at z); (try dsimp only); (first | (apply Int.le_antisymm <;> omega) | omega), by (try dsimp only at z); (try dsimp only); (first | (apply Int.le_antisymm <;> omega) | omega)⟩⟩, va_P.he ht.symm hP9, va_K.moved hW.alike hK, hD9⟩, hS.F ht⟩) hS.2.2 d_RE_readSigned_128
            · have q110 := nleI c110
              refine lv_lload_n hx hb d_RE_readSigned_113 rfl (lv_at hl 2 rfl) ?_
              refine lv_ldc2 hx hb hown (hts _ kL_RE_127) d_RE_readSigned_114 ?_
              refine lv_topl (fun x37 ex37 => ?_)
              have tx37 : x37.toInt = -1 := by rw [ex37]; decide
              refine lv_iload hx hb d_RE_readSigned_117 (lv_at hl 4 rfl) ?_
              refine lv_bipush (v := 7) hx hb d_RE_readSigned_119 (by decide) ?_
              have k7 : (7 : Int32).toInt = 7 := by decide
              refine lv_iadd hx hb d_RE_readSigned_121 ?_
              refine lv_topi (fun x38 ex38 => ?_)
              have tx38 : x38.toInt = i.toInt + 7 := by have z := i32_add ex38 (by (first | (apply Int.le_antisymm <;> omega) | omega)) (by (first | (apply Int.le_antisymm <;> omega) | omega)); first | exact z | (first | (apply Int.le_antisymm <;> omega) | omega)
              refine lv_lshl hx hb d_RE_readSigned_122 rfl ?_
              refine lv_topl (fun x39 ex39 => ?_)
              refine lv_lor hx hb d_RE_readSigned_123 ?_
              refine lv_topl (fun x40 ex40 => ?_)
              refine lv_goto (tgt := 128) hx hb d_RE_readSigned_124 (by decide) ?_
              have hP9 := hP.sb (wq := (wz_1 h0 aw ac n3 lim 0 cc ao oc aw wf ab ax len ax cB n f)) [0, 1, 2, 3] rfl
              have hD9 := hD.sb (wq := (wz_1 h0 aw ac n3 lim 0 cc ao oc aw wf ab ax len ax cB n f)) [0, 1, 2, 3] (by decide) rfl
              exact W.lret (v := x40) hx hb hr (fun t ht hW => ⟨⟨x40, (n3, 0), rfl, ⟨(Or.inl rfl), by (try dsimp only); (first | (apply Int.le_antisymm <;> omega) | omega), by (try dsimp only); (first | (apply Int.le_antisymm <;> omega) | omega), fun z => ⟨by (try dsimp only at z); (try dsimp only); (first | (apply Int.le_antisymm <;> omega) | omega), by (try dsimp only at z); (try dsimp only); (first | (apply Int.le_antisymm <;> omega) | omega)⟩⟩, va_P.he ht.symm hP9, va_K.moved hW.alike hK, hD9⟩, hS.F ht⟩) hS.2.2 d_RE_readSigned_128
        · have q76 := neI c76
          refine lv_iload hx hb d_RE_readSigned_79 (lv_at hl 0 rfl) ?_
          refine lv_if_eq (tgt := 90) hx hb d_RE_readSigned_81 (by decide) (fun c81 => ?_) (fun c81 => absurd (neI c81) (by (first | (apply Int.le_antisymm <;> omega) | omega)))
          have q81 := eqI c81
          refine lv_iconst (v := 1) hx hb d_RE_readSigned_90 (by decide) ?_
          have k1 : (1 : Int32).toInt = 1 := by decide
          refine lv_goto (tgt := 95) hx hb d_RE_readSigned_91 (by decide) ?_
          refine va_put (D := (dC, dI)) (ci := 7) (v := .int 1) (ty := .boolean) (C := R_RE) (T := F_RE) (N := 8) hx hb hts i_RE t_RE t_RE_ok n_RE hown hK hP hD hS 0 rfl rfl 4 (by decide) (hts _ kF_RE_45) (fun _ h9 => h9) rfl (by decide +kernel) rfl rfl (Nat.le_of_ble_eq_true rfl) d_RE_readSigned_95 (fun H locs hP hD hS => ?_)
          have hP : va_P (dC, dI) cls (wz_1 h0 aw ac n3 lim 1 cc ao oc aw wf ab ax len ax cB n f) H := hP
          have hD : va_D A (wz_1 h0 aw ac n3 lim 1 cc ao oc aw wf ab ax len ax cB n f) := hD
          refine lv_iload hx hb d_RE_readSigned_98 (lv_at hl 4 rfl) ?_
          refine lv_bipush (v := 7) hx hb d_RE_readSigned_100 (by decide) ?_
          have k7 : (7 : Int32).toInt = 7 := by decide
          refine lv_iadd hx hb d_RE_readSigned_102 ?_
          refine lv_topi (fun x41 ex41 => ?_)
          have tx41 : x41.toInt = i.toInt + 7 := by have z := i32_add ex41 (by (first | (apply Int.le_antisymm <;> omega) | omega)) (by (first | (apply Int.le_antisymm <;> omega) | omega)); first | exact z | (first | (apply Int.le_antisymm <;> omega) | omega)
          refine lv_bipush (v := 64) hx hb d_RE_readSigned_103 (by decide) ?_
          have k64 : (64 : Int32).toInt = 64 := by decide
          refine lv_icmp_ge (tgt := 127) hx hb d_RE_readSigned_105 (by decide) (fun c105 => ?_) (fun c105 => ?_)
          · have q105 := leI c105
            refine lv_lload_n hx hb d_RE_readSigned_127 rfl (lv_at hl 2 rfl) ?_
            have hP9 := hP.sb (wq := (wz_1 h0 aw ac n3 lim 1 cc ao oc aw wf ab ax len ax cB n f)) [0, 1, 2, 3] rfl
            have hD9 := hD.sb (wq := (wz_1 h0 aw ac n3 lim 1 cc ao oc aw wf ab ax len ax cB n f)) [0, 1, 2, 3] (by decide) rfl
            exact W.lret (v := x8) hx hb hr (fun t ht hW => ⟨⟨x8, (n3, 1), rfl, ⟨(Or.inr rfl), by (try dsimp only); (first | (apply Int.le_antisymm <;> omega) | omega), by (try dsimp only); (first | (apply Int.le_antisymm <;> omega) | omega), fun z => ⟨by (try dsimp only at z); (try dsimp only); (first | (apply Int.le_antisymm <;> omega) | omega), by (try dsimp only at z); (try dsimp only); (first | (apply Int.le_antisymm <;> omega) | omega)⟩⟩, va_P.he ht.symm hP9, va_K.moved hW.alike hK, hD9⟩, hS.F ht⟩) hS.2.2 d_RE_readSigned_128
          · have q105 := nleI c105
            refine lv_iload hx hb d_RE_readSigned_108 (lv_at hl 1 rfl) ?_
            refine lv_if_ge (tgt := 127) hx hb d_RE_readSigned_110 (by decide) (fun c110 => ?_) (fun c110 => ?_)
            · have q110 := leI c110
              refine lv_lload_n hx hb d_RE_readSigned_127 rfl (lv_at hl 2 rfl) ?_
              have hP9 := hP.sb (wq := (wz_1 h0 aw ac n3 lim 1 cc ao oc aw wf ab ax len ax cB n f)) [0, 1, 2, 3] rfl
              have hD9 := hD.sb (wq := (wz_1 h0 aw ac n3 lim 1 cc ao oc aw wf ab ax len ax cB n f)) [0, 1, 2, 3] (by decide) rfl
              exact W.lret (v := x8) hx hb hr (fun t ht hW => ⟨⟨x8, (n3, 1), rfl, ⟨(Or.inr rfl), by (try dsimp only); (first | (apply Int.le_antisymm <;> omega) | omega), by (try dsimp only); (first | (apply Int.le_antisymm <;> omega) | omega), fun z => ⟨by (try dsimp only at z); (try dsimp only); (first | (apply Int.le_antisymm <;> omega) | omega), by (try dsimp only at z); (try dsimp only); (first | (apply Int.le_antisymm <;> omega) | omega)⟩⟩, va_P.he ht.symm hP9, va_K.moved hW.alike hK, hD9⟩, hS.F ht⟩) hS.2.2 d_RE_readSigned_128
            · have q110 := nleI c110
              refine lv_lload_n hx hb d_RE_readSigned_113 rfl (lv_at hl 2 rfl) ?_
              refine lv_ldc2 hx hb hown (hts _ kL_RE_127) d_RE_readSigned_114 ?_
              refine lv_topl (fun x42 ex42 => ?_)
              have tx42 : x42.toInt = -1 := by rw [ex42]; decide
              refine lv_iload hx hb d_RE_readSigned_117 (lv_at hl 4 rfl) ?_
              refine lv_bipush (v := 7) hx hb d_RE_readSigned_119 (by decide) ?_
              have k7 : (7 : Int32).toInt = 7 := by decide
              refine lv_iadd hx hb d_RE_readSigned_121 ?_
              refine lv_topi (fun x43 ex43 => ?_)
              have tx43 : x43.toInt = i.toInt + 7 := by have z := i32_add ex43 (by (first | (apply Int.le_antisymm <;> omega) | omega)) (by (first | (apply Int.le_antisymm <;> omega) | omega)); first | exact z | (first | (apply Int.le_antisymm <;> omega) | omega)
              refine lv_lshl hx hb d_RE_readSigned_122 rfl ?_
              refine lv_topl (fun x44 ex44 => ?_)
              refine lv_lor hx hb d_RE_readSigned_123 ?_
              refine lv_topl (fun x45 ex45 => ?_)
              refine lv_goto (tgt := 128) hx hb d_RE_readSigned_124 (by decide) ?_
              have hP9 := hP.sb (wq := (wz_1 h0 aw ac n3 lim 1 cc ao oc aw wf ab ax len ax cB n f)) [0, 1, 2, 3] rfl
              have hD9 := hD.sb (wq := (wz_1 h0 aw ac n3 lim 1 cc ao oc aw wf ab ax len ax cB n f)) [0, 1, 2, 3] (by decide) rfl
              exact W.lret (v := x45) hx hb hr (fun t ht hW => ⟨⟨x45, (n3, 1), rfl, ⟨(Or.inr rfl), by (try dsimp only); (first | (apply Int.le_antisymm <;> omega) | omega), by (try dsimp only); (first | (apply Int.le_antisymm <;> omega) | omega), fun z => ⟨by (try dsimp only at z); (try dsimp only); (first | (apply Int.le_antisymm <;> omega) | omega), by (try dsimp only at z); (try dsimp only); (first | (apply Int.le_antisymm <;> omega) | omega)⟩⟩, va_P.he ht.symm hP9, va_K.moved hW.alike hK, hD9⟩, hS.F ht⟩) hS.2.2 d_RE_readSigned_128

/-! Validator: jumps and blocks -/
abbrev b_VA_checkTable : ByteArray := prog_12_method_8_code
def y_VA_checkTable : MethodName := ⟨R_VA, "checkTable", "(II)V"⟩
abbrev w_VA_checkTable : List Cond := .code y_VA_checkTable b_VA_checkTable 6 none :: lw_g
theorem kC_VA_checkTable : Cond.code y_VA_checkTable b_VA_checkTable 6 none ∈ lw_g := in_g 1451 (by decide +kernel) rfl
theorem d_VA_checkTable_0 : decode b_VA_checkTable 0 = .ok (.aload_n 0, 1) := by decide +kernel
theorem d_VA_checkTable_1 : decode b_VA_checkTable 1 = .ok (.aload_n 0, 1) := by decide +kernel
theorem d_VA_checkTable_2 : decode b_VA_checkTable 2 = .ok (.getfield 38, 3) := by decide +kernel
theorem d_VA_checkTable_5 : decode b_VA_checkTable 5 = .ok (.getfield 179, 3) := by decide +kernel
theorem d_VA_checkTable_8 : decode b_VA_checkTable 8 = .ok (.iload_n 1, 1) := by decide +kernel
theorem d_VA_checkTable_9 : decode b_VA_checkTable 9 = .ok (.iload_n 2, 1) := by decide +kernel
theorem d_VA_checkTable_10 : decode b_VA_checkTable 10 = .ok (.iadd, 1) := by decide +kernel
theorem d_VA_checkTable_11 : decode b_VA_checkTable 11 = .ok (.iaload, 1) := by decide +kernel
theorem d_VA_checkTable_12 : decode b_VA_checkTable 12 = .ok (.invokevirtual 170, 3) := by decide +kernel
theorem d_VA_checkTable_15 : decode b_VA_checkTable 15 = .ok (.istore_n 3, 1) := by decide +kernel
theorem d_VA_checkTable_16 : decode b_VA_checkTable 16 = .ok (.iconst 0, 1) := by decide +kernel
theorem d_VA_checkTable_17 : decode b_VA_checkTable 17 = .ok (.istore 4, 2) := by decide +kernel
theorem d_VA_checkTable_19 : decode b_VA_checkTable 19 = .ok (.iload 4, 2) := by decide +kernel
theorem d_VA_checkTable_21 : decode b_VA_checkTable 21 = .ok (.iload_n 2, 1) := by decide +kernel
theorem d_VA_checkTable_22 : decode b_VA_checkTable 22 = .ok (.if_icmp .ge 49, 3) := by decide +kernel
theorem d_VA_checkTable_25 : decode b_VA_checkTable 25 = .ok (.aload_n 0, 1) := by decide +kernel
theorem d_VA_checkTable_26 : decode b_VA_checkTable 26 = .ok (.aload_n 0, 1) := by decide +kernel
theorem d_VA_checkTable_27 : decode b_VA_checkTable 27 = .ok (.getfield 38, 3) := by decide +kernel
theorem d_VA_checkTable_30 : decode b_VA_checkTable 30 = .ok (.getfield 179, 3) := by decide +kernel
theorem d_VA_checkTable_33 : decode b_VA_checkTable 33 = .ok (.iload_n 1, 1) := by decide +kernel
theorem d_VA_checkTable_34 : decode b_VA_checkTable 34 = .ok (.iload 4, 2) := by decide +kernel
theorem d_VA_checkTable_36 : decode b_VA_checkTable 36 = .ok (.iadd, 1) := by decide +kernel
theorem d_VA_checkTable_37 : decode b_VA_checkTable 37 = .ok (.iaload, 1) := by decide +kernel
theorem d_VA_checkTable_38 : decode b_VA_checkTable 38 = .ok (.invokevirtual 170, 3) := by decide +kernel
theorem d_VA_checkTable_41 : decode b_VA_checkTable 41 = .ok (.istore 5, 2) := by decide +kernel
theorem d_VA_checkTable_43 : decode b_VA_checkTable 43 = .ok (.aload_n 0, 1) := by decide +kernel
theorem d_VA_checkTable_44 : decode b_VA_checkTable 44 = .ok (.aload_n 0, 1) := by decide +kernel
theorem d_VA_checkTable_45 : decode b_VA_checkTable 45 = .ok (.getfield 39, 3) := by decide +kernel
theorem d_VA_checkTable_48 : decode b_VA_checkTable 48 = .ok (.ifCond .eq 13, 3) := by decide +kernel
theorem d_VA_checkTable_51 : decode b_VA_checkTable 51 = .ok (.iload 5, 2) := by decide +kernel
theorem d_VA_checkTable_53 : decode b_VA_checkTable 53 = .ok (.iload_n 3, 1) := by decide +kernel
theorem d_VA_checkTable_54 : decode b_VA_checkTable 54 = .ok (.if_icmp .ne 7, 3) := by decide +kernel
theorem d_VA_checkTable_57 : decode b_VA_checkTable 57 = .ok (.iconst 1, 1) := by decide +kernel
theorem d_VA_checkTable_58 : decode b_VA_checkTable 58 = .ok (.goto 4, 3) := by decide +kernel
theorem d_VA_checkTable_61 : decode b_VA_checkTable 61 = .ok (.iconst 0, 1) := by decide +kernel
theorem d_VA_checkTable_62 : decode b_VA_checkTable 62 = .ok (.putfield 39, 3) := by decide +kernel
theorem d_VA_checkTable_65 : decode b_VA_checkTable 65 = .ok (.iinc 4 1, 3) := by decide +kernel
theorem d_VA_checkTable_68 : decode b_VA_checkTable 68 = .ok (.goto (-49), 3) := by decide +kernel
theorem d_VA_checkTable_71 : decode b_VA_checkTable 71 = .ok (.aload_n 0, 1) := by decide +kernel
theorem d_VA_checkTable_72 : decode b_VA_checkTable 72 = .ok (.bipush 127, 2) := by decide +kernel
theorem d_VA_checkTable_74 : decode b_VA_checkTable 74 = .ok (.invokevirtual 161, 3) := by decide +kernel
theorem d_VA_checkTable_77 : decode b_VA_checkTable 77 = .ok (.aload_n 0, 1) := by decide +kernel
theorem d_VA_checkTable_78 : decode b_VA_checkTable 78 = .ok (.iload_n 3, 1) := by decide +kernel
theorem d_VA_checkTable_79 : decode b_VA_checkTable 79 = .ok (.invokevirtual 161, 3) := by decide +kernel
theorem d_VA_checkTable_82 : decode b_VA_checkTable 82 = .ok (.aload_n 0, 1) := by decide +kernel
theorem d_VA_checkTable_83 : decode b_VA_checkTable 83 = .ok (.invokevirtual 158, 3) := by decide +kernel
theorem d_VA_checkTable_86 : decode b_VA_checkTable 86 = .ok (.return_, 1) := by decide +kernel
theorem kM_VA_170 : Cond.methodLink R_VA 170 y_VA_labelType ∈ lw_g := in_g 1444 (by decide +kernel) rfl
theorem kV_VA_labelType : Cond.instanceMethod y_VA_labelType ∈ lw_g := in_g 1446 (by decide +kernel) rfl
theorem kS_VA_labelType : Cond.selects R_VA y_VA_labelType y_VA_labelType ∈ lw_g := in_s 92 (by decide +kernel) rfl
theorem kM_VA_158 : Cond.methodLink R_VA 158 y_VA_die ∈ lw_g := in_g 1420 (by decide +kernel) rfl
theorem kV_VA_die : Cond.instanceMethod y_VA_die ∈ lw_g := in_g 1422 (by decide +kernel) rfl
theorem kS_VA_die : Cond.selects R_VA y_VA_die y_VA_die ∈ lw_g := in_s 86 (by decide +kernel) rfl
theorem kF_VA_38 : Cond.fieldLink R_VA 38 "WaferForge$Validator" "codes" "LWaferForge$Codes;" ∈ lw_g := in_g 498 (by decide +kernel) rfl
theorem kF_VA_179 : Cond.fieldLink R_VA 179 "WaferForge$Codes" "labels" "[I" ∈ lw_g := in_g 116 (by decide +kernel) rfl
abbrev at_VA_checkTable (dC : Nat → ClassId) (dI : Nat → Nat → Nat) (h0 aw ac ty bo bg bh bd cfi clk clt cop cva cpt cel cla : Nat) (cty cbo cbg cbh cbd ccla : ClassId) (h0_function : Int32) (h0_depth : Int32) (ac_length : Int32) (ac_labelCount : Int32) (gty : Nat → Int32) (gbo : Nat → Int32) (gbg : Nat → Int32) (gbh : Nat → Int32) (gcla : Nat → Int32) (A : Nat → Prop) (u : (Nat → Int32) × Int32 × Int32) (t : State) : Prop := match u with | (gbd, h0_height, h0_sound) => va_P (dC, dI) cls [(h0, .inr (9, [.ref aw, .ref ac, .int h0_sound, .int h0_function, .ref ty, .int h0_height, .ref bo, .ref bg, .ref bh, .ref bd, .int h0_depth])), (ac, .inr (3, [.ref cfi, .ref clk, .ref clt, .int ac_length, .ref cop, .ref cva, .ref cpt, .ref cel, .int ac_labelCount, .ref cla])), (ty, .inl (cty, 5000, .inl gty)), (bo, .inl (cbo, 101, .inl gbo)), (bg, .inl (cbg, 101, .inl gbg)), (bh, .inl (cbh, 101, .inl gbh)), (bd, .inl (cbd, 101, .inl gbd)), (cla, .inl (ccla, 2000, .inl gcla))] t.heap ∧ va_K (dC, dI) cls [(cty, .int), (cbo, .int), (cbg, .int), (cbh, .int), (cbd, .boolean), (ccla, .int)] t ∧ va_D A [(h0, .inr (9, [.ref aw, .ref ac, .int h0_sound, .int h0_function, .ref ty, .int h0_height, .ref bo, .ref bg, .ref bh, .ref bd, .int h0_depth])), (ac, .inr (3, [.ref cfi, .ref clk, .ref clt, .int ac_length, .ref cop, .ref cva, .ref cpt, .ref cel, .int ac_labelCount, .ref cla])), (ty, .inl (cty, 5000, .inl gty)), (bo, .inl (cbo, 101, .inl gbo)), (bg, .inl (cbg, 101, .inl gbg)), (bh, .inl (cbh, 101, .inl gbh)), (bd, .inl (cbd, 101, .inl gbd)), (cla, .inl (ccla, 2000, .inl gcla))]
set_option maxHeartbeats 4000000 in
set_option maxRecDepth 100000 in
theorem c_VA_checkTable (l : Launch) (dC : Nat → ClassId) (dI : Nat → Nat → Nat) (sz : Nat) (h0 aw ac ty bo bg bh bd cfi clk clt cop cva cpt cel cla : Nat) (cty cbo cbg cbh cbd ccla : ClassId) (h0_sound : Int32) (h0_function : Int32) (h0_height : Int32) (h0_depth : Int32) (ac_length : Int32) (ac_labelCount : Int32) (gty : Nat → Int32) (gbo : Nat → Int32) (gbg : Nat → Int32) (gbh : Nat → Int32) (gbd : Nat → Int32) (gcla : Nat → Int32)  (b_h0_sound : h0_sound = 0 ∨ h0_sound = 1) (b_h0_height : 0 ≤ h0_height.toInt ∧ h0_height.toInt ≤ 5000) (b_h0_depth : 0 ≤ h0_depth.toInt ∧ h0_depth.toInt ≤ 101) (b_ac_labelCount : 0 ≤ ac_labelCount.toInt ∧ ac_labelCount.toInt ≤ 2000) (b_gty : ∀ j : Nat, (gty j).toInt ≠ 64) (b_gbh : ∀ j : Nat, 0 ≤ (gbh j).toInt ∧ (gbh j).toInt ≤ 5000) (p0 : Int32) (p1 : Int32)  (hd1 : 1 ≤ h0_depth.toInt) (hbh : (gbh (h0_depth.toInt - 1).toNat).toInt ≤ h0_height.toInt) (hh5 : h0_height.toInt < 5000) (hlt : 0 ≤ p0.toInt ∧ 0 ≤ p1.toInt ∧ p0.toInt + p1.toInt < ac_labelCount.toInt) (hlb : ∀ j : Nat, (j : Int) < ac_labelCount.toInt → 0 ≤ (gcla j).toInt) : Met l y_VA_checkTable w_VA_checkTable ({ frames := 2, cells := 0, slots := 0, locals := 42 }) (va_Pc [.ref h0, .int p0, .int p1] (fun U => U.heap.size = sz ∧ va_P (dC, dI) cls [(h0, .inr (9, [.ref aw, .ref ac, .int h0_sound, .int h0_function, .ref ty, .int h0_height, .ref bo, .ref bg, .ref bh, .ref bd, .int h0_depth])), (ac, .inr (3, [.ref cfi, .ref clk, .ref clt, .int ac_length, .ref cop, .ref cva, .ref cpt, .ref cel, .int ac_labelCount, .ref cla])), (ty, .inl (cty, 5000, .inl gty)), (bo, .inl (cbo, 101, .inl gbo)), (bg, .inl (cbg, 101, .inl gbg)), (bh, .inl (cbh, 101, .inl gbh)), (bd, .inl (cbd, 101, .inl gbd)), (cla, .inl (ccla, 2000, .inl gcla))] U.heap ∧ va_K (dC, dI) cls [(cty, .int), (cbo, .int), (cbg, .int), (cbh, .int), (cbd, .boolean), (ccla, .int)] U ∧ va_D (fun _ => True) [(h0, .inr (9, [.ref aw, .ref ac, .int h0_sound, .int h0_function, .ref ty, .int h0_height, .ref bo, .ref bg, .ref bh, .ref bd, .int h0_depth])), (ac, .inr (3, [.ref cfi, .ref clk, .ref clt, .int ac_length, .ref cop, .ref cva, .ref cpt, .ref cel, .int ac_labelCount, .ref cla])), (ty, .inl (cty, 5000, .inl gty)), (bo, .inl (cbo, 101, .inl gbo)), (bg, .inl (cbg, 101, .inl gbg)), (bh, .inl (cbh, 101, .inl gbh)), (bd, .inl (cbd, 101, .inl gbd)), (cla, .inl (ccla, 2000, .inl gcla))])) (va_Qv (fun (u : (Nat → Int32) × Int32 × Int32) => match u with | (gbd2, h0_height2, h0_sound2) => (0 ≤ h0_height2.toInt ∧ h0_height2.toInt ≤ 5000) ∧ (h0_sound2 = 0 ∨ h0_sound2 = 1) ∧ ((h0_height2.toInt = (gbh (h0_depth.toInt - 1).toNat).toInt ∧ gbd2 = upd gbd (h0_depth.toInt - 1).toNat (vp_nar .boolean 1)) ∧ (h0_sound2.toInt = 1 → h0_sound.toInt = 1 ∧ ((gbd (h0_depth.toInt - 1).toNat).toInt = 0 → (gbh (h0_depth.toInt - 1).toNat).toInt + 1 ≤ h0_height.toInt)))) (at_VA_checkTable dC dI h0 aw ac ty bo bg bh bd cfi clk clt cop cva cpt cel cla cty cbo cbg cbh cbd ccla h0_function h0_depth ac_length ac_labelCount gty gbo gbg gbh gcla (va_A [(h0, .inr (9, [.ref aw, .ref ac, .int h0_sound, .int h0_function, .ref ty, .int h0_height, .ref bo, .ref bg, .ref bh, .ref bd, .int h0_depth])), (ac, .inr (3, [.ref cfi, .ref clk, .ref clt, .int ac_length, .ref cop, .ref cva, .ref cpt, .ref cel, .int ac_labelCount, .ref cla])), (ty, .inl (cty, 5000, .inl gty)), (bo, .inl (cbo, 101, .inl gbo)), (bg, .inl (cbg, 101, .inl gbg)), (bh, .inl (cbh, 101, .inl gbh)), (bd, .inl (cbd, 101, .inl gbd)), (cla, .inl (ccla, 2000, .inl gcla))] sz)) (va_A [(h0, .inr (9, [.ref aw, .ref ac, .int h0_sound, .int h0_function, .ref ty, .int h0_height, .ref bo, .ref bg, .ref bh, .ref bd, .int h0_depth])), (ac, .inr (3, [.ref cfi, .ref clk, .ref clt, .int ac_length, .ref cop, .ref cva, .ref cpt, .ref cel, .int ac_labelCount, .ref cla])), (ty, .inl (cty, 5000, .inl gty)), (bo, .inl (cbo, 101, .inl gbo)), (bg, .inl (cbg, 101, .inl gbg)), (bh, .inl (cbh, 101, .inl gbh)), (bd, .inl (cbd, 101, .inl gbd)), (cla, .inl (ccla, 2000, .inl gcla))] sz)) 0 0 (va_A [(h0, .inr (9, [.ref aw, .ref ac, .int h0_sound, .int h0_function, .ref ty, .int h0_height, .ref bo, .ref bg, .ref bh, .ref bd, .int h0_depth])), (ac, .inr (3, [.ref cfi, .ref clk, .ref clt, .int ac_length, .ref cop, .ref cva, .ref cpt, .ref cel, .int ac_labelCount, .ref cla])), (ty, .inl (cty, 5000, .inl gty)), (bo, .inl (cbo, 101, .inl gbo)), (bg, .inl (cbg, 101, .inl gbg)), (bh, .inl (cbh, 101, .inl gbh)), (bd, .inl (cbd, 101, .inl gbd)), (cla, .inl (ccla, 2000, .inl gcla))] sz) := by
  refine Met.ofW (cc := b_VA_checkTable) (maxL := 6) (ret := none) (by decide) rfl ?_
  intro p e s m args below meth c s₁ B hml hv
  obtain ⟨rfl, hsz, hP, hK, hD0⟩ := hv
  have hx := B.exec
  have hb := B.bytes
  have hr := B.returns
  have hts0 := atoms_spec (ws := w_VA_checkTable) B.pre
  have hts : ∀ w ∈ lw_g, w.before _ s = true := fun w h => hts0 w (List.mem_cons_of_mem _ h)
  have hown : s.vm.findClass R_VA = some m.cls := findClass_of_methodNamed B.named
  have hlocks := B.notSynchronized
  clear hts0
  subst hsz
  have hD := hD0.self (sz := s.heap.size)
  generalize hAe : va_A [(h0, .inr (9, [.ref aw, .ref ac, .int h0_sound, .int h0_function, .ref ty, .int h0_height, .ref bo, .ref bg, .ref bh, .ref bd, .int h0_depth])), (ac, .inr (3, [.ref cfi, .ref clk, .ref clt, .int ac_length, .ref cop, .ref cva, .ref cpt, .ref cel, .int ac_labelCount, .ref cla])), (ty, .inl (cty, 5000, .inl gty)), (bo, .inl (cbo, 101, .inl gbo)), (bg, .inl (cbg, 101, .inl gbg)), (bh, .inl (cbh, 101, .inl gbh)), (bd, .inl (cbd, 101, .inl gbd)), (cla, .inl (ccla, 2000, .inl gcla))] s.heap.size = A at hD ⊢
  have hA : ∀ q : Nat, s.heap.size ≤ q → A q := fun q h => by rw [← hAe]; exact Or.inr h
  clear hAe
  have hP : va_P (dC, dI) cls [(h0, .inr (9, [.ref aw, .ref ac, .int h0_sound, .int h0_function, .ref ty, .int h0_height, .ref bo, .ref bg, .ref bh, .ref bd, .int h0_depth])), (ac, .inr (3, [.ref cfi, .ref clk, .ref clt, .int ac_length, .ref cop, .ref cva, .ref cpt, .ref cel, .int ac_labelCount, .ref cla])), (ty, .inl (cty, 5000, .inl gty)), (bo, .inl (cbo, 101, .inl gbo)), (bg, .inl (cbg, 101, .inl gbg)), (bh, .inl (cbh, 101, .inl gbh)), (bd, .inl (cbd, 101, .inl gbd)), (cla, .inl (ccla, 2000, .inl gcla))] s.heap := hP
  have hl := lv_entry ([.ref h0, .int p0, .int p1]) (n := 6) (Nat.le_of_ble_eq_true rfl)
  rw [lg_entry_eq]
  generalize (lg_sl ([.ref h0, .int p0, .int p1]) ++ List.replicate (6 - (lg_sl ([.ref h0, .int p0, .int p1])).length) Slot.unset).toArray = ls at hl ⊢
  have hl : lv_has ls 6 [(0, .ref h0), (1, .int p0), (2, .int p1)] := hl
  have k0 : (0 : Int32).toInt = 0 := by decide
  refine w_gen (A := A) hP (fun H locs hP hS => ?_)
  have k1 : (1 : Int32).toInt = 1 := by decide
  have k127 : (127 : Int32).toInt = 127 := by decide
  have lo_p0 := i32_lo p0
  have hi_p0 := i32_hi p0
  have lo_p1 := i32_lo p1
  have hi_p1 := i32_hi p1
  have th0_sound := b01 b_h0_sound
  refine lv_aload_n hx hb d_VA_checkTable_0 rfl (lv_at hl 0 rfl) ?_
  refine lv_aload_n hx hb d_VA_checkTable_1 rfl (lv_at hl 0 rfl) ?_
  refine va_get (D := (dC, dI)) (ci := 9) (v := .ref ac) (C := R_VA) (T := F_VA) (N := 11) hx hb hts i_VA hown hK hP 0 rfl rfl 1 (by decide) (hts _ kF_VA_38) (fun _ h9 => h9) rfl d_VA_checkTable_2 ?_
  refine va_get (D := (dC, dI)) (ci := 3) (v := .ref cla) (C := R_CD) (T := F_CD) (N := 10) hx hb hts i_CD hown hK hP 1 rfl rfl 9 (by decide) (hts _ kF_VA_179) (fun _ h9 => h9) rfl d_VA_checkTable_5 ?_
  refine lv_iload_n hx hb d_VA_checkTable_8 rfl (lv_at hl 1 rfl) ?_
  refine lv_iload_n hx hb d_VA_checkTable_9 rfl (lv_at hl 2 rfl) ?_
  refine lv_iadd hx hb d_VA_checkTable_10 ?_
  refine lv_topi (fun x1 ex1 => ?_)
  have tx1 : x1.toInt = p0.toInt + p1.toInt := by have z := i32_add ex1 (by omega) (by omega); omega
  have g11 : vp_in x1 2000 := vp_in_iff.mpr ⟨by omega, by omega⟩
  refine va_iald hx hb hK hP 7 5 rfl rfl g11 d_VA_checkTable_11 ?_
  refine lv_topi (fun x2 ex2 => ?_)
  have tx2 := hlb x1.toNatClampNeg (by have := i32_clamp (x := x1) (by omega); omega)
  rw [← ex2] at tx2
  have hix2 := i32_hi x2
  have hPc := hP.sub (ws' := [(h0, .inr (9, [.ref aw, .ref ac, .int h0_sound, .int h0_function, .ref ty, .int h0_height, .ref bo, .ref bg, .ref bh, .ref bd, .int h0_depth])), (bo, .inl (cbo, 101, .inl gbo)), (bg, .inl (cbg, 101, .inl gbg))]) [0, 3, 4] rfl
  have hDc := hD.sub (ws' := [(h0, .inr (9, [.ref aw, .ref ac, .int h0_sound, .int h0_function, .ref ty, .int h0_height, .ref bo, .ref bg, .ref bh, .ref bd, .int h0_depth])), (bo, .inl (cbo, 101, .inl gbo)), (bg, .inl (cbg, 101, .inl gbg))]) [0, 3, 4] (by decide) rfl
  have hKc := hK.sub (tys' := [(cbo, .int), (cbg, .int)]) [1, 2] rfl
  have hFc := va_free (wc := [(h0, .inr (9, [.ref aw, .ref ac, .int h0_sound, .int h0_function, .ref ty, .int h0_height, .ref bo, .ref bg, .ref bh, .ref bd, .int h0_depth])), (bo, .inl (cbo, 101, .inl gbo)), (bg, .inl (cbg, 101, .inl gbg))]) hD hS hA [0, 3, 4] rfl
  refine va_calli (va_runV (As := [.int x2]) (rest := []) ⟨hx, hb, hml, hown, hts⟩ (c_VA_labelType l dC dI H.size h0 aw ac ty bo bg bh bd cbo cbg h0_sound h0_function h0_height h0_depth gbo gbg (b_h0_sound) (b_h0_depth) x2 (by (try dsimp only) <;> omega)) (cwV 1 hts (gV kM_VA_170 kV_VA_labelType kS_VA_labelType kI_VA kC_VA_labelType) rfl rfl rfl (by decide +kernel) ⟨Nat.le_of_ble_eq_true rfl, Nat.le_of_ble_eq_true rfl⟩) ⟨fun a U g mk z => by obtain ⟨z0, z1, zP, zK, zD⟩ := z; exact ⟨z0, z1, zP, va_K.moved (u := U) (U := U.calling g mk a) (Vm.Alike.refl U.vm) zK, zD⟩, va_recv hKc hPc (ci := 9) (q0 := 0) rfl rfl, fun U hU hW => ⟨rfl, by rw [hU], by rw [hU]; exact hPc, va_K.moved hW.alike hKc, hDc.weaken (fun _ _ _ _ => trivial)⟩⟩ rfl rfl hl.1 rfl (lv_room (Nat.le_of_ble_eq_true rfl)) d_VA_checkTable_12 ⟨(Nat.zero_le _), (Nat.zero_le _)⟩) hS (fun q _ h => hFc q h) hFc (fun r3 u t H1 locs ht hvm hw hB hz1 hk1 hS => ?_)
  obtain ⟨n4, rfl⟩ : ∃ z, z = u := ⟨_, rfl⟩
  try dsimp only at hw
  obtain ⟨bn4, xr3⟩ := hw
  try clear hw
  have tn4 := b01 bn4
  obtain ⟨hP1, hK1, hD1⟩ := hB
  rw [ht] at hP1
  obtain ⟨hP, hD⟩ := va_join (wr := [(ac, .inr (3, [.ref cfi, .ref clk, .ref clt, .int ac_length, .ref cop, .ref cva, .ref cpt, .ref cel, .int ac_labelCount, .ref cla])), (ty, .inl (cty, 5000, .inl gty)), (bh, .inl (cbh, 101, .inl gbh)), (bd, .inl (cbd, 101, .inl gbd)), (cla, .inl (ccla, 2000, .inl gcla))]) (w1 := [(h0, .inr (9, [.ref aw, .ref ac, .int n4, .int h0_function, .ref ty, .int h0_height, .ref bo, .ref bg, .ref bh, .ref bd, .int h0_depth])), (bo, .inl (cbo, 101, .inl gbo)), (bg, .inl (cbg, 101, .inl gbg))]) hP hD [0, 3, 4] [1, 2, 5, 6, 7] rfl rfl (by decide) (by decide) hk1 hFc hP1 hD1
  clear hPc hDc hKc hFc hz1 hk1 hP1 hK1 hD1
  generalize H1 = H at hP hS ⊢
  have hP : va_P (dC, dI) cls [(ac, .inr (3, [.ref cfi, .ref clk, .ref clt, .int ac_length, .ref cop, .ref cva, .ref cpt, .ref cel, .int ac_labelCount, .ref cla])), (ty, .inl (cty, 5000, .inl gty)), (bh, .inl (cbh, 101, .inl gbh)), (bd, .inl (cbd, 101, .inl gbd)), (cla, .inl (ccla, 2000, .inl gcla)), (h0, .inr (9, [.ref aw, .ref ac, .int n4, .int h0_function, .ref ty, .int h0_height, .ref bo, .ref bg, .ref bh, .ref bd, .int h0_depth])), (bo, .inl (cbo, 101, .inl gbo)), (bg, .inl (cbg, 101, .inl gbg))] H := hP
  have hD : va_D A [(ac, .inr (3, [.ref cfi, .ref clk, .ref clt, .int ac_length, .ref cop, .ref cva, .ref cpt, .ref cel, .int ac_labelCount, .ref cla])), (ty, .inl (cty, 5000, .inl gty)), (bh, .inl (cbh, 101, .inl gbh)), (bd, .inl (cbd, 101, .inl gbd)), (cla, .inl (ccla, 2000, .inl gcla)), (h0, .inr (9, [.ref aw, .ref ac, .int n4, .int h0_function, .ref ty, .int h0_height, .ref bo, .ref bg, .ref bh, .ref bd, .int h0_depth])), (bo, .inl (cbo, 101, .inl gbo)), (bg, .inl (cbg, 101, .inl gbg))] := hD
  refine lv_istore_n (lv' := [(3, .int r3), (0, .ref h0), (1, .int p0), (2, .int p1)]) hx hb d_VA_checkTable_15 rfl hl (by decide) rfl (fun ls hl => ?_)
  refine lv_iconst (v := 0) hx hb d_VA_checkTable_16 (by decide) ?_
  refine lv_istore (lv' := [(4, .int 0), (3, .int r3), (0, .ref h0), (1, .int p0), (2, .int p1)]) hx hb d_VA_checkTable_17 hl (by decide) rfl (fun ls hl => ?_)
  refine w_loop (σ := Int32 × Int32) (fun u H locs ls => match u with | (j19_l4, j19_h0_sound) => (j19_h0_sound = 0 ∨ j19_h0_sound = 1) ∧ (0 ≤ j19_l4.toInt ∧ j19_l4.toInt ≤ p1.toInt) ∧ (j19_h0_sound.toInt = 1 → h0_sound.toInt = 1) ∧ va_P (dC, dI) cls [(ac, .inr (3, [.ref cfi, .ref clk, .ref clt, .int ac_length, .ref cop, .ref cva, .ref cpt, .ref cel, .int ac_labelCount, .ref cla])), (ty, .inl (cty, 5000, .inl gty)), (bh, .inl (cbh, 101, .inl gbh)), (bd, .inl (cbd, 101, .inl gbd)), (cla, .inl (ccla, 2000, .inl gcla)), (h0, .inr (9, [.ref aw, .ref ac, .int j19_h0_sound, .int h0_function, .ref ty, .int h0_height, .ref bo, .ref bg, .ref bh, .ref bd, .int h0_depth])), (bo, .inl (cbo, 101, .inl gbo)), (bg, .inl (cbg, 101, .inl gbg))] H ∧ va_D A [(ac, .inr (3, [.ref cfi, .ref clk, .ref clt, .int ac_length, .ref cop, .ref cva, .ref cpt, .ref cel, .int ac_labelCount, .ref cla])), (ty, .inl (cty, 5000, .inl gty)), (bh, .inl (cbh, 101, .inl gbh)), (bd, .inl (cbd, 101, .inl gbd)), (cla, .inl (ccla, 2000, .inl gcla)), (h0, .inr (9, [.ref aw, .ref ac, .int j19_h0_sound, .int h0_function, .ref ty, .int h0_height, .ref bo, .ref bg, .ref bh, .ref bd, .int h0_depth])), (bo, .inl (cbo, 101, .inl gbo)), (bg, .inl (cbg, 101, .inl gbg))] ∧ va_S A s.heap H locs ∧ lv_has ls 6 [(0, .ref h0), (1, .int p0), (2, .int p1), (3, .int r3), (4, .int j19_l4)]) (fun u => match u with | (j19_l4, j19_h0_sound) => (p1.toInt - j19_l4.toInt).toNat) ?_ (0, n4) ⟨bn4, by (try dsimp only) <;> omega, by (try dsimp only) <;> omega, hP, hD, hS, lv_sub hl [2, 3, 4, 1, 0] rfl⟩
  intro N19 ih19 u H locs ls hN19 hI
  obtain ⟨j19_l4, j19_h0_sound⟩ := u
  obtain ⟨b_j19_h0_sound, v1, v2, hP, hD, hS, hl⟩ := hI
  have tj19_h0_sound := b01 b_j19_h0_sound
  have hN19 : (p1.toInt - j19_l4.toInt).toNat < N19 + 1 := hN19
  refine lv_iload hx hb d_VA_checkTable_19 (lv_at hl 4 rfl) ?_
  refine lv_iload_n hx hb d_VA_checkTable_21 rfl (lv_at hl 2 rfl) ?_
  refine lv_icmp_ge (tgt := 71) hx hb d_VA_checkTable_22 (by decide) (fun c22 => ?_) (fun c22 => ?_)
  · have q22 := leI c22
    refine lv_aload_n hx hb d_VA_checkTable_71 rfl (lv_at hl 0 rfl) ?_
    refine lv_bipush (v := 127) hx hb d_VA_checkTable_72 (by decide) ?_
    have hPc := hP.sub (ws' := [(h0, .inr (9, [.ref aw, .ref ac, .int j19_h0_sound, .int h0_function, .ref ty, .int h0_height, .ref bo, .ref bg, .ref bh, .ref bd, .int h0_depth])), (ty, .inl (cty, 5000, .inl gty)), (bh, .inl (cbh, 101, .inl gbh)), (bd, .inl (cbd, 101, .inl gbd))]) [5, 1, 2, 3] rfl
    have hDc := hD.sub (ws' := [(h0, .inr (9, [.ref aw, .ref ac, .int j19_h0_sound, .int h0_function, .ref ty, .int h0_height, .ref bo, .ref bg, .ref bh, .ref bd, .int h0_depth])), (ty, .inl (cty, 5000, .inl gty)), (bh, .inl (cbh, 101, .inl gbh)), (bd, .inl (cbd, 101, .inl gbd))]) [5, 1, 2, 3] (by decide) rfl
    have hKc := hK.sub (tys' := [(cty, .int), (cbh, .int), (cbd, .boolean)]) [0, 3, 4] rfl
    have hFc := va_free (wc := [(h0, .inr (9, [.ref aw, .ref ac, .int j19_h0_sound, .int h0_function, .ref ty, .int h0_height, .ref bo, .ref bg, .ref bh, .ref bd, .int h0_depth])), (ty, .inl (cty, 5000, .inl gty)), (bh, .inl (cbh, 101, .inl gbh)), (bd, .inl (cbd, 101, .inl gbd))]) hD hS hA [5, 1, 2, 3] rfl
    refine va_callv (va_runV (As := [.int 127]) (rest := []) ⟨hx, hb, hml, hown, hts⟩ (c_VA_pop l dC dI H.size h0 aw ac ty bo bg bh bd cty cbh cbd j19_h0_sound h0_function h0_height h0_depth gty gbh gbd (b_j19_h0_sound) (b_h0_height) (b_h0_depth) (b_gty) (b_gbh) 127 (by (try dsimp only) <;> omega) (by (try dsimp only) <;> omega)) (cwV 1 hts (gV kM_VA_161 kV_VA_pop kS_VA_pop kI_VA kC_VA_pop) rfl rfl rfl (by decide +kernel) ⟨Nat.le_of_ble_eq_true rfl, Nat.le_of_ble_eq_true rfl⟩) ⟨fun a U g mk z => by obtain ⟨z0, z1, zP, zK, zD⟩ := z; exact ⟨z0, z1, zP, va_K.moved (u := U) (U := U.calling g mk a) (Vm.Alike.refl U.vm) zK, zD⟩, va_recv hKc hPc (ci := 9) (q0 := 0) rfl rfl, fun U hU hW => ⟨rfl, by rw [hU], by rw [hU]; exact hPc, va_K.moved hW.alike hKc, hDc.weaken (fun _ _ _ _ => trivial)⟩⟩ rfl rfl hl.1 rfl (lv_room (Nat.le_of_ble_eq_true rfl)) d_VA_checkTable_74 ⟨(Nat.zero_le _), (Nat.zero_le _)⟩) hS (fun q _ h => hFc q h) hFc (fun u t H1 locs ht hvm hw hB hz1 hk1 hS => ?_)
    obtain ⟨n6, n7⟩ := u
    try dsimp only at hw
    obtain ⟨bn6, bn7, xr5⟩ := hw
    try clear hw
    have tn7 := b01 bn7
    obtain ⟨hP1, hK1, hD1⟩ := hB
    rw [ht] at hP1
    obtain ⟨hP, hD⟩ := va_join (wr := [(ac, .inr (3, [.ref cfi, .ref clk, .ref clt, .int ac_length, .ref cop, .ref cva, .ref cpt, .ref cel, .int ac_labelCount, .ref cla])), (cla, .inl (ccla, 2000, .inl gcla)), (bo, .inl (cbo, 101, .inl gbo)), (bg, .inl (cbg, 101, .inl gbg))]) (w1 := [(h0, .inr (9, [.ref aw, .ref ac, .int n7, .int h0_function, .ref ty, .int n6, .ref bo, .ref bg, .ref bh, .ref bd, .int h0_depth])), (ty, .inl (cty, 5000, .inl gty)), (bh, .inl (cbh, 101, .inl gbh)), (bd, .inl (cbd, 101, .inl gbd))]) hP hD [5, 1, 2, 3] [0, 4, 6, 7] rfl rfl (by decide) (by decide) hk1 hFc hP1 hD1
    clear hPc hDc hKc hFc hz1 hk1 hP1 hK1 hD1
    generalize H1 = H at hP hS ⊢
    have hP : va_P (dC, dI) cls [(ac, .inr (3, [.ref cfi, .ref clk, .ref clt, .int ac_length, .ref cop, .ref cva, .ref cpt, .ref cel, .int ac_labelCount, .ref cla])), (cla, .inl (ccla, 2000, .inl gcla)), (bo, .inl (cbo, 101, .inl gbo)), (bg, .inl (cbg, 101, .inl gbg)), (h0, .inr (9, [.ref aw, .ref ac, .int n7, .int h0_function, .ref ty, .int n6, .ref bo, .ref bg, .ref bh, .ref bd, .int h0_depth])), (ty, .inl (cty, 5000, .inl gty)), (bh, .inl (cbh, 101, .inl gbh)), (bd, .inl (cbd, 101, .inl gbd))] H := hP
    have hD : va_D A [(ac, .inr (3, [.ref cfi, .ref clk, .ref clt, .int ac_length, .ref cop, .ref cva, .ref cpt, .ref cel, .int ac_labelCount, .ref cla])), (cla, .inl (ccla, 2000, .inl gcla)), (bo, .inl (cbo, 101, .inl gbo)), (bg, .inl (cbg, 101, .inl gbg)), (h0, .inr (9, [.ref aw, .ref ac, .int n7, .int h0_function, .ref ty, .int n6, .ref bo, .ref bg, .ref bh, .ref bd, .int h0_depth])), (ty, .inl (cty, 5000, .inl gty)), (bh, .inl (cbh, 101, .inl gbh)), (bd, .inl (cbd, 101, .inl gbd))] := hD
    refine lv_aload_n hx hb d_VA_checkTable_77 rfl (lv_at hl 0 rfl) ?_
    refine lv_iload_n hx hb d_VA_checkTable_78 rfl (lv_at hl 3 rfl) ?_
    have hPc := hP.sub (ws' := [(h0, .inr (9, [.ref aw, .ref ac, .int n7, .int h0_function, .ref ty, .int n6, .ref bo, .ref bg, .ref bh, .ref bd, .int h0_depth])), (ty, .inl (cty, 5000, .inl gty)), (bh, .inl (cbh, 101, .inl gbh)), (bd, .inl (cbd, 101, .inl gbd))]) [4, 5, 6, 7] rfl
    have hDc := hD.sub (ws' := [(h0, .inr (9, [.ref aw, .ref ac, .int n7, .int h0_function, .ref ty, .int n6, .ref bo, .ref bg, .ref bh, .ref bd, .int h0_depth])), (ty, .inl (cty, 5000, .inl gty)), (bh, .inl (cbh, 101, .inl gbh)), (bd, .inl (cbd, 101, .inl gbd))]) [4, 5, 6, 7] (by decide) rfl
    have hKc := hK.sub (tys' := [(cty, .int), (cbh, .int), (cbd, .boolean)]) [0, 3, 4] rfl
    have hFc := va_free (wc := [(h0, .inr (9, [.ref aw, .ref ac, .int n7, .int h0_function, .ref ty, .int n6, .ref bo, .ref bg, .ref bh, .ref bd, .int h0_depth])), (ty, .inl (cty, 5000, .inl gty)), (bh, .inl (cbh, 101, .inl gbh)), (bd, .inl (cbd, 101, .inl gbd))]) hD hS hA [4, 5, 6, 7] rfl
    refine va_callv (va_runV (As := [.int r3]) (rest := []) ⟨hx, hb, hml, hown, hts⟩ (c_VA_pop l dC dI H.size h0 aw ac ty bo bg bh bd cty cbh cbd n7 h0_function n6 h0_depth gty gbh gbd (bn7) (bn6) (b_h0_depth) (b_gty) (b_gbh) r3 (by (try dsimp only) <;> omega) (by (try dsimp only) <;> omega)) (cwV 1 hts (gV kM_VA_161 kV_VA_pop kS_VA_pop kI_VA kC_VA_pop) rfl rfl rfl (by decide +kernel) ⟨Nat.le_of_ble_eq_true rfl, Nat.le_of_ble_eq_true rfl⟩) ⟨fun a U g mk z => by obtain ⟨z0, z1, zP, zK, zD⟩ := z; exact ⟨z0, z1, zP, va_K.moved (u := U) (U := U.calling g mk a) (Vm.Alike.refl U.vm) zK, zD⟩, va_recv hKc hPc (ci := 9) (q0 := 0) rfl rfl, fun U hU hW => ⟨rfl, by rw [hU], by rw [hU]; exact hPc, va_K.moved hW.alike hKc, hDc.weaken (fun _ _ _ _ => trivial)⟩⟩ rfl rfl hl.1 rfl (lv_room (Nat.le_of_ble_eq_true rfl)) d_VA_checkTable_79 ⟨(Nat.zero_le _), (Nat.zero_le _)⟩) hS (fun q _ h => hFc q h) hFc (fun u t H1 locs ht hvm hw hB hz1 hk1 hS => ?_)
    obtain ⟨n9, n10⟩ := u
    try dsimp only at hw
    obtain ⟨bn9, bn10, xr8⟩ := hw
    try clear hw
    have tn10 := b01 bn10
    obtain ⟨hP1, hK1, hD1⟩ := hB
    rw [ht] at hP1
    obtain ⟨hP, hD⟩ := va_join (wr := [(ac, .inr (3, [.ref cfi, .ref clk, .ref clt, .int ac_length, .ref cop, .ref cva, .ref cpt, .ref cel, .int ac_labelCount, .ref cla])), (cla, .inl (ccla, 2000, .inl gcla)), (bo, .inl (cbo, 101, .inl gbo)), (bg, .inl (cbg, 101, .inl gbg))]) (w1 := [(h0, .inr (9, [.ref aw, .ref ac, .int n10, .int h0_function, .ref ty, .int n9, .ref bo, .ref bg, .ref bh, .ref bd, .int h0_depth])), (ty, .inl (cty, 5000, .inl gty)), (bh, .inl (cbh, 101, .inl gbh)), (bd, .inl (cbd, 101, .inl gbd))]) hP hD [4, 5, 6, 7] [0, 1, 2, 3] rfl rfl (by decide) (by decide) hk1 hFc hP1 hD1
    clear hPc hDc hKc hFc hz1 hk1 hP1 hK1 hD1
    generalize H1 = H at hP hS ⊢
    have hP : va_P (dC, dI) cls [(ac, .inr (3, [.ref cfi, .ref clk, .ref clt, .int ac_length, .ref cop, .ref cva, .ref cpt, .ref cel, .int ac_labelCount, .ref cla])), (cla, .inl (ccla, 2000, .inl gcla)), (bo, .inl (cbo, 101, .inl gbo)), (bg, .inl (cbg, 101, .inl gbg)), (h0, .inr (9, [.ref aw, .ref ac, .int n10, .int h0_function, .ref ty, .int n9, .ref bo, .ref bg, .ref bh, .ref bd, .int h0_depth])), (ty, .inl (cty, 5000, .inl gty)), (bh, .inl (cbh, 101, .inl gbh)), (bd, .inl (cbd, 101, .inl gbd))] H := hP
    have hD : va_D A [(ac, .inr (3, [.ref cfi, .ref clk, .ref clt, .int ac_length, .ref cop, .ref cva, .ref cpt, .ref cel, .int ac_labelCount, .ref cla])), (cla, .inl (ccla, 2000, .inl gcla)), (bo, .inl (cbo, 101, .inl gbo)), (bg, .inl (cbg, 101, .inl gbg)), (h0, .inr (9, [.ref aw, .ref ac, .int n10, .int h0_function, .ref ty, .int n9, .ref bo, .ref bg, .ref bh, .ref bd, .int h0_depth])), (ty, .inl (cty, 5000, .inl gty)), (bh, .inl (cbh, 101, .inl gbh)), (bd, .inl (cbd, 101, .inl gbd))] := hD
    refine lv_aload_n hx hb d_VA_checkTable_82 rfl (lv_at hl 0 rfl) ?_
    have hPc := hP.sub (ws' := [(h0, .inr (9, [.ref aw, .ref ac, .int n10, .int h0_function, .ref ty, .int n9, .ref bo, .ref bg, .ref bh, .ref bd, .int h0_depth])), (bh, .inl (cbh, 101, .inl gbh)), (bd, .inl (cbd, 101, .inl gbd))]) [4, 6, 7] rfl
    have hDc := hD.sub (ws' := [(h0, .inr (9, [.ref aw, .ref ac, .int n10, .int h0_function, .ref ty, .int n9, .ref bo, .ref bg, .ref bh, .ref bd, .int h0_depth])), (bh, .inl (cbh, 101, .inl gbh)), (bd, .inl (cbd, 101, .inl gbd))]) [4, 6, 7] (by decide) rfl
    have hKc := hK.sub (tys' := [(cbh, .int), (cbd, .boolean)]) [3, 4] rfl
    have hFc := va_free (wc := [(h0, .inr (9, [.ref aw, .ref ac, .int n10, .int h0_function, .ref ty, .int n9, .ref bo, .ref bg, .ref bh, .ref bd, .int h0_depth])), (bh, .inl (cbh, 101, .inl gbh)), (bd, .inl (cbd, 101, .inl gbd))]) hD hS hA [4, 6, 7] rfl
    refine va_callv (va_runV (As := []) (rest := []) ⟨hx, hb, hml, hown, hts⟩ (c_VA_die l dC dI H.size h0 aw ac ty bo bg bh bd cbh cbd n10 h0_function n9 h0_depth gbh gbd (bn9) (b_h0_depth) (b_gbh) (by (try dsimp only) <;> omega)) (cwV 0 hts (gV kM_VA_158 kV_VA_die kS_VA_die kI_VA kC_VA_die) rfl rfl rfl (by decide +kernel) ⟨Nat.le_of_ble_eq_true rfl, Nat.le_of_ble_eq_true rfl⟩) ⟨fun a U g mk z => by obtain ⟨z0, z1, zP, zK, zD⟩ := z; exact ⟨z0, z1, zP, va_K.moved (u := U) (U := U.calling g mk a) (Vm.Alike.refl U.vm) zK, zD⟩, va_recv hKc hPc (ci := 9) (q0 := 0) rfl rfl, fun U hU hW => ⟨rfl, by rw [hU], by rw [hU]; exact hPc, va_K.moved hW.alike hKc, hDc.weaken (fun _ _ _ _ => trivial)⟩⟩ rfl rfl hl.1 rfl (lv_room (Nat.le_of_ble_eq_true rfl)) d_VA_checkTable_83 ⟨(Nat.zero_le _), (Nat.zero_le _)⟩) hS (fun q _ h => hFc q h) hFc (fun u t H1 locs ht hvm hw hB hz1 hk1 hS => ?_)
    obtain ⟨n12, n13⟩ := u
    try dsimp only at hw
    obtain ⟨bn13, xr11⟩ := hw
    try clear hw
    obtain ⟨hP1, hK1, hD1⟩ := hB
    rw [ht] at hP1
    obtain ⟨hP, hD⟩ := va_join (wr := [(ac, .inr (3, [.ref cfi, .ref clk, .ref clt, .int ac_length, .ref cop, .ref cva, .ref cpt, .ref cel, .int ac_labelCount, .ref cla])), (cla, .inl (ccla, 2000, .inl gcla)), (bo, .inl (cbo, 101, .inl gbo)), (bg, .inl (cbg, 101, .inl gbg)), (ty, .inl (cty, 5000, .inl gty))]) (w1 := [(h0, .inr (9, [.ref aw, .ref ac, .int n10, .int h0_function, .ref ty, .int n13, .ref bo, .ref bg, .ref bh, .ref bd, .int h0_depth])), (bh, .inl (cbh, 101, .inl gbh)), (bd, .inl (cbd, 101, .inl n12))]) hP hD [4, 6, 7] [0, 1, 2, 3, 5] rfl rfl (by decide) (by decide) hk1 hFc hP1 hD1
    clear hPc hDc hKc hFc hz1 hk1 hP1 hK1 hD1
    generalize H1 = H at hP hS ⊢
    have hP : va_P (dC, dI) cls [(ac, .inr (3, [.ref cfi, .ref clk, .ref clt, .int ac_length, .ref cop, .ref cva, .ref cpt, .ref cel, .int ac_labelCount, .ref cla])), (cla, .inl (ccla, 2000, .inl gcla)), (bo, .inl (cbo, 101, .inl gbo)), (bg, .inl (cbg, 101, .inl gbg)), (ty, .inl (cty, 5000, .inl gty)), (h0, .inr (9, [.ref aw, .ref ac, .int n10, .int h0_function, .ref ty, .int n13, .ref bo, .ref bg, .ref bh, .ref bd, .int h0_depth])), (bh, .inl (cbh, 101, .inl gbh)), (bd, .inl (cbd, 101, .inl n12))] H := hP
    have hD : va_D A [(ac, .inr (3, [.ref cfi, .ref clk, .ref clt, .int ac_length, .ref cop, .ref cva, .ref cpt, .ref cel, .int ac_labelCount, .ref cla])), (cla, .inl (ccla, 2000, .inl gcla)), (bo, .inl (cbo, 101, .inl gbo)), (bg, .inl (cbg, 101, .inl gbg)), (ty, .inl (cty, 5000, .inl gty)), (h0, .inr (9, [.ref aw, .ref ac, .int n10, .int h0_function, .ref ty, .int n13, .ref bo, .ref bg, .ref bh, .ref bd, .int h0_depth])), (bh, .inl (cbh, 101, .inl gbh)), (bd, .inl (cbd, 101, .inl n12))] := hD
    have hP9 := hP.sub (ws' := [(h0, .inr (9, [.ref aw, .ref ac, .int n10, .int h0_function, .ref ty, .int n13, .ref bo, .ref bg, .ref bh, .ref bd, .int h0_depth])), (ac, .inr (3, [.ref cfi, .ref clk, .ref clt, .int ac_length, .ref cop, .ref cva, .ref cpt, .ref cel, .int ac_labelCount, .ref cla])), (ty, .inl (cty, 5000, .inl gty)), (bo, .inl (cbo, 101, .inl gbo)), (bg, .inl (cbg, 101, .inl gbg)), (bh, .inl (cbh, 101, .inl gbh)), (bd, .inl (cbd, 101, .inl n12)), (cla, .inl (ccla, 2000, .inl gcla))]) [5, 0, 4, 2, 3, 6, 7, 1] rfl
    have hD9 := hD.sub (ws' := [(h0, .inr (9, [.ref aw, .ref ac, .int n10, .int h0_function, .ref ty, .int n13, .ref bo, .ref bg, .ref bh, .ref bd, .int h0_depth])), (ac, .inr (3, [.ref cfi, .ref clk, .ref clt, .int ac_length, .ref cop, .ref cva, .ref cpt, .ref cel, .int ac_labelCount, .ref cla])), (ty, .inl (cty, 5000, .inl gty)), (bo, .inl (cbo, 101, .inl gbo)), (bg, .inl (cbg, 101, .inl gbg)), (bh, .inl (cbh, 101, .inl gbh)), (bd, .inl (cbd, 101, .inl n12)), (cla, .inl (ccla, 2000, .inl gcla))]) [5, 0, 4, 2, 3, 6, 7, 1] (by decide) rfl
    exact W.vret hx hb hr (fun t ht hW => ⟨⟨(n12, n13, n10), rfl, ⟨bn13, bn10, ⟨⟨xr11.1, xr11.2⟩, by (try dsimp only) <;> omega⟩⟩, by rw [ht]; exact hP9, va_K.moved hW.alike hK, hD9⟩, hS.F ht⟩) hS.2.2 d_VA_checkTable_86
  · have q22 := nleI c22
    refine lv_aload_n hx hb d_VA_checkTable_25 rfl (lv_at hl 0 rfl) ?_
    refine lv_aload_n hx hb d_VA_checkTable_26 rfl (lv_at hl 0 rfl) ?_
    refine va_get (D := (dC, dI)) (ci := 9) (v := .ref ac) (C := R_VA) (T := F_VA) (N := 11) hx hb hts i_VA hown hK hP 5 rfl rfl 1 (by decide) (hts _ kF_VA_38) (fun _ h9 => h9) rfl d_VA_checkTable_27 ?_
    refine va_get (D := (dC, dI)) (ci := 3) (v := .ref cla) (C := R_CD) (T := F_CD) (N := 10) hx hb hts i_CD hown hK hP 0 rfl rfl 9 (by decide) (hts _ kF_VA_179) (fun _ h9 => h9) rfl d_VA_checkTable_30 ?_
    refine lv_iload_n hx hb d_VA_checkTable_33 rfl (lv_at hl 1 rfl) ?_
    refine lv_iload hx hb d_VA_checkTable_34 (lv_at hl 4 rfl) ?_
    refine lv_iadd hx hb d_VA_checkTable_36 ?_
    refine lv_topi (fun x14 ex14 => ?_)
    have tx14 : x14.toInt = p0.toInt + j19_l4.toInt := by have z := i32_add ex14 (by omega) (by omega); omega
    have g37 : vp_in x14 2000 := vp_in_iff.mpr ⟨by omega, by omega⟩
    refine va_iald hx hb hK hP 4 5 rfl rfl g37 d_VA_checkTable_37 ?_
    refine lv_topi (fun x15 ex15 => ?_)
    have tx15 := hlb x14.toNatClampNeg (by have := i32_clamp (x := x14) (by omega); omega)
    rw [← ex15] at tx15
    have hix15 := i32_hi x15
    have hPc := hP.sub (ws' := [(h0, .inr (9, [.ref aw, .ref ac, .int j19_h0_sound, .int h0_function, .ref ty, .int h0_height, .ref bo, .ref bg, .ref bh, .ref bd, .int h0_depth])), (bo, .inl (cbo, 101, .inl gbo)), (bg, .inl (cbg, 101, .inl gbg))]) [5, 6, 7] rfl
    have hDc := hD.sub (ws' := [(h0, .inr (9, [.ref aw, .ref ac, .int j19_h0_sound, .int h0_function, .ref ty, .int h0_height, .ref bo, .ref bg, .ref bh, .ref bd, .int h0_depth])), (bo, .inl (cbo, 101, .inl gbo)), (bg, .inl (cbg, 101, .inl gbg))]) [5, 6, 7] (by decide) rfl
    have hKc := hK.sub (tys' := [(cbo, .int), (cbg, .int)]) [1, 2] rfl
    have hFc := va_free (wc := [(h0, .inr (9, [.ref aw, .ref ac, .int j19_h0_sound, .int h0_function, .ref ty, .int h0_height, .ref bo, .ref bg, .ref bh, .ref bd, .int h0_depth])), (bo, .inl (cbo, 101, .inl gbo)), (bg, .inl (cbg, 101, .inl gbg))]) hD hS hA [5, 6, 7] rfl
    refine va_calli (va_runV (As := [.int x15]) (rest := []) ⟨hx, hb, hml, hown, hts⟩ (c_VA_labelType l dC dI H.size h0 aw ac ty bo bg bh bd cbo cbg j19_h0_sound h0_function h0_height h0_depth gbo gbg (b_j19_h0_sound) (b_h0_depth) x15 (by (try dsimp only) <;> omega)) (cwV 1 hts (gV kM_VA_170 kV_VA_labelType kS_VA_labelType kI_VA kC_VA_labelType) rfl rfl rfl (by decide +kernel) ⟨Nat.le_of_ble_eq_true rfl, Nat.le_of_ble_eq_true rfl⟩) ⟨fun a U g mk z => by obtain ⟨z0, z1, zP, zK, zD⟩ := z; exact ⟨z0, z1, zP, va_K.moved (u := U) (U := U.calling g mk a) (Vm.Alike.refl U.vm) zK, zD⟩, va_recv hKc hPc (ci := 9) (q0 := 0) rfl rfl, fun U hU hW => ⟨rfl, by rw [hU], by rw [hU]; exact hPc, va_K.moved hW.alike hKc, hDc.weaken (fun _ _ _ _ => trivial)⟩⟩ rfl rfl hl.1 rfl (lv_room (Nat.le_of_ble_eq_true rfl)) d_VA_checkTable_38 ⟨(Nat.zero_le _), (Nat.zero_le _)⟩) hS (fun q _ h => hFc q h) hFc (fun r16 u t H1 locs ht hvm hw hB hz1 hk1 hS => ?_)
    obtain ⟨n17, rfl⟩ : ∃ z, z = u := ⟨_, rfl⟩
    try dsimp only at hw
    obtain ⟨bn17, xr16⟩ := hw
    try clear hw
    have tn17 := b01 bn17
    obtain ⟨hP1, hK1, hD1⟩ := hB
    rw [ht] at hP1
    obtain ⟨hP, hD⟩ := va_join (wr := [(ac, .inr (3, [.ref cfi, .ref clk, .ref clt, .int ac_length, .ref cop, .ref cva, .ref cpt, .ref cel, .int ac_labelCount, .ref cla])), (ty, .inl (cty, 5000, .inl gty)), (bh, .inl (cbh, 101, .inl gbh)), (bd, .inl (cbd, 101, .inl gbd)), (cla, .inl (ccla, 2000, .inl gcla))]) (w1 := [(h0, .inr (9, [.ref aw, .ref ac, .int n17, .int h0_function, .ref ty, .int h0_height, .ref bo, .ref bg, .ref bh, .ref bd, .int h0_depth])), (bo, .inl (cbo, 101, .inl gbo)), (bg, .inl (cbg, 101, .inl gbg))]) hP hD [5, 6, 7] [0, 1, 2, 3, 4] rfl rfl (by decide) (by decide) hk1 hFc hP1 hD1
    clear hPc hDc hKc hFc hz1 hk1 hP1 hK1 hD1
    generalize H1 = H at hP hS ⊢
    have hP : va_P (dC, dI) cls [(ac, .inr (3, [.ref cfi, .ref clk, .ref clt, .int ac_length, .ref cop, .ref cva, .ref cpt, .ref cel, .int ac_labelCount, .ref cla])), (ty, .inl (cty, 5000, .inl gty)), (bh, .inl (cbh, 101, .inl gbh)), (bd, .inl (cbd, 101, .inl gbd)), (cla, .inl (ccla, 2000, .inl gcla)), (h0, .inr (9, [.ref aw, .ref ac, .int n17, .int h0_function, .ref ty, .int h0_height, .ref bo, .ref bg, .ref bh, .ref bd, .int h0_depth])), (bo, .inl (cbo, 101, .inl gbo)), (bg, .inl (cbg, 101, .inl gbg))] H := hP
    have hD : va_D A [(ac, .inr (3, [.ref cfi, .ref clk, .ref clt, .int ac_length, .ref cop, .ref cva, .ref cpt, .ref cel, .int ac_labelCount, .ref cla])), (ty, .inl (cty, 5000, .inl gty)), (bh, .inl (cbh, 101, .inl gbh)), (bd, .inl (cbd, 101, .inl gbd)), (cla, .inl (ccla, 2000, .inl gcla)), (h0, .inr (9, [.ref aw, .ref ac, .int n17, .int h0_function, .ref ty, .int h0_height, .ref bo, .ref bg, .ref bh, .ref bd, .int h0_depth])), (bo, .inl (cbo, 101, .inl gbo)), (bg, .inl (cbg, 101, .inl gbg))] := hD
    refine lv_istore (lv' := [(5, .int r16), (0, .ref h0), (1, .int p0), (2, .int p1), (3, .int r3), (4, .int j19_l4)]) hx hb d_VA_checkTable_41 hl (by decide) rfl (fun ls hl => ?_)
    refine lv_aload_n hx hb d_VA_checkTable_43 rfl (lv_at hl 1 rfl) ?_
    refine lv_aload_n hx hb d_VA_checkTable_44 rfl (lv_at hl 1 rfl) ?_
    refine va_get (D := (dC, dI)) (ci := 9) (v := .int n17) (C := R_VA) (T := F_VA) (N := 11) hx hb hts i_VA hown hK hP 5 rfl rfl 2 (by decide) (hts _ kF_VA_39) (fun _ h9 => h9) rfl d_VA_checkTable_45 ?_
    refine w_cut (pc2 := 62) (σ := Int32) (fun u H locs ls => match u with | j62_s0 => (j62_s0 = 0 ∨ j62_s0 = 1) ∧ (j62_s0.toInt = 1 → n17.toInt = 1) ∧ va_P (dC, dI) cls [(ac, .inr (3, [.ref cfi, .ref clk, .ref clt, .int ac_length, .ref cop, .ref cva, .ref cpt, .ref cel, .int ac_labelCount, .ref cla])), (ty, .inl (cty, 5000, .inl gty)), (bh, .inl (cbh, 101, .inl gbh)), (bd, .inl (cbd, 101, .inl gbd)), (cla, .inl (ccla, 2000, .inl gcla)), (h0, .inr (9, [.ref aw, .ref ac, .int n17, .int h0_function, .ref ty, .int h0_height, .ref bo, .ref bg, .ref bh, .ref bd, .int h0_depth])), (bo, .inl (cbo, 101, .inl gbo)), (bg, .inl (cbg, 101, .inl gbg))] H ∧ va_D A [(ac, .inr (3, [.ref cfi, .ref clk, .ref clt, .int ac_length, .ref cop, .ref cva, .ref cpt, .ref cel, .int ac_labelCount, .ref cla])), (ty, .inl (cty, 5000, .inl gty)), (bh, .inl (cbh, 101, .inl gbh)), (bd, .inl (cbd, 101, .inl gbd)), (cla, .inl (ccla, 2000, .inl gcla)), (h0, .inr (9, [.ref aw, .ref ac, .int n17, .int h0_function, .ref ty, .int h0_height, .ref bo, .ref bg, .ref bh, .ref bd, .int h0_depth])), (bo, .inl (cbo, 101, .inl gbo)), (bg, .inl (cbg, 101, .inl gbg))] ∧ va_S A s.heap H locs ∧ lv_has ls 6 [(0, .ref h0), (1, .int p0), (2, .int p1), (3, .int r3), (4, .int j19_l4)]) (fun u => match u with | j62_s0 => [.int j62_s0, .ref h0]) ?_ (fun jn62 => ?_)
    · intro u H locs ls hI
      obtain ⟨j62_s0, rfl⟩ : ∃ z, z = u := ⟨_, rfl⟩
      obtain ⟨b_j62_s0, x0, hP, hD, hS, hl⟩ := hI
      have tj62_s0 := b01 b_j62_s0
      refine va_put (D := (dC, dI)) (ci := 9) (v := .int j62_s0) (ty := .boolean) (C := R_VA) (T := F_VA) (N := 11) hx hb hts i_VA t_VA t_VA_ok n_VA hown hK hP hD hS 5 rfl rfl 2 (by decide) (hts _ kF_VA_39) (fun _ h9 => h9) rfl (by decide +kernel) (zn01 (b_j62_s0)) (fz01 (b_j62_s0)) (Nat.le_of_ble_eq_true rfl) d_VA_checkTable_62 (fun H locs hP hD hS => ?_)
      obtain ⟨x18, ex18⟩ : ∃ z : Int32, z = j19_l4 + 1 := ⟨_, rfl⟩
      have tx18 : x18.toInt = j19_l4.toInt + 1 := by have z := i32_add ex18 (by omega) (by omega); omega
      refine lv_iinc (v := x18) (lv' := [(4, .int x18), (0, .ref h0), (1, .int p0), (2, .int p1), (3, .int r3)]) hx hb d_VA_checkTable_65 hl (k := 4) rfl (by rw [ex18]; rfl) (by decide) rfl (fun ls hl => ?_)
      refine lv_goto (tgt := 19) hx hb d_VA_checkTable_68 (by decide) ?_
      exact ih19 (x18, j62_s0) _ _ _ (by show (p1.toInt - x18.toInt).toNat < N19; omega) ⟨b_j62_s0, by (try dsimp only) <;> omega, by (try dsimp only) <;> omega, hP, hD, hS, lv_sub hl [1, 2, 3, 4, 0] rfl⟩
    · skip
      refine w_cut (pc2 := 61) (σ := Unit) (fun u H locs ls => match u with | _ => va_P (dC, dI) cls [(ac, .inr (3, [.ref cfi, .ref clk, .ref clt, .int ac_length, .ref cop, .ref cva, .ref cpt, .ref cel, .int ac_labelCount, .ref cla])), (ty, .inl (cty, 5000, .inl gty)), (bh, .inl (cbh, 101, .inl gbh)), (bd, .inl (cbd, 101, .inl gbd)), (cla, .inl (ccla, 2000, .inl gcla)), (h0, .inr (9, [.ref aw, .ref ac, .int n17, .int h0_function, .ref ty, .int h0_height, .ref bo, .ref bg, .ref bh, .ref bd, .int h0_depth])), (bo, .inl (cbo, 101, .inl gbo)), (bg, .inl (cbg, 101, .inl gbg))] H ∧ va_D A [(ac, .inr (3, [.ref cfi, .ref clk, .ref clt, .int ac_length, .ref cop, .ref cva, .ref cpt, .ref cel, .int ac_labelCount, .ref cla])), (ty, .inl (cty, 5000, .inl gty)), (bh, .inl (cbh, 101, .inl gbh)), (bd, .inl (cbd, 101, .inl gbd)), (cla, .inl (ccla, 2000, .inl gcla)), (h0, .inr (9, [.ref aw, .ref ac, .int n17, .int h0_function, .ref ty, .int h0_height, .ref bo, .ref bg, .ref bh, .ref bd, .int h0_depth])), (bo, .inl (cbo, 101, .inl gbo)), (bg, .inl (cbg, 101, .inl gbg))] ∧ va_S A s.heap H locs ∧ lv_has ls 6 [(0, .ref h0), (1, .int p0), (2, .int p1), (3, .int r3), (4, .int j19_l4)]) (fun u => match u with | _ => [.ref h0]) ?_ (fun jn61 => ?_)
      · intro u H locs ls hI
        obtain ⟨hP, hD, hS, hl⟩ := hI
        refine lv_iconst (v := 0) hx hb d_VA_checkTable_61 (by decide) ?_
        exact jn62 0 _ _ _ ⟨Or.inl rfl, by (try dsimp only) <;> omega, hP, hD, hS, lv_sub hl [0, 1, 2, 3, 4] rfl⟩
      · skip
        refine lv_if_eq (tgt := 61) hx hb d_VA_checkTable_48 (by decide) (fun c48 => ?_) (fun c48 => ?_)
        · have q48 := eqI c48
          exact jn61 () _ _ _ ⟨hP, hD, hS, lv_sub hl [1, 2, 3, 4, 5] rfl⟩
        · have q48 := neI c48
          refine lv_iload hx hb d_VA_checkTable_51 (lv_at hl 0 rfl) ?_
          refine lv_iload_n hx hb d_VA_checkTable_53 rfl (lv_at hl 4 rfl) ?_
          refine lv_icmp_ne (tgt := 61) hx hb d_VA_checkTable_54 (by decide) (fun c54 => ?_) (fun c54 => ?_)
          · have q54 := neI c54
            exact jn61 () _ _ _ ⟨hP, hD, hS, lv_sub hl [1, 2, 3, 4, 5] rfl⟩
          · have q54 := eqI c54
            refine lv_iconst (v := 1) hx hb d_VA_checkTable_57 (by decide) ?_
            refine lv_goto (tgt := 62) hx hb d_VA_checkTable_58 (by decide) ?_
            exact jn62 1 _ _ _ ⟨Or.inr rfl, by (try dsimp only) <;> omega, hP, hD, hS, lv_sub hl [1, 2, 3, 4, 5] rfl⟩
abbrev b_VA_checkJump : ByteArray := prog_12_method_7_code
def y_VA_checkJump : MethodName := ⟨R_VA, "checkJump", "(II)V"⟩
abbrev w_VA_checkJump : List Cond := .code y_VA_checkJump b_VA_checkJump 4 none :: lw_g
theorem kC_VA_checkJump : Cond.code y_VA_checkJump b_VA_checkJump 4 none ∈ lw_g := in_g 1443 (by decide +kernel) rfl
theorem d_VA_checkJump_0 : decode b_VA_checkJump 0 = .ok (.aload_n 0, 1) := by decide +kernel
theorem d_VA_checkJump_1 : decode b_VA_checkJump 1 = .ok (.getfield 38, 3) := by decide +kernel
theorem d_VA_checkJump_4 : decode b_VA_checkJump 4 = .ok (.getfield 136, 3) := by decide +kernel
theorem d_VA_checkJump_7 : decode b_VA_checkJump 7 = .ok (.iload_n 2, 1) := by decide +kernel
theorem d_VA_checkJump_8 : decode b_VA_checkJump 8 = .ok (.laload, 1) := by decide +kernel
theorem d_VA_checkJump_9 : decode b_VA_checkJump 9 = .ok (.l2i, 1) := by decide +kernel
theorem d_VA_checkJump_10 : decode b_VA_checkJump 10 = .ok (.istore_n 3, 1) := by decide +kernel
theorem d_VA_checkJump_11 : decode b_VA_checkJump 11 = .ok (.iload_n 1, 1) := by decide +kernel
theorem d_VA_checkJump_12 : decode b_VA_checkJump 12 = .ok (.tableswitch 114 12 15 #[32, 48, 75, 92], 32) := by decide +kernel
theorem d_VA_checkJump_44 : decode b_VA_checkJump 44 = .ok (.aload_n 0, 1) := by decide +kernel
theorem d_VA_checkJump_45 : decode b_VA_checkJump 45 = .ok (.aload_n 0, 1) := by decide +kernel
theorem d_VA_checkJump_46 : decode b_VA_checkJump 46 = .ok (.iload_n 3, 1) := by decide +kernel
theorem d_VA_checkJump_47 : decode b_VA_checkJump 47 = .ok (.invokevirtual 170, 3) := by decide +kernel
theorem d_VA_checkJump_50 : decode b_VA_checkJump 50 = .ok (.invokevirtual 161, 3) := by decide +kernel
theorem d_VA_checkJump_53 : decode b_VA_checkJump 53 = .ok (.aload_n 0, 1) := by decide +kernel
theorem d_VA_checkJump_54 : decode b_VA_checkJump 54 = .ok (.invokevirtual 158, 3) := by decide +kernel
theorem d_VA_checkJump_57 : decode b_VA_checkJump 57 = .ok (.goto 74, 3) := by decide +kernel
theorem d_VA_checkJump_60 : decode b_VA_checkJump 60 = .ok (.aload_n 0, 1) := by decide +kernel
theorem d_VA_checkJump_61 : decode b_VA_checkJump 61 = .ok (.bipush 127, 2) := by decide +kernel
theorem d_VA_checkJump_63 : decode b_VA_checkJump 63 = .ok (.invokevirtual 161, 3) := by decide +kernel
theorem d_VA_checkJump_66 : decode b_VA_checkJump 66 = .ok (.aload_n 0, 1) := by decide +kernel
theorem d_VA_checkJump_67 : decode b_VA_checkJump 67 = .ok (.aload_n 0, 1) := by decide +kernel
theorem d_VA_checkJump_68 : decode b_VA_checkJump 68 = .ok (.iload_n 3, 1) := by decide +kernel
theorem d_VA_checkJump_69 : decode b_VA_checkJump 69 = .ok (.invokevirtual 170, 3) := by decide +kernel
theorem d_VA_checkJump_72 : decode b_VA_checkJump 72 = .ok (.invokevirtual 161, 3) := by decide +kernel
theorem d_VA_checkJump_75 : decode b_VA_checkJump 75 = .ok (.aload_n 0, 1) := by decide +kernel
theorem d_VA_checkJump_76 : decode b_VA_checkJump 76 = .ok (.aload_n 0, 1) := by decide +kernel
theorem d_VA_checkJump_77 : decode b_VA_checkJump 77 = .ok (.iload_n 3, 1) := by decide +kernel
theorem d_VA_checkJump_78 : decode b_VA_checkJump 78 = .ok (.invokevirtual 170, 3) := by decide +kernel
theorem d_VA_checkJump_81 : decode b_VA_checkJump 81 = .ok (.invokevirtual 167, 3) := by decide +kernel
theorem d_VA_checkJump_84 : decode b_VA_checkJump 84 = .ok (.goto 47, 3) := by decide +kernel
theorem d_VA_checkJump_87 : decode b_VA_checkJump 87 = .ok (.aload_n 0, 1) := by decide +kernel
theorem d_VA_checkJump_88 : decode b_VA_checkJump 88 = .ok (.iload_n 3, 1) := by decide +kernel
theorem d_VA_checkJump_89 : decode b_VA_checkJump 89 = .ok (.aload_n 0, 1) := by decide +kernel
theorem d_VA_checkJump_90 : decode b_VA_checkJump 90 = .ok (.getfield 38, 3) := by decide +kernel
theorem d_VA_checkJump_93 : decode b_VA_checkJump 93 = .ok (.getfield 149, 3) := by decide +kernel
theorem d_VA_checkJump_96 : decode b_VA_checkJump 96 = .ok (.iload_n 2, 1) := by decide +kernel
theorem d_VA_checkJump_97 : decode b_VA_checkJump 97 = .ok (.iaload, 1) := by decide +kernel
theorem d_VA_checkJump_98 : decode b_VA_checkJump 98 = .ok (.invokevirtual 173, 3) := by decide +kernel
theorem d_VA_checkJump_101 : decode b_VA_checkJump 101 = .ok (.goto 30, 3) := by decide +kernel
theorem d_VA_checkJump_104 : decode b_VA_checkJump 104 = .ok (.aload_n 0, 1) := by decide +kernel
theorem d_VA_checkJump_105 : decode b_VA_checkJump 105 = .ok (.aload_n 0, 1) := by decide +kernel
theorem d_VA_checkJump_106 : decode b_VA_checkJump 106 = .ok (.getfield 28, 3) := by decide +kernel
theorem d_VA_checkJump_109 : decode b_VA_checkJump 109 = .ok (.aload_n 0, 1) := by decide +kernel
theorem d_VA_checkJump_110 : decode b_VA_checkJump 110 = .ok (.getfield 111, 3) := by decide +kernel
theorem d_VA_checkJump_113 : decode b_VA_checkJump 113 = .ok (.invokevirtual 120, 3) := by decide +kernel
theorem d_VA_checkJump_116 : decode b_VA_checkJump 116 = .ok (.invokevirtual 161, 3) := by decide +kernel
theorem d_VA_checkJump_119 : decode b_VA_checkJump 119 = .ok (.aload_n 0, 1) := by decide +kernel
theorem d_VA_checkJump_120 : decode b_VA_checkJump 120 = .ok (.invokevirtual 158, 3) := by decide +kernel
theorem d_VA_checkJump_123 : decode b_VA_checkJump 123 = .ok (.goto 8, 3) := by decide +kernel
theorem d_VA_checkJump_126 : decode b_VA_checkJump 126 = .ok (.aload_n 0, 1) := by decide +kernel
theorem d_VA_checkJump_127 : decode b_VA_checkJump 127 = .ok (.iload_n 3, 1) := by decide +kernel
theorem d_VA_checkJump_128 : decode b_VA_checkJump 128 = .ok (.invokevirtual 176, 3) := by decide +kernel
theorem d_VA_checkJump_131 : decode b_VA_checkJump 131 = .ok (.return_, 1) := by decide +kernel
theorem kM_VA_176 : Cond.methodLink R_VA 176 y_VA_checkCall ∈ lw_g := in_g 1452 (by decide +kernel) rfl
theorem kV_VA_checkCall : Cond.instanceMethod y_VA_checkCall ∈ lw_g := in_g 1454 (by decide +kernel) rfl
theorem kS_VA_checkCall : Cond.selects R_VA y_VA_checkCall y_VA_checkCall ∈ lw_g := in_s 94 (by decide +kernel) rfl
theorem kM_VA_173 : Cond.methodLink R_VA 173 y_VA_checkTable ∈ lw_g := in_g 1448 (by decide +kernel) rfl
theorem kV_VA_checkTable : Cond.instanceMethod y_VA_checkTable ∈ lw_g := in_g 1450 (by decide +kernel) rfl
theorem kS_VA_checkTable : Cond.selects R_VA y_VA_checkTable y_VA_checkTable ∈ lw_g := in_s 93 (by decide +kernel) rfl
theorem kF_VA_136 : Cond.fieldLink R_VA 136 "WaferForge$Codes" "values" "[J" ∈ lw_g := in_g 102 (by decide +kernel) rfl
theorem kF_VA_149 : Cond.fieldLink R_VA 149 "WaferForge$Codes" "partners" "[I" ∈ lw_g := in_g 107 (by decide +kernel) rfl
abbrev at_VA_checkJump (dC : Nat → ClassId) (dI : Nat → Nat → Nat) (h0 aw ac ty bo bg bh bd wat wap wag waf cfi clk clt cop cva cpt cel cla : Nat) (cty cbo cbg cbh cbd cwaf cwat cwap cwag cclk cclt ccop ccva ccpt ccla : ClassId) (h0_function : Int32) (h0_depth : Int32) (law : List Value) (aw_functionCount : Int32) (ac_length : Int32) (ac_labelCount : Int32) (gbo : Nat → Int32) (gbg : Nat → Int32) (gbh : Nat → Int32) (gwaf : Nat → Int32) (gwat : Nat → Int32) (gwap : Nat → Int32) (gwag : Nat → Int32) (gclk : Nat → Int32) (gclt : Nat → Int32) (gcop : Nat → Int32) (gcva : Nat → Int64) (gcpt : Nat → Int32) (gcla : Nat → Int32) (A : Nat → Prop) (u : (Nat → Int32) × (Nat → Int32) × Int32 × Int32) (t : State) : Prop := match u with | (gbd, gty, h0_height, h0_sound) => va_P (dC, dI) cls [(h0, .inr (9, [.ref aw, .ref ac, .int h0_sound, .int h0_function, .ref ty, .int h0_height, .ref bo, .ref bg, .ref bh, .ref bd, .int h0_depth])), (aw, .inr (10, law)), (ac, .inr (3, [.ref cfi, .ref clk, .ref clt, .int ac_length, .ref cop, .ref cva, .ref cpt, .ref cel, .int ac_labelCount, .ref cla])), (ty, .inl (cty, 5000, .inl gty)), (bo, .inl (cbo, 101, .inl gbo)), (bg, .inl (cbg, 101, .inl gbg)), (bh, .inl (cbh, 101, .inl gbh)), (bd, .inl (cbd, 101, .inl gbd)), (waf, .inl (cwaf, 30, .inl gwaf)), (wat, .inl (cwat, 20, .inl gwat)), (wap, .inl (cwap, 160, .inl gwap)), (wag, .inl (cwag, 20, .inl gwag)), (clk, .inl (cclk, 30, .inl gclk)), (clt, .inl (cclt, 1800, .inl gclt)), (cop, .inl (ccop, 5000, .inl gcop)), (cva, .inl (ccva, 5000, .inr (.inl gcva))), (cpt, .inl (ccpt, 5000, .inl gcpt)), (cla, .inl (ccla, 2000, .inl gcla))] t.heap ∧ va_K (dC, dI) cls [(cty, .int), (cbo, .int), (cbg, .int), (cbh, .int), (cbd, .boolean), (cwaf, .int), (cwat, .int), (cwap, .int), (cwag, .int), (cclk, .int), (cclt, .int), (ccop, .int), (ccva, .long), (ccpt, .int), (ccla, .int)] t ∧ va_D A [(h0, .inr (9, [.ref aw, .ref ac, .int h0_sound, .int h0_function, .ref ty, .int h0_height, .ref bo, .ref bg, .ref bh, .ref bd, .int h0_depth])), (aw, .inr (10, law)), (ac, .inr (3, [.ref cfi, .ref clk, .ref clt, .int ac_length, .ref cop, .ref cva, .ref cpt, .ref cel, .int ac_labelCount, .ref cla])), (ty, .inl (cty, 5000, .inl gty)), (bo, .inl (cbo, 101, .inl gbo)), (bg, .inl (cbg, 101, .inl gbg)), (bh, .inl (cbh, 101, .inl gbh)), (bd, .inl (cbd, 101, .inl gbd)), (waf, .inl (cwaf, 30, .inl gwaf)), (wat, .inl (cwat, 20, .inl gwat)), (wap, .inl (cwap, 160, .inl gwap)), (wag, .inl (cwag, 20, .inl gwag)), (clk, .inl (cclk, 30, .inl gclk)), (clt, .inl (cclt, 1800, .inl gclt)), (cop, .inl (ccop, 5000, .inl gcop)), (cva, .inl (ccva, 5000, .inr (.inl gcva))), (cpt, .inl (ccpt, 5000, .inl gcpt)), (cla, .inl (ccla, 2000, .inl gcla))]
set_option maxHeartbeats 4000000 in
set_option maxRecDepth 100000 in
theorem c_VA_checkJump (l : Launch) (dC : Nat → ClassId) (dI : Nat → Nat → Nat) (sz : Nat) (h0 aw ac ty bo bg bh bd wat wap wag waf cfi clk clt cop cva cpt cel cla : Nat) (cty cbo cbg cbh cbd cwaf cwat cwap cwag cclk cclt ccop ccva ccpt ccla : ClassId) (h0_sound : Int32) (h0_function : Int32) (h0_height : Int32) (h0_depth : Int32) (law : List Value) (aw_functionCount : Int32) (ac_length : Int32) (ac_labelCount : Int32) (gty : Nat → Int32) (gbo : Nat → Int32) (gbg : Nat → Int32) (gbh : Nat → Int32) (gbd : Nat → Int32) (gwaf : Nat → Int32) (gwat : Nat → Int32) (gwap : Nat → Int32) (gwag : Nat → Int32) (gclk : Nat → Int32) (gclt : Nat → Int32) (gcop : Nat → Int32) (gcva : Nat → Int64) (gcpt : Nat → Int32) (gcla : Nat → Int32) (paw_1 : law[1]? = some (.ref ac)) (paw_3 : law[3]? = some (.ref wat)) (paw_4 : law[4]? = some (.ref wap)) (paw_5 : law[5]? = some (.ref wag)) (paw_6 : law[6]? = some (.int aw_functionCount)) (paw_7 : law[7]? = some (.ref waf)) (plaw : law.length = 21) (b_h0_sound : h0_sound = 0 ∨ h0_sound = 1) (b_h0_height : 0 ≤ h0_height.toInt ∧ h0_height.toInt ≤ 5000) (b_h0_depth : 0 ≤ h0_depth.toInt ∧ h0_depth.toInt ≤ 101) (b_ac_labelCount : 0 ≤ ac_labelCount.toInt ∧ ac_labelCount.toInt ≤ 2000) (b_gty : ∀ j : Nat, (gty j).toInt ≠ 64) (b_gbh : ∀ j : Nat, 0 ≤ (gbh j).toInt ∧ (gbh j).toInt ≤ 5000) (b_aw_functionCount : 0 ≤ aw_functionCount.toInt ∧ aw_functionCount.toInt ≤ 30) (p0 : Int32) (p1 : Int32) (ba1 : 0 ≤ p1.toInt ∧ p1.toInt ≤ 4999) (hd1 : 1 ≤ h0_depth.toInt) (hbh : (gbh (h0_depth.toInt - 1).toNat).toInt ≤ h0_height.toInt) (hh5 : h0_height.toInt < 5000) (hfu : 0 ≤ h0_function.toInt ∧ h0_function.toInt < aw_functionCount.toInt ∧ aw_functionCount.toInt ≤ 30) (hwf : ∀ f : Nat, (f : Int) < aw_functionCount.toInt → vw_fun gwaf gwat gwap gclk gclt f) (hlb : ∀ j : Nat, (j : Int) < ac_labelCount.toInt → 0 ≤ (gcla j).toInt) (ho : p0 = gcop p1.toNatClampNeg) (hvl : rs_val gcop gcpt gcva ac_labelCount.toInt p1.toNatClampNeg) (hop : 12 ≤ p0.toInt ∧ p0.toInt ≤ 16) : Met l y_VA_checkJump w_VA_checkJump ({ frames := 3, cells := 0, slots := 0, locals := 67 }) (va_Pc [.ref h0, .int p0, .int p1] (fun U => U.heap.size = sz ∧ va_P (dC, dI) cls [(h0, .inr (9, [.ref aw, .ref ac, .int h0_sound, .int h0_function, .ref ty, .int h0_height, .ref bo, .ref bg, .ref bh, .ref bd, .int h0_depth])), (aw, .inr (10, law)), (ac, .inr (3, [.ref cfi, .ref clk, .ref clt, .int ac_length, .ref cop, .ref cva, .ref cpt, .ref cel, .int ac_labelCount, .ref cla])), (ty, .inl (cty, 5000, .inl gty)), (bo, .inl (cbo, 101, .inl gbo)), (bg, .inl (cbg, 101, .inl gbg)), (bh, .inl (cbh, 101, .inl gbh)), (bd, .inl (cbd, 101, .inl gbd)), (waf, .inl (cwaf, 30, .inl gwaf)), (wat, .inl (cwat, 20, .inl gwat)), (wap, .inl (cwap, 160, .inl gwap)), (wag, .inl (cwag, 20, .inl gwag)), (clk, .inl (cclk, 30, .inl gclk)), (clt, .inl (cclt, 1800, .inl gclt)), (cop, .inl (ccop, 5000, .inl gcop)), (cva, .inl (ccva, 5000, .inr (.inl gcva))), (cpt, .inl (ccpt, 5000, .inl gcpt)), (cla, .inl (ccla, 2000, .inl gcla))] U.heap ∧ va_K (dC, dI) cls [(cty, .int), (cbo, .int), (cbg, .int), (cbh, .int), (cbd, .boolean), (cwaf, .int), (cwat, .int), (cwap, .int), (cwag, .int), (cclk, .int), (cclt, .int), (ccop, .int), (ccva, .long), (ccpt, .int), (ccla, .int)] U ∧ va_D (fun _ => True) [(h0, .inr (9, [.ref aw, .ref ac, .int h0_sound, .int h0_function, .ref ty, .int h0_height, .ref bo, .ref bg, .ref bh, .ref bd, .int h0_depth])), (aw, .inr (10, law)), (ac, .inr (3, [.ref cfi, .ref clk, .ref clt, .int ac_length, .ref cop, .ref cva, .ref cpt, .ref cel, .int ac_labelCount, .ref cla])), (ty, .inl (cty, 5000, .inl gty)), (bo, .inl (cbo, 101, .inl gbo)), (bg, .inl (cbg, 101, .inl gbg)), (bh, .inl (cbh, 101, .inl gbh)), (bd, .inl (cbd, 101, .inl gbd)), (waf, .inl (cwaf, 30, .inl gwaf)), (wat, .inl (cwat, 20, .inl gwat)), (wap, .inl (cwap, 160, .inl gwap)), (wag, .inl (cwag, 20, .inl gwag)), (clk, .inl (cclk, 30, .inl gclk)), (clt, .inl (cclt, 1800, .inl gclt)), (cop, .inl (ccop, 5000, .inl gcop)), (cva, .inl (ccva, 5000, .inr (.inl gcva))), (cpt, .inl (ccpt, 5000, .inl gcpt)), (cla, .inl (ccla, 2000, .inl gcla))])) (va_Qv (fun (u : (Nat → Int32) × (Nat → Int32) × Int32 × Int32) => match u with | (gbd2, gty2, h0_height2, h0_sound2) => (∀ j : Nat, (gty2 j).toInt ≠ 64) ∧ (0 ≤ h0_height2.toInt ∧ h0_height2.toInt ≤ 5000) ∧ (h0_sound2 = 0 ∨ h0_sound2 = 1) ∧ ((p0.toInt = 12 ∨ p0.toInt = 14 ∨ p0.toInt = 15 → (h0_height2.toInt = (gbh (h0_depth.toInt - 1).toNat).toInt ∧ gbd2 = upd gbd (h0_depth.toInt - 1).toNat (vp_nar .boolean 1)) ∧ (h0_sound2.toInt = 1 → h0_sound.toInt = 1 ∧ (p0.toInt = 14 → (gbd (h0_depth.toInt - 1).toNat).toInt = 0 → (gbh (h0_depth.toInt - 1).toNat).toInt + 1 ≤ h0_height.toInt))) ∧ (p0.toInt = 13 → gbd2 = gbd ∧ ((gbh (h0_depth.toInt - 1).toNat).toInt ≤ h0_height2.toInt ∧ h0_height2.toInt ≤ h0_height.toInt + 1) ∧ (h0_sound2.toInt = 1 → h0_sound.toInt = 1 ∧ ((gbd (h0_depth.toInt - 1).toNat).toInt = 0 → (gbh (h0_depth.toInt - 1).toNat).toInt + 1 ≤ h0_height.toInt ∧ h0_height2.toInt = h0_height.toInt - 1))) ∧ (p0.toInt = 16 → gbd2 = gbd ∧ ((gbh (h0_depth.toInt - 1).toNat).toInt ≤ h0_height2.toInt ∧ h0_height2.toInt ≤ h0_height.toInt + 1) ∧ (h0_sound2.toInt = 1 → h0_sound.toInt = 1 ∧ (gcva p1.toNatClampNeg).toInt < aw_functionCount.toInt ∧ ((gbd (h0_depth.toInt - 1).toNat).toInt = 0 → (gbh (h0_depth.toInt - 1).toNat).toInt + (gwat (gwaf (gcva p1.toNatClampNeg).toInt.toNat).toNatClampNeg).toInt ≤ h0_height.toInt ∧ h0_height2.toInt = h0_height.toInt - (gwat (gwaf (gcva p1.toNatClampNeg).toInt.toNat).toNatClampNeg).toInt + (if (gwag (gwaf (gcva p1.toNatClampNeg).toInt.toNat).toNatClampNeg).toInt = 64 then 0 else 1)))))) (at_VA_checkJump dC dI h0 aw ac ty bo bg bh bd wat wap wag waf cfi clk clt cop cva cpt cel cla cty cbo cbg cbh cbd cwaf cwat cwap cwag cclk cclt ccop ccva ccpt ccla h0_function h0_depth law aw_functionCount ac_length ac_labelCount gbo gbg gbh gwaf gwat gwap gwag gclk gclt gcop gcva gcpt gcla (va_A [(h0, .inr (9, [.ref aw, .ref ac, .int h0_sound, .int h0_function, .ref ty, .int h0_height, .ref bo, .ref bg, .ref bh, .ref bd, .int h0_depth])), (aw, .inr (10, law)), (ac, .inr (3, [.ref cfi, .ref clk, .ref clt, .int ac_length, .ref cop, .ref cva, .ref cpt, .ref cel, .int ac_labelCount, .ref cla])), (ty, .inl (cty, 5000, .inl gty)), (bo, .inl (cbo, 101, .inl gbo)), (bg, .inl (cbg, 101, .inl gbg)), (bh, .inl (cbh, 101, .inl gbh)), (bd, .inl (cbd, 101, .inl gbd)), (waf, .inl (cwaf, 30, .inl gwaf)), (wat, .inl (cwat, 20, .inl gwat)), (wap, .inl (cwap, 160, .inl gwap)), (wag, .inl (cwag, 20, .inl gwag)), (clk, .inl (cclk, 30, .inl gclk)), (clt, .inl (cclt, 1800, .inl gclt)), (cop, .inl (ccop, 5000, .inl gcop)), (cva, .inl (ccva, 5000, .inr (.inl gcva))), (cpt, .inl (ccpt, 5000, .inl gcpt)), (cla, .inl (ccla, 2000, .inl gcla))] sz)) (va_A [(h0, .inr (9, [.ref aw, .ref ac, .int h0_sound, .int h0_function, .ref ty, .int h0_height, .ref bo, .ref bg, .ref bh, .ref bd, .int h0_depth])), (aw, .inr (10, law)), (ac, .inr (3, [.ref cfi, .ref clk, .ref clt, .int ac_length, .ref cop, .ref cva, .ref cpt, .ref cel, .int ac_labelCount, .ref cla])), (ty, .inl (cty, 5000, .inl gty)), (bo, .inl (cbo, 101, .inl gbo)), (bg, .inl (cbg, 101, .inl gbg)), (bh, .inl (cbh, 101, .inl gbh)), (bd, .inl (cbd, 101, .inl gbd)), (waf, .inl (cwaf, 30, .inl gwaf)), (wat, .inl (cwat, 20, .inl gwat)), (wap, .inl (cwap, 160, .inl gwap)), (wag, .inl (cwag, 20, .inl gwag)), (clk, .inl (cclk, 30, .inl gclk)), (clt, .inl (cclt, 1800, .inl gclt)), (cop, .inl (ccop, 5000, .inl gcop)), (cva, .inl (ccva, 5000, .inr (.inl gcva))), (cpt, .inl (ccpt, 5000, .inl gcpt)), (cla, .inl (ccla, 2000, .inl gcla))] sz)) 0 0 (va_A [(h0, .inr (9, [.ref aw, .ref ac, .int h0_sound, .int h0_function, .ref ty, .int h0_height, .ref bo, .ref bg, .ref bh, .ref bd, .int h0_depth])), (aw, .inr (10, law)), (ac, .inr (3, [.ref cfi, .ref clk, .ref clt, .int ac_length, .ref cop, .ref cva, .ref cpt, .ref cel, .int ac_labelCount, .ref cla])), (ty, .inl (cty, 5000, .inl gty)), (bo, .inl (cbo, 101, .inl gbo)), (bg, .inl (cbg, 101, .inl gbg)), (bh, .inl (cbh, 101, .inl gbh)), (bd, .inl (cbd, 101, .inl gbd)), (waf, .inl (cwaf, 30, .inl gwaf)), (wat, .inl (cwat, 20, .inl gwat)), (wap, .inl (cwap, 160, .inl gwap)), (wag, .inl (cwag, 20, .inl gwag)), (clk, .inl (cclk, 30, .inl gclk)), (clt, .inl (cclt, 1800, .inl gclt)), (cop, .inl (ccop, 5000, .inl gcop)), (cva, .inl (ccva, 5000, .inr (.inl gcva))), (cpt, .inl (ccpt, 5000, .inl gcpt)), (cla, .inl (ccla, 2000, .inl gcla))] sz) := by
  refine Met.ofW (cc := b_VA_checkJump) (maxL := 4) (ret := none) (by decide) rfl ?_
  intro p e s m args below meth c s₁ B hml hv
  obtain ⟨rfl, hsz, hP, hK, hD0⟩ := hv
  have hx := B.exec
  have hb := B.bytes
  have hr := B.returns
  have hts0 := atoms_spec (ws := w_VA_checkJump) B.pre
  have hts : ∀ w ∈ lw_g, w.before _ s = true := fun w h => hts0 w (List.mem_cons_of_mem _ h)
  have hown : s.vm.findClass R_VA = some m.cls := findClass_of_methodNamed B.named
  have hlocks := B.notSynchronized
  clear hts0
  subst hsz
  have hD := hD0.self (sz := s.heap.size)
  generalize hAe : va_A [(h0, .inr (9, [.ref aw, .ref ac, .int h0_sound, .int h0_function, .ref ty, .int h0_height, .ref bo, .ref bg, .ref bh, .ref bd, .int h0_depth])), (aw, .inr (10, law)), (ac, .inr (3, [.ref cfi, .ref clk, .ref clt, .int ac_length, .ref cop, .ref cva, .ref cpt, .ref cel, .int ac_labelCount, .ref cla])), (ty, .inl (cty, 5000, .inl gty)), (bo, .inl (cbo, 101, .inl gbo)), (bg, .inl (cbg, 101, .inl gbg)), (bh, .inl (cbh, 101, .inl gbh)), (bd, .inl (cbd, 101, .inl gbd)), (waf, .inl (cwaf, 30, .inl gwaf)), (wat, .inl (cwat, 20, .inl gwat)), (wap, .inl (cwap, 160, .inl gwap)), (wag, .inl (cwag, 20, .inl gwag)), (clk, .inl (cclk, 30, .inl gclk)), (clt, .inl (cclt, 1800, .inl gclt)), (cop, .inl (ccop, 5000, .inl gcop)), (cva, .inl (ccva, 5000, .inr (.inl gcva))), (cpt, .inl (ccpt, 5000, .inl gcpt)), (cla, .inl (ccla, 2000, .inl gcla))] s.heap.size = A at hD ⊢
  have hA : ∀ q : Nat, s.heap.size ≤ q → A q := fun q h => by rw [← hAe]; exact Or.inr h
  clear hAe
  have hP : va_P (dC, dI) cls [(h0, .inr (9, [.ref aw, .ref ac, .int h0_sound, .int h0_function, .ref ty, .int h0_height, .ref bo, .ref bg, .ref bh, .ref bd, .int h0_depth])), (aw, .inr (10, law)), (ac, .inr (3, [.ref cfi, .ref clk, .ref clt, .int ac_length, .ref cop, .ref cva, .ref cpt, .ref cel, .int ac_labelCount, .ref cla])), (ty, .inl (cty, 5000, .inl gty)), (bo, .inl (cbo, 101, .inl gbo)), (bg, .inl (cbg, 101, .inl gbg)), (bh, .inl (cbh, 101, .inl gbh)), (bd, .inl (cbd, 101, .inl gbd)), (waf, .inl (cwaf, 30, .inl gwaf)), (wat, .inl (cwat, 20, .inl gwat)), (wap, .inl (cwap, 160, .inl gwap)), (wag, .inl (cwag, 20, .inl gwag)), (clk, .inl (cclk, 30, .inl gclk)), (clt, .inl (cclt, 1800, .inl gclt)), (cop, .inl (ccop, 5000, .inl gcop)), (cva, .inl (ccva, 5000, .inr (.inl gcva))), (cpt, .inl (ccpt, 5000, .inl gcpt)), (cla, .inl (ccla, 2000, .inl gcla))] s.heap := hP
  have hl := lv_entry ([.ref h0, .int p0, .int p1]) (n := 4) (Nat.le_of_ble_eq_true rfl)
  rw [lg_entry_eq]
  generalize (lg_sl ([.ref h0, .int p0, .int p1]) ++ List.replicate (4 - (lg_sl ([.ref h0, .int p0, .int p1])).length) Slot.unset).toArray = ls at hl ⊢
  have hl : lv_has ls 4 [(0, .ref h0), (1, .int p0), (2, .int p1)] := hl
  have k0 : (0 : Int32).toInt = 0 := by decide
  refine w_gen (A := A) hP (fun H locs hP hS => ?_)
  have k127 : (127 : Int32).toInt = 127 := by decide
  have lo_p0 := i32_lo p0
  have hi_p0 := i32_hi p0
  have lo_p1 := i32_lo p1
  have hi_p1 := i32_hi p1
  have th0_sound := b01 b_h0_sound
  have ho9 : (gcop p1.toNatClampNeg).toInt = p0.toInt := by rw [← ho]
  have c9 := i32_clamp (x := h0_function) (by omega)
  have w9 := hwf h0_function.toNatClampNeg (by omega)
  have w8 := w9.1
  have A1 : p0.toInt ≠ 14 → p0.toInt ≠ 15 → 0 ≤ (gcva p1.toNatClampNeg).toInt ∧ (gcva p1.toNatClampNeg).toInt ≤ 2147483647 := fun z1 z2 => hvl.2.1 (by omega)
  have A2 : p0.toInt = 14 → 0 ≤ (gcva p1.toNatClampNeg).toInt ∧ 0 ≤ (gcpt p1.toNatClampNeg).toInt ∧ (gcva p1.toNatClampNeg).toInt + (gcpt p1.toNatClampNeg).toInt < ac_labelCount.toInt := fun z => hvl.2.2.1 (by omega)
  refine lv_aload_n hx hb d_VA_checkJump_0 rfl (lv_at hl 0 rfl) ?_
  refine va_get (D := (dC, dI)) (ci := 9) (v := .ref ac) (C := R_VA) (T := F_VA) (N := 11) hx hb hts i_VA hown hK hP 0 rfl rfl 1 (by decide) (hts _ kF_VA_38) (fun _ h9 => h9) rfl d_VA_checkJump_1 ?_
  refine va_get (D := (dC, dI)) (ci := 3) (v := .ref cva) (C := R_CD) (T := F_CD) (N := 10) hx hb hts i_CD hown hK hP 2 rfl rfl 5 (by decide) (hts _ kF_VA_136) (fun _ h9 => h9) rfl d_VA_checkJump_4 ?_
  refine lv_iload_n hx hb d_VA_checkJump_7 rfl (lv_at hl 2 rfl) ?_
  have g8 : vp_in p1 5000 := vp_in_iff.mpr ⟨by omega, by omega⟩
  refine va_lald hx hb hK hP 15 12 rfl rfl g8 d_VA_checkJump_8 ?_
  refine lv_topl (fun x1 ex1 => ?_)
  refine lv_l2i hx hb d_VA_checkJump_9 rfl ?_
  refine lv_topi (fun x2 ex2 => ?_)
  have v9 : 0 ≤ (gcva p1.toNatClampNeg).toInt ∧ (gcva p1.toNatClampNeg).toInt ≤ 2147483647 → x2.toInt = (gcva p1.toNatClampNeg).toInt := fun z => by have y := l2i_t ex2 (by rw [ex1]; omega) (by rw [ex1]; omega); rw [y, ex1]
  refine lv_istore_n (lv' := [(3, .int x2), (0, .ref h0), (1, .int p0), (2, .int p1)]) hx hb d_VA_checkJump_10 rfl hl (by decide) rfl (fun ls hl => ?_)
  refine lv_iload_n hx hb d_VA_checkJump_11 rfl (lv_at hl 2 rfl) ?_
  by_cases g12_44 : p0.toInt = 12
  · have ho12 : tab_off 114 12 15 #[32, 48, 75, 92] p0.toInt = 32 := by rw [g12_44]; rfl
    refine lv_tab (tgt := 44) hx hb d_VA_checkJump_12 (by decide) ho12 (by decide) ?_
    clear ho12
    have tv3 := v9 (A1 (by omega) (by omega))
    refine lv_aload_n hx hb d_VA_checkJump_44 rfl (lv_at hl 1 rfl) ?_
    refine lv_aload_n hx hb d_VA_checkJump_45 rfl (lv_at hl 1 rfl) ?_
    refine lv_iload_n hx hb d_VA_checkJump_46 rfl (lv_at hl 0 rfl) ?_
    have hPc := hP.sub (ws' := [(h0, .inr (9, [.ref aw, .ref ac, .int h0_sound, .int h0_function, .ref ty, .int h0_height, .ref bo, .ref bg, .ref bh, .ref bd, .int h0_depth])), (bo, .inl (cbo, 101, .inl gbo)), (bg, .inl (cbg, 101, .inl gbg))]) [0, 4, 5] rfl
    have hDc := hD.sub (ws' := [(h0, .inr (9, [.ref aw, .ref ac, .int h0_sound, .int h0_function, .ref ty, .int h0_height, .ref bo, .ref bg, .ref bh, .ref bd, .int h0_depth])), (bo, .inl (cbo, 101, .inl gbo)), (bg, .inl (cbg, 101, .inl gbg))]) [0, 4, 5] (by decide) rfl
    have hKc := hK.sub (tys' := [(cbo, .int), (cbg, .int)]) [1, 2] rfl
    have hFc := va_free (wc := [(h0, .inr (9, [.ref aw, .ref ac, .int h0_sound, .int h0_function, .ref ty, .int h0_height, .ref bo, .ref bg, .ref bh, .ref bd, .int h0_depth])), (bo, .inl (cbo, 101, .inl gbo)), (bg, .inl (cbg, 101, .inl gbg))]) hD hS hA [0, 4, 5] rfl
    refine va_calli (va_runV (As := [.int x2]) (rest := [.ref h0]) ⟨hx, hb, hml, hown, hts⟩ (c_VA_labelType l dC dI H.size h0 aw ac ty bo bg bh bd cbo cbg h0_sound h0_function h0_height h0_depth gbo gbg (b_h0_sound) (b_h0_depth) x2 (by (try dsimp only) <;> omega)) (cwV 1 hts (gV kM_VA_170 kV_VA_labelType kS_VA_labelType kI_VA kC_VA_labelType) rfl rfl rfl (by decide +kernel) ⟨Nat.le_of_ble_eq_true rfl, Nat.le_of_ble_eq_true rfl⟩) ⟨fun a U g mk z => by obtain ⟨z0, z1, zP, zK, zD⟩ := z; exact ⟨z0, z1, zP, va_K.moved (u := U) (U := U.calling g mk a) (Vm.Alike.refl U.vm) zK, zD⟩, va_recv hKc hPc (ci := 9) (q0 := 0) rfl rfl, fun U hU hW => ⟨rfl, by rw [hU], by rw [hU]; exact hPc, va_K.moved hW.alike hKc, hDc.weaken (fun _ _ _ _ => trivial)⟩⟩ rfl rfl hl.1 rfl (lv_room (Nat.le_of_ble_eq_true rfl)) d_VA_checkJump_47 ⟨(Nat.zero_le _), (Nat.zero_le _)⟩) hS (fun q _ h => hFc q h) hFc (fun r3 u t H1 locs ht hvm hw hB hz1 hk1 hS => ?_)
    obtain ⟨n4, rfl⟩ : ∃ z, z = u := ⟨_, rfl⟩
    try dsimp only at hw
    obtain ⟨bn4, xr3⟩ := hw
    try clear hw
    have tn4 := b01 bn4
    obtain ⟨hP1, hK1, hD1⟩ := hB
    rw [ht] at hP1
    obtain ⟨hP, hD⟩ := va_join (wr := [(aw, .inr (10, law)), (ac, .inr (3, [.ref cfi, .ref clk, .ref clt, .int ac_length, .ref cop, .ref cva, .ref cpt, .ref cel, .int ac_labelCount, .ref cla])), (ty, .inl (cty, 5000, .inl gty)), (bh, .inl (cbh, 101, .inl gbh)), (bd, .inl (cbd, 101, .inl gbd)), (waf, .inl (cwaf, 30, .inl gwaf)), (wat, .inl (cwat, 20, .inl gwat)), (wap, .inl (cwap, 160, .inl gwap)), (wag, .inl (cwag, 20, .inl gwag)), (clk, .inl (cclk, 30, .inl gclk)), (clt, .inl (cclt, 1800, .inl gclt)), (cop, .inl (ccop, 5000, .inl gcop)), (cva, .inl (ccva, 5000, .inr (.inl gcva))), (cpt, .inl (ccpt, 5000, .inl gcpt)), (cla, .inl (ccla, 2000, .inl gcla))]) (w1 := [(h0, .inr (9, [.ref aw, .ref ac, .int n4, .int h0_function, .ref ty, .int h0_height, .ref bo, .ref bg, .ref bh, .ref bd, .int h0_depth])), (bo, .inl (cbo, 101, .inl gbo)), (bg, .inl (cbg, 101, .inl gbg))]) hP hD [0, 4, 5] [1, 2, 3, 6, 7, 8, 9, 10, 11, 12, 13, 14, 15, 16, 17] rfl rfl (by decide) (by decide) hk1 hFc hP1 hD1
    clear hPc hDc hKc hFc hz1 hk1 hP1 hK1 hD1
    generalize H1 = H at hP hS ⊢
    have hP : va_P (dC, dI) cls [(aw, .inr (10, law)), (ac, .inr (3, [.ref cfi, .ref clk, .ref clt, .int ac_length, .ref cop, .ref cva, .ref cpt, .ref cel, .int ac_labelCount, .ref cla])), (ty, .inl (cty, 5000, .inl gty)), (bh, .inl (cbh, 101, .inl gbh)), (bd, .inl (cbd, 101, .inl gbd)), (waf, .inl (cwaf, 30, .inl gwaf)), (wat, .inl (cwat, 20, .inl gwat)), (wap, .inl (cwap, 160, .inl gwap)), (wag, .inl (cwag, 20, .inl gwag)), (clk, .inl (cclk, 30, .inl gclk)), (clt, .inl (cclt, 1800, .inl gclt)), (cop, .inl (ccop, 5000, .inl gcop)), (cva, .inl (ccva, 5000, .inr (.inl gcva))), (cpt, .inl (ccpt, 5000, .inl gcpt)), (cla, .inl (ccla, 2000, .inl gcla)), (h0, .inr (9, [.ref aw, .ref ac, .int n4, .int h0_function, .ref ty, .int h0_height, .ref bo, .ref bg, .ref bh, .ref bd, .int h0_depth])), (bo, .inl (cbo, 101, .inl gbo)), (bg, .inl (cbg, 101, .inl gbg))] H := hP
    have hD : va_D A [(aw, .inr (10, law)), (ac, .inr (3, [.ref cfi, .ref clk, .ref clt, .int ac_length, .ref cop, .ref cva, .ref cpt, .ref cel, .int ac_labelCount, .ref cla])), (ty, .inl (cty, 5000, .inl gty)), (bh, .inl (cbh, 101, .inl gbh)), (bd, .inl (cbd, 101, .inl gbd)), (waf, .inl (cwaf, 30, .inl gwaf)), (wat, .inl (cwat, 20, .inl gwat)), (wap, .inl (cwap, 160, .inl gwap)), (wag, .inl (cwag, 20, .inl gwag)), (clk, .inl (cclk, 30, .inl gclk)), (clt, .inl (cclt, 1800, .inl gclt)), (cop, .inl (ccop, 5000, .inl gcop)), (cva, .inl (ccva, 5000, .inr (.inl gcva))), (cpt, .inl (ccpt, 5000, .inl gcpt)), (cla, .inl (ccla, 2000, .inl gcla)), (h0, .inr (9, [.ref aw, .ref ac, .int n4, .int h0_function, .ref ty, .int h0_height, .ref bo, .ref bg, .ref bh, .ref bd, .int h0_depth])), (bo, .inl (cbo, 101, .inl gbo)), (bg, .inl (cbg, 101, .inl gbg))] := hD
    have hPc := hP.sub (ws' := [(h0, .inr (9, [.ref aw, .ref ac, .int n4, .int h0_function, .ref ty, .int h0_height, .ref bo, .ref bg, .ref bh, .ref bd, .int h0_depth])), (ty, .inl (cty, 5000, .inl gty)), (bh, .inl (cbh, 101, .inl gbh)), (bd, .inl (cbd, 101, .inl gbd))]) [15, 2, 3, 4] rfl
    have hDc := hD.sub (ws' := [(h0, .inr (9, [.ref aw, .ref ac, .int n4, .int h0_function, .ref ty, .int h0_height, .ref bo, .ref bg, .ref bh, .ref bd, .int h0_depth])), (ty, .inl (cty, 5000, .inl gty)), (bh, .inl (cbh, 101, .inl gbh)), (bd, .inl (cbd, 101, .inl gbd))]) [15, 2, 3, 4] (by decide) rfl
    have hKc := hK.sub (tys' := [(cty, .int), (cbh, .int), (cbd, .boolean)]) [0, 3, 4] rfl
    have hFc := va_free (wc := [(h0, .inr (9, [.ref aw, .ref ac, .int n4, .int h0_function, .ref ty, .int h0_height, .ref bo, .ref bg, .ref bh, .ref bd, .int h0_depth])), (ty, .inl (cty, 5000, .inl gty)), (bh, .inl (cbh, 101, .inl gbh)), (bd, .inl (cbd, 101, .inl gbd))]) hD hS hA [15, 2, 3, 4] rfl
    refine va_callv (va_runV (As := [.int r3]) (rest := []) ⟨hx, hb, hml, hown, hts⟩ (c_VA_pop l dC dI H.size h0 aw ac ty bo bg bh bd cty cbh cbd n4 h0_function h0_height h0_depth gty gbh gbd (bn4) (b_h0_height) (b_h0_depth) (b_gty) (b_gbh) r3 (by (try dsimp only) <;> omega) (by (try dsimp only) <;> omega)) (cwV 1 hts (gV kM_VA_161 kV_VA_pop kS_VA_pop kI_VA kC_VA_pop) rfl rfl rfl (by decide +kernel) ⟨Nat.le_of_ble_eq_true rfl, Nat.le_of_ble_eq_true rfl⟩) ⟨fun a U g mk z => by obtain ⟨z0, z1, zP, zK, zD⟩ := z; exact ⟨z0, z1, zP, va_K.moved (u := U) (U := U.calling g mk a) (Vm.Alike.refl U.vm) zK, zD⟩, va_recv hKc hPc (ci := 9) (q0 := 0) rfl rfl, fun U hU hW => ⟨rfl, by rw [hU], by rw [hU]; exact hPc, va_K.moved hW.alike hKc, hDc.weaken (fun _ _ _ _ => trivial)⟩⟩ rfl rfl hl.1 rfl (lv_room (Nat.le_of_ble_eq_true rfl)) d_VA_checkJump_50 ⟨(Nat.zero_le _), (Nat.zero_le _)⟩) hS (fun q _ h => hFc q h) hFc (fun u t H1 locs ht hvm hw hB hz1 hk1 hS => ?_)
    obtain ⟨n6, n7⟩ := u
    try dsimp only at hw
    obtain ⟨bn6, bn7, xr5⟩ := hw
    try clear hw
    have tn7 := b01 bn7
    obtain ⟨hP1, hK1, hD1⟩ := hB
    rw [ht] at hP1
    obtain ⟨hP, hD⟩ := va_join (wr := [(aw, .inr (10, law)), (ac, .inr (3, [.ref cfi, .ref clk, .ref clt, .int ac_length, .ref cop, .ref cva, .ref cpt, .ref cel, .int ac_labelCount, .ref cla])), (waf, .inl (cwaf, 30, .inl gwaf)), (wat, .inl (cwat, 20, .inl gwat)), (wap, .inl (cwap, 160, .inl gwap)), (wag, .inl (cwag, 20, .inl gwag)), (clk, .inl (cclk, 30, .inl gclk)), (clt, .inl (cclt, 1800, .inl gclt)), (cop, .inl (ccop, 5000, .inl gcop)), (cva, .inl (ccva, 5000, .inr (.inl gcva))), (cpt, .inl (ccpt, 5000, .inl gcpt)), (cla, .inl (ccla, 2000, .inl gcla)), (bo, .inl (cbo, 101, .inl gbo)), (bg, .inl (cbg, 101, .inl gbg))]) (w1 := [(h0, .inr (9, [.ref aw, .ref ac, .int n7, .int h0_function, .ref ty, .int n6, .ref bo, .ref bg, .ref bh, .ref bd, .int h0_depth])), (ty, .inl (cty, 5000, .inl gty)), (bh, .inl (cbh, 101, .inl gbh)), (bd, .inl (cbd, 101, .inl gbd))]) hP hD [15, 2, 3, 4] [0, 1, 5, 6, 7, 8, 9, 10, 11, 12, 13, 14, 16, 17] rfl rfl (by decide) (by decide) hk1 hFc hP1 hD1
    clear hPc hDc hKc hFc hz1 hk1 hP1 hK1 hD1
    generalize H1 = H at hP hS ⊢
    have hP : va_P (dC, dI) cls [(aw, .inr (10, law)), (ac, .inr (3, [.ref cfi, .ref clk, .ref clt, .int ac_length, .ref cop, .ref cva, .ref cpt, .ref cel, .int ac_labelCount, .ref cla])), (waf, .inl (cwaf, 30, .inl gwaf)), (wat, .inl (cwat, 20, .inl gwat)), (wap, .inl (cwap, 160, .inl gwap)), (wag, .inl (cwag, 20, .inl gwag)), (clk, .inl (cclk, 30, .inl gclk)), (clt, .inl (cclt, 1800, .inl gclt)), (cop, .inl (ccop, 5000, .inl gcop)), (cva, .inl (ccva, 5000, .inr (.inl gcva))), (cpt, .inl (ccpt, 5000, .inl gcpt)), (cla, .inl (ccla, 2000, .inl gcla)), (bo, .inl (cbo, 101, .inl gbo)), (bg, .inl (cbg, 101, .inl gbg)), (h0, .inr (9, [.ref aw, .ref ac, .int n7, .int h0_function, .ref ty, .int n6, .ref bo, .ref bg, .ref bh, .ref bd, .int h0_depth])), (ty, .inl (cty, 5000, .inl gty)), (bh, .inl (cbh, 101, .inl gbh)), (bd, .inl (cbd, 101, .inl gbd))] H := hP
    have hD : va_D A [(aw, .inr (10, law)), (ac, .inr (3, [.ref cfi, .ref clk, .ref clt, .int ac_length, .ref cop, .ref cva, .ref cpt, .ref cel, .int ac_labelCount, .ref cla])), (waf, .inl (cwaf, 30, .inl gwaf)), (wat, .inl (cwat, 20, .inl gwat)), (wap, .inl (cwap, 160, .inl gwap)), (wag, .inl (cwag, 20, .inl gwag)), (clk, .inl (cclk, 30, .inl gclk)), (clt, .inl (cclt, 1800, .inl gclt)), (cop, .inl (ccop, 5000, .inl gcop)), (cva, .inl (ccva, 5000, .inr (.inl gcva))), (cpt, .inl (ccpt, 5000, .inl gcpt)), (cla, .inl (ccla, 2000, .inl gcla)), (bo, .inl (cbo, 101, .inl gbo)), (bg, .inl (cbg, 101, .inl gbg)), (h0, .inr (9, [.ref aw, .ref ac, .int n7, .int h0_function, .ref ty, .int n6, .ref bo, .ref bg, .ref bh, .ref bd, .int h0_depth])), (ty, .inl (cty, 5000, .inl gty)), (bh, .inl (cbh, 101, .inl gbh)), (bd, .inl (cbd, 101, .inl gbd))] := hD
    refine lv_aload_n hx hb d_VA_checkJump_53 rfl (lv_at hl 1 rfl) ?_
    have hPc := hP.sub (ws' := [(h0, .inr (9, [.ref aw, .ref ac, .int n7, .int h0_function, .ref ty, .int n6, .ref bo, .ref bg, .ref bh, .ref bd, .int h0_depth])), (bh, .inl (cbh, 101, .inl gbh)), (bd, .inl (cbd, 101, .inl gbd))]) [14, 16, 17] rfl
    have hDc := hD.sub (ws' := [(h0, .inr (9, [.ref aw, .ref ac, .int n7, .int h0_function, .ref ty, .int n6, .ref bo, .ref bg, .ref bh, .ref bd, .int h0_depth])), (bh, .inl (cbh, 101, .inl gbh)), (bd, .inl (cbd, 101, .inl gbd))]) [14, 16, 17] (by decide) rfl
    have hKc := hK.sub (tys' := [(cbh, .int), (cbd, .boolean)]) [3, 4] rfl
    have hFc := va_free (wc := [(h0, .inr (9, [.ref aw, .ref ac, .int n7, .int h0_function, .ref ty, .int n6, .ref bo, .ref bg, .ref bh, .ref bd, .int h0_depth])), (bh, .inl (cbh, 101, .inl gbh)), (bd, .inl (cbd, 101, .inl gbd))]) hD hS hA [14, 16, 17] rfl
    refine va_callv (va_runV (As := []) (rest := []) ⟨hx, hb, hml, hown, hts⟩ (c_VA_die l dC dI H.size h0 aw ac ty bo bg bh bd cbh cbd n7 h0_function n6 h0_depth gbh gbd (bn6) (b_h0_depth) (b_gbh) (by (try dsimp only) <;> omega)) (cwV 0 hts (gV kM_VA_158 kV_VA_die kS_VA_die kI_VA kC_VA_die) rfl rfl rfl (by decide +kernel) ⟨Nat.le_of_ble_eq_true rfl, Nat.le_of_ble_eq_true rfl⟩) ⟨fun a U g mk z => by obtain ⟨z0, z1, zP, zK, zD⟩ := z; exact ⟨z0, z1, zP, va_K.moved (u := U) (U := U.calling g mk a) (Vm.Alike.refl U.vm) zK, zD⟩, va_recv hKc hPc (ci := 9) (q0 := 0) rfl rfl, fun U hU hW => ⟨rfl, by rw [hU], by rw [hU]; exact hPc, va_K.moved hW.alike hKc, hDc.weaken (fun _ _ _ _ => trivial)⟩⟩ rfl rfl hl.1 rfl (lv_room (Nat.le_of_ble_eq_true rfl)) d_VA_checkJump_54 ⟨(Nat.zero_le _), (Nat.zero_le _)⟩) hS (fun q _ h => hFc q h) hFc (fun u t H1 locs ht hvm hw hB hz1 hk1 hS => ?_)
    obtain ⟨n9, n10⟩ := u
    try dsimp only at hw
    obtain ⟨bn10, xr8⟩ := hw
    try clear hw
    obtain ⟨hP1, hK1, hD1⟩ := hB
    rw [ht] at hP1
    obtain ⟨hP, hD⟩ := va_join (wr := [(aw, .inr (10, law)), (ac, .inr (3, [.ref cfi, .ref clk, .ref clt, .int ac_length, .ref cop, .ref cva, .ref cpt, .ref cel, .int ac_labelCount, .ref cla])), (waf, .inl (cwaf, 30, .inl gwaf)), (wat, .inl (cwat, 20, .inl gwat)), (wap, .inl (cwap, 160, .inl gwap)), (wag, .inl (cwag, 20, .inl gwag)), (clk, .inl (cclk, 30, .inl gclk)), (clt, .inl (cclt, 1800, .inl gclt)), (cop, .inl (ccop, 5000, .inl gcop)), (cva, .inl (ccva, 5000, .inr (.inl gcva))), (cpt, .inl (ccpt, 5000, .inl gcpt)), (cla, .inl (ccla, 2000, .inl gcla)), (bo, .inl (cbo, 101, .inl gbo)), (bg, .inl (cbg, 101, .inl gbg)), (ty, .inl (cty, 5000, .inl gty))]) (w1 := [(h0, .inr (9, [.ref aw, .ref ac, .int n7, .int h0_function, .ref ty, .int n10, .ref bo, .ref bg, .ref bh, .ref bd, .int h0_depth])), (bh, .inl (cbh, 101, .inl gbh)), (bd, .inl (cbd, 101, .inl n9))]) hP hD [14, 16, 17] [0, 1, 2, 3, 4, 5, 6, 7, 8, 9, 10, 11, 12, 13, 15] rfl rfl (by decide) (by decide) hk1 hFc hP1 hD1
    clear hPc hDc hKc hFc hz1 hk1 hP1 hK1 hD1
    generalize H1 = H at hP hS ⊢
    have hP : va_P (dC, dI) cls [(aw, .inr (10, law)), (ac, .inr (3, [.ref cfi, .ref clk, .ref clt, .int ac_length, .ref cop, .ref cva, .ref cpt, .ref cel, .int ac_labelCount, .ref cla])), (waf, .inl (cwaf, 30, .inl gwaf)), (wat, .inl (cwat, 20, .inl gwat)), (wap, .inl (cwap, 160, .inl gwap)), (wag, .inl (cwag, 20, .inl gwag)), (clk, .inl (cclk, 30, .inl gclk)), (clt, .inl (cclt, 1800, .inl gclt)), (cop, .inl (ccop, 5000, .inl gcop)), (cva, .inl (ccva, 5000, .inr (.inl gcva))), (cpt, .inl (ccpt, 5000, .inl gcpt)), (cla, .inl (ccla, 2000, .inl gcla)), (bo, .inl (cbo, 101, .inl gbo)), (bg, .inl (cbg, 101, .inl gbg)), (ty, .inl (cty, 5000, .inl gty)), (h0, .inr (9, [.ref aw, .ref ac, .int n7, .int h0_function, .ref ty, .int n10, .ref bo, .ref bg, .ref bh, .ref bd, .int h0_depth])), (bh, .inl (cbh, 101, .inl gbh)), (bd, .inl (cbd, 101, .inl n9))] H := hP
    have hD : va_D A [(aw, .inr (10, law)), (ac, .inr (3, [.ref cfi, .ref clk, .ref clt, .int ac_length, .ref cop, .ref cva, .ref cpt, .ref cel, .int ac_labelCount, .ref cla])), (waf, .inl (cwaf, 30, .inl gwaf)), (wat, .inl (cwat, 20, .inl gwat)), (wap, .inl (cwap, 160, .inl gwap)), (wag, .inl (cwag, 20, .inl gwag)), (clk, .inl (cclk, 30, .inl gclk)), (clt, .inl (cclt, 1800, .inl gclt)), (cop, .inl (ccop, 5000, .inl gcop)), (cva, .inl (ccva, 5000, .inr (.inl gcva))), (cpt, .inl (ccpt, 5000, .inl gcpt)), (cla, .inl (ccla, 2000, .inl gcla)), (bo, .inl (cbo, 101, .inl gbo)), (bg, .inl (cbg, 101, .inl gbg)), (ty, .inl (cty, 5000, .inl gty)), (h0, .inr (9, [.ref aw, .ref ac, .int n7, .int h0_function, .ref ty, .int n10, .ref bo, .ref bg, .ref bh, .ref bd, .int h0_depth])), (bh, .inl (cbh, 101, .inl gbh)), (bd, .inl (cbd, 101, .inl n9))] := hD
    refine lv_goto (tgt := 131) hx hb d_VA_checkJump_57 (by decide) ?_
    have hP9 := hP.sub (ws' := [(h0, .inr (9, [.ref aw, .ref ac, .int n7, .int h0_function, .ref ty, .int n10, .ref bo, .ref bg, .ref bh, .ref bd, .int h0_depth])), (aw, .inr (10, law)), (ac, .inr (3, [.ref cfi, .ref clk, .ref clt, .int ac_length, .ref cop, .ref cva, .ref cpt, .ref cel, .int ac_labelCount, .ref cla])), (ty, .inl (cty, 5000, .inl gty)), (bo, .inl (cbo, 101, .inl gbo)), (bg, .inl (cbg, 101, .inl gbg)), (bh, .inl (cbh, 101, .inl gbh)), (bd, .inl (cbd, 101, .inl n9)), (waf, .inl (cwaf, 30, .inl gwaf)), (wat, .inl (cwat, 20, .inl gwat)), (wap, .inl (cwap, 160, .inl gwap)), (wag, .inl (cwag, 20, .inl gwag)), (clk, .inl (cclk, 30, .inl gclk)), (clt, .inl (cclt, 1800, .inl gclt)), (cop, .inl (ccop, 5000, .inl gcop)), (cva, .inl (ccva, 5000, .inr (.inl gcva))), (cpt, .inl (ccpt, 5000, .inl gcpt)), (cla, .inl (ccla, 2000, .inl gcla))]) [15, 0, 1, 14, 12, 13, 16, 17, 2, 3, 4, 5, 6, 7, 8, 9, 10, 11] rfl
    have hD9 := hD.sub (ws' := [(h0, .inr (9, [.ref aw, .ref ac, .int n7, .int h0_function, .ref ty, .int n10, .ref bo, .ref bg, .ref bh, .ref bd, .int h0_depth])), (aw, .inr (10, law)), (ac, .inr (3, [.ref cfi, .ref clk, .ref clt, .int ac_length, .ref cop, .ref cva, .ref cpt, .ref cel, .int ac_labelCount, .ref cla])), (ty, .inl (cty, 5000, .inl gty)), (bo, .inl (cbo, 101, .inl gbo)), (bg, .inl (cbg, 101, .inl gbg)), (bh, .inl (cbh, 101, .inl gbh)), (bd, .inl (cbd, 101, .inl n9)), (waf, .inl (cwaf, 30, .inl gwaf)), (wat, .inl (cwat, 20, .inl gwat)), (wap, .inl (cwap, 160, .inl gwap)), (wag, .inl (cwag, 20, .inl gwag)), (clk, .inl (cclk, 30, .inl gclk)), (clt, .inl (cclt, 1800, .inl gclt)), (cop, .inl (ccop, 5000, .inl gcop)), (cva, .inl (ccva, 5000, .inr (.inl gcva))), (cpt, .inl (ccpt, 5000, .inl gcpt)), (cla, .inl (ccla, 2000, .inl gcla))]) [15, 0, 1, 14, 12, 13, 16, 17, 2, 3, 4, 5, 6, 7, 8, 9, 10, 11] (by decide) rfl
    exact W.vret hx hb hr (fun t ht hW => ⟨⟨(n9, gty, n10, n7), rfl, ⟨b_gty, bn10, bn7, ⟨fun _ => ⟨⟨xr8.1, xr8.2⟩, by (try dsimp only) <;> omega⟩, fun z => absurd z (by omega), fun z => absurd z (by omega)⟩⟩, by rw [ht]; exact hP9, va_K.moved hW.alike hK, hD9⟩, hS.F ht⟩) hS.2.2 d_VA_checkJump_131
  · skip
    by_cases g12_60 : p0.toInt = 13
    · have ho12 : tab_off 114 12 15 #[32, 48, 75, 92] p0.toInt = 48 := by rw [g12_60]; rfl
      refine lv_tab (tgt := 60) hx hb d_VA_checkJump_12 (by decide) ho12 (by decide) ?_
      clear ho12
      have tv3 := v9 (A1 (by omega) (by omega))
      refine lv_aload_n hx hb d_VA_checkJump_60 rfl (lv_at hl 1 rfl) ?_
      refine lv_bipush (v := 127) hx hb d_VA_checkJump_61 (by decide) ?_
      have hPc := hP.sub (ws' := [(h0, .inr (9, [.ref aw, .ref ac, .int h0_sound, .int h0_function, .ref ty, .int h0_height, .ref bo, .ref bg, .ref bh, .ref bd, .int h0_depth])), (ty, .inl (cty, 5000, .inl gty)), (bh, .inl (cbh, 101, .inl gbh)), (bd, .inl (cbd, 101, .inl gbd))]) [0, 3, 6, 7] rfl
      have hDc := hD.sub (ws' := [(h0, .inr (9, [.ref aw, .ref ac, .int h0_sound, .int h0_function, .ref ty, .int h0_height, .ref bo, .ref bg, .ref bh, .ref bd, .int h0_depth])), (ty, .inl (cty, 5000, .inl gty)), (bh, .inl (cbh, 101, .inl gbh)), (bd, .inl (cbd, 101, .inl gbd))]) [0, 3, 6, 7] (by decide) rfl
      have hKc := hK.sub (tys' := [(cty, .int), (cbh, .int), (cbd, .boolean)]) [0, 3, 4] rfl
      have hFc := va_free (wc := [(h0, .inr (9, [.ref aw, .ref ac, .int h0_sound, .int h0_function, .ref ty, .int h0_height, .ref bo, .ref bg, .ref bh, .ref bd, .int h0_depth])), (ty, .inl (cty, 5000, .inl gty)), (bh, .inl (cbh, 101, .inl gbh)), (bd, .inl (cbd, 101, .inl gbd))]) hD hS hA [0, 3, 6, 7] rfl
      refine va_callv (va_runV (As := [.int 127]) (rest := []) ⟨hx, hb, hml, hown, hts⟩ (c_VA_pop l dC dI H.size h0 aw ac ty bo bg bh bd cty cbh cbd h0_sound h0_function h0_height h0_depth gty gbh gbd (b_h0_sound) (b_h0_height) (b_h0_depth) (b_gty) (b_gbh) 127 (by (try dsimp only) <;> omega) (by (try dsimp only) <;> omega)) (cwV 1 hts (gV kM_VA_161 kV_VA_pop kS_VA_pop kI_VA kC_VA_pop) rfl rfl rfl (by decide +kernel) ⟨Nat.le_of_ble_eq_true rfl, Nat.le_of_ble_eq_true rfl⟩) ⟨fun a U g mk z => by obtain ⟨z0, z1, zP, zK, zD⟩ := z; exact ⟨z0, z1, zP, va_K.moved (u := U) (U := U.calling g mk a) (Vm.Alike.refl U.vm) zK, zD⟩, va_recv hKc hPc (ci := 9) (q0 := 0) rfl rfl, fun U hU hW => ⟨rfl, by rw [hU], by rw [hU]; exact hPc, va_K.moved hW.alike hKc, hDc.weaken (fun _ _ _ _ => trivial)⟩⟩ rfl rfl hl.1 rfl (lv_room (Nat.le_of_ble_eq_true rfl)) d_VA_checkJump_63 ⟨(Nat.zero_le _), (Nat.zero_le _)⟩) hS (fun q _ h => hFc q h) hFc (fun u t H1 locs ht hvm hw hB hz1 hk1 hS => ?_)
      obtain ⟨n12, n13⟩ := u
      try dsimp only at hw
      obtain ⟨bn12, bn13, xr11⟩ := hw
      try clear hw
      have tn13 := b01 bn13
      obtain ⟨hP1, hK1, hD1⟩ := hB
      rw [ht] at hP1
      obtain ⟨hP, hD⟩ := va_join (wr := [(aw, .inr (10, law)), (ac, .inr (3, [.ref cfi, .ref clk, .ref clt, .int ac_length, .ref cop, .ref cva, .ref cpt, .ref cel, .int ac_labelCount, .ref cla])), (bo, .inl (cbo, 101, .inl gbo)), (bg, .inl (cbg, 101, .inl gbg)), (waf, .inl (cwaf, 30, .inl gwaf)), (wat, .inl (cwat, 20, .inl gwat)), (wap, .inl (cwap, 160, .inl gwap)), (wag, .inl (cwag, 20, .inl gwag)), (clk, .inl (cclk, 30, .inl gclk)), (clt, .inl (cclt, 1800, .inl gclt)), (cop, .inl (ccop, 5000, .inl gcop)), (cva, .inl (ccva, 5000, .inr (.inl gcva))), (cpt, .inl (ccpt, 5000, .inl gcpt)), (cla, .inl (ccla, 2000, .inl gcla))]) (w1 := [(h0, .inr (9, [.ref aw, .ref ac, .int n13, .int h0_function, .ref ty, .int n12, .ref bo, .ref bg, .ref bh, .ref bd, .int h0_depth])), (ty, .inl (cty, 5000, .inl gty)), (bh, .inl (cbh, 101, .inl gbh)), (bd, .inl (cbd, 101, .inl gbd))]) hP hD [0, 3, 6, 7] [1, 2, 4, 5, 8, 9, 10, 11, 12, 13, 14, 15, 16, 17] rfl rfl (by decide) (by decide) hk1 hFc hP1 hD1
      clear hPc hDc hKc hFc hz1 hk1 hP1 hK1 hD1
      generalize H1 = H at hP hS ⊢
      have hP : va_P (dC, dI) cls [(aw, .inr (10, law)), (ac, .inr (3, [.ref cfi, .ref clk, .ref clt, .int ac_length, .ref cop, .ref cva, .ref cpt, .ref cel, .int ac_labelCount, .ref cla])), (bo, .inl (cbo, 101, .inl gbo)), (bg, .inl (cbg, 101, .inl gbg)), (waf, .inl (cwaf, 30, .inl gwaf)), (wat, .inl (cwat, 20, .inl gwat)), (wap, .inl (cwap, 160, .inl gwap)), (wag, .inl (cwag, 20, .inl gwag)), (clk, .inl (cclk, 30, .inl gclk)), (clt, .inl (cclt, 1800, .inl gclt)), (cop, .inl (ccop, 5000, .inl gcop)), (cva, .inl (ccva, 5000, .inr (.inl gcva))), (cpt, .inl (ccpt, 5000, .inl gcpt)), (cla, .inl (ccla, 2000, .inl gcla)), (h0, .inr (9, [.ref aw, .ref ac, .int n13, .int h0_function, .ref ty, .int n12, .ref bo, .ref bg, .ref bh, .ref bd, .int h0_depth])), (ty, .inl (cty, 5000, .inl gty)), (bh, .inl (cbh, 101, .inl gbh)), (bd, .inl (cbd, 101, .inl gbd))] H := hP
      have hD : va_D A [(aw, .inr (10, law)), (ac, .inr (3, [.ref cfi, .ref clk, .ref clt, .int ac_length, .ref cop, .ref cva, .ref cpt, .ref cel, .int ac_labelCount, .ref cla])), (bo, .inl (cbo, 101, .inl gbo)), (bg, .inl (cbg, 101, .inl gbg)), (waf, .inl (cwaf, 30, .inl gwaf)), (wat, .inl (cwat, 20, .inl gwat)), (wap, .inl (cwap, 160, .inl gwap)), (wag, .inl (cwag, 20, .inl gwag)), (clk, .inl (cclk, 30, .inl gclk)), (clt, .inl (cclt, 1800, .inl gclt)), (cop, .inl (ccop, 5000, .inl gcop)), (cva, .inl (ccva, 5000, .inr (.inl gcva))), (cpt, .inl (ccpt, 5000, .inl gcpt)), (cla, .inl (ccla, 2000, .inl gcla)), (h0, .inr (9, [.ref aw, .ref ac, .int n13, .int h0_function, .ref ty, .int n12, .ref bo, .ref bg, .ref bh, .ref bd, .int h0_depth])), (ty, .inl (cty, 5000, .inl gty)), (bh, .inl (cbh, 101, .inl gbh)), (bd, .inl (cbd, 101, .inl gbd))] := hD
      refine lv_aload_n hx hb d_VA_checkJump_66 rfl (lv_at hl 1 rfl) ?_
      refine lv_aload_n hx hb d_VA_checkJump_67 rfl (lv_at hl 1 rfl) ?_
      refine lv_iload_n hx hb d_VA_checkJump_68 rfl (lv_at hl 0 rfl) ?_
      have hPc := hP.sub (ws' := [(h0, .inr (9, [.ref aw, .ref ac, .int n13, .int h0_function, .ref ty, .int n12, .ref bo, .ref bg, .ref bh, .ref bd, .int h0_depth])), (bo, .inl (cbo, 101, .inl gbo)), (bg, .inl (cbg, 101, .inl gbg))]) [14, 2, 3] rfl
      have hDc := hD.sub (ws' := [(h0, .inr (9, [.ref aw, .ref ac, .int n13, .int h0_function, .ref ty, .int n12, .ref bo, .ref bg, .ref bh, .ref bd, .int h0_depth])), (bo, .inl (cbo, 101, .inl gbo)), (bg, .inl (cbg, 101, .inl gbg))]) [14, 2, 3] (by decide) rfl
      have hKc := hK.sub (tys' := [(cbo, .int), (cbg, .int)]) [1, 2] rfl
      have hFc := va_free (wc := [(h0, .inr (9, [.ref aw, .ref ac, .int n13, .int h0_function, .ref ty, .int n12, .ref bo, .ref bg, .ref bh, .ref bd, .int h0_depth])), (bo, .inl (cbo, 101, .inl gbo)), (bg, .inl (cbg, 101, .inl gbg))]) hD hS hA [14, 2, 3] rfl
      refine va_calli (va_runV (As := [.int x2]) (rest := [.ref h0]) ⟨hx, hb, hml, hown, hts⟩ (c_VA_labelType l dC dI H.size h0 aw ac ty bo bg bh bd cbo cbg n13 h0_function n12 h0_depth gbo gbg (bn13) (b_h0_depth) x2 (by (try dsimp only) <;> omega)) (cwV 1 hts (gV kM_VA_170 kV_VA_labelType kS_VA_labelType kI_VA kC_VA_labelType) rfl rfl rfl (by decide +kernel) ⟨Nat.le_of_ble_eq_true rfl, Nat.le_of_ble_eq_true rfl⟩) ⟨fun a U g mk z => by obtain ⟨z0, z1, zP, zK, zD⟩ := z; exact ⟨z0, z1, zP, va_K.moved (u := U) (U := U.calling g mk a) (Vm.Alike.refl U.vm) zK, zD⟩, va_recv hKc hPc (ci := 9) (q0 := 0) rfl rfl, fun U hU hW => ⟨rfl, by rw [hU], by rw [hU]; exact hPc, va_K.moved hW.alike hKc, hDc.weaken (fun _ _ _ _ => trivial)⟩⟩ rfl rfl hl.1 rfl (lv_room (Nat.le_of_ble_eq_true rfl)) d_VA_checkJump_69 ⟨(Nat.zero_le _), (Nat.zero_le _)⟩) hS (fun q _ h => hFc q h) hFc (fun r14 u t H1 locs ht hvm hw hB hz1 hk1 hS => ?_)
      obtain ⟨n15, rfl⟩ : ∃ z, z = u := ⟨_, rfl⟩
      try dsimp only at hw
      obtain ⟨bn15, xr14⟩ := hw
      try clear hw
      have tn15 := b01 bn15
      obtain ⟨hP1, hK1, hD1⟩ := hB
      rw [ht] at hP1
      obtain ⟨hP, hD⟩ := va_join (wr := [(aw, .inr (10, law)), (ac, .inr (3, [.ref cfi, .ref clk, .ref clt, .int ac_length, .ref cop, .ref cva, .ref cpt, .ref cel, .int ac_labelCount, .ref cla])), (waf, .inl (cwaf, 30, .inl gwaf)), (wat, .inl (cwat, 20, .inl gwat)), (wap, .inl (cwap, 160, .inl gwap)), (wag, .inl (cwag, 20, .inl gwag)), (clk, .inl (cclk, 30, .inl gclk)), (clt, .inl (cclt, 1800, .inl gclt)), (cop, .inl (ccop, 5000, .inl gcop)), (cva, .inl (ccva, 5000, .inr (.inl gcva))), (cpt, .inl (ccpt, 5000, .inl gcpt)), (cla, .inl (ccla, 2000, .inl gcla)), (ty, .inl (cty, 5000, .inl gty)), (bh, .inl (cbh, 101, .inl gbh)), (bd, .inl (cbd, 101, .inl gbd))]) (w1 := [(h0, .inr (9, [.ref aw, .ref ac, .int n15, .int h0_function, .ref ty, .int n12, .ref bo, .ref bg, .ref bh, .ref bd, .int h0_depth])), (bo, .inl (cbo, 101, .inl gbo)), (bg, .inl (cbg, 101, .inl gbg))]) hP hD [14, 2, 3] [0, 1, 4, 5, 6, 7, 8, 9, 10, 11, 12, 13, 15, 16, 17] rfl rfl (by decide) (by decide) hk1 hFc hP1 hD1
      clear hPc hDc hKc hFc hz1 hk1 hP1 hK1 hD1
      generalize H1 = H at hP hS ⊢
      have hP : va_P (dC, dI) cls [(aw, .inr (10, law)), (ac, .inr (3, [.ref cfi, .ref clk, .ref clt, .int ac_length, .ref cop, .ref cva, .ref cpt, .ref cel, .int ac_labelCount, .ref cla])), (waf, .inl (cwaf, 30, .inl gwaf)), (wat, .inl (cwat, 20, .inl gwat)), (wap, .inl (cwap, 160, .inl gwap)), (wag, .inl (cwag, 20, .inl gwag)), (clk, .inl (cclk, 30, .inl gclk)), (clt, .inl (cclt, 1800, .inl gclt)), (cop, .inl (ccop, 5000, .inl gcop)), (cva, .inl (ccva, 5000, .inr (.inl gcva))), (cpt, .inl (ccpt, 5000, .inl gcpt)), (cla, .inl (ccla, 2000, .inl gcla)), (ty, .inl (cty, 5000, .inl gty)), (bh, .inl (cbh, 101, .inl gbh)), (bd, .inl (cbd, 101, .inl gbd)), (h0, .inr (9, [.ref aw, .ref ac, .int n15, .int h0_function, .ref ty, .int n12, .ref bo, .ref bg, .ref bh, .ref bd, .int h0_depth])), (bo, .inl (cbo, 101, .inl gbo)), (bg, .inl (cbg, 101, .inl gbg))] H := hP
      have hD : va_D A [(aw, .inr (10, law)), (ac, .inr (3, [.ref cfi, .ref clk, .ref clt, .int ac_length, .ref cop, .ref cva, .ref cpt, .ref cel, .int ac_labelCount, .ref cla])), (waf, .inl (cwaf, 30, .inl gwaf)), (wat, .inl (cwat, 20, .inl gwat)), (wap, .inl (cwap, 160, .inl gwap)), (wag, .inl (cwag, 20, .inl gwag)), (clk, .inl (cclk, 30, .inl gclk)), (clt, .inl (cclt, 1800, .inl gclt)), (cop, .inl (ccop, 5000, .inl gcop)), (cva, .inl (ccva, 5000, .inr (.inl gcva))), (cpt, .inl (ccpt, 5000, .inl gcpt)), (cla, .inl (ccla, 2000, .inl gcla)), (ty, .inl (cty, 5000, .inl gty)), (bh, .inl (cbh, 101, .inl gbh)), (bd, .inl (cbd, 101, .inl gbd)), (h0, .inr (9, [.ref aw, .ref ac, .int n15, .int h0_function, .ref ty, .int n12, .ref bo, .ref bg, .ref bh, .ref bd, .int h0_depth])), (bo, .inl (cbo, 101, .inl gbo)), (bg, .inl (cbg, 101, .inl gbg))] := hD
      have hPc := hP.sub (ws' := [(h0, .inr (9, [.ref aw, .ref ac, .int n15, .int h0_function, .ref ty, .int n12, .ref bo, .ref bg, .ref bh, .ref bd, .int h0_depth])), (ty, .inl (cty, 5000, .inl gty)), (bh, .inl (cbh, 101, .inl gbh)), (bd, .inl (cbd, 101, .inl gbd))]) [15, 12, 13, 14] rfl
      have hDc := hD.sub (ws' := [(h0, .inr (9, [.ref aw, .ref ac, .int n15, .int h0_function, .ref ty, .int n12, .ref bo, .ref bg, .ref bh, .ref bd, .int h0_depth])), (ty, .inl (cty, 5000, .inl gty)), (bh, .inl (cbh, 101, .inl gbh)), (bd, .inl (cbd, 101, .inl gbd))]) [15, 12, 13, 14] (by decide) rfl
      have hKc := hK.sub (tys' := [(cty, .int), (cbh, .int), (cbd, .boolean)]) [0, 3, 4] rfl
      have hFc := va_free (wc := [(h0, .inr (9, [.ref aw, .ref ac, .int n15, .int h0_function, .ref ty, .int n12, .ref bo, .ref bg, .ref bh, .ref bd, .int h0_depth])), (ty, .inl (cty, 5000, .inl gty)), (bh, .inl (cbh, 101, .inl gbh)), (bd, .inl (cbd, 101, .inl gbd))]) hD hS hA [15, 12, 13, 14] rfl
      refine va_callv (va_runV (As := [.int r14]) (rest := []) ⟨hx, hb, hml, hown, hts⟩ (c_VA_pop l dC dI H.size h0 aw ac ty bo bg bh bd cty cbh cbd n15 h0_function n12 h0_depth gty gbh gbd (bn15) (bn12) (b_h0_depth) (b_gty) (b_gbh) r14 (by (try dsimp only) <;> omega) (by (try dsimp only) <;> omega)) (cwV 1 hts (gV kM_VA_161 kV_VA_pop kS_VA_pop kI_VA kC_VA_pop) rfl rfl rfl (by decide +kernel) ⟨Nat.le_of_ble_eq_true rfl, Nat.le_of_ble_eq_true rfl⟩) ⟨fun a U g mk z => by obtain ⟨z0, z1, zP, zK, zD⟩ := z; exact ⟨z0, z1, zP, va_K.moved (u := U) (U := U.calling g mk a) (Vm.Alike.refl U.vm) zK, zD⟩, va_recv hKc hPc (ci := 9) (q0 := 0) rfl rfl, fun U hU hW => ⟨rfl, by rw [hU], by rw [hU]; exact hPc, va_K.moved hW.alike hKc, hDc.weaken (fun _ _ _ _ => trivial)⟩⟩ rfl rfl hl.1 rfl (lv_room (Nat.le_of_ble_eq_true rfl)) d_VA_checkJump_72 ⟨(Nat.zero_le _), (Nat.zero_le _)⟩) hS (fun q _ h => hFc q h) hFc (fun u t H1 locs ht hvm hw hB hz1 hk1 hS => ?_)
      obtain ⟨n17, n18⟩ := u
      try dsimp only at hw
      obtain ⟨bn17, bn18, xr16⟩ := hw
      try clear hw
      have tn18 := b01 bn18
      obtain ⟨hP1, hK1, hD1⟩ := hB
      rw [ht] at hP1
      obtain ⟨hP, hD⟩ := va_join (wr := [(aw, .inr (10, law)), (ac, .inr (3, [.ref cfi, .ref clk, .ref clt, .int ac_length, .ref cop, .ref cva, .ref cpt, .ref cel, .int ac_labelCount, .ref cla])), (waf, .inl (cwaf, 30, .inl gwaf)), (wat, .inl (cwat, 20, .inl gwat)), (wap, .inl (cwap, 160, .inl gwap)), (wag, .inl (cwag, 20, .inl gwag)), (clk, .inl (cclk, 30, .inl gclk)), (clt, .inl (cclt, 1800, .inl gclt)), (cop, .inl (ccop, 5000, .inl gcop)), (cva, .inl (ccva, 5000, .inr (.inl gcva))), (cpt, .inl (ccpt, 5000, .inl gcpt)), (cla, .inl (ccla, 2000, .inl gcla)), (bo, .inl (cbo, 101, .inl gbo)), (bg, .inl (cbg, 101, .inl gbg))]) (w1 := [(h0, .inr (9, [.ref aw, .ref ac, .int n18, .int h0_function, .ref ty, .int n17, .ref bo, .ref bg, .ref bh, .ref bd, .int h0_depth])), (ty, .inl (cty, 5000, .inl gty)), (bh, .inl (cbh, 101, .inl gbh)), (bd, .inl (cbd, 101, .inl gbd))]) hP hD [15, 12, 13, 14] [0, 1, 2, 3, 4, 5, 6, 7, 8, 9, 10, 11, 16, 17] rfl rfl (by decide) (by decide) hk1 hFc hP1 hD1
      clear hPc hDc hKc hFc hz1 hk1 hP1 hK1 hD1
      generalize H1 = H at hP hS ⊢
      have hP : va_P (dC, dI) cls [(aw, .inr (10, law)), (ac, .inr (3, [.ref cfi, .ref clk, .ref clt, .int ac_length, .ref cop, .ref cva, .ref cpt, .ref cel, .int ac_labelCount, .ref cla])), (waf, .inl (cwaf, 30, .inl gwaf)), (wat, .inl (cwat, 20, .inl gwat)), (wap, .inl (cwap, 160, .inl gwap)), (wag, .inl (cwag, 20, .inl gwag)), (clk, .inl (cclk, 30, .inl gclk)), (clt, .inl (cclt, 1800, .inl gclt)), (cop, .inl (ccop, 5000, .inl gcop)), (cva, .inl (ccva, 5000, .inr (.inl gcva))), (cpt, .inl (ccpt, 5000, .inl gcpt)), (cla, .inl (ccla, 2000, .inl gcla)), (bo, .inl (cbo, 101, .inl gbo)), (bg, .inl (cbg, 101, .inl gbg)), (h0, .inr (9, [.ref aw, .ref ac, .int n18, .int h0_function, .ref ty, .int n17, .ref bo, .ref bg, .ref bh, .ref bd, .int h0_depth])), (ty, .inl (cty, 5000, .inl gty)), (bh, .inl (cbh, 101, .inl gbh)), (bd, .inl (cbd, 101, .inl gbd))] H := hP
      have hD : va_D A [(aw, .inr (10, law)), (ac, .inr (3, [.ref cfi, .ref clk, .ref clt, .int ac_length, .ref cop, .ref cva, .ref cpt, .ref cel, .int ac_labelCount, .ref cla])), (waf, .inl (cwaf, 30, .inl gwaf)), (wat, .inl (cwat, 20, .inl gwat)), (wap, .inl (cwap, 160, .inl gwap)), (wag, .inl (cwag, 20, .inl gwag)), (clk, .inl (cclk, 30, .inl gclk)), (clt, .inl (cclt, 1800, .inl gclt)), (cop, .inl (ccop, 5000, .inl gcop)), (cva, .inl (ccva, 5000, .inr (.inl gcva))), (cpt, .inl (ccpt, 5000, .inl gcpt)), (cla, .inl (ccla, 2000, .inl gcla)), (bo, .inl (cbo, 101, .inl gbo)), (bg, .inl (cbg, 101, .inl gbg)), (h0, .inr (9, [.ref aw, .ref ac, .int n18, .int h0_function, .ref ty, .int n17, .ref bo, .ref bg, .ref bh, .ref bd, .int h0_depth])), (ty, .inl (cty, 5000, .inl gty)), (bh, .inl (cbh, 101, .inl gbh)), (bd, .inl (cbd, 101, .inl gbd))] := hD
      refine lv_aload_n hx hb d_VA_checkJump_75 rfl (lv_at hl 1 rfl) ?_
      refine lv_aload_n hx hb d_VA_checkJump_76 rfl (lv_at hl 1 rfl) ?_
      refine lv_iload_n hx hb d_VA_checkJump_77 rfl (lv_at hl 0 rfl) ?_
      have hPc := hP.sub (ws' := [(h0, .inr (9, [.ref aw, .ref ac, .int n18, .int h0_function, .ref ty, .int n17, .ref bo, .ref bg, .ref bh, .ref bd, .int h0_depth])), (bo, .inl (cbo, 101, .inl gbo)), (bg, .inl (cbg, 101, .inl gbg))]) [14, 12, 13] rfl
      have hDc := hD.sub (ws' := [(h0, .inr (9, [.ref aw, .ref ac, .int n18, .int h0_function, .ref ty, .int n17, .ref bo, .ref bg, .ref bh, .ref bd, .int h0_depth])), (bo, .inl (cbo, 101, .inl gbo)), (bg, .inl (cbg, 101, .inl gbg))]) [14, 12, 13] (by decide) rfl
      have hKc := hK.sub (tys' := [(cbo, .int), (cbg, .int)]) [1, 2] rfl
      have hFc := va_free (wc := [(h0, .inr (9, [.ref aw, .ref ac, .int n18, .int h0_function, .ref ty, .int n17, .ref bo, .ref bg, .ref bh, .ref bd, .int h0_depth])), (bo, .inl (cbo, 101, .inl gbo)), (bg, .inl (cbg, 101, .inl gbg))]) hD hS hA [14, 12, 13] rfl
      refine va_calli (va_runV (As := [.int x2]) (rest := [.ref h0]) ⟨hx, hb, hml, hown, hts⟩ (c_VA_labelType l dC dI H.size h0 aw ac ty bo bg bh bd cbo cbg n18 h0_function n17 h0_depth gbo gbg (bn18) (b_h0_depth) x2 (by (try dsimp only) <;> omega)) (cwV 1 hts (gV kM_VA_170 kV_VA_labelType kS_VA_labelType kI_VA kC_VA_labelType) rfl rfl rfl (by decide +kernel) ⟨Nat.le_of_ble_eq_true rfl, Nat.le_of_ble_eq_true rfl⟩) ⟨fun a U g mk z => by obtain ⟨z0, z1, zP, zK, zD⟩ := z; exact ⟨z0, z1, zP, va_K.moved (u := U) (U := U.calling g mk a) (Vm.Alike.refl U.vm) zK, zD⟩, va_recv hKc hPc (ci := 9) (q0 := 0) rfl rfl, fun U hU hW => ⟨rfl, by rw [hU], by rw [hU]; exact hPc, va_K.moved hW.alike hKc, hDc.weaken (fun _ _ _ _ => trivial)⟩⟩ rfl rfl hl.1 rfl (lv_room (Nat.le_of_ble_eq_true rfl)) d_VA_checkJump_78 ⟨(Nat.zero_le _), (Nat.zero_le _)⟩) hS (fun q _ h => hFc q h) hFc (fun r19 u t H1 locs ht hvm hw hB hz1 hk1 hS => ?_)
      obtain ⟨n20, rfl⟩ : ∃ z, z = u := ⟨_, rfl⟩
      try dsimp only at hw
      obtain ⟨bn20, xr19⟩ := hw
      try clear hw
      have tn20 := b01 bn20
      obtain ⟨hP1, hK1, hD1⟩ := hB
      rw [ht] at hP1
      obtain ⟨hP, hD⟩ := va_join (wr := [(aw, .inr (10, law)), (ac, .inr (3, [.ref cfi, .ref clk, .ref clt, .int ac_length, .ref cop, .ref cva, .ref cpt, .ref cel, .int ac_labelCount, .ref cla])), (waf, .inl (cwaf, 30, .inl gwaf)), (wat, .inl (cwat, 20, .inl gwat)), (wap, .inl (cwap, 160, .inl gwap)), (wag, .inl (cwag, 20, .inl gwag)), (clk, .inl (cclk, 30, .inl gclk)), (clt, .inl (cclt, 1800, .inl gclt)), (cop, .inl (ccop, 5000, .inl gcop)), (cva, .inl (ccva, 5000, .inr (.inl gcva))), (cpt, .inl (ccpt, 5000, .inl gcpt)), (cla, .inl (ccla, 2000, .inl gcla)), (ty, .inl (cty, 5000, .inl gty)), (bh, .inl (cbh, 101, .inl gbh)), (bd, .inl (cbd, 101, .inl gbd))]) (w1 := [(h0, .inr (9, [.ref aw, .ref ac, .int n20, .int h0_function, .ref ty, .int n17, .ref bo, .ref bg, .ref bh, .ref bd, .int h0_depth])), (bo, .inl (cbo, 101, .inl gbo)), (bg, .inl (cbg, 101, .inl gbg))]) hP hD [14, 12, 13] [0, 1, 2, 3, 4, 5, 6, 7, 8, 9, 10, 11, 15, 16, 17] rfl rfl (by decide) (by decide) hk1 hFc hP1 hD1
      clear hPc hDc hKc hFc hz1 hk1 hP1 hK1 hD1
      generalize H1 = H at hP hS ⊢
      have hP : va_P (dC, dI) cls [(aw, .inr (10, law)), (ac, .inr (3, [.ref cfi, .ref clk, .ref clt, .int ac_length, .ref cop, .ref cva, .ref cpt, .ref cel, .int ac_labelCount, .ref cla])), (waf, .inl (cwaf, 30, .inl gwaf)), (wat, .inl (cwat, 20, .inl gwat)), (wap, .inl (cwap, 160, .inl gwap)), (wag, .inl (cwag, 20, .inl gwag)), (clk, .inl (cclk, 30, .inl gclk)), (clt, .inl (cclt, 1800, .inl gclt)), (cop, .inl (ccop, 5000, .inl gcop)), (cva, .inl (ccva, 5000, .inr (.inl gcva))), (cpt, .inl (ccpt, 5000, .inl gcpt)), (cla, .inl (ccla, 2000, .inl gcla)), (ty, .inl (cty, 5000, .inl gty)), (bh, .inl (cbh, 101, .inl gbh)), (bd, .inl (cbd, 101, .inl gbd)), (h0, .inr (9, [.ref aw, .ref ac, .int n20, .int h0_function, .ref ty, .int n17, .ref bo, .ref bg, .ref bh, .ref bd, .int h0_depth])), (bo, .inl (cbo, 101, .inl gbo)), (bg, .inl (cbg, 101, .inl gbg))] H := hP
      have hD : va_D A [(aw, .inr (10, law)), (ac, .inr (3, [.ref cfi, .ref clk, .ref clt, .int ac_length, .ref cop, .ref cva, .ref cpt, .ref cel, .int ac_labelCount, .ref cla])), (waf, .inl (cwaf, 30, .inl gwaf)), (wat, .inl (cwat, 20, .inl gwat)), (wap, .inl (cwap, 160, .inl gwap)), (wag, .inl (cwag, 20, .inl gwag)), (clk, .inl (cclk, 30, .inl gclk)), (clt, .inl (cclt, 1800, .inl gclt)), (cop, .inl (ccop, 5000, .inl gcop)), (cva, .inl (ccva, 5000, .inr (.inl gcva))), (cpt, .inl (ccpt, 5000, .inl gcpt)), (cla, .inl (ccla, 2000, .inl gcla)), (ty, .inl (cty, 5000, .inl gty)), (bh, .inl (cbh, 101, .inl gbh)), (bd, .inl (cbd, 101, .inl gbd)), (h0, .inr (9, [.ref aw, .ref ac, .int n20, .int h0_function, .ref ty, .int n17, .ref bo, .ref bg, .ref bh, .ref bd, .int h0_depth])), (bo, .inl (cbo, 101, .inl gbo)), (bg, .inl (cbg, 101, .inl gbg))] := hD
      have hPc := hP.sub (ws' := [(h0, .inr (9, [.ref aw, .ref ac, .int n20, .int h0_function, .ref ty, .int n17, .ref bo, .ref bg, .ref bh, .ref bd, .int h0_depth])), (ty, .inl (cty, 5000, .inl gty))]) [15, 12] rfl
      have hDc := hD.sub (ws' := [(h0, .inr (9, [.ref aw, .ref ac, .int n20, .int h0_function, .ref ty, .int n17, .ref bo, .ref bg, .ref bh, .ref bd, .int h0_depth])), (ty, .inl (cty, 5000, .inl gty))]) [15, 12] (by decide) rfl
      have hKc := hK.sub (tys' := [(cty, .int)]) [0] rfl
      have hFc := va_free (wc := [(h0, .inr (9, [.ref aw, .ref ac, .int n20, .int h0_function, .ref ty, .int n17, .ref bo, .ref bg, .ref bh, .ref bd, .int h0_depth])), (ty, .inl (cty, 5000, .inl gty))]) hD hS hA [15, 12] rfl
      refine va_callv (va_runV (As := [.int r19]) (rest := []) ⟨hx, hb, hml, hown, hts⟩ (c_VA_push l dC dI H.size h0 aw ac ty bo bg bh bd cty n20 h0_function n17 h0_depth gty (bn17) (b_gty) r19 (by (try dsimp only) <;> omega)) (cwV 1 hts (gV kM_VA_167 kV_VA_push kS_VA_push kI_VA kC_VA_push) rfl rfl rfl (by decide +kernel) ⟨Nat.le_of_ble_eq_true rfl, Nat.le_of_ble_eq_true rfl⟩) ⟨fun a U g mk z => by obtain ⟨z0, z1, zP, zK, zD⟩ := z; exact ⟨z0, z1, zP, va_K.moved (u := U) (U := U.calling g mk a) (Vm.Alike.refl U.vm) zK, zD⟩, va_recv hKc hPc (ci := 9) (q0 := 0) rfl rfl, fun U hU hW => ⟨rfl, by rw [hU], by rw [hU]; exact hPc, va_K.moved hW.alike hKc, hDc.weaken (fun _ _ _ _ => trivial)⟩⟩ rfl rfl hl.1 rfl (lv_room (Nat.le_of_ble_eq_true rfl)) d_VA_checkJump_81 ⟨(Nat.zero_le _), (Nat.zero_le _)⟩) hS (fun q _ h => hFc q h) hFc (fun u t H1 locs ht hvm hw hB hz1 hk1 hS => ?_)
      obtain ⟨n22, n23⟩ := u
      try dsimp only at hw
      obtain ⟨bn22, bn23, xr21⟩ := hw
      try clear hw
      obtain ⟨hP1, hK1, hD1⟩ := hB
      rw [ht] at hP1
      obtain ⟨hP, hD⟩ := va_join (wr := [(aw, .inr (10, law)), (ac, .inr (3, [.ref cfi, .ref clk, .ref clt, .int ac_length, .ref cop, .ref cva, .ref cpt, .ref cel, .int ac_labelCount, .ref cla])), (waf, .inl (cwaf, 30, .inl gwaf)), (wat, .inl (cwat, 20, .inl gwat)), (wap, .inl (cwap, 160, .inl gwap)), (wag, .inl (cwag, 20, .inl gwag)), (clk, .inl (cclk, 30, .inl gclk)), (clt, .inl (cclt, 1800, .inl gclt)), (cop, .inl (ccop, 5000, .inl gcop)), (cva, .inl (ccva, 5000, .inr (.inl gcva))), (cpt, .inl (ccpt, 5000, .inl gcpt)), (cla, .inl (ccla, 2000, .inl gcla)), (bh, .inl (cbh, 101, .inl gbh)), (bd, .inl (cbd, 101, .inl gbd)), (bo, .inl (cbo, 101, .inl gbo)), (bg, .inl (cbg, 101, .inl gbg))]) (w1 := [(h0, .inr (9, [.ref aw, .ref ac, .int n20, .int h0_function, .ref ty, .int n23, .ref bo, .ref bg, .ref bh, .ref bd, .int h0_depth])), (ty, .inl (cty, 5000, .inl n22))]) hP hD [15, 12] [0, 1, 2, 3, 4, 5, 6, 7, 8, 9, 10, 11, 13, 14, 16, 17] rfl rfl (by decide) (by decide) hk1 hFc hP1 hD1
      clear hPc hDc hKc hFc hz1 hk1 hP1 hK1 hD1
      generalize H1 = H at hP hS ⊢
      have hP : va_P (dC, dI) cls [(aw, .inr (10, law)), (ac, .inr (3, [.ref cfi, .ref clk, .ref clt, .int ac_length, .ref cop, .ref cva, .ref cpt, .ref cel, .int ac_labelCount, .ref cla])), (waf, .inl (cwaf, 30, .inl gwaf)), (wat, .inl (cwat, 20, .inl gwat)), (wap, .inl (cwap, 160, .inl gwap)), (wag, .inl (cwag, 20, .inl gwag)), (clk, .inl (cclk, 30, .inl gclk)), (clt, .inl (cclt, 1800, .inl gclt)), (cop, .inl (ccop, 5000, .inl gcop)), (cva, .inl (ccva, 5000, .inr (.inl gcva))), (cpt, .inl (ccpt, 5000, .inl gcpt)), (cla, .inl (ccla, 2000, .inl gcla)), (bh, .inl (cbh, 101, .inl gbh)), (bd, .inl (cbd, 101, .inl gbd)), (bo, .inl (cbo, 101, .inl gbo)), (bg, .inl (cbg, 101, .inl gbg)), (h0, .inr (9, [.ref aw, .ref ac, .int n20, .int h0_function, .ref ty, .int n23, .ref bo, .ref bg, .ref bh, .ref bd, .int h0_depth])), (ty, .inl (cty, 5000, .inl n22))] H := hP
      have hD : va_D A [(aw, .inr (10, law)), (ac, .inr (3, [.ref cfi, .ref clk, .ref clt, .int ac_length, .ref cop, .ref cva, .ref cpt, .ref cel, .int ac_labelCount, .ref cla])), (waf, .inl (cwaf, 30, .inl gwaf)), (wat, .inl (cwat, 20, .inl gwat)), (wap, .inl (cwap, 160, .inl gwap)), (wag, .inl (cwag, 20, .inl gwag)), (clk, .inl (cclk, 30, .inl gclk)), (clt, .inl (cclt, 1800, .inl gclt)), (cop, .inl (ccop, 5000, .inl gcop)), (cva, .inl (ccva, 5000, .inr (.inl gcva))), (cpt, .inl (ccpt, 5000, .inl gcpt)), (cla, .inl (ccla, 2000, .inl gcla)), (bh, .inl (cbh, 101, .inl gbh)), (bd, .inl (cbd, 101, .inl gbd)), (bo, .inl (cbo, 101, .inl gbo)), (bg, .inl (cbg, 101, .inl gbg)), (h0, .inr (9, [.ref aw, .ref ac, .int n20, .int h0_function, .ref ty, .int n23, .ref bo, .ref bg, .ref bh, .ref bd, .int h0_depth])), (ty, .inl (cty, 5000, .inl n22))] := hD
      refine lv_goto (tgt := 131) hx hb d_VA_checkJump_84 (by decide) ?_
      have hP9 := hP.sub (ws' := [(h0, .inr (9, [.ref aw, .ref ac, .int n20, .int h0_function, .ref ty, .int n23, .ref bo, .ref bg, .ref bh, .ref bd, .int h0_depth])), (aw, .inr (10, law)), (ac, .inr (3, [.ref cfi, .ref clk, .ref clt, .int ac_length, .ref cop, .ref cva, .ref cpt, .ref cel, .int ac_labelCount, .ref cla])), (ty, .inl (cty, 5000, .inl n22)), (bo, .inl (cbo, 101, .inl gbo)), (bg, .inl (cbg, 101, .inl gbg)), (bh, .inl (cbh, 101, .inl gbh)), (bd, .inl (cbd, 101, .inl gbd)), (waf, .inl (cwaf, 30, .inl gwaf)), (wat, .inl (cwat, 20, .inl gwat)), (wap, .inl (cwap, 160, .inl gwap)), (wag, .inl (cwag, 20, .inl gwag)), (clk, .inl (cclk, 30, .inl gclk)), (clt, .inl (cclt, 1800, .inl gclt)), (cop, .inl (ccop, 5000, .inl gcop)), (cva, .inl (ccva, 5000, .inr (.inl gcva))), (cpt, .inl (ccpt, 5000, .inl gcpt)), (cla, .inl (ccla, 2000, .inl gcla))]) [16, 0, 1, 17, 14, 15, 12, 13, 2, 3, 4, 5, 6, 7, 8, 9, 10, 11] rfl
      have hD9 := hD.sub (ws' := [(h0, .inr (9, [.ref aw, .ref ac, .int n20, .int h0_function, .ref ty, .int n23, .ref bo, .ref bg, .ref bh, .ref bd, .int h0_depth])), (aw, .inr (10, law)), (ac, .inr (3, [.ref cfi, .ref clk, .ref clt, .int ac_length, .ref cop, .ref cva, .ref cpt, .ref cel, .int ac_labelCount, .ref cla])), (ty, .inl (cty, 5000, .inl n22)), (bo, .inl (cbo, 101, .inl gbo)), (bg, .inl (cbg, 101, .inl gbg)), (bh, .inl (cbh, 101, .inl gbh)), (bd, .inl (cbd, 101, .inl gbd)), (waf, .inl (cwaf, 30, .inl gwaf)), (wat, .inl (cwat, 20, .inl gwat)), (wap, .inl (cwap, 160, .inl gwap)), (wag, .inl (cwag, 20, .inl gwag)), (clk, .inl (cclk, 30, .inl gclk)), (clt, .inl (cclt, 1800, .inl gclt)), (cop, .inl (ccop, 5000, .inl gcop)), (cva, .inl (ccva, 5000, .inr (.inl gcva))), (cpt, .inl (ccpt, 5000, .inl gcpt)), (cla, .inl (ccla, 2000, .inl gcla))]) [16, 0, 1, 17, 14, 15, 12, 13, 2, 3, 4, 5, 6, 7, 8, 9, 10, 11] (by decide) rfl
      exact W.vret hx hb hr (fun t ht hW => ⟨⟨(gbd, n22, n23, n20), rfl, ⟨bn22, bn23, bn20, ⟨fun z => absurd z (by omega), fun _ => ⟨rfl, by (try dsimp only) <;> omega, by (try dsimp only) <;> omega⟩, fun z => absurd z (by omega)⟩⟩, by rw [ht]; exact hP9, va_K.moved hW.alike hK, hD9⟩, hS.F ht⟩) hS.2.2 d_VA_checkJump_131
    · skip
      by_cases g12_87 : p0.toInt = 14
      · have ho12 : tab_off 114 12 15 #[32, 48, 75, 92] p0.toInt = 75 := by rw [g12_87]; rfl
        refine lv_tab (tgt := 87) hx hb d_VA_checkJump_12 (by decide) ho12 (by decide) ?_
        clear ho12
        have a2 := A2 (by omega)
        have tv3 := v9 ⟨by omega, by omega⟩
        refine lv_aload_n hx hb d_VA_checkJump_87 rfl (lv_at hl 1 rfl) ?_
        refine lv_iload_n hx hb d_VA_checkJump_88 rfl (lv_at hl 0 rfl) ?_
        refine lv_aload_n hx hb d_VA_checkJump_89 rfl (lv_at hl 1 rfl) ?_
        refine va_get (D := (dC, dI)) (ci := 9) (v := .ref ac) (C := R_VA) (T := F_VA) (N := 11) hx hb hts i_VA hown hK hP 0 rfl rfl 1 (by decide) (hts _ kF_VA_38) (fun _ h9 => h9) rfl d_VA_checkJump_90 ?_
        refine va_get (D := (dC, dI)) (ci := 3) (v := .ref cpt) (C := R_CD) (T := F_CD) (N := 10) hx hb hts i_CD hown hK hP 2 rfl rfl 6 (by decide) (hts _ kF_VA_149) (fun _ h9 => h9) rfl d_VA_checkJump_93 ?_
        refine lv_iload_n hx hb d_VA_checkJump_96 rfl (lv_at hl 3 rfl) ?_
        have g97 : vp_in p1 5000 := vp_in_iff.mpr ⟨by omega, by omega⟩
        refine va_iald hx hb hK hP 16 13 rfl rfl g97 d_VA_checkJump_97 ?_
        refine lv_topi (fun x24 ex24 => ?_)
        have tx24 : x24.toInt = (gcpt p1.toNatClampNeg).toInt := by rw [ex24]
        have hPc := hP.sub (ws' := [(h0, .inr (9, [.ref aw, .ref ac, .int h0_sound, .int h0_function, .ref ty, .int h0_height, .ref bo, .ref bg, .ref bh, .ref bd, .int h0_depth])), (ac, .inr (3, [.ref cfi, .ref clk, .ref clt, .int ac_length, .ref cop, .ref cva, .ref cpt, .ref cel, .int ac_labelCount, .ref cla])), (ty, .inl (cty, 5000, .inl gty)), (bo, .inl (cbo, 101, .inl gbo)), (bg, .inl (cbg, 101, .inl gbg)), (bh, .inl (cbh, 101, .inl gbh)), (bd, .inl (cbd, 101, .inl gbd)), (cla, .inl (ccla, 2000, .inl gcla))]) [0, 2, 3, 4, 5, 6, 7, 17] rfl
        have hDc := hD.sub (ws' := [(h0, .inr (9, [.ref aw, .ref ac, .int h0_sound, .int h0_function, .ref ty, .int h0_height, .ref bo, .ref bg, .ref bh, .ref bd, .int h0_depth])), (ac, .inr (3, [.ref cfi, .ref clk, .ref clt, .int ac_length, .ref cop, .ref cva, .ref cpt, .ref cel, .int ac_labelCount, .ref cla])), (ty, .inl (cty, 5000, .inl gty)), (bo, .inl (cbo, 101, .inl gbo)), (bg, .inl (cbg, 101, .inl gbg)), (bh, .inl (cbh, 101, .inl gbh)), (bd, .inl (cbd, 101, .inl gbd)), (cla, .inl (ccla, 2000, .inl gcla))]) [0, 2, 3, 4, 5, 6, 7, 17] (by decide) rfl
        have hKc := hK.sub (tys' := [(cty, .int), (cbo, .int), (cbg, .int), (cbh, .int), (cbd, .boolean), (ccla, .int)]) [0, 1, 2, 3, 4, 14] rfl
        have hFc := va_free (wc := [(h0, .inr (9, [.ref aw, .ref ac, .int h0_sound, .int h0_function, .ref ty, .int h0_height, .ref bo, .ref bg, .ref bh, .ref bd, .int h0_depth])), (ac, .inr (3, [.ref cfi, .ref clk, .ref clt, .int ac_length, .ref cop, .ref cva, .ref cpt, .ref cel, .int ac_labelCount, .ref cla])), (ty, .inl (cty, 5000, .inl gty)), (bo, .inl (cbo, 101, .inl gbo)), (bg, .inl (cbg, 101, .inl gbg)), (bh, .inl (cbh, 101, .inl gbh)), (bd, .inl (cbd, 101, .inl gbd)), (cla, .inl (ccla, 2000, .inl gcla))]) hD hS hA [0, 2, 3, 4, 5, 6, 7, 17] rfl
        refine va_callv (va_runV (As := [.int x2, .int x24]) (rest := []) ⟨hx, hb, hml, hown, hts⟩ (c_VA_checkTable l dC dI H.size h0 aw ac ty bo bg bh bd cfi clk clt cop cva cpt cel cla cty cbo cbg cbh cbd ccla h0_sound h0_function h0_height h0_depth ac_length ac_labelCount gty gbo gbg gbh gbd gcla (b_h0_sound) (b_h0_height) (b_h0_depth) (b_ac_labelCount) (b_gty) (b_gbh) x2 x24 (hd1) (hbh) (hh5) (by (try dsimp only) <;> omega) (hlb)) (cwV 2 hts (gV kM_VA_173 kV_VA_checkTable kS_VA_checkTable kI_VA kC_VA_checkTable) rfl rfl rfl (by decide +kernel) ⟨Nat.le_of_ble_eq_true rfl, Nat.le_of_ble_eq_true rfl⟩) ⟨fun a U g mk z => by obtain ⟨z0, z1, zP, zK, zD⟩ := z; exact ⟨z0, z1, zP, va_K.moved (u := U) (U := U.calling g mk a) (Vm.Alike.refl U.vm) zK, zD⟩, va_recv hKc hPc (ci := 9) (q0 := 0) rfl rfl, fun U hU hW => ⟨rfl, by rw [hU], by rw [hU]; exact hPc, va_K.moved hW.alike hKc, hDc.weaken (fun _ _ _ _ => trivial)⟩⟩ rfl rfl hl.1 rfl (lv_room (Nat.le_of_ble_eq_true rfl)) d_VA_checkJump_98 ⟨(Nat.zero_le _), (Nat.zero_le _)⟩) hS (fun q _ h => hFc q h) hFc (fun u t H1 locs ht hvm hw hB hz1 hk1 hS => ?_)
        obtain ⟨n26, n27, n28⟩ := u
        try dsimp only at hw
        obtain ⟨bn27, bn28, xr25⟩ := hw
        try clear hw
        have tn28 := b01 bn28
        obtain ⟨hP1, hK1, hD1⟩ := hB
        rw [ht] at hP1
        obtain ⟨hP, hD⟩ := va_join (wr := [(aw, .inr (10, law)), (waf, .inl (cwaf, 30, .inl gwaf)), (wat, .inl (cwat, 20, .inl gwat)), (wap, .inl (cwap, 160, .inl gwap)), (wag, .inl (cwag, 20, .inl gwag)), (clk, .inl (cclk, 30, .inl gclk)), (clt, .inl (cclt, 1800, .inl gclt)), (cop, .inl (ccop, 5000, .inl gcop)), (cva, .inl (ccva, 5000, .inr (.inl gcva))), (cpt, .inl (ccpt, 5000, .inl gcpt))]) (w1 := [(h0, .inr (9, [.ref aw, .ref ac, .int n28, .int h0_function, .ref ty, .int n27, .ref bo, .ref bg, .ref bh, .ref bd, .int h0_depth])), (ac, .inr (3, [.ref cfi, .ref clk, .ref clt, .int ac_length, .ref cop, .ref cva, .ref cpt, .ref cel, .int ac_labelCount, .ref cla])), (ty, .inl (cty, 5000, .inl gty)), (bo, .inl (cbo, 101, .inl gbo)), (bg, .inl (cbg, 101, .inl gbg)), (bh, .inl (cbh, 101, .inl gbh)), (bd, .inl (cbd, 101, .inl n26)), (cla, .inl (ccla, 2000, .inl gcla))]) hP hD [0, 2, 3, 4, 5, 6, 7, 17] [1, 8, 9, 10, 11, 12, 13, 14, 15, 16] rfl rfl (by decide) (by decide) hk1 hFc hP1 hD1
        clear hPc hDc hKc hFc hz1 hk1 hP1 hK1 hD1
        generalize H1 = H at hP hS ⊢
        have hP : va_P (dC, dI) cls [(aw, .inr (10, law)), (waf, .inl (cwaf, 30, .inl gwaf)), (wat, .inl (cwat, 20, .inl gwat)), (wap, .inl (cwap, 160, .inl gwap)), (wag, .inl (cwag, 20, .inl gwag)), (clk, .inl (cclk, 30, .inl gclk)), (clt, .inl (cclt, 1800, .inl gclt)), (cop, .inl (ccop, 5000, .inl gcop)), (cva, .inl (ccva, 5000, .inr (.inl gcva))), (cpt, .inl (ccpt, 5000, .inl gcpt)), (h0, .inr (9, [.ref aw, .ref ac, .int n28, .int h0_function, .ref ty, .int n27, .ref bo, .ref bg, .ref bh, .ref bd, .int h0_depth])), (ac, .inr (3, [.ref cfi, .ref clk, .ref clt, .int ac_length, .ref cop, .ref cva, .ref cpt, .ref cel, .int ac_labelCount, .ref cla])), (ty, .inl (cty, 5000, .inl gty)), (bo, .inl (cbo, 101, .inl gbo)), (bg, .inl (cbg, 101, .inl gbg)), (bh, .inl (cbh, 101, .inl gbh)), (bd, .inl (cbd, 101, .inl n26)), (cla, .inl (ccla, 2000, .inl gcla))] H := hP
        have hD : va_D A [(aw, .inr (10, law)), (waf, .inl (cwaf, 30, .inl gwaf)), (wat, .inl (cwat, 20, .inl gwat)), (wap, .inl (cwap, 160, .inl gwap)), (wag, .inl (cwag, 20, .inl gwag)), (clk, .inl (cclk, 30, .inl gclk)), (clt, .inl (cclt, 1800, .inl gclt)), (cop, .inl (ccop, 5000, .inl gcop)), (cva, .inl (ccva, 5000, .inr (.inl gcva))), (cpt, .inl (ccpt, 5000, .inl gcpt)), (h0, .inr (9, [.ref aw, .ref ac, .int n28, .int h0_function, .ref ty, .int n27, .ref bo, .ref bg, .ref bh, .ref bd, .int h0_depth])), (ac, .inr (3, [.ref cfi, .ref clk, .ref clt, .int ac_length, .ref cop, .ref cva, .ref cpt, .ref cel, .int ac_labelCount, .ref cla])), (ty, .inl (cty, 5000, .inl gty)), (bo, .inl (cbo, 101, .inl gbo)), (bg, .inl (cbg, 101, .inl gbg)), (bh, .inl (cbh, 101, .inl gbh)), (bd, .inl (cbd, 101, .inl n26)), (cla, .inl (ccla, 2000, .inl gcla))] := hD
        refine lv_goto (tgt := 131) hx hb d_VA_checkJump_101 (by decide) ?_
        have hP9 := hP.sub (ws' := [(h0, .inr (9, [.ref aw, .ref ac, .int n28, .int h0_function, .ref ty, .int n27, .ref bo, .ref bg, .ref bh, .ref bd, .int h0_depth])), (aw, .inr (10, law)), (ac, .inr (3, [.ref cfi, .ref clk, .ref clt, .int ac_length, .ref cop, .ref cva, .ref cpt, .ref cel, .int ac_labelCount, .ref cla])), (ty, .inl (cty, 5000, .inl gty)), (bo, .inl (cbo, 101, .inl gbo)), (bg, .inl (cbg, 101, .inl gbg)), (bh, .inl (cbh, 101, .inl gbh)), (bd, .inl (cbd, 101, .inl n26)), (waf, .inl (cwaf, 30, .inl gwaf)), (wat, .inl (cwat, 20, .inl gwat)), (wap, .inl (cwap, 160, .inl gwap)), (wag, .inl (cwag, 20, .inl gwag)), (clk, .inl (cclk, 30, .inl gclk)), (clt, .inl (cclt, 1800, .inl gclt)), (cop, .inl (ccop, 5000, .inl gcop)), (cva, .inl (ccva, 5000, .inr (.inl gcva))), (cpt, .inl (ccpt, 5000, .inl gcpt)), (cla, .inl (ccla, 2000, .inl gcla))]) [10, 0, 11, 12, 13, 14, 15, 16, 1, 2, 3, 4, 5, 6, 7, 8, 9, 17] rfl
        have hD9 := hD.sub (ws' := [(h0, .inr (9, [.ref aw, .ref ac, .int n28, .int h0_function, .ref ty, .int n27, .ref bo, .ref bg, .ref bh, .ref bd, .int h0_depth])), (aw, .inr (10, law)), (ac, .inr (3, [.ref cfi, .ref clk, .ref clt, .int ac_length, .ref cop, .ref cva, .ref cpt, .ref cel, .int ac_labelCount, .ref cla])), (ty, .inl (cty, 5000, .inl gty)), (bo, .inl (cbo, 101, .inl gbo)), (bg, .inl (cbg, 101, .inl gbg)), (bh, .inl (cbh, 101, .inl gbh)), (bd, .inl (cbd, 101, .inl n26)), (waf, .inl (cwaf, 30, .inl gwaf)), (wat, .inl (cwat, 20, .inl gwat)), (wap, .inl (cwap, 160, .inl gwap)), (wag, .inl (cwag, 20, .inl gwag)), (clk, .inl (cclk, 30, .inl gclk)), (clt, .inl (cclt, 1800, .inl gclt)), (cop, .inl (ccop, 5000, .inl gcop)), (cva, .inl (ccva, 5000, .inr (.inl gcva))), (cpt, .inl (ccpt, 5000, .inl gcpt)), (cla, .inl (ccla, 2000, .inl gcla))]) [10, 0, 11, 12, 13, 14, 15, 16, 1, 2, 3, 4, 5, 6, 7, 8, 9, 17] (by decide) rfl
        exact W.vret hx hb hr (fun t ht hW => ⟨⟨(n26, gty, n27, n28), rfl, ⟨b_gty, bn27, bn28, ⟨fun _ => ⟨xr25.1, by (try dsimp only) <;> omega⟩, fun z => absurd z (by omega), fun z => absurd z (by omega)⟩⟩, by rw [ht]; exact hP9, va_K.moved hW.alike hK, hD9⟩, hS.F ht⟩) hS.2.2 d_VA_checkJump_131
      · skip
        by_cases g12_104 : p0.toInt = 15
        · have ho12 : tab_off 114 12 15 #[32, 48, 75, 92] p0.toInt = 92 := by rw [g12_104]; rfl
          refine lv_tab (tgt := 104) hx hb d_VA_checkJump_12 (by decide) ho12 (by decide) ?_
          clear ho12
          refine lv_aload_n hx hb d_VA_checkJump_104 rfl (lv_at hl 1 rfl) ?_
          refine lv_aload_n hx hb d_VA_checkJump_105 rfl (lv_at hl 1 rfl) ?_
          refine va_get (D := (dC, dI)) (ci := 9) (v := .ref aw) (C := R_VA) (T := F_VA) (N := 11) hx hb hts i_VA hown hK hP 0 rfl rfl 0 (by decide) (hts _ kF_VA_28) (fun _ h9 => h9) rfl d_VA_checkJump_106 ?_
          refine lv_aload_n hx hb d_VA_checkJump_109 rfl (lv_at hl 1 rfl) ?_
          refine va_get (D := (dC, dI)) (ci := 9) (v := .int h0_function) (C := R_VA) (T := F_VA) (N := 11) hx hb hts i_VA hown hK hP 0 rfl rfl 3 (by decide) (hts _ kF_VA_111) (fun _ h9 => h9) rfl d_VA_checkJump_110 ?_
          have hPc := hP.sub (ws' := [(aw, .inr (10, law)), (waf, .inl (cwaf, 30, .inl gwaf)), (wag, .inl (cwag, 20, .inl gwag))]) [1, 8, 11] rfl
          have hDc := hD.sub (ws' := [(aw, .inr (10, law)), (waf, .inl (cwaf, 30, .inl gwaf)), (wag, .inl (cwag, 20, .inl gwag))]) [1, 8, 11] (by decide) rfl
          have hKc := hK.sub (tys' := [(cwaf, .int), (cwag, .int)]) [5, 8] rfl
          have hFc := va_free (wc := [(aw, .inr (10, law)), (waf, .inl (cwaf, 30, .inl gwaf)), (wag, .inl (cwag, 20, .inl gwag))]) hD hS hA [1, 8, 11] rfl
          refine va_calli (va_runV (As := [.int h0_function]) (rest := [.ref h0]) ⟨hx, hb, hml, hown, hts⟩ (c_WA_gives l dC dI aw waf wag H.size cwaf cwag gwaf gwag law paw_7 paw_5 plaw h0_function (by omega) (w8)) (cwV 1 hts (gV kM_VA_120 kV_WA_gives kS_WA_gives kI_WA kC_WA_gives) rfl rfl rfl (by decide +kernel) ⟨Nat.le_of_ble_eq_true rfl, Nat.le_of_ble_eq_true rfl⟩) ⟨fun a U g mk z => by obtain ⟨z0, z1, zP, zK, zD⟩ := z; exact ⟨z0, z1, zP, va_K.moved (u := U) (U := U.calling g mk a) (Vm.Alike.refl U.vm) zK, zD⟩, va_recv hKc hPc (ci := 10) (q0 := 0) rfl rfl, fun U hU hW => ⟨rfl, by rw [hU], by rw [hU]; exact hPc, va_K.moved hW.alike hKc, hDc.weaken (fun _ _ _ _ => trivial)⟩⟩ rfl rfl hl.1 rfl (lv_room (Nat.le_of_ble_eq_true rfl)) d_VA_checkJump_113 ⟨(Nat.zero_le _), (Nat.zero_le _)⟩) hS (fun q _ h => hFc q h) hFc (fun r29 u t H1 locs ht hvm hw hB hz1 hk1 hS => ?_)
          try dsimp only at hw
          have er29 := hw
          try clear hw
          obtain ⟨hP1, hK1, hD1⟩ := hB
          rw [ht] at hP1
          obtain ⟨hP, hD⟩ := va_join (wr := [(h0, .inr (9, [.ref aw, .ref ac, .int h0_sound, .int h0_function, .ref ty, .int h0_height, .ref bo, .ref bg, .ref bh, .ref bd, .int h0_depth])), (ac, .inr (3, [.ref cfi, .ref clk, .ref clt, .int ac_length, .ref cop, .ref cva, .ref cpt, .ref cel, .int ac_labelCount, .ref cla])), (ty, .inl (cty, 5000, .inl gty)), (bo, .inl (cbo, 101, .inl gbo)), (bg, .inl (cbg, 101, .inl gbg)), (bh, .inl (cbh, 101, .inl gbh)), (bd, .inl (cbd, 101, .inl gbd)), (wat, .inl (cwat, 20, .inl gwat)), (wap, .inl (cwap, 160, .inl gwap)), (clk, .inl (cclk, 30, .inl gclk)), (clt, .inl (cclt, 1800, .inl gclt)), (cop, .inl (ccop, 5000, .inl gcop)), (cva, .inl (ccva, 5000, .inr (.inl gcva))), (cpt, .inl (ccpt, 5000, .inl gcpt)), (cla, .inl (ccla, 2000, .inl gcla))]) (w1 := [(aw, .inr (10, law)), (waf, .inl (cwaf, 30, .inl gwaf)), (wag, .inl (cwag, 20, .inl gwag))]) hP hD [1, 8, 11] [0, 2, 3, 4, 5, 6, 7, 9, 10, 12, 13, 14, 15, 16, 17] rfl rfl (by decide) (by decide) hk1 hFc hP1 hD1
          clear hPc hDc hKc hFc hz1 hk1 hP1 hK1 hD1
          generalize H1 = H at hP hS ⊢
          have hP : va_P (dC, dI) cls [(h0, .inr (9, [.ref aw, .ref ac, .int h0_sound, .int h0_function, .ref ty, .int h0_height, .ref bo, .ref bg, .ref bh, .ref bd, .int h0_depth])), (ac, .inr (3, [.ref cfi, .ref clk, .ref clt, .int ac_length, .ref cop, .ref cva, .ref cpt, .ref cel, .int ac_labelCount, .ref cla])), (ty, .inl (cty, 5000, .inl gty)), (bo, .inl (cbo, 101, .inl gbo)), (bg, .inl (cbg, 101, .inl gbg)), (bh, .inl (cbh, 101, .inl gbh)), (bd, .inl (cbd, 101, .inl gbd)), (wat, .inl (cwat, 20, .inl gwat)), (wap, .inl (cwap, 160, .inl gwap)), (clk, .inl (cclk, 30, .inl gclk)), (clt, .inl (cclt, 1800, .inl gclt)), (cop, .inl (ccop, 5000, .inl gcop)), (cva, .inl (ccva, 5000, .inr (.inl gcva))), (cpt, .inl (ccpt, 5000, .inl gcpt)), (cla, .inl (ccla, 2000, .inl gcla)), (aw, .inr (10, law)), (waf, .inl (cwaf, 30, .inl gwaf)), (wag, .inl (cwag, 20, .inl gwag))] H := hP
          have hD : va_D A [(h0, .inr (9, [.ref aw, .ref ac, .int h0_sound, .int h0_function, .ref ty, .int h0_height, .ref bo, .ref bg, .ref bh, .ref bd, .int h0_depth])), (ac, .inr (3, [.ref cfi, .ref clk, .ref clt, .int ac_length, .ref cop, .ref cva, .ref cpt, .ref cel, .int ac_labelCount, .ref cla])), (ty, .inl (cty, 5000, .inl gty)), (bo, .inl (cbo, 101, .inl gbo)), (bg, .inl (cbg, 101, .inl gbg)), (bh, .inl (cbh, 101, .inl gbh)), (bd, .inl (cbd, 101, .inl gbd)), (wat, .inl (cwat, 20, .inl gwat)), (wap, .inl (cwap, 160, .inl gwap)), (clk, .inl (cclk, 30, .inl gclk)), (clt, .inl (cclt, 1800, .inl gclt)), (cop, .inl (ccop, 5000, .inl gcop)), (cva, .inl (ccva, 5000, .inr (.inl gcva))), (cpt, .inl (ccpt, 5000, .inl gcpt)), (cla, .inl (ccla, 2000, .inl gcla)), (aw, .inr (10, law)), (waf, .inl (cwaf, 30, .inl gwaf)), (wag, .inl (cwag, 20, .inl gwag))] := hD
          have hPc := hP.sub (ws' := [(h0, .inr (9, [.ref aw, .ref ac, .int h0_sound, .int h0_function, .ref ty, .int h0_height, .ref bo, .ref bg, .ref bh, .ref bd, .int h0_depth])), (ty, .inl (cty, 5000, .inl gty)), (bh, .inl (cbh, 101, .inl gbh)), (bd, .inl (cbd, 101, .inl gbd))]) [0, 2, 5, 6] rfl
          have hDc := hD.sub (ws' := [(h0, .inr (9, [.ref aw, .ref ac, .int h0_sound, .int h0_function, .ref ty, .int h0_height, .ref bo, .ref bg, .ref bh, .ref bd, .int h0_depth])), (ty, .inl (cty, 5000, .inl gty)), (bh, .inl (cbh, 101, .inl gbh)), (bd, .inl (cbd, 101, .inl gbd))]) [0, 2, 5, 6] (by decide) rfl
          have hKc := hK.sub (tys' := [(cty, .int), (cbh, .int), (cbd, .boolean)]) [0, 3, 4] rfl
          have hFc := va_free (wc := [(h0, .inr (9, [.ref aw, .ref ac, .int h0_sound, .int h0_function, .ref ty, .int h0_height, .ref bo, .ref bg, .ref bh, .ref bd, .int h0_depth])), (ty, .inl (cty, 5000, .inl gty)), (bh, .inl (cbh, 101, .inl gbh)), (bd, .inl (cbd, 101, .inl gbd))]) hD hS hA [0, 2, 5, 6] rfl
          refine va_callv (va_runV (As := [.int r29]) (rest := []) ⟨hx, hb, hml, hown, hts⟩ (c_VA_pop l dC dI H.size h0 aw ac ty bo bg bh bd cty cbh cbd h0_sound h0_function h0_height h0_depth gty gbh gbd (b_h0_sound) (b_h0_height) (b_h0_depth) (b_gty) (b_gbh) r29 (by (try dsimp only) <;> omega) (by (try dsimp only) <;> omega)) (cwV 1 hts (gV kM_VA_161 kV_VA_pop kS_VA_pop kI_VA kC_VA_pop) rfl rfl rfl (by decide +kernel) ⟨Nat.le_of_ble_eq_true rfl, Nat.le_of_ble_eq_true rfl⟩) ⟨fun a U g mk z => by obtain ⟨z0, z1, zP, zK, zD⟩ := z; exact ⟨z0, z1, zP, va_K.moved (u := U) (U := U.calling g mk a) (Vm.Alike.refl U.vm) zK, zD⟩, va_recv hKc hPc (ci := 9) (q0 := 0) rfl rfl, fun U hU hW => ⟨rfl, by rw [hU], by rw [hU]; exact hPc, va_K.moved hW.alike hKc, hDc.weaken (fun _ _ _ _ => trivial)⟩⟩ rfl rfl hl.1 rfl (lv_room (Nat.le_of_ble_eq_true rfl)) d_VA_checkJump_116 ⟨(Nat.zero_le _), (Nat.zero_le _)⟩) hS (fun q _ h => hFc q h) hFc (fun u t H1 locs ht hvm hw hB hz1 hk1 hS => ?_)
          obtain ⟨n31, n32⟩ := u
          try dsimp only at hw
          obtain ⟨bn31, bn32, xr30⟩ := hw
          try clear hw
          have tn32 := b01 bn32
          obtain ⟨hP1, hK1, hD1⟩ := hB
          rw [ht] at hP1
          obtain ⟨hP, hD⟩ := va_join (wr := [(ac, .inr (3, [.ref cfi, .ref clk, .ref clt, .int ac_length, .ref cop, .ref cva, .ref cpt, .ref cel, .int ac_labelCount, .ref cla])), (bo, .inl (cbo, 101, .inl gbo)), (bg, .inl (cbg, 101, .inl gbg)), (wat, .inl (cwat, 20, .inl gwat)), (wap, .inl (cwap, 160, .inl gwap)), (clk, .inl (cclk, 30, .inl gclk)), (clt, .inl (cclt, 1800, .inl gclt)), (cop, .inl (ccop, 5000, .inl gcop)), (cva, .inl (ccva, 5000, .inr (.inl gcva))), (cpt, .inl (ccpt, 5000, .inl gcpt)), (cla, .inl (ccla, 2000, .inl gcla)), (aw, .inr (10, law)), (waf, .inl (cwaf, 30, .inl gwaf)), (wag, .inl (cwag, 20, .inl gwag))]) (w1 := [(h0, .inr (9, [.ref aw, .ref ac, .int n32, .int h0_function, .ref ty, .int n31, .ref bo, .ref bg, .ref bh, .ref bd, .int h0_depth])), (ty, .inl (cty, 5000, .inl gty)), (bh, .inl (cbh, 101, .inl gbh)), (bd, .inl (cbd, 101, .inl gbd))]) hP hD [0, 2, 5, 6] [1, 3, 4, 7, 8, 9, 10, 11, 12, 13, 14, 15, 16, 17] rfl rfl (by decide) (by decide) hk1 hFc hP1 hD1
          clear hPc hDc hKc hFc hz1 hk1 hP1 hK1 hD1
          generalize H1 = H at hP hS ⊢
          have hP : va_P (dC, dI) cls [(ac, .inr (3, [.ref cfi, .ref clk, .ref clt, .int ac_length, .ref cop, .ref cva, .ref cpt, .ref cel, .int ac_labelCount, .ref cla])), (bo, .inl (cbo, 101, .inl gbo)), (bg, .inl (cbg, 101, .inl gbg)), (wat, .inl (cwat, 20, .inl gwat)), (wap, .inl (cwap, 160, .inl gwap)), (clk, .inl (cclk, 30, .inl gclk)), (clt, .inl (cclt, 1800, .inl gclt)), (cop, .inl (ccop, 5000, .inl gcop)), (cva, .inl (ccva, 5000, .inr (.inl gcva))), (cpt, .inl (ccpt, 5000, .inl gcpt)), (cla, .inl (ccla, 2000, .inl gcla)), (aw, .inr (10, law)), (waf, .inl (cwaf, 30, .inl gwaf)), (wag, .inl (cwag, 20, .inl gwag)), (h0, .inr (9, [.ref aw, .ref ac, .int n32, .int h0_function, .ref ty, .int n31, .ref bo, .ref bg, .ref bh, .ref bd, .int h0_depth])), (ty, .inl (cty, 5000, .inl gty)), (bh, .inl (cbh, 101, .inl gbh)), (bd, .inl (cbd, 101, .inl gbd))] H := hP
          have hD : va_D A [(ac, .inr (3, [.ref cfi, .ref clk, .ref clt, .int ac_length, .ref cop, .ref cva, .ref cpt, .ref cel, .int ac_labelCount, .ref cla])), (bo, .inl (cbo, 101, .inl gbo)), (bg, .inl (cbg, 101, .inl gbg)), (wat, .inl (cwat, 20, .inl gwat)), (wap, .inl (cwap, 160, .inl gwap)), (clk, .inl (cclk, 30, .inl gclk)), (clt, .inl (cclt, 1800, .inl gclt)), (cop, .inl (ccop, 5000, .inl gcop)), (cva, .inl (ccva, 5000, .inr (.inl gcva))), (cpt, .inl (ccpt, 5000, .inl gcpt)), (cla, .inl (ccla, 2000, .inl gcla)), (aw, .inr (10, law)), (waf, .inl (cwaf, 30, .inl gwaf)), (wag, .inl (cwag, 20, .inl gwag)), (h0, .inr (9, [.ref aw, .ref ac, .int n32, .int h0_function, .ref ty, .int n31, .ref bo, .ref bg, .ref bh, .ref bd, .int h0_depth])), (ty, .inl (cty, 5000, .inl gty)), (bh, .inl (cbh, 101, .inl gbh)), (bd, .inl (cbd, 101, .inl gbd))] := hD
          refine lv_aload_n hx hb d_VA_checkJump_119 rfl (lv_at hl 1 rfl) ?_
          have hPc := hP.sub (ws' := [(h0, .inr (9, [.ref aw, .ref ac, .int n32, .int h0_function, .ref ty, .int n31, .ref bo, .ref bg, .ref bh, .ref bd, .int h0_depth])), (bh, .inl (cbh, 101, .inl gbh)), (bd, .inl (cbd, 101, .inl gbd))]) [14, 16, 17] rfl
          have hDc := hD.sub (ws' := [(h0, .inr (9, [.ref aw, .ref ac, .int n32, .int h0_function, .ref ty, .int n31, .ref bo, .ref bg, .ref bh, .ref bd, .int h0_depth])), (bh, .inl (cbh, 101, .inl gbh)), (bd, .inl (cbd, 101, .inl gbd))]) [14, 16, 17] (by decide) rfl
          have hKc := hK.sub (tys' := [(cbh, .int), (cbd, .boolean)]) [3, 4] rfl
          have hFc := va_free (wc := [(h0, .inr (9, [.ref aw, .ref ac, .int n32, .int h0_function, .ref ty, .int n31, .ref bo, .ref bg, .ref bh, .ref bd, .int h0_depth])), (bh, .inl (cbh, 101, .inl gbh)), (bd, .inl (cbd, 101, .inl gbd))]) hD hS hA [14, 16, 17] rfl
          refine va_callv (va_runV (As := []) (rest := []) ⟨hx, hb, hml, hown, hts⟩ (c_VA_die l dC dI H.size h0 aw ac ty bo bg bh bd cbh cbd n32 h0_function n31 h0_depth gbh gbd (bn31) (b_h0_depth) (b_gbh) (by (try dsimp only) <;> omega)) (cwV 0 hts (gV kM_VA_158 kV_VA_die kS_VA_die kI_VA kC_VA_die) rfl rfl rfl (by decide +kernel) ⟨Nat.le_of_ble_eq_true rfl, Nat.le_of_ble_eq_true rfl⟩) ⟨fun a U g mk z => by obtain ⟨z0, z1, zP, zK, zD⟩ := z; exact ⟨z0, z1, zP, va_K.moved (u := U) (U := U.calling g mk a) (Vm.Alike.refl U.vm) zK, zD⟩, va_recv hKc hPc (ci := 9) (q0 := 0) rfl rfl, fun U hU hW => ⟨rfl, by rw [hU], by rw [hU]; exact hPc, va_K.moved hW.alike hKc, hDc.weaken (fun _ _ _ _ => trivial)⟩⟩ rfl rfl hl.1 rfl (lv_room (Nat.le_of_ble_eq_true rfl)) d_VA_checkJump_120 ⟨(Nat.zero_le _), (Nat.zero_le _)⟩) hS (fun q _ h => hFc q h) hFc (fun u t H1 locs ht hvm hw hB hz1 hk1 hS => ?_)
          obtain ⟨n34, n35⟩ := u
          try dsimp only at hw
          obtain ⟨bn35, xr33⟩ := hw
          try clear hw
          obtain ⟨hP1, hK1, hD1⟩ := hB
          rw [ht] at hP1
          obtain ⟨hP, hD⟩ := va_join (wr := [(ac, .inr (3, [.ref cfi, .ref clk, .ref clt, .int ac_length, .ref cop, .ref cva, .ref cpt, .ref cel, .int ac_labelCount, .ref cla])), (bo, .inl (cbo, 101, .inl gbo)), (bg, .inl (cbg, 101, .inl gbg)), (wat, .inl (cwat, 20, .inl gwat)), (wap, .inl (cwap, 160, .inl gwap)), (clk, .inl (cclk, 30, .inl gclk)), (clt, .inl (cclt, 1800, .inl gclt)), (cop, .inl (ccop, 5000, .inl gcop)), (cva, .inl (ccva, 5000, .inr (.inl gcva))), (cpt, .inl (ccpt, 5000, .inl gcpt)), (cla, .inl (ccla, 2000, .inl gcla)), (aw, .inr (10, law)), (waf, .inl (cwaf, 30, .inl gwaf)), (wag, .inl (cwag, 20, .inl gwag)), (ty, .inl (cty, 5000, .inl gty))]) (w1 := [(h0, .inr (9, [.ref aw, .ref ac, .int n32, .int h0_function, .ref ty, .int n35, .ref bo, .ref bg, .ref bh, .ref bd, .int h0_depth])), (bh, .inl (cbh, 101, .inl gbh)), (bd, .inl (cbd, 101, .inl n34))]) hP hD [14, 16, 17] [0, 1, 2, 3, 4, 5, 6, 7, 8, 9, 10, 11, 12, 13, 15] rfl rfl (by decide) (by decide) hk1 hFc hP1 hD1
          clear hPc hDc hKc hFc hz1 hk1 hP1 hK1 hD1
          generalize H1 = H at hP hS ⊢
          have hP : va_P (dC, dI) cls [(ac, .inr (3, [.ref cfi, .ref clk, .ref clt, .int ac_length, .ref cop, .ref cva, .ref cpt, .ref cel, .int ac_labelCount, .ref cla])), (bo, .inl (cbo, 101, .inl gbo)), (bg, .inl (cbg, 101, .inl gbg)), (wat, .inl (cwat, 20, .inl gwat)), (wap, .inl (cwap, 160, .inl gwap)), (clk, .inl (cclk, 30, .inl gclk)), (clt, .inl (cclt, 1800, .inl gclt)), (cop, .inl (ccop, 5000, .inl gcop)), (cva, .inl (ccva, 5000, .inr (.inl gcva))), (cpt, .inl (ccpt, 5000, .inl gcpt)), (cla, .inl (ccla, 2000, .inl gcla)), (aw, .inr (10, law)), (waf, .inl (cwaf, 30, .inl gwaf)), (wag, .inl (cwag, 20, .inl gwag)), (ty, .inl (cty, 5000, .inl gty)), (h0, .inr (9, [.ref aw, .ref ac, .int n32, .int h0_function, .ref ty, .int n35, .ref bo, .ref bg, .ref bh, .ref bd, .int h0_depth])), (bh, .inl (cbh, 101, .inl gbh)), (bd, .inl (cbd, 101, .inl n34))] H := hP
          have hD : va_D A [(ac, .inr (3, [.ref cfi, .ref clk, .ref clt, .int ac_length, .ref cop, .ref cva, .ref cpt, .ref cel, .int ac_labelCount, .ref cla])), (bo, .inl (cbo, 101, .inl gbo)), (bg, .inl (cbg, 101, .inl gbg)), (wat, .inl (cwat, 20, .inl gwat)), (wap, .inl (cwap, 160, .inl gwap)), (clk, .inl (cclk, 30, .inl gclk)), (clt, .inl (cclt, 1800, .inl gclt)), (cop, .inl (ccop, 5000, .inl gcop)), (cva, .inl (ccva, 5000, .inr (.inl gcva))), (cpt, .inl (ccpt, 5000, .inl gcpt)), (cla, .inl (ccla, 2000, .inl gcla)), (aw, .inr (10, law)), (waf, .inl (cwaf, 30, .inl gwaf)), (wag, .inl (cwag, 20, .inl gwag)), (ty, .inl (cty, 5000, .inl gty)), (h0, .inr (9, [.ref aw, .ref ac, .int n32, .int h0_function, .ref ty, .int n35, .ref bo, .ref bg, .ref bh, .ref bd, .int h0_depth])), (bh, .inl (cbh, 101, .inl gbh)), (bd, .inl (cbd, 101, .inl n34))] := hD
          refine lv_goto (tgt := 131) hx hb d_VA_checkJump_123 (by decide) ?_
          have hP9 := hP.sub (ws' := [(h0, .inr (9, [.ref aw, .ref ac, .int n32, .int h0_function, .ref ty, .int n35, .ref bo, .ref bg, .ref bh, .ref bd, .int h0_depth])), (aw, .inr (10, law)), (ac, .inr (3, [.ref cfi, .ref clk, .ref clt, .int ac_length, .ref cop, .ref cva, .ref cpt, .ref cel, .int ac_labelCount, .ref cla])), (ty, .inl (cty, 5000, .inl gty)), (bo, .inl (cbo, 101, .inl gbo)), (bg, .inl (cbg, 101, .inl gbg)), (bh, .inl (cbh, 101, .inl gbh)), (bd, .inl (cbd, 101, .inl n34)), (waf, .inl (cwaf, 30, .inl gwaf)), (wat, .inl (cwat, 20, .inl gwat)), (wap, .inl (cwap, 160, .inl gwap)), (wag, .inl (cwag, 20, .inl gwag)), (clk, .inl (cclk, 30, .inl gclk)), (clt, .inl (cclt, 1800, .inl gclt)), (cop, .inl (ccop, 5000, .inl gcop)), (cva, .inl (ccva, 5000, .inr (.inl gcva))), (cpt, .inl (ccpt, 5000, .inl gcpt)), (cla, .inl (ccla, 2000, .inl gcla))]) [15, 11, 0, 14, 1, 2, 16, 17, 12, 3, 4, 13, 5, 6, 7, 8, 9, 10] rfl
          have hD9 := hD.sub (ws' := [(h0, .inr (9, [.ref aw, .ref ac, .int n32, .int h0_function, .ref ty, .int n35, .ref bo, .ref bg, .ref bh, .ref bd, .int h0_depth])), (aw, .inr (10, law)), (ac, .inr (3, [.ref cfi, .ref clk, .ref clt, .int ac_length, .ref cop, .ref cva, .ref cpt, .ref cel, .int ac_labelCount, .ref cla])), (ty, .inl (cty, 5000, .inl gty)), (bo, .inl (cbo, 101, .inl gbo)), (bg, .inl (cbg, 101, .inl gbg)), (bh, .inl (cbh, 101, .inl gbh)), (bd, .inl (cbd, 101, .inl n34)), (waf, .inl (cwaf, 30, .inl gwaf)), (wat, .inl (cwat, 20, .inl gwat)), (wap, .inl (cwap, 160, .inl gwap)), (wag, .inl (cwag, 20, .inl gwag)), (clk, .inl (cclk, 30, .inl gclk)), (clt, .inl (cclt, 1800, .inl gclt)), (cop, .inl (ccop, 5000, .inl gcop)), (cva, .inl (ccva, 5000, .inr (.inl gcva))), (cpt, .inl (ccpt, 5000, .inl gcpt)), (cla, .inl (ccla, 2000, .inl gcla))]) [15, 11, 0, 14, 1, 2, 16, 17, 12, 3, 4, 13, 5, 6, 7, 8, 9, 10] (by decide) rfl
          exact W.vret hx hb hr (fun t ht hW => ⟨⟨(n34, gty, n35, n32), rfl, ⟨b_gty, bn35, bn32, ⟨fun _ => ⟨⟨xr33.1, xr33.2⟩, by (try dsimp only) <;> omega⟩, fun z => absurd z (by omega), fun z => absurd z (by omega)⟩⟩, by rw [ht]; exact hP9, va_K.moved hW.alike hK, hD9⟩, hS.F ht⟩) hS.2.2 d_VA_checkJump_131
        · skip
          have ho12 : tab_off 114 12 15 #[32, 48, 75, 92] p0.toInt = 114 := by
            unfold tab_off
            split
            · rfl
            · exfalso; omega
          refine lv_tab (tgt := 126) hx hb d_VA_checkJump_12 (by decide) ho12 (by decide) ?_
          clear ho12
          have tv3 := v9 (A1 (by omega) (by omega))
          refine lv_aload_n hx hb d_VA_checkJump_126 rfl (lv_at hl 1 rfl) ?_
          refine lv_iload_n hx hb d_VA_checkJump_127 rfl (lv_at hl 0 rfl) ?_
          have hPc := hP.sub (ws' := [(h0, .inr (9, [.ref aw, .ref ac, .int h0_sound, .int h0_function, .ref ty, .int h0_height, .ref bo, .ref bg, .ref bh, .ref bd, .int h0_depth])), (aw, .inr (10, law)), (ac, .inr (3, [.ref cfi, .ref clk, .ref clt, .int ac_length, .ref cop, .ref cva, .ref cpt, .ref cel, .int ac_labelCount, .ref cla])), (ty, .inl (cty, 5000, .inl gty)), (bh, .inl (cbh, 101, .inl gbh)), (bd, .inl (cbd, 101, .inl gbd)), (waf, .inl (cwaf, 30, .inl gwaf)), (wat, .inl (cwat, 20, .inl gwat)), (wap, .inl (cwap, 160, .inl gwap)), (wag, .inl (cwag, 20, .inl gwag)), (clk, .inl (cclk, 30, .inl gclk)), (clt, .inl (cclt, 1800, .inl gclt))]) [0, 1, 2, 3, 6, 7, 8, 9, 10, 11, 12, 13] rfl
          have hDc := hD.sub (ws' := [(h0, .inr (9, [.ref aw, .ref ac, .int h0_sound, .int h0_function, .ref ty, .int h0_height, .ref bo, .ref bg, .ref bh, .ref bd, .int h0_depth])), (aw, .inr (10, law)), (ac, .inr (3, [.ref cfi, .ref clk, .ref clt, .int ac_length, .ref cop, .ref cva, .ref cpt, .ref cel, .int ac_labelCount, .ref cla])), (ty, .inl (cty, 5000, .inl gty)), (bh, .inl (cbh, 101, .inl gbh)), (bd, .inl (cbd, 101, .inl gbd)), (waf, .inl (cwaf, 30, .inl gwaf)), (wat, .inl (cwat, 20, .inl gwat)), (wap, .inl (cwap, 160, .inl gwap)), (wag, .inl (cwag, 20, .inl gwag)), (clk, .inl (cclk, 30, .inl gclk)), (clt, .inl (cclt, 1800, .inl gclt))]) [0, 1, 2, 3, 6, 7, 8, 9, 10, 11, 12, 13] (by decide) rfl
          have hKc := hK.sub (tys' := [(cty, .int), (cbh, .int), (cbd, .boolean), (cwaf, .int), (cwat, .int), (cwap, .int), (cwag, .int), (cclk, .int), (cclt, .int)]) [0, 3, 4, 5, 6, 7, 8, 9, 10] rfl
          have hFc := va_free (wc := [(h0, .inr (9, [.ref aw, .ref ac, .int h0_sound, .int h0_function, .ref ty, .int h0_height, .ref bo, .ref bg, .ref bh, .ref bd, .int h0_depth])), (aw, .inr (10, law)), (ac, .inr (3, [.ref cfi, .ref clk, .ref clt, .int ac_length, .ref cop, .ref cva, .ref cpt, .ref cel, .int ac_labelCount, .ref cla])), (ty, .inl (cty, 5000, .inl gty)), (bh, .inl (cbh, 101, .inl gbh)), (bd, .inl (cbd, 101, .inl gbd)), (waf, .inl (cwaf, 30, .inl gwaf)), (wat, .inl (cwat, 20, .inl gwat)), (wap, .inl (cwap, 160, .inl gwap)), (wag, .inl (cwag, 20, .inl gwag)), (clk, .inl (cclk, 30, .inl gclk)), (clt, .inl (cclt, 1800, .inl gclt))]) hD hS hA [0, 1, 2, 3, 6, 7, 8, 9, 10, 11, 12, 13] rfl
          refine va_callv (va_runV (As := [.int x2]) (rest := []) ⟨hx, hb, hml, hown, hts⟩ (c_VA_checkCall l dC dI H.size h0 aw ac ty bo bg bh bd wat wap wag waf cfi clk clt cop cva cpt cel cla cty cbh cbd cwaf cwat cwap cwag cclk cclt h0_sound h0_function h0_height h0_depth law aw_functionCount ac_length ac_labelCount gty gbh gbd gwaf gwat gwap gwag gclk gclt paw_1 paw_3 paw_4 paw_5 paw_6 paw_7 plaw (b_h0_sound) (b_h0_height) (b_h0_depth) (b_gty) (b_gbh) (b_aw_functionCount) x2 (by (try dsimp only) <;> omega) (hd1) (hbh) (hh5) (by omega) (hwf)) (cwV 1 hts (gV kM_VA_176 kV_VA_checkCall kS_VA_checkCall kI_VA kC_VA_checkCall) rfl rfl rfl (by decide +kernel) ⟨Nat.le_of_ble_eq_true rfl, Nat.le_of_ble_eq_true rfl⟩) ⟨fun a U g mk z => by obtain ⟨z0, z1, zP, zK, zD⟩ := z; exact ⟨z0, z1, zP, va_K.moved (u := U) (U := U.calling g mk a) (Vm.Alike.refl U.vm) zK, zD⟩, va_recv hKc hPc (ci := 9) (q0 := 0) rfl rfl, fun U hU hW => ⟨rfl, by rw [hU], by rw [hU]; exact hPc, va_K.moved hW.alike hKc, hDc.weaken (fun _ _ _ _ => trivial)⟩⟩ rfl rfl hl.1 rfl (lv_room (Nat.le_of_ble_eq_true rfl)) d_VA_checkJump_128 ⟨(Nat.zero_le _), (Nat.zero_le _)⟩) hS (fun q _ h => hFc q h) hFc (fun u t H1 locs ht hvm hw hB hz1 hk1 hS => ?_)
          obtain ⟨n37, n38, n39⟩ := u
          try dsimp only at hw
          obtain ⟨bn37, bn38, bn39, xr36⟩ := hw
          try clear hw
          have tn39 := b01 bn39
          obtain ⟨hP1, hK1, hD1⟩ := hB
          rw [ht] at hP1
          obtain ⟨hP, hD⟩ := va_join (wr := [(bo, .inl (cbo, 101, .inl gbo)), (bg, .inl (cbg, 101, .inl gbg)), (cop, .inl (ccop, 5000, .inl gcop)), (cva, .inl (ccva, 5000, .inr (.inl gcva))), (cpt, .inl (ccpt, 5000, .inl gcpt)), (cla, .inl (ccla, 2000, .inl gcla))]) (w1 := [(h0, .inr (9, [.ref aw, .ref ac, .int n39, .int h0_function, .ref ty, .int n38, .ref bo, .ref bg, .ref bh, .ref bd, .int h0_depth])), (aw, .inr (10, law)), (ac, .inr (3, [.ref cfi, .ref clk, .ref clt, .int ac_length, .ref cop, .ref cva, .ref cpt, .ref cel, .int ac_labelCount, .ref cla])), (ty, .inl (cty, 5000, .inl n37)), (bh, .inl (cbh, 101, .inl gbh)), (bd, .inl (cbd, 101, .inl gbd)), (waf, .inl (cwaf, 30, .inl gwaf)), (wat, .inl (cwat, 20, .inl gwat)), (wap, .inl (cwap, 160, .inl gwap)), (wag, .inl (cwag, 20, .inl gwag)), (clk, .inl (cclk, 30, .inl gclk)), (clt, .inl (cclt, 1800, .inl gclt))]) hP hD [0, 1, 2, 3, 6, 7, 8, 9, 10, 11, 12, 13] [4, 5, 14, 15, 16, 17] rfl rfl (by decide) (by decide) hk1 hFc hP1 hD1
          clear hPc hDc hKc hFc hz1 hk1 hP1 hK1 hD1
          generalize H1 = H at hP hS ⊢
          have hP : va_P (dC, dI) cls [(bo, .inl (cbo, 101, .inl gbo)), (bg, .inl (cbg, 101, .inl gbg)), (cop, .inl (ccop, 5000, .inl gcop)), (cva, .inl (ccva, 5000, .inr (.inl gcva))), (cpt, .inl (ccpt, 5000, .inl gcpt)), (cla, .inl (ccla, 2000, .inl gcla)), (h0, .inr (9, [.ref aw, .ref ac, .int n39, .int h0_function, .ref ty, .int n38, .ref bo, .ref bg, .ref bh, .ref bd, .int h0_depth])), (aw, .inr (10, law)), (ac, .inr (3, [.ref cfi, .ref clk, .ref clt, .int ac_length, .ref cop, .ref cva, .ref cpt, .ref cel, .int ac_labelCount, .ref cla])), (ty, .inl (cty, 5000, .inl n37)), (bh, .inl (cbh, 101, .inl gbh)), (bd, .inl (cbd, 101, .inl gbd)), (waf, .inl (cwaf, 30, .inl gwaf)), (wat, .inl (cwat, 20, .inl gwat)), (wap, .inl (cwap, 160, .inl gwap)), (wag, .inl (cwag, 20, .inl gwag)), (clk, .inl (cclk, 30, .inl gclk)), (clt, .inl (cclt, 1800, .inl gclt))] H := hP
          have hD : va_D A [(bo, .inl (cbo, 101, .inl gbo)), (bg, .inl (cbg, 101, .inl gbg)), (cop, .inl (ccop, 5000, .inl gcop)), (cva, .inl (ccva, 5000, .inr (.inl gcva))), (cpt, .inl (ccpt, 5000, .inl gcpt)), (cla, .inl (ccla, 2000, .inl gcla)), (h0, .inr (9, [.ref aw, .ref ac, .int n39, .int h0_function, .ref ty, .int n38, .ref bo, .ref bg, .ref bh, .ref bd, .int h0_depth])), (aw, .inr (10, law)), (ac, .inr (3, [.ref cfi, .ref clk, .ref clt, .int ac_length, .ref cop, .ref cva, .ref cpt, .ref cel, .int ac_labelCount, .ref cla])), (ty, .inl (cty, 5000, .inl n37)), (bh, .inl (cbh, 101, .inl gbh)), (bd, .inl (cbd, 101, .inl gbd)), (waf, .inl (cwaf, 30, .inl gwaf)), (wat, .inl (cwat, 20, .inl gwat)), (wap, .inl (cwap, 160, .inl gwap)), (wag, .inl (cwag, 20, .inl gwag)), (clk, .inl (cclk, 30, .inl gclk)), (clt, .inl (cclt, 1800, .inl gclt))] := hD
          have hP9 := hP.sub (ws' := [(h0, .inr (9, [.ref aw, .ref ac, .int n39, .int h0_function, .ref ty, .int n38, .ref bo, .ref bg, .ref bh, .ref bd, .int h0_depth])), (aw, .inr (10, law)), (ac, .inr (3, [.ref cfi, .ref clk, .ref clt, .int ac_length, .ref cop, .ref cva, .ref cpt, .ref cel, .int ac_labelCount, .ref cla])), (ty, .inl (cty, 5000, .inl n37)), (bo, .inl (cbo, 101, .inl gbo)), (bg, .inl (cbg, 101, .inl gbg)), (bh, .inl (cbh, 101, .inl gbh)), (bd, .inl (cbd, 101, .inl gbd)), (waf, .inl (cwaf, 30, .inl gwaf)), (wat, .inl (cwat, 20, .inl gwat)), (wap, .inl (cwap, 160, .inl gwap)), (wag, .inl (cwag, 20, .inl gwag)), (clk, .inl (cclk, 30, .inl gclk)), (clt, .inl (cclt, 1800, .inl gclt)), (cop, .inl (ccop, 5000, .inl gcop)), (cva, .inl (ccva, 5000, .inr (.inl gcva))), (cpt, .inl (ccpt, 5000, .inl gcpt)), (cla, .inl (ccla, 2000, .inl gcla))]) [6, 7, 8, 9, 0, 1, 10, 11, 12, 13, 14, 15, 16, 17, 2, 3, 4, 5] rfl
          have hD9 := hD.sub (ws' := [(h0, .inr (9, [.ref aw, .ref ac, .int n39, .int h0_function, .ref ty, .int n38, .ref bo, .ref bg, .ref bh, .ref bd, .int h0_depth])), (aw, .inr (10, law)), (ac, .inr (3, [.ref cfi, .ref clk, .ref clt, .int ac_length, .ref cop, .ref cva, .ref cpt, .ref cel, .int ac_labelCount, .ref cla])), (ty, .inl (cty, 5000, .inl n37)), (bo, .inl (cbo, 101, .inl gbo)), (bg, .inl (cbg, 101, .inl gbg)), (bh, .inl (cbh, 101, .inl gbh)), (bd, .inl (cbd, 101, .inl gbd)), (waf, .inl (cwaf, 30, .inl gwaf)), (wat, .inl (cwat, 20, .inl gwat)), (wap, .inl (cwap, 160, .inl gwap)), (wag, .inl (cwag, 20, .inl gwag)), (clk, .inl (cclk, 30, .inl gclk)), (clt, .inl (cclt, 1800, .inl gclt)), (cop, .inl (ccop, 5000, .inl gcop)), (cva, .inl (ccva, 5000, .inr (.inl gcva))), (cpt, .inl (ccpt, 5000, .inl gcpt)), (cla, .inl (ccla, 2000, .inl gcla))]) [6, 7, 8, 9, 0, 1, 10, 11, 12, 13, 14, 15, 16, 17, 2, 3, 4, 5] (by decide) rfl
          exact W.vret hx hb hr (fun t ht hW => ⟨⟨(gbd, n37, n38, n39), rfl, ⟨bn37, bn38, bn39, ⟨fun z => absurd z (by omega), fun z => absurd z (by omega), fun _ => ⟨rfl, xr36.1, by rw [← tv3]; have q9 := xr36.2; rw [i32_natI (x := x2) rfl] at q9; exact q9⟩⟩⟩, by rw [ht]; exact hP9, va_K.moved hW.alike hK, hD9⟩, hS.F ht⟩) hS.2.2 d_VA_checkJump_131
abbrev b_VA_checkBlocks : ByteArray := prog_12_method_6_code
def y_VA_checkBlocks : MethodName := ⟨R_VA, "checkBlocks", "(II)V"⟩
abbrev w_VA_checkBlocks : List Cond := .code y_VA_checkBlocks b_VA_checkBlocks 3 none :: lw_g
theorem kC_VA_checkBlocks : Cond.code y_VA_checkBlocks b_VA_checkBlocks 3 none ∈ lw_g := in_g 1419 (by decide +kernel) rfl
theorem d_VA_checkBlocks_0 : decode b_VA_checkBlocks 0 = .ok (.iload_n 1, 1) := by decide +kernel
theorem d_VA_checkBlocks_1 : decode b_VA_checkBlocks 1 = .ok (.tableswitch 179 0 11 #[63, 70, 179, 179, 73, 88, 179, 179, 179, 179, 179, 109], 63) := by decide +kernel
theorem d_VA_checkBlocks_64 : decode b_VA_checkBlocks 64 = .ok (.aload_n 0, 1) := by decide +kernel
theorem d_VA_checkBlocks_65 : decode b_VA_checkBlocks 65 = .ok (.invokevirtual 158, 3) := by decide +kernel
theorem d_VA_checkBlocks_68 : decode b_VA_checkBlocks 68 = .ok (.goto 118, 3) := by decide +kernel
theorem d_VA_checkBlocks_71 : decode b_VA_checkBlocks 71 = .ok (.goto 115, 3) := by decide +kernel
theorem d_VA_checkBlocks_74 : decode b_VA_checkBlocks 74 = .ok (.aload_n 0, 1) := by decide +kernel
theorem d_VA_checkBlocks_75 : decode b_VA_checkBlocks 75 = .ok (.bipush 127, 2) := by decide +kernel
theorem d_VA_checkBlocks_77 : decode b_VA_checkBlocks 77 = .ok (.invokevirtual 161, 3) := by decide +kernel
theorem d_VA_checkBlocks_80 : decode b_VA_checkBlocks 80 = .ok (.aload_n 0, 1) := by decide +kernel
theorem d_VA_checkBlocks_81 : decode b_VA_checkBlocks 81 = .ok (.iload_n 1, 1) := by decide +kernel
theorem d_VA_checkBlocks_82 : decode b_VA_checkBlocks 82 = .ok (.iload_n 2, 1) := by decide +kernel
theorem d_VA_checkBlocks_83 : decode b_VA_checkBlocks 83 = .ok (.invokevirtual 124, 3) := by decide +kernel
theorem d_VA_checkBlocks_86 : decode b_VA_checkBlocks 86 = .ok (.goto 100, 3) := by decide +kernel
theorem d_VA_checkBlocks_89 : decode b_VA_checkBlocks 89 = .ok (.aload_n 0, 1) := by decide +kernel
theorem d_VA_checkBlocks_90 : decode b_VA_checkBlocks 90 = .ok (.invokevirtual 164, 3) := by decide +kernel
theorem d_VA_checkBlocks_93 : decode b_VA_checkBlocks 93 = .ok (.aload_n 0, 1) := by decide +kernel
theorem d_VA_checkBlocks_94 : decode b_VA_checkBlocks 94 = .ok (.iload_n 1, 1) := by decide +kernel
theorem d_VA_checkBlocks_95 : decode b_VA_checkBlocks 95 = .ok (.aload_n 0, 1) := by decide +kernel
theorem d_VA_checkBlocks_96 : decode b_VA_checkBlocks 96 = .ok (.getfield 18, 3) := by decide +kernel
theorem d_VA_checkBlocks_99 : decode b_VA_checkBlocks 99 = .ok (.aload_n 0, 1) := by decide +kernel
theorem d_VA_checkBlocks_100 : decode b_VA_checkBlocks 100 = .ok (.getfield 117, 3) := by decide +kernel
theorem d_VA_checkBlocks_103 : decode b_VA_checkBlocks 103 = .ok (.iaload, 1) := by decide +kernel
theorem d_VA_checkBlocks_104 : decode b_VA_checkBlocks 104 = .ok (.invokevirtual 124, 3) := by decide +kernel
theorem d_VA_checkBlocks_107 : decode b_VA_checkBlocks 107 = .ok (.goto 79, 3) := by decide +kernel
theorem d_VA_checkBlocks_110 : decode b_VA_checkBlocks 110 = .ok (.aload_n 0, 1) := by decide +kernel
theorem d_VA_checkBlocks_111 : decode b_VA_checkBlocks 111 = .ok (.invokevirtual 164, 3) := by decide +kernel
theorem d_VA_checkBlocks_114 : decode b_VA_checkBlocks 114 = .ok (.aload_n 0, 1) := by decide +kernel
theorem d_VA_checkBlocks_115 : decode b_VA_checkBlocks 115 = .ok (.aload_n 0, 1) := by decide +kernel
theorem d_VA_checkBlocks_116 : decode b_VA_checkBlocks 116 = .ok (.getfield 39, 3) := by decide +kernel
theorem d_VA_checkBlocks_119 : decode b_VA_checkBlocks 119 = .ok (.ifCond .eq 34, 3) := by decide +kernel
theorem d_VA_checkBlocks_122 : decode b_VA_checkBlocks 122 = .ok (.aload_n 0, 1) := by decide +kernel
theorem d_VA_checkBlocks_123 : decode b_VA_checkBlocks 123 = .ok (.getfield 15, 3) := by decide +kernel
theorem d_VA_checkBlocks_126 : decode b_VA_checkBlocks 126 = .ok (.aload_n 0, 1) := by decide +kernel
theorem d_VA_checkBlocks_127 : decode b_VA_checkBlocks 127 = .ok (.getfield 117, 3) := by decide +kernel
theorem d_VA_checkBlocks_130 : decode b_VA_checkBlocks 130 = .ok (.iaload, 1) := by decide +kernel
theorem d_VA_checkBlocks_131 : decode b_VA_checkBlocks 131 = .ok (.iconst 4, 1) := by decide +kernel
theorem d_VA_checkBlocks_132 : decode b_VA_checkBlocks 132 = .ok (.if_icmp .ne 17, 3) := by decide +kernel
theorem d_VA_checkBlocks_135 : decode b_VA_checkBlocks 135 = .ok (.aload_n 0, 1) := by decide +kernel
theorem d_VA_checkBlocks_136 : decode b_VA_checkBlocks 136 = .ok (.getfield 18, 3) := by decide +kernel
theorem d_VA_checkBlocks_139 : decode b_VA_checkBlocks 139 = .ok (.aload_n 0, 1) := by decide +kernel
theorem d_VA_checkBlocks_140 : decode b_VA_checkBlocks 140 = .ok (.getfield 117, 3) := by decide +kernel
theorem d_VA_checkBlocks_143 : decode b_VA_checkBlocks 143 = .ok (.iaload, 1) := by decide +kernel
theorem d_VA_checkBlocks_144 : decode b_VA_checkBlocks 144 = .ok (.bipush 64, 2) := by decide +kernel
theorem d_VA_checkBlocks_146 : decode b_VA_checkBlocks 146 = .ok (.if_icmp .ne 7, 3) := by decide +kernel
theorem d_VA_checkBlocks_149 : decode b_VA_checkBlocks 149 = .ok (.iconst 1, 1) := by decide +kernel
theorem d_VA_checkBlocks_150 : decode b_VA_checkBlocks 150 = .ok (.goto 4, 3) := by decide +kernel
theorem d_VA_checkBlocks_153 : decode b_VA_checkBlocks 153 = .ok (.iconst 0, 1) := by decide +kernel
theorem d_VA_checkBlocks_154 : decode b_VA_checkBlocks 154 = .ok (.putfield 39, 3) := by decide +kernel
theorem d_VA_checkBlocks_157 : decode b_VA_checkBlocks 157 = .ok (.aload_n 0, 1) := by decide +kernel
theorem d_VA_checkBlocks_158 : decode b_VA_checkBlocks 158 = .ok (.getfield 117, 3) := by decide +kernel
theorem d_VA_checkBlocks_161 : decode b_VA_checkBlocks 161 = .ok (.ifCond .le 25, 3) := by decide +kernel
theorem d_VA_checkBlocks_164 : decode b_VA_checkBlocks 164 = .ok (.aload_n 0, 1) := by decide +kernel
theorem d_VA_checkBlocks_165 : decode b_VA_checkBlocks 165 = .ok (.aload_n 0, 1) := by decide +kernel
theorem d_VA_checkBlocks_166 : decode b_VA_checkBlocks 166 = .ok (.getfield 18, 3) := by decide +kernel
theorem d_VA_checkBlocks_169 : decode b_VA_checkBlocks 169 = .ok (.aload_n 0, 1) := by decide +kernel
theorem d_VA_checkBlocks_170 : decode b_VA_checkBlocks 170 = .ok (.getfield 117, 3) := by decide +kernel
theorem d_VA_checkBlocks_173 : decode b_VA_checkBlocks 173 = .ok (.iaload, 1) := by decide +kernel
theorem d_VA_checkBlocks_174 : decode b_VA_checkBlocks 174 = .ok (.invokevirtual 167, 3) := by decide +kernel
theorem d_VA_checkBlocks_177 : decode b_VA_checkBlocks 177 = .ok (.goto 9, 3) := by decide +kernel
theorem d_VA_checkBlocks_180 : decode b_VA_checkBlocks 180 = .ok (.aload_n 0, 1) := by decide +kernel
theorem d_VA_checkBlocks_181 : decode b_VA_checkBlocks 181 = .ok (.iload_n 1, 1) := by decide +kernel
theorem d_VA_checkBlocks_182 : decode b_VA_checkBlocks 182 = .ok (.iload_n 2, 1) := by decide +kernel
theorem d_VA_checkBlocks_183 : decode b_VA_checkBlocks 183 = .ok (.invokevirtual 124, 3) := by decide +kernel
theorem d_VA_checkBlocks_186 : decode b_VA_checkBlocks 186 = .ok (.return_, 1) := by decide +kernel
theorem kM_VA_124 : Cond.methodLink R_VA 124 y_VA_open ∈ lw_g := in_g 1412 (by decide +kernel) rfl
theorem kV_VA_open : Cond.instanceMethod y_VA_open ∈ lw_g := in_g 1414 (by decide +kernel) rfl
theorem kS_VA_open : Cond.selects R_VA y_VA_open y_VA_open ∈ lw_g := in_s 84 (by decide +kernel) rfl
theorem kM_VA_164 : Cond.methodLink R_VA 164 y_VA_close ∈ lw_g := in_g 1432 (by decide +kernel) rfl
theorem kV_VA_close : Cond.instanceMethod y_VA_close ∈ lw_g := in_g 1434 (by decide +kernel) rfl
theorem kS_VA_close : Cond.selects R_VA y_VA_close y_VA_close ∈ lw_g := in_s 89 (by decide +kernel) rfl
abbrev at_VA_checkBlocks (dC : Nat → ClassId) (dI : Nat → Nat → Nat) (h0 aw ac ty bo bg bh bd : Nat) (cty cbo cbg cbh cbd : ClassId) (h0_function : Int32) (A : Nat → Prop) (u : (Nat → Int32) × (Nat → Int32) × (Nat → Int32) × (Nat → Int32) × (Nat → Int32) × Int32 × Int32 × Int32) (t : State) : Prop := match u with | (gbd, gbg, gbh, gbo, gty, h0_depth, h0_height, h0_sound) => va_P (dC, dI) cls [(h0, .inr (9, [.ref aw, .ref ac, .int h0_sound, .int h0_function, .ref ty, .int h0_height, .ref bo, .ref bg, .ref bh, .ref bd, .int h0_depth])), (ty, .inl (cty, 5000, .inl gty)), (bo, .inl (cbo, 101, .inl gbo)), (bg, .inl (cbg, 101, .inl gbg)), (bh, .inl (cbh, 101, .inl gbh)), (bd, .inl (cbd, 101, .inl gbd))] t.heap ∧ va_K (dC, dI) cls [(cty, .int), (cbo, .int), (cbg, .int), (cbh, .int), (cbd, .boolean)] t ∧ va_D A [(h0, .inr (9, [.ref aw, .ref ac, .int h0_sound, .int h0_function, .ref ty, .int h0_height, .ref bo, .ref bg, .ref bh, .ref bd, .int h0_depth])), (ty, .inl (cty, 5000, .inl gty)), (bo, .inl (cbo, 101, .inl gbo)), (bg, .inl (cbg, 101, .inl gbg)), (bh, .inl (cbh, 101, .inl gbh)), (bd, .inl (cbd, 101, .inl gbd))]
set_option maxHeartbeats 4000000 in
set_option maxRecDepth 100000 in
theorem c_VA_checkBlocks (l : Launch) (dC : Nat → ClassId) (dI : Nat → Nat → Nat) (sz : Nat) (h0 aw ac ty bo bg bh bd : Nat) (cty cbo cbg cbh cbd : ClassId) (h0_sound : Int32) (h0_function : Int32) (h0_height : Int32) (h0_depth : Int32) (gty : Nat → Int32) (gbo : Nat → Int32) (gbg : Nat → Int32) (gbh : Nat → Int32) (gbd : Nat → Int32)  (b_h0_sound : h0_sound = 0 ∨ h0_sound = 1) (b_h0_height : 0 ≤ h0_height.toInt ∧ h0_height.toInt ≤ 5000) (b_h0_depth : 0 ≤ h0_depth.toInt ∧ h0_depth.toInt ≤ 101) (b_gty : ∀ j : Nat, (gty j).toInt ≠ 64) (b_gbh : ∀ j : Nat, 0 ≤ (gbh j).toInt ∧ (gbh j).toInt ≤ 5000) (p0 : Int32) (p1 : Int32)  (hd1 : 1 ≤ h0_depth.toInt) (hbh : (gbh (h0_depth.toInt - 1).toNat).toInt ≤ h0_height.toInt) (hh5 : h0_height.toInt < 5000) (hd2 : p0.toInt = 2 ∨ p0.toInt = 3 ∨ p0.toInt = 4 → h0_depth.toInt ≤ 100) (hop : (0 ≤ p0.toInt ∧ p0.toInt ≤ 5) ∨ p0.toInt = 11) : Met l y_VA_checkBlocks w_VA_checkBlocks ({ frames := 3, cells := 0, slots := 0, locals := 62 }) (va_Pc [.ref h0, .int p0, .int p1] (fun U => U.heap.size = sz ∧ va_P (dC, dI) cls [(h0, .inr (9, [.ref aw, .ref ac, .int h0_sound, .int h0_function, .ref ty, .int h0_height, .ref bo, .ref bg, .ref bh, .ref bd, .int h0_depth])), (ty, .inl (cty, 5000, .inl gty)), (bo, .inl (cbo, 101, .inl gbo)), (bg, .inl (cbg, 101, .inl gbg)), (bh, .inl (cbh, 101, .inl gbh)), (bd, .inl (cbd, 101, .inl gbd))] U.heap ∧ va_K (dC, dI) cls [(cty, .int), (cbo, .int), (cbg, .int), (cbh, .int), (cbd, .boolean)] U ∧ va_D (fun _ => True) [(h0, .inr (9, [.ref aw, .ref ac, .int h0_sound, .int h0_function, .ref ty, .int h0_height, .ref bo, .ref bg, .ref bh, .ref bd, .int h0_depth])), (ty, .inl (cty, 5000, .inl gty)), (bo, .inl (cbo, 101, .inl gbo)), (bg, .inl (cbg, 101, .inl gbg)), (bh, .inl (cbh, 101, .inl gbh)), (bd, .inl (cbd, 101, .inl gbd))])) (va_Qv (fun (u : (Nat → Int32) × (Nat → Int32) × (Nat → Int32) × (Nat → Int32) × (Nat → Int32) × Int32 × Int32 × Int32) => match u with | (gbd2, gbg2, gbh2, gbo2, gty2, h0_depth2, h0_height2, h0_sound2) => (∀ j : Nat, 0 ≤ (gbh2 j).toInt ∧ (gbh2 j).toInt ≤ 5000) ∧ (∀ j : Nat, (gty2 j).toInt ≠ 64) ∧ (0 ≤ h0_depth2.toInt ∧ h0_depth2.toInt ≤ 101) ∧ (0 ≤ h0_height2.toInt ∧ h0_height2.toInt ≤ 5000) ∧ (h0_sound2 = 0 ∨ h0_sound2 = 1) ∧ ((p0.toInt = 0 → (h0_height2.toInt = (gbh (h0_depth.toInt - 1).toNat).toInt ∧ gbd2 = upd gbd (h0_depth.toInt - 1).toNat (vp_nar .boolean 1)) ∧ h0_depth2 = h0_depth ∧ gbo2 = gbo ∧ gbg2 = gbg ∧ gbh2 = gbh ∧ (h0_sound2.toInt = 1 → h0_sound.toInt = 1)) ∧ (p0.toInt = 1 → h0_height2 = h0_height ∧ gbd2 = gbd ∧ h0_depth2 = h0_depth ∧ gbo2 = gbo ∧ gbg2 = gbg ∧ gbh2 = gbh ∧ (h0_sound2.toInt = 1 → h0_sound.toInt = 1)) ∧ (p0.toInt = 2 ∨ p0.toInt = 3 → (h0_depth2.toInt = h0_depth.toInt + 1 ∧ gbo2 = upd gbo h0_depth.toNatClampNeg p0 ∧ gbg2 = upd gbg h0_depth.toNatClampNeg p1 ∧ gbh2 = upd gbh h0_depth.toNatClampNeg h0_height2 ∧ gbd2 = upd gbd h0_depth.toNatClampNeg (vp_nar .boolean 0)) ∧ h0_height2 = h0_height ∧ (h0_sound2.toInt = 1 → h0_sound.toInt = 1)) ∧ (p0.toInt = 4 → (h0_depth2.toInt = h0_depth.toInt + 1 ∧ gbo2 = upd gbo h0_depth.toNatClampNeg p0 ∧ gbg2 = upd gbg h0_depth.toNatClampNeg p1 ∧ gbh2 = upd gbh h0_depth.toNatClampNeg h0_height2 ∧ gbd2 = upd gbd h0_depth.toNatClampNeg (vp_nar .boolean 0)) ∧ ((gbh (h0_depth.toInt - 1).toNat).toInt ≤ h0_height2.toInt ∧ h0_height2.toInt ≤ h0_height.toInt) ∧ (h0_sound2.toInt = 1 → h0_sound.toInt = 1 ∧ ((gbd (h0_depth.toInt - 1).toNat).toInt = 0 → (gbh (h0_depth.toInt - 1).toNat).toInt + 1 ≤ h0_height.toInt ∧ h0_height2.toInt = h0_height.toInt - 1))) ∧ (p0.toInt = 5 → h0_depth2.toInt = h0_depth.toInt ∧ (gbo2 = upd gbo (h0_depth.toInt - 1).toNat p0 ∧ (∃ v : Int32, v = gbg (h0_depth.toInt - 1).toNat ∧ gbg2 = upd gbg (h0_depth.toInt - 1).toNat v) ∧ gbh2 = upd gbh (h0_depth.toInt - 1).toNat h0_height2 ∧ gbd2 = upd gbd (h0_depth.toInt - 1).toNat (vp_nar .boolean 0)) ∧ (h0_sound2.toInt = 1 → h0_sound.toInt = 1 ∧ h0_height2.toInt = (gbh (h0_depth.toInt - 1).toNat).toInt ∧ ((gbd (h0_depth.toInt - 1).toNat).toInt = 0 → ((gbg (h0_depth.toInt - 1).toNat).toInt = 64 → h0_height.toInt = (gbh (h0_depth.toInt - 1).toNat).toInt) ∧ ((gbg (h0_depth.toInt - 1).toNat).toInt ≠ 64 → h0_height.toInt = (gbh (h0_depth.toInt - 1).toNat).toInt + 1)))) ∧ (p0.toInt = 11 → gbo2 = gbo ∧ gbg2 = gbg ∧ gbh2 = gbh ∧ gbd2 = gbd ∧ h0_depth2.toInt = h0_depth.toInt - 1 ∧ (h0_sound2.toInt = 1 → h0_sound.toInt = 1 ∧ ((gbd (h0_depth.toInt - 1).toNat).toInt = 0 → ((gbg (h0_depth.toInt - 1).toNat).toInt = 64 → h0_height.toInt = (gbh (h0_depth.toInt - 1).toNat).toInt) ∧ ((gbg (h0_depth.toInt - 1).toNat).toInt ≠ 64 → h0_height.toInt = (gbh (h0_depth.toInt - 1).toNat).toInt + 1)) ∧ ((gbo (h0_depth.toInt - 1).toNat).toInt = 4 → (gbg (h0_depth.toInt - 1).toNat).toInt = 64) ∧ (2 ≤ h0_depth.toInt → ((gbg (h0_depth.toInt - 1).toNat).toInt = 64 → h0_height2.toInt = (gbh (h0_depth.toInt - 1).toNat).toInt) ∧ ((gbg (h0_depth.toInt - 1).toNat).toInt ≠ 64 → h0_height2.toInt = (gbh (h0_depth.toInt - 1).toNat).toInt + 1)))))) (at_VA_checkBlocks dC dI h0 aw ac ty bo bg bh bd cty cbo cbg cbh cbd h0_function (va_A [(h0, .inr (9, [.ref aw, .ref ac, .int h0_sound, .int h0_function, .ref ty, .int h0_height, .ref bo, .ref bg, .ref bh, .ref bd, .int h0_depth])), (ty, .inl (cty, 5000, .inl gty)), (bo, .inl (cbo, 101, .inl gbo)), (bg, .inl (cbg, 101, .inl gbg)), (bh, .inl (cbh, 101, .inl gbh)), (bd, .inl (cbd, 101, .inl gbd))] sz)) (va_A [(h0, .inr (9, [.ref aw, .ref ac, .int h0_sound, .int h0_function, .ref ty, .int h0_height, .ref bo, .ref bg, .ref bh, .ref bd, .int h0_depth])), (ty, .inl (cty, 5000, .inl gty)), (bo, .inl (cbo, 101, .inl gbo)), (bg, .inl (cbg, 101, .inl gbg)), (bh, .inl (cbh, 101, .inl gbh)), (bd, .inl (cbd, 101, .inl gbd))] sz)) 0 0 (va_A [(h0, .inr (9, [.ref aw, .ref ac, .int h0_sound, .int h0_function, .ref ty, .int h0_height, .ref bo, .ref bg, .ref bh, .ref bd, .int h0_depth])), (ty, .inl (cty, 5000, .inl gty)), (bo, .inl (cbo, 101, .inl gbo)), (bg, .inl (cbg, 101, .inl gbg)), (bh, .inl (cbh, 101, .inl gbh)), (bd, .inl (cbd, 101, .inl gbd))] sz) := by
  refine Met.ofW (cc := b_VA_checkBlocks) (maxL := 3) (ret := none) (by decide) rfl ?_
  intro p e s m args below meth c s₁ B hml hv
  obtain ⟨rfl, hsz, hP, hK, hD0⟩ := hv
  have hx := B.exec
  have hb := B.bytes
  have hr := B.returns
  have hts0 := atoms_spec (ws := w_VA_checkBlocks) B.pre
  have hts : ∀ w ∈ lw_g, w.before _ s = true := fun w h => hts0 w (List.mem_cons_of_mem _ h)
  have hown : s.vm.findClass R_VA = some m.cls := findClass_of_methodNamed B.named
  have hlocks := B.notSynchronized
  clear hts0
  subst hsz
  have hD := hD0.self (sz := s.heap.size)
  generalize hAe : va_A [(h0, .inr (9, [.ref aw, .ref ac, .int h0_sound, .int h0_function, .ref ty, .int h0_height, .ref bo, .ref bg, .ref bh, .ref bd, .int h0_depth])), (ty, .inl (cty, 5000, .inl gty)), (bo, .inl (cbo, 101, .inl gbo)), (bg, .inl (cbg, 101, .inl gbg)), (bh, .inl (cbh, 101, .inl gbh)), (bd, .inl (cbd, 101, .inl gbd))] s.heap.size = A at hD ⊢
  have hA : ∀ q : Nat, s.heap.size ≤ q → A q := fun q h => by rw [← hAe]; exact Or.inr h
  clear hAe
  have hP : va_P (dC, dI) cls [(h0, .inr (9, [.ref aw, .ref ac, .int h0_sound, .int h0_function, .ref ty, .int h0_height, .ref bo, .ref bg, .ref bh, .ref bd, .int h0_depth])), (ty, .inl (cty, 5000, .inl gty)), (bo, .inl (cbo, 101, .inl gbo)), (bg, .inl (cbg, 101, .inl gbg)), (bh, .inl (cbh, 101, .inl gbh)), (bd, .inl (cbd, 101, .inl gbd))] s.heap := hP
  have hl := lv_entry ([.ref h0, .int p0, .int p1]) (n := 3) (Nat.le_of_ble_eq_true rfl)
  rw [lg_entry_eq]
  generalize (lg_sl ([.ref h0, .int p0, .int p1]) ++ List.replicate (3 - (lg_sl ([.ref h0, .int p0, .int p1])).length) Slot.unset).toArray = ls at hl ⊢
  have hl : lv_has ls 3 [(0, .ref h0), (1, .int p0), (2, .int p1)] := hl
  have k0 : (0 : Int32).toInt = 0 := by decide
  refine w_gen (A := A) hP (fun H locs hP hS => ?_)
  have k1 : (1 : Int32).toInt = 1 := by decide
  have k4 : (4 : Int32).toInt = 4 := by decide
  have k64 : (64 : Int32).toInt = 64 := by decide
  have k127 : (127 : Int32).toInt = 127 := by decide
  have lo_p0 := i32_lo p0
  have hi_p0 := i32_hi p0
  have lo_p1 := i32_lo p1
  have hi_p1 := i32_hi p1
  have th0_sound := b01 b_h0_sound
  refine lv_iload_n hx hb d_VA_checkBlocks_0 rfl (lv_at hl 1 rfl) ?_
  by_cases g1_64 : p0.toInt = 0
  · have ho1 : tab_off 179 0 11 #[63, 70, 179, 179, 73, 88, 179, 179, 179, 179, 179, 109] p0.toInt = 63 := by rw [g1_64]; rfl
    refine lv_tab (tgt := 64) hx hb d_VA_checkBlocks_1 (by decide) ho1 (by decide) ?_
    clear ho1
    refine lv_aload_n hx hb d_VA_checkBlocks_64 rfl (lv_at hl 0 rfl) ?_
    have hPc := hP.sub (ws' := [(h0, .inr (9, [.ref aw, .ref ac, .int h0_sound, .int h0_function, .ref ty, .int h0_height, .ref bo, .ref bg, .ref bh, .ref bd, .int h0_depth])), (bh, .inl (cbh, 101, .inl gbh)), (bd, .inl (cbd, 101, .inl gbd))]) [0, 4, 5] rfl
    have hDc := hD.sub (ws' := [(h0, .inr (9, [.ref aw, .ref ac, .int h0_sound, .int h0_function, .ref ty, .int h0_height, .ref bo, .ref bg, .ref bh, .ref bd, .int h0_depth])), (bh, .inl (cbh, 101, .inl gbh)), (bd, .inl (cbd, 101, .inl gbd))]) [0, 4, 5] (by decide) rfl
    have hKc := hK.sub (tys' := [(cbh, .int), (cbd, .boolean)]) [3, 4] rfl
    have hFc := va_free (wc := [(h0, .inr (9, [.ref aw, .ref ac, .int h0_sound, .int h0_function, .ref ty, .int h0_height, .ref bo, .ref bg, .ref bh, .ref bd, .int h0_depth])), (bh, .inl (cbh, 101, .inl gbh)), (bd, .inl (cbd, 101, .inl gbd))]) hD hS hA [0, 4, 5] rfl
    refine va_callv (va_runV (As := []) (rest := []) ⟨hx, hb, hml, hown, hts⟩ (c_VA_die l dC dI H.size h0 aw ac ty bo bg bh bd cbh cbd h0_sound h0_function h0_height h0_depth gbh gbd (b_h0_height) (b_h0_depth) (b_gbh) (by (try dsimp only) <;> omega)) (cwV 0 hts (gV kM_VA_158 kV_VA_die kS_VA_die kI_VA kC_VA_die) rfl rfl rfl (by decide +kernel) ⟨Nat.le_of_ble_eq_true rfl, Nat.le_of_ble_eq_true rfl⟩) ⟨fun a U g mk z => by obtain ⟨z0, z1, zP, zK, zD⟩ := z; exact ⟨z0, z1, zP, va_K.moved (u := U) (U := U.calling g mk a) (Vm.Alike.refl U.vm) zK, zD⟩, va_recv hKc hPc (ci := 9) (q0 := 0) rfl rfl, fun U hU hW => ⟨rfl, by rw [hU], by rw [hU]; exact hPc, va_K.moved hW.alike hKc, hDc.weaken (fun _ _ _ _ => trivial)⟩⟩ rfl rfl hl.1 rfl (lv_room (Nat.le_of_ble_eq_true rfl)) d_VA_checkBlocks_65 ⟨(Nat.zero_le _), (Nat.zero_le _)⟩) hS (fun q _ h => hFc q h) hFc (fun u t H1 locs ht hvm hw hB hz1 hk1 hS => ?_)
    obtain ⟨n2, n3⟩ := u
    try dsimp only at hw
    obtain ⟨bn3, xr1⟩ := hw
    try clear hw
    obtain ⟨hP1, hK1, hD1⟩ := hB
    rw [ht] at hP1
    obtain ⟨hP, hD⟩ := va_join (wr := [(ty, .inl (cty, 5000, .inl gty)), (bo, .inl (cbo, 101, .inl gbo)), (bg, .inl (cbg, 101, .inl gbg))]) (w1 := [(h0, .inr (9, [.ref aw, .ref ac, .int h0_sound, .int h0_function, .ref ty, .int n3, .ref bo, .ref bg, .ref bh, .ref bd, .int h0_depth])), (bh, .inl (cbh, 101, .inl gbh)), (bd, .inl (cbd, 101, .inl n2))]) hP hD [0, 4, 5] [1, 2, 3] rfl rfl (by decide) (by decide) hk1 hFc hP1 hD1
    clear hPc hDc hKc hFc hz1 hk1 hP1 hK1 hD1
    generalize H1 = H at hP hS ⊢
    have hP : va_P (dC, dI) cls [(ty, .inl (cty, 5000, .inl gty)), (bo, .inl (cbo, 101, .inl gbo)), (bg, .inl (cbg, 101, .inl gbg)), (h0, .inr (9, [.ref aw, .ref ac, .int h0_sound, .int h0_function, .ref ty, .int n3, .ref bo, .ref bg, .ref bh, .ref bd, .int h0_depth])), (bh, .inl (cbh, 101, .inl gbh)), (bd, .inl (cbd, 101, .inl n2))] H := hP
    have hD : va_D A [(ty, .inl (cty, 5000, .inl gty)), (bo, .inl (cbo, 101, .inl gbo)), (bg, .inl (cbg, 101, .inl gbg)), (h0, .inr (9, [.ref aw, .ref ac, .int h0_sound, .int h0_function, .ref ty, .int n3, .ref bo, .ref bg, .ref bh, .ref bd, .int h0_depth])), (bh, .inl (cbh, 101, .inl gbh)), (bd, .inl (cbd, 101, .inl n2))] := hD
    refine lv_goto (tgt := 186) hx hb d_VA_checkBlocks_68 (by decide) ?_
    have hP9 := hP.sub (ws' := [(h0, .inr (9, [.ref aw, .ref ac, .int h0_sound, .int h0_function, .ref ty, .int n3, .ref bo, .ref bg, .ref bh, .ref bd, .int h0_depth])), (ty, .inl (cty, 5000, .inl gty)), (bo, .inl (cbo, 101, .inl gbo)), (bg, .inl (cbg, 101, .inl gbg)), (bh, .inl (cbh, 101, .inl gbh)), (bd, .inl (cbd, 101, .inl n2))]) [3, 0, 1, 2, 4, 5] rfl
    have hD9 := hD.sub (ws' := [(h0, .inr (9, [.ref aw, .ref ac, .int h0_sound, .int h0_function, .ref ty, .int n3, .ref bo, .ref bg, .ref bh, .ref bd, .int h0_depth])), (ty, .inl (cty, 5000, .inl gty)), (bo, .inl (cbo, 101, .inl gbo)), (bg, .inl (cbg, 101, .inl gbg)), (bh, .inl (cbh, 101, .inl gbh)), (bd, .inl (cbd, 101, .inl n2))]) [3, 0, 1, 2, 4, 5] (by decide) rfl
    exact W.vret hx hb hr (fun t ht hW => ⟨⟨(n2, gbg, gbh, gbo, gty, h0_depth, n3, h0_sound), rfl, ⟨b_gbh, b_gty, b_h0_depth, bn3, b_h0_sound, ⟨fun _ => ⟨⟨xr1.1, xr1.2⟩, rfl, rfl, rfl, rfl, fun z => z⟩, fun z => absurd z (by omega), fun z => absurd z (by omega), fun z => absurd z (by omega), fun z => absurd z (by omega), fun z => absurd z (by omega)⟩⟩, by rw [ht]; exact hP9, va_K.moved hW.alike hK, hD9⟩, hS.F ht⟩) hS.2.2 d_VA_checkBlocks_186
  · skip
    by_cases g1_71 : p0.toInt = 1
    · have ho1 : tab_off 179 0 11 #[63, 70, 179, 179, 73, 88, 179, 179, 179, 179, 179, 109] p0.toInt = 70 := by rw [g1_71]; rfl
      refine lv_tab (tgt := 71) hx hb d_VA_checkBlocks_1 (by decide) ho1 (by decide) ?_
      clear ho1
      refine lv_goto (tgt := 186) hx hb d_VA_checkBlocks_71 (by decide) ?_
      have hP9 := hP.sub (ws' := [(h0, .inr (9, [.ref aw, .ref ac, .int h0_sound, .int h0_function, .ref ty, .int h0_height, .ref bo, .ref bg, .ref bh, .ref bd, .int h0_depth])), (ty, .inl (cty, 5000, .inl gty)), (bo, .inl (cbo, 101, .inl gbo)), (bg, .inl (cbg, 101, .inl gbg)), (bh, .inl (cbh, 101, .inl gbh)), (bd, .inl (cbd, 101, .inl gbd))]) [0, 1, 2, 3, 4, 5] rfl
      have hD9 := hD.sub (ws' := [(h0, .inr (9, [.ref aw, .ref ac, .int h0_sound, .int h0_function, .ref ty, .int h0_height, .ref bo, .ref bg, .ref bh, .ref bd, .int h0_depth])), (ty, .inl (cty, 5000, .inl gty)), (bo, .inl (cbo, 101, .inl gbo)), (bg, .inl (cbg, 101, .inl gbg)), (bh, .inl (cbh, 101, .inl gbh)), (bd, .inl (cbd, 101, .inl gbd))]) [0, 1, 2, 3, 4, 5] (by decide) rfl
      exact W.vret hx hb hr (fun t ht hW => ⟨⟨(gbd, gbg, gbh, gbo, gty, h0_depth, h0_height, h0_sound), rfl, ⟨b_gbh, b_gty, b_h0_depth, b_h0_height, b_h0_sound, ⟨fun z => absurd z (by omega), fun _ => ⟨rfl, rfl, rfl, rfl, rfl, rfl, fun z => z⟩, fun z => absurd z (by omega), fun z => absurd z (by omega), fun z => absurd z (by omega), fun z => absurd z (by omega)⟩⟩, by rw [ht]; exact hP9, va_K.moved hW.alike hK, hD9⟩, hS.F ht⟩) hS.2.2 d_VA_checkBlocks_186
    · skip
      by_cases g1_74 : p0.toInt = 4
      · have ho1 : tab_off 179 0 11 #[63, 70, 179, 179, 73, 88, 179, 179, 179, 179, 179, 109] p0.toInt = 73 := by rw [g1_74]; rfl
        refine lv_tab (tgt := 74) hx hb d_VA_checkBlocks_1 (by decide) ho1 (by decide) ?_
        clear ho1
        refine lv_aload_n hx hb d_VA_checkBlocks_74 rfl (lv_at hl 0 rfl) ?_
        refine lv_bipush (v := 127) hx hb d_VA_checkBlocks_75 (by decide) ?_
        have hPc := hP.sub (ws' := [(h0, .inr (9, [.ref aw, .ref ac, .int h0_sound, .int h0_function, .ref ty, .int h0_height, .ref bo, .ref bg, .ref bh, .ref bd, .int h0_depth])), (ty, .inl (cty, 5000, .inl gty)), (bh, .inl (cbh, 101, .inl gbh)), (bd, .inl (cbd, 101, .inl gbd))]) [0, 1, 4, 5] rfl
        have hDc := hD.sub (ws' := [(h0, .inr (9, [.ref aw, .ref ac, .int h0_sound, .int h0_function, .ref ty, .int h0_height, .ref bo, .ref bg, .ref bh, .ref bd, .int h0_depth])), (ty, .inl (cty, 5000, .inl gty)), (bh, .inl (cbh, 101, .inl gbh)), (bd, .inl (cbd, 101, .inl gbd))]) [0, 1, 4, 5] (by decide) rfl
        have hKc := hK.sub (tys' := [(cty, .int), (cbh, .int), (cbd, .boolean)]) [0, 3, 4] rfl
        have hFc := va_free (wc := [(h0, .inr (9, [.ref aw, .ref ac, .int h0_sound, .int h0_function, .ref ty, .int h0_height, .ref bo, .ref bg, .ref bh, .ref bd, .int h0_depth])), (ty, .inl (cty, 5000, .inl gty)), (bh, .inl (cbh, 101, .inl gbh)), (bd, .inl (cbd, 101, .inl gbd))]) hD hS hA [0, 1, 4, 5] rfl
        refine va_callv (va_runV (As := [.int 127]) (rest := []) ⟨hx, hb, hml, hown, hts⟩ (c_VA_pop l dC dI H.size h0 aw ac ty bo bg bh bd cty cbh cbd h0_sound h0_function h0_height h0_depth gty gbh gbd (b_h0_sound) (b_h0_height) (b_h0_depth) (b_gty) (b_gbh) 127 (by (try dsimp only) <;> omega) (by (try dsimp only) <;> omega)) (cwV 1 hts (gV kM_VA_161 kV_VA_pop kS_VA_pop kI_VA kC_VA_pop) rfl rfl rfl (by decide +kernel) ⟨Nat.le_of_ble_eq_true rfl, Nat.le_of_ble_eq_true rfl⟩) ⟨fun a U g mk z => by obtain ⟨z0, z1, zP, zK, zD⟩ := z; exact ⟨z0, z1, zP, va_K.moved (u := U) (U := U.calling g mk a) (Vm.Alike.refl U.vm) zK, zD⟩, va_recv hKc hPc (ci := 9) (q0 := 0) rfl rfl, fun U hU hW => ⟨rfl, by rw [hU], by rw [hU]; exact hPc, va_K.moved hW.alike hKc, hDc.weaken (fun _ _ _ _ => trivial)⟩⟩ rfl rfl hl.1 rfl (lv_room (Nat.le_of_ble_eq_true rfl)) d_VA_checkBlocks_77 ⟨(Nat.zero_le _), (Nat.zero_le _)⟩) hS (fun q _ h => hFc q h) hFc (fun u t H1 locs ht hvm hw hB hz1 hk1 hS => ?_)
        obtain ⟨n5, n6⟩ := u
        try dsimp only at hw
        obtain ⟨bn5, bn6, xr4⟩ := hw
        try clear hw
        have tn6 := b01 bn6
        obtain ⟨hP1, hK1, hD1⟩ := hB
        rw [ht] at hP1
        obtain ⟨hP, hD⟩ := va_join (wr := [(bo, .inl (cbo, 101, .inl gbo)), (bg, .inl (cbg, 101, .inl gbg))]) (w1 := [(h0, .inr (9, [.ref aw, .ref ac, .int n6, .int h0_function, .ref ty, .int n5, .ref bo, .ref bg, .ref bh, .ref bd, .int h0_depth])), (ty, .inl (cty, 5000, .inl gty)), (bh, .inl (cbh, 101, .inl gbh)), (bd, .inl (cbd, 101, .inl gbd))]) hP hD [0, 1, 4, 5] [2, 3] rfl rfl (by decide) (by decide) hk1 hFc hP1 hD1
        clear hPc hDc hKc hFc hz1 hk1 hP1 hK1 hD1
        generalize H1 = H at hP hS ⊢
        have hP : va_P (dC, dI) cls [(bo, .inl (cbo, 101, .inl gbo)), (bg, .inl (cbg, 101, .inl gbg)), (h0, .inr (9, [.ref aw, .ref ac, .int n6, .int h0_function, .ref ty, .int n5, .ref bo, .ref bg, .ref bh, .ref bd, .int h0_depth])), (ty, .inl (cty, 5000, .inl gty)), (bh, .inl (cbh, 101, .inl gbh)), (bd, .inl (cbd, 101, .inl gbd))] H := hP
        have hD : va_D A [(bo, .inl (cbo, 101, .inl gbo)), (bg, .inl (cbg, 101, .inl gbg)), (h0, .inr (9, [.ref aw, .ref ac, .int n6, .int h0_function, .ref ty, .int n5, .ref bo, .ref bg, .ref bh, .ref bd, .int h0_depth])), (ty, .inl (cty, 5000, .inl gty)), (bh, .inl (cbh, 101, .inl gbh)), (bd, .inl (cbd, 101, .inl gbd))] := hD
        refine lv_aload_n hx hb d_VA_checkBlocks_80 rfl (lv_at hl 0 rfl) ?_
        refine lv_iload_n hx hb d_VA_checkBlocks_81 rfl (lv_at hl 1 rfl) ?_
        refine lv_iload_n hx hb d_VA_checkBlocks_82 rfl (lv_at hl 2 rfl) ?_
        have hPc := hP.sub (ws' := [(h0, .inr (9, [.ref aw, .ref ac, .int n6, .int h0_function, .ref ty, .int n5, .ref bo, .ref bg, .ref bh, .ref bd, .int h0_depth])), (bo, .inl (cbo, 101, .inl gbo)), (bg, .inl (cbg, 101, .inl gbg)), (bh, .inl (cbh, 101, .inl gbh)), (bd, .inl (cbd, 101, .inl gbd))]) [2, 0, 1, 4, 5] rfl
        have hDc := hD.sub (ws' := [(h0, .inr (9, [.ref aw, .ref ac, .int n6, .int h0_function, .ref ty, .int n5, .ref bo, .ref bg, .ref bh, .ref bd, .int h0_depth])), (bo, .inl (cbo, 101, .inl gbo)), (bg, .inl (cbg, 101, .inl gbg)), (bh, .inl (cbh, 101, .inl gbh)), (bd, .inl (cbd, 101, .inl gbd))]) [2, 0, 1, 4, 5] (by decide) rfl
        have hKc := hK.sub (tys' := [(cbo, .int), (cbg, .int), (cbh, .int), (cbd, .boolean)]) [1, 2, 3, 4] rfl
        have hFc := va_free (wc := [(h0, .inr (9, [.ref aw, .ref ac, .int n6, .int h0_function, .ref ty, .int n5, .ref bo, .ref bg, .ref bh, .ref bd, .int h0_depth])), (bo, .inl (cbo, 101, .inl gbo)), (bg, .inl (cbg, 101, .inl gbg)), (bh, .inl (cbh, 101, .inl gbh)), (bd, .inl (cbd, 101, .inl gbd))]) hD hS hA [2, 0, 1, 4, 5] rfl
        refine va_callv (va_runV (As := [.int p0, .int p1]) (rest := []) ⟨hx, hb, hml, hown, hts⟩ (c_VA_open l dC dI H.size h0 aw ac ty bo bg bh bd cbo cbg cbh cbd n6 h0_function n5 h0_depth gbo gbg gbh gbd (bn5) (b_h0_depth) (b_gbh) p0 p1 (by (try dsimp only) <;> omega)) (cwV 2 hts (gV kM_VA_124 kV_VA_open kS_VA_open kI_VA kC_VA_open) rfl rfl rfl (by decide +kernel) ⟨Nat.le_of_ble_eq_true rfl, Nat.le_of_ble_eq_true rfl⟩) ⟨fun a U g mk z => by obtain ⟨z0, z1, zP, zK, zD⟩ := z; exact ⟨z0, z1, zP, va_K.moved (u := U) (U := U.calling g mk a) (Vm.Alike.refl U.vm) zK, zD⟩, va_recv hKc hPc (ci := 9) (q0 := 0) rfl rfl, fun U hU hW => ⟨rfl, by rw [hU], by rw [hU]; exact hPc, va_K.moved hW.alike hKc, hDc.weaken (fun _ _ _ _ => trivial)⟩⟩ rfl rfl hl.1 rfl (lv_room (Nat.le_of_ble_eq_true rfl)) d_VA_checkBlocks_83 ⟨(Nat.zero_le _), (Nat.zero_le _)⟩) hS (fun q _ h => hFc q h) hFc (fun u t H1 locs ht hvm hw hB hz1 hk1 hS => ?_)
        obtain ⟨n8, n9, n10, n11, n12⟩ := u
        try dsimp only at hw
        obtain ⟨bn10, bn12, xr7⟩ := hw
        try clear hw
        obtain ⟨hP1, hK1, hD1⟩ := hB
        rw [ht] at hP1
        obtain ⟨hP, hD⟩ := va_join (wr := [(ty, .inl (cty, 5000, .inl gty))]) (w1 := [(h0, .inr (9, [.ref aw, .ref ac, .int n6, .int h0_function, .ref ty, .int n5, .ref bo, .ref bg, .ref bh, .ref bd, .int n12])), (bo, .inl (cbo, 101, .inl n11)), (bg, .inl (cbg, 101, .inl n9)), (bh, .inl (cbh, 101, .inl n10)), (bd, .inl (cbd, 101, .inl n8))]) hP hD [2, 0, 1, 4, 5] [3] rfl rfl (by decide) (by decide) hk1 hFc hP1 hD1
        clear hPc hDc hKc hFc hz1 hk1 hP1 hK1 hD1
        generalize H1 = H at hP hS ⊢
        have hP : va_P (dC, dI) cls [(ty, .inl (cty, 5000, .inl gty)), (h0, .inr (9, [.ref aw, .ref ac, .int n6, .int h0_function, .ref ty, .int n5, .ref bo, .ref bg, .ref bh, .ref bd, .int n12])), (bo, .inl (cbo, 101, .inl n11)), (bg, .inl (cbg, 101, .inl n9)), (bh, .inl (cbh, 101, .inl n10)), (bd, .inl (cbd, 101, .inl n8))] H := hP
        have hD : va_D A [(ty, .inl (cty, 5000, .inl gty)), (h0, .inr (9, [.ref aw, .ref ac, .int n6, .int h0_function, .ref ty, .int n5, .ref bo, .ref bg, .ref bh, .ref bd, .int n12])), (bo, .inl (cbo, 101, .inl n11)), (bg, .inl (cbg, 101, .inl n9)), (bh, .inl (cbh, 101, .inl n10)), (bd, .inl (cbd, 101, .inl n8))] := hD
        refine lv_goto (tgt := 186) hx hb d_VA_checkBlocks_86 (by decide) ?_
        have hP9 := hP.sub (ws' := [(h0, .inr (9, [.ref aw, .ref ac, .int n6, .int h0_function, .ref ty, .int n5, .ref bo, .ref bg, .ref bh, .ref bd, .int n12])), (ty, .inl (cty, 5000, .inl gty)), (bo, .inl (cbo, 101, .inl n11)), (bg, .inl (cbg, 101, .inl n9)), (bh, .inl (cbh, 101, .inl n10)), (bd, .inl (cbd, 101, .inl n8))]) [1, 0, 2, 3, 4, 5] rfl
        have hD9 := hD.sub (ws' := [(h0, .inr (9, [.ref aw, .ref ac, .int n6, .int h0_function, .ref ty, .int n5, .ref bo, .ref bg, .ref bh, .ref bd, .int n12])), (ty, .inl (cty, 5000, .inl gty)), (bo, .inl (cbo, 101, .inl n11)), (bg, .inl (cbg, 101, .inl n9)), (bh, .inl (cbh, 101, .inl n10)), (bd, .inl (cbd, 101, .inl n8))]) [1, 0, 2, 3, 4, 5] (by decide) rfl
        exact W.vret hx hb hr (fun t ht hW => ⟨⟨(n8, n9, n10, n11, gty, n12, n5, n6), rfl, ⟨bn10, b_gty, bn12, bn5, bn6, ⟨fun z => absurd z (by omega), fun z => absurd z (by omega), fun z => absurd z (by omega), fun _ => ⟨xr7, by (try dsimp only) <;> omega, by (try dsimp only) <;> omega⟩, fun z => absurd z (by omega), fun z => absurd z (by omega)⟩⟩, by rw [ht]; exact hP9, va_K.moved hW.alike hK, hD9⟩, hS.F ht⟩) hS.2.2 d_VA_checkBlocks_186
      · skip
        by_cases g1_89 : p0.toInt = 5
        · have ho1 : tab_off 179 0 11 #[63, 70, 179, 179, 73, 88, 179, 179, 179, 179, 179, 109] p0.toInt = 88 := by rw [g1_89]; rfl
          refine lv_tab (tgt := 89) hx hb d_VA_checkBlocks_1 (by decide) ho1 (by decide) ?_
          clear ho1
          refine lv_aload_n hx hb d_VA_checkBlocks_89 rfl (lv_at hl 0 rfl) ?_
          have hPc := hP.sub (ws' := [(h0, .inr (9, [.ref aw, .ref ac, .int h0_sound, .int h0_function, .ref ty, .int h0_height, .ref bo, .ref bg, .ref bh, .ref bd, .int h0_depth])), (ty, .inl (cty, 5000, .inl gty)), (bg, .inl (cbg, 101, .inl gbg)), (bh, .inl (cbh, 101, .inl gbh)), (bd, .inl (cbd, 101, .inl gbd))]) [0, 1, 3, 4, 5] rfl
          have hDc := hD.sub (ws' := [(h0, .inr (9, [.ref aw, .ref ac, .int h0_sound, .int h0_function, .ref ty, .int h0_height, .ref bo, .ref bg, .ref bh, .ref bd, .int h0_depth])), (ty, .inl (cty, 5000, .inl gty)), (bg, .inl (cbg, 101, .inl gbg)), (bh, .inl (cbh, 101, .inl gbh)), (bd, .inl (cbd, 101, .inl gbd))]) [0, 1, 3, 4, 5] (by decide) rfl
          have hKc := hK.sub (tys' := [(cty, .int), (cbg, .int), (cbh, .int), (cbd, .boolean)]) [0, 2, 3, 4] rfl
          have hFc := va_free (wc := [(h0, .inr (9, [.ref aw, .ref ac, .int h0_sound, .int h0_function, .ref ty, .int h0_height, .ref bo, .ref bg, .ref bh, .ref bd, .int h0_depth])), (ty, .inl (cty, 5000, .inl gty)), (bg, .inl (cbg, 101, .inl gbg)), (bh, .inl (cbh, 101, .inl gbh)), (bd, .inl (cbd, 101, .inl gbd))]) hD hS hA [0, 1, 3, 4, 5] rfl
          refine va_callv (va_runV (As := []) (rest := []) ⟨hx, hb, hml, hown, hts⟩ (c_VA_close l dC dI H.size h0 aw ac ty bo bg bh bd cty cbg cbh cbd h0_sound h0_function h0_height h0_depth gty gbg gbh gbd (b_h0_sound) (b_h0_height) (b_h0_depth) (b_gty) (b_gbh) (by (try dsimp only) <;> omega) (by (try dsimp only) <;> omega)) (cwV 0 hts (gV kM_VA_164 kV_VA_close kS_VA_close kI_VA kC_VA_close) rfl rfl rfl (by decide +kernel) ⟨Nat.le_of_ble_eq_true rfl, Nat.le_of_ble_eq_true rfl⟩) ⟨fun a U g mk z => by obtain ⟨z0, z1, zP, zK, zD⟩ := z; exact ⟨z0, z1, zP, va_K.moved (u := U) (U := U.calling g mk a) (Vm.Alike.refl U.vm) zK, zD⟩, va_recv hKc hPc (ci := 9) (q0 := 0) rfl rfl, fun U hU hW => ⟨rfl, by rw [hU], by rw [hU]; exact hPc, va_K.moved hW.alike hKc, hDc.weaken (fun _ _ _ _ => trivial)⟩⟩ rfl rfl hl.1 rfl (lv_room (Nat.le_of_ble_eq_true rfl)) d_VA_checkBlocks_90 ⟨(Nat.zero_le _), (Nat.zero_le _)⟩) hS (fun q _ h => hFc q h) hFc (fun u t H1 locs ht hvm hw hB hz1 hk1 hS => ?_)
          obtain ⟨n14, n15, n16⟩ := u
          try dsimp only at hw
          obtain ⟨bn14, bn15, bn16, xr13⟩ := hw
          try clear hw
          have tn16 := b01 bn16
          obtain ⟨hP1, hK1, hD1⟩ := hB
          rw [ht] at hP1
          obtain ⟨hP, hD⟩ := va_join (wr := [(bo, .inl (cbo, 101, .inl gbo))]) (w1 := [(h0, .inr (9, [.ref aw, .ref ac, .int n16, .int h0_function, .ref ty, .int n15, .ref bo, .ref bg, .ref bh, .ref bd, .int n14])), (ty, .inl (cty, 5000, .inl gty)), (bg, .inl (cbg, 101, .inl gbg)), (bh, .inl (cbh, 101, .inl gbh)), (bd, .inl (cbd, 101, .inl gbd))]) hP hD [0, 1, 3, 4, 5] [2] rfl rfl (by decide) (by decide) hk1 hFc hP1 hD1
          clear hPc hDc hKc hFc hz1 hk1 hP1 hK1 hD1
          generalize H1 = H at hP hS ⊢
          have hP : va_P (dC, dI) cls [(bo, .inl (cbo, 101, .inl gbo)), (h0, .inr (9, [.ref aw, .ref ac, .int n16, .int h0_function, .ref ty, .int n15, .ref bo, .ref bg, .ref bh, .ref bd, .int n14])), (ty, .inl (cty, 5000, .inl gty)), (bg, .inl (cbg, 101, .inl gbg)), (bh, .inl (cbh, 101, .inl gbh)), (bd, .inl (cbd, 101, .inl gbd))] H := hP
          have hD : va_D A [(bo, .inl (cbo, 101, .inl gbo)), (h0, .inr (9, [.ref aw, .ref ac, .int n16, .int h0_function, .ref ty, .int n15, .ref bo, .ref bg, .ref bh, .ref bd, .int n14])), (ty, .inl (cty, 5000, .inl gty)), (bg, .inl (cbg, 101, .inl gbg)), (bh, .inl (cbh, 101, .inl gbh)), (bd, .inl (cbd, 101, .inl gbd))] := hD
          refine lv_aload_n hx hb d_VA_checkBlocks_93 rfl (lv_at hl 0 rfl) ?_
          refine lv_iload_n hx hb d_VA_checkBlocks_94 rfl (lv_at hl 1 rfl) ?_
          refine lv_aload_n hx hb d_VA_checkBlocks_95 rfl (lv_at hl 0 rfl) ?_
          refine va_get (D := (dC, dI)) (ci := 9) (v := .ref bg) (C := R_VA) (T := F_VA) (N := 11) hx hb hts i_VA hown hK hP 1 rfl rfl 7 (by decide) (hts _ kF_VA_18) (fun _ h9 => h9) rfl d_VA_checkBlocks_96 ?_
          refine lv_aload_n hx hb d_VA_checkBlocks_99 rfl (lv_at hl 0 rfl) ?_
          refine va_get (D := (dC, dI)) (ci := 9) (v := .int n14) (C := R_VA) (T := F_VA) (N := 11) hx hb hts i_VA hown hK hP 1 rfl rfl 10 (by decide) (hts _ kF_VA_117) (fun _ h9 => h9) rfl d_VA_checkBlocks_100 ?_
          have g103 : vp_in n14 101 := vp_in_iff.mpr ⟨by omega, by omega⟩
          refine va_iald hx hb hK hP 3 2 rfl rfl g103 d_VA_checkBlocks_103 ?_
          refine lv_topi (fun x17 ex17 => ?_)
          rw [i32_natI (x := n14) (n := h0_depth.toInt - 1) (by omega)] at ex17
          have u103 := ex17
          have e9T := i32_natI (x := n14) (n := h0_depth.toInt - 1) (by omega)
          have hPc := hP.sub (ws' := [(h0, .inr (9, [.ref aw, .ref ac, .int n16, .int h0_function, .ref ty, .int n15, .ref bo, .ref bg, .ref bh, .ref bd, .int n14])), (bo, .inl (cbo, 101, .inl gbo)), (bg, .inl (cbg, 101, .inl gbg)), (bh, .inl (cbh, 101, .inl gbh)), (bd, .inl (cbd, 101, .inl gbd))]) [1, 0, 3, 4, 5] rfl
          have hDc := hD.sub (ws' := [(h0, .inr (9, [.ref aw, .ref ac, .int n16, .int h0_function, .ref ty, .int n15, .ref bo, .ref bg, .ref bh, .ref bd, .int n14])), (bo, .inl (cbo, 101, .inl gbo)), (bg, .inl (cbg, 101, .inl gbg)), (bh, .inl (cbh, 101, .inl gbh)), (bd, .inl (cbd, 101, .inl gbd))]) [1, 0, 3, 4, 5] (by decide) rfl
          have hKc := hK.sub (tys' := [(cbo, .int), (cbg, .int), (cbh, .int), (cbd, .boolean)]) [1, 2, 3, 4] rfl
          have hFc := va_free (wc := [(h0, .inr (9, [.ref aw, .ref ac, .int n16, .int h0_function, .ref ty, .int n15, .ref bo, .ref bg, .ref bh, .ref bd, .int n14])), (bo, .inl (cbo, 101, .inl gbo)), (bg, .inl (cbg, 101, .inl gbg)), (bh, .inl (cbh, 101, .inl gbh)), (bd, .inl (cbd, 101, .inl gbd))]) hD hS hA [1, 0, 3, 4, 5] rfl
          refine va_callv (va_runV (As := [.int p0, .int x17]) (rest := []) ⟨hx, hb, hml, hown, hts⟩ (c_VA_open l dC dI H.size h0 aw ac ty bo bg bh bd cbo cbg cbh cbd n16 h0_function n15 n14 gbo gbg gbh gbd (bn15) (bn14) (b_gbh) p0 x17 (by (try dsimp only) <;> omega)) (cwV 2 hts (gV kM_VA_124 kV_VA_open kS_VA_open kI_VA kC_VA_open) rfl rfl rfl (by decide +kernel) ⟨Nat.le_of_ble_eq_true rfl, Nat.le_of_ble_eq_true rfl⟩) ⟨fun a U g mk z => by obtain ⟨z0, z1, zP, zK, zD⟩ := z; exact ⟨z0, z1, zP, va_K.moved (u := U) (U := U.calling g mk a) (Vm.Alike.refl U.vm) zK, zD⟩, va_recv hKc hPc (ci := 9) (q0 := 0) rfl rfl, fun U hU hW => ⟨rfl, by rw [hU], by rw [hU]; exact hPc, va_K.moved hW.alike hKc, hDc.weaken (fun _ _ _ _ => trivial)⟩⟩ rfl rfl hl.1 rfl (lv_room (Nat.le_of_ble_eq_true rfl)) d_VA_checkBlocks_104 ⟨(Nat.zero_le _), (Nat.zero_le _)⟩) hS (fun q _ h => hFc q h) hFc (fun u t H1 locs ht hvm hw hB hz1 hk1 hS => ?_)
          obtain ⟨n19, n20, n21, n22, n23⟩ := u
          try dsimp only at hw
          obtain ⟨bn21, bn23, xr18⟩ := hw
          try clear hw
          obtain ⟨hP1, hK1, hD1⟩ := hB
          rw [ht] at hP1
          obtain ⟨hP, hD⟩ := va_join (wr := [(ty, .inl (cty, 5000, .inl gty))]) (w1 := [(h0, .inr (9, [.ref aw, .ref ac, .int n16, .int h0_function, .ref ty, .int n15, .ref bo, .ref bg, .ref bh, .ref bd, .int n23])), (bo, .inl (cbo, 101, .inl n22)), (bg, .inl (cbg, 101, .inl n20)), (bh, .inl (cbh, 101, .inl n21)), (bd, .inl (cbd, 101, .inl n19))]) hP hD [1, 0, 3, 4, 5] [2] rfl rfl (by decide) (by decide) hk1 hFc hP1 hD1
          clear hPc hDc hKc hFc hz1 hk1 hP1 hK1 hD1
          generalize H1 = H at hP hS ⊢
          have hP : va_P (dC, dI) cls [(ty, .inl (cty, 5000, .inl gty)), (h0, .inr (9, [.ref aw, .ref ac, .int n16, .int h0_function, .ref ty, .int n15, .ref bo, .ref bg, .ref bh, .ref bd, .int n23])), (bo, .inl (cbo, 101, .inl n22)), (bg, .inl (cbg, 101, .inl n20)), (bh, .inl (cbh, 101, .inl n21)), (bd, .inl (cbd, 101, .inl n19))] H := hP
          have hD : va_D A [(ty, .inl (cty, 5000, .inl gty)), (h0, .inr (9, [.ref aw, .ref ac, .int n16, .int h0_function, .ref ty, .int n15, .ref bo, .ref bg, .ref bh, .ref bd, .int n23])), (bo, .inl (cbo, 101, .inl n22)), (bg, .inl (cbg, 101, .inl n20)), (bh, .inl (cbh, 101, .inl n21)), (bd, .inl (cbd, 101, .inl n19))] := hD
          refine lv_goto (tgt := 186) hx hb d_VA_checkBlocks_107 (by decide) ?_
          have hP9 := hP.sub (ws' := [(h0, .inr (9, [.ref aw, .ref ac, .int n16, .int h0_function, .ref ty, .int n15, .ref bo, .ref bg, .ref bh, .ref bd, .int n23])), (ty, .inl (cty, 5000, .inl gty)), (bo, .inl (cbo, 101, .inl n22)), (bg, .inl (cbg, 101, .inl n20)), (bh, .inl (cbh, 101, .inl n21)), (bd, .inl (cbd, 101, .inl n19))]) [1, 0, 2, 3, 4, 5] rfl
          have hD9 := hD.sub (ws' := [(h0, .inr (9, [.ref aw, .ref ac, .int n16, .int h0_function, .ref ty, .int n15, .ref bo, .ref bg, .ref bh, .ref bd, .int n23])), (ty, .inl (cty, 5000, .inl gty)), (bo, .inl (cbo, 101, .inl n22)), (bg, .inl (cbg, 101, .inl n20)), (bh, .inl (cbh, 101, .inl n21)), (bd, .inl (cbd, 101, .inl n19))]) [1, 0, 2, 3, 4, 5] (by decide) rfl
          exact W.vret hx hb hr (fun t ht hW => ⟨⟨(n19, n20, n21, n22, gty, n23, n15, n16), rfl, ⟨bn21, b_gty, bn23, bn15, bn16, ⟨fun z => absurd z (by omega), fun z => absurd z (by omega), fun z => absurd z (by omega), fun z => absurd z (by omega), fun _ => ⟨by have q := xr18.1; (try dsimp only) <;> omega, by have q := xr18; rw [e9T] at q; exact ⟨q.2.1, ⟨x17, by rw [u103], q.2.2.1⟩, q.2.2.2.1, q.2.2.2.2⟩, by (try dsimp only) <;> omega⟩, fun z => absurd z (by omega)⟩⟩, by rw [ht]; exact hP9, va_K.moved hW.alike hK, hD9⟩, hS.F ht⟩) hS.2.2 d_VA_checkBlocks_186
        · skip
          by_cases g1_110 : p0.toInt = 11
          · have ho1 : tab_off 179 0 11 #[63, 70, 179, 179, 73, 88, 179, 179, 179, 179, 179, 109] p0.toInt = 109 := by rw [g1_110]; rfl
            refine lv_tab (tgt := 110) hx hb d_VA_checkBlocks_1 (by decide) ho1 (by decide) ?_
            clear ho1
            refine lv_aload_n hx hb d_VA_checkBlocks_110 rfl (lv_at hl 0 rfl) ?_
            have hPc := hP.sub (ws' := [(h0, .inr (9, [.ref aw, .ref ac, .int h0_sound, .int h0_function, .ref ty, .int h0_height, .ref bo, .ref bg, .ref bh, .ref bd, .int h0_depth])), (ty, .inl (cty, 5000, .inl gty)), (bg, .inl (cbg, 101, .inl gbg)), (bh, .inl (cbh, 101, .inl gbh)), (bd, .inl (cbd, 101, .inl gbd))]) [0, 1, 3, 4, 5] rfl
            have hDc := hD.sub (ws' := [(h0, .inr (9, [.ref aw, .ref ac, .int h0_sound, .int h0_function, .ref ty, .int h0_height, .ref bo, .ref bg, .ref bh, .ref bd, .int h0_depth])), (ty, .inl (cty, 5000, .inl gty)), (bg, .inl (cbg, 101, .inl gbg)), (bh, .inl (cbh, 101, .inl gbh)), (bd, .inl (cbd, 101, .inl gbd))]) [0, 1, 3, 4, 5] (by decide) rfl
            have hKc := hK.sub (tys' := [(cty, .int), (cbg, .int), (cbh, .int), (cbd, .boolean)]) [0, 2, 3, 4] rfl
            have hFc := va_free (wc := [(h0, .inr (9, [.ref aw, .ref ac, .int h0_sound, .int h0_function, .ref ty, .int h0_height, .ref bo, .ref bg, .ref bh, .ref bd, .int h0_depth])), (ty, .inl (cty, 5000, .inl gty)), (bg, .inl (cbg, 101, .inl gbg)), (bh, .inl (cbh, 101, .inl gbh)), (bd, .inl (cbd, 101, .inl gbd))]) hD hS hA [0, 1, 3, 4, 5] rfl
            refine va_callv (va_runV (As := []) (rest := []) ⟨hx, hb, hml, hown, hts⟩ (c_VA_close l dC dI H.size h0 aw ac ty bo bg bh bd cty cbg cbh cbd h0_sound h0_function h0_height h0_depth gty gbg gbh gbd (b_h0_sound) (b_h0_height) (b_h0_depth) (b_gty) (b_gbh) (by (try dsimp only) <;> omega) (by (try dsimp only) <;> omega)) (cwV 0 hts (gV kM_VA_164 kV_VA_close kS_VA_close kI_VA kC_VA_close) rfl rfl rfl (by decide +kernel) ⟨Nat.le_of_ble_eq_true rfl, Nat.le_of_ble_eq_true rfl⟩) ⟨fun a U g mk z => by obtain ⟨z0, z1, zP, zK, zD⟩ := z; exact ⟨z0, z1, zP, va_K.moved (u := U) (U := U.calling g mk a) (Vm.Alike.refl U.vm) zK, zD⟩, va_recv hKc hPc (ci := 9) (q0 := 0) rfl rfl, fun U hU hW => ⟨rfl, by rw [hU], by rw [hU]; exact hPc, va_K.moved hW.alike hKc, hDc.weaken (fun _ _ _ _ => trivial)⟩⟩ rfl rfl hl.1 rfl (lv_room (Nat.le_of_ble_eq_true rfl)) d_VA_checkBlocks_111 ⟨(Nat.zero_le _), (Nat.zero_le _)⟩) hS (fun q _ h => hFc q h) hFc (fun u t H1 locs ht hvm hw hB hz1 hk1 hS => ?_)
            obtain ⟨n25, n26, n27⟩ := u
            try dsimp only at hw
            obtain ⟨bn25, bn26, bn27, xr24⟩ := hw
            try clear hw
            have tn27 := b01 bn27
            obtain ⟨hP1, hK1, hD1⟩ := hB
            rw [ht] at hP1
            obtain ⟨hP, hD⟩ := va_join (wr := [(bo, .inl (cbo, 101, .inl gbo))]) (w1 := [(h0, .inr (9, [.ref aw, .ref ac, .int n27, .int h0_function, .ref ty, .int n26, .ref bo, .ref bg, .ref bh, .ref bd, .int n25])), (ty, .inl (cty, 5000, .inl gty)), (bg, .inl (cbg, 101, .inl gbg)), (bh, .inl (cbh, 101, .inl gbh)), (bd, .inl (cbd, 101, .inl gbd))]) hP hD [0, 1, 3, 4, 5] [2] rfl rfl (by decide) (by decide) hk1 hFc hP1 hD1
            clear hPc hDc hKc hFc hz1 hk1 hP1 hK1 hD1
            generalize H1 = H at hP hS ⊢
            have hP : va_P (dC, dI) cls [(bo, .inl (cbo, 101, .inl gbo)), (h0, .inr (9, [.ref aw, .ref ac, .int n27, .int h0_function, .ref ty, .int n26, .ref bo, .ref bg, .ref bh, .ref bd, .int n25])), (ty, .inl (cty, 5000, .inl gty)), (bg, .inl (cbg, 101, .inl gbg)), (bh, .inl (cbh, 101, .inl gbh)), (bd, .inl (cbd, 101, .inl gbd))] H := hP
            have hD : va_D A [(bo, .inl (cbo, 101, .inl gbo)), (h0, .inr (9, [.ref aw, .ref ac, .int n27, .int h0_function, .ref ty, .int n26, .ref bo, .ref bg, .ref bh, .ref bd, .int n25])), (ty, .inl (cty, 5000, .inl gty)), (bg, .inl (cbg, 101, .inl gbg)), (bh, .inl (cbh, 101, .inl gbh)), (bd, .inl (cbd, 101, .inl gbd))] := hD
            refine lv_aload_n hx hb d_VA_checkBlocks_114 rfl (lv_at hl 0 rfl) ?_
            refine lv_aload_n hx hb d_VA_checkBlocks_115 rfl (lv_at hl 0 rfl) ?_
            refine va_get (D := (dC, dI)) (ci := 9) (v := .int n27) (C := R_VA) (T := F_VA) (N := 11) hx hb hts i_VA hown hK hP 1 rfl rfl 2 (by decide) (hts _ kF_VA_39) (fun _ h9 => h9) rfl d_VA_checkBlocks_116 ?_
            refine w_cut (pc2 := 154) (σ := Int32) (fun u H locs ls => match u with | j154_s0 => (j154_s0 = 0 ∨ j154_s0 = 1) ∧ (j154_s0.toInt = 1 → n27.toInt = 1 ∧ ((gbo (h0_depth.toInt - 1).toNat).toInt = 4 → (gbg (h0_depth.toInt - 1).toNat).toInt = 64)) ∧ va_P (dC, dI) cls [(bo, .inl (cbo, 101, .inl gbo)), (h0, .inr (9, [.ref aw, .ref ac, .int n27, .int h0_function, .ref ty, .int n26, .ref bo, .ref bg, .ref bh, .ref bd, .int n25])), (ty, .inl (cty, 5000, .inl gty)), (bg, .inl (cbg, 101, .inl gbg)), (bh, .inl (cbh, 101, .inl gbh)), (bd, .inl (cbd, 101, .inl gbd))] H ∧ va_D A [(bo, .inl (cbo, 101, .inl gbo)), (h0, .inr (9, [.ref aw, .ref ac, .int n27, .int h0_function, .ref ty, .int n26, .ref bo, .ref bg, .ref bh, .ref bd, .int n25])), (ty, .inl (cty, 5000, .inl gty)), (bg, .inl (cbg, 101, .inl gbg)), (bh, .inl (cbh, 101, .inl gbh)), (bd, .inl (cbd, 101, .inl gbd))] ∧ va_S A s.heap H locs ∧ lv_has ls 3 [(0, .ref h0)]) (fun u => match u with | j154_s0 => [.int j154_s0, .ref h0]) ?_ (fun jn154 => ?_)
            · intro u H locs ls hI
              obtain ⟨j154_s0, rfl⟩ : ∃ z, z = u := ⟨_, rfl⟩
              obtain ⟨b_j154_s0, x0, hP, hD, hS, hl⟩ := hI
              have tj154_s0 := b01 b_j154_s0
              refine va_put (D := (dC, dI)) (ci := 9) (v := .int j154_s0) (ty := .boolean) (C := R_VA) (T := F_VA) (N := 11) hx hb hts i_VA t_VA t_VA_ok n_VA hown hK hP hD hS 1 rfl rfl 2 (by decide) (hts _ kF_VA_39) (fun _ h9 => h9) rfl (by decide +kernel) (zn01 (b_j154_s0)) (fz01 (b_j154_s0)) (Nat.le_of_ble_eq_true rfl) d_VA_checkBlocks_154 (fun H locs hP hD hS => ?_)
              refine lv_aload_n hx hb d_VA_checkBlocks_157 rfl (lv_at hl 0 rfl) ?_
              refine va_get (D := (dC, dI)) (ci := 9) (v := .int n25) (C := R_VA) (T := F_VA) (N := 11) hx hb hts i_VA hown hK hP 1 rfl rfl 10 (by decide) (hts _ kF_VA_117) (fun _ h9 => h9) rfl d_VA_checkBlocks_158 ?_
              refine lv_if_le (tgt := 186) hx hb d_VA_checkBlocks_161 (by decide) (fun c161 => ?_) (fun c161 => ?_)
              · have q161 := leI c161
                have hP9 := hP.sub (ws' := [(h0, .inr (9, [.ref aw, .ref ac, .int j154_s0, .int h0_function, .ref ty, .int n26, .ref bo, .ref bg, .ref bh, .ref bd, .int n25])), (ty, .inl (cty, 5000, .inl gty)), (bo, .inl (cbo, 101, .inl gbo)), (bg, .inl (cbg, 101, .inl gbg)), (bh, .inl (cbh, 101, .inl gbh)), (bd, .inl (cbd, 101, .inl gbd))]) [1, 2, 0, 3, 4, 5] rfl
                have hD9 := hD.sub (ws' := [(h0, .inr (9, [.ref aw, .ref ac, .int j154_s0, .int h0_function, .ref ty, .int n26, .ref bo, .ref bg, .ref bh, .ref bd, .int n25])), (ty, .inl (cty, 5000, .inl gty)), (bo, .inl (cbo, 101, .inl gbo)), (bg, .inl (cbg, 101, .inl gbg)), (bh, .inl (cbh, 101, .inl gbh)), (bd, .inl (cbd, 101, .inl gbd))]) [1, 2, 0, 3, 4, 5] (by decide) rfl
                exact W.vret hx hb hr (fun t ht hW => ⟨⟨(gbd, gbg, gbh, gbo, gty, n25, n26, j154_s0), rfl, ⟨b_gbh, b_gty, bn25, bn26, b_j154_s0, ⟨fun z => absurd z (by omega), fun z => absurd z (by omega), fun z => absurd z (by omega), fun z => absurd z (by omega), fun z => absurd z (by omega), fun _ => ⟨rfl, rfl, rfl, rfl, by (try dsimp only) <;> omega, by (try dsimp only) <;> omega⟩⟩⟩, by rw [ht]; exact hP9, va_K.moved hW.alike hK, hD9⟩, hS.F ht⟩) hS.2.2 d_VA_checkBlocks_186
              · have q161 := nleI c161
                refine lv_aload_n hx hb d_VA_checkBlocks_164 rfl (lv_at hl 0 rfl) ?_
                refine lv_aload_n hx hb d_VA_checkBlocks_165 rfl (lv_at hl 0 rfl) ?_
                refine va_get (D := (dC, dI)) (ci := 9) (v := .ref bg) (C := R_VA) (T := F_VA) (N := 11) hx hb hts i_VA hown hK hP 1 rfl rfl 7 (by decide) (hts _ kF_VA_18) (fun _ h9 => h9) rfl d_VA_checkBlocks_166 ?_
                refine lv_aload_n hx hb d_VA_checkBlocks_169 rfl (lv_at hl 0 rfl) ?_
                refine va_get (D := (dC, dI)) (ci := 9) (v := .int n25) (C := R_VA) (T := F_VA) (N := 11) hx hb hts i_VA hown hK hP 1 rfl rfl 10 (by decide) (hts _ kF_VA_117) (fun _ h9 => h9) rfl d_VA_checkBlocks_170 ?_
                have g173 : vp_in n25 101 := vp_in_iff.mpr ⟨by omega, by omega⟩
                refine va_iald hx hb hK hP 3 2 rfl rfl g173 d_VA_checkBlocks_173 ?_
                refine lv_topi (fun x28 ex28 => ?_)
                rw [i32_natI (x := n25) (n := h0_depth.toInt - 1) (by omega)] at ex28
                have u173 : x28.toInt = (gbg (h0_depth.toInt - 1).toNat).toInt := by rw [ex28]
                have hPc := hP.sub (ws' := [(h0, .inr (9, [.ref aw, .ref ac, .int j154_s0, .int h0_function, .ref ty, .int n26, .ref bo, .ref bg, .ref bh, .ref bd, .int n25])), (ty, .inl (cty, 5000, .inl gty))]) [1, 2] rfl
                have hDc := hD.sub (ws' := [(h0, .inr (9, [.ref aw, .ref ac, .int j154_s0, .int h0_function, .ref ty, .int n26, .ref bo, .ref bg, .ref bh, .ref bd, .int n25])), (ty, .inl (cty, 5000, .inl gty))]) [1, 2] (by decide) rfl
                have hKc := hK.sub (tys' := [(cty, .int)]) [0] rfl
                have hFc := va_free (wc := [(h0, .inr (9, [.ref aw, .ref ac, .int j154_s0, .int h0_function, .ref ty, .int n26, .ref bo, .ref bg, .ref bh, .ref bd, .int n25])), (ty, .inl (cty, 5000, .inl gty))]) hD hS hA [1, 2] rfl
                refine va_callv (va_runV (As := [.int x28]) (rest := []) ⟨hx, hb, hml, hown, hts⟩ (c_VA_push l dC dI H.size h0 aw ac ty bo bg bh bd cty j154_s0 h0_function n26 n25 gty (bn26) (b_gty) x28 (by (try dsimp only) <;> omega)) (cwV 1 hts (gV kM_VA_167 kV_VA_push kS_VA_push kI_VA kC_VA_push) rfl rfl rfl (by decide +kernel) ⟨Nat.le_of_ble_eq_true rfl, Nat.le_of_ble_eq_true rfl⟩) ⟨fun a U g mk z => by obtain ⟨z0, z1, zP, zK, zD⟩ := z; exact ⟨z0, z1, zP, va_K.moved (u := U) (U := U.calling g mk a) (Vm.Alike.refl U.vm) zK, zD⟩, va_recv hKc hPc (ci := 9) (q0 := 0) rfl rfl, fun U hU hW => ⟨rfl, by rw [hU], by rw [hU]; exact hPc, va_K.moved hW.alike hKc, hDc.weaken (fun _ _ _ _ => trivial)⟩⟩ rfl rfl hl.1 rfl (lv_room (Nat.le_of_ble_eq_true rfl)) d_VA_checkBlocks_174 ⟨(Nat.zero_le _), (Nat.zero_le _)⟩) hS (fun q _ h => hFc q h) hFc (fun u t H1 locs ht hvm hw hB hz1 hk1 hS => ?_)
                obtain ⟨n30, n31⟩ := u
                try dsimp only at hw
                obtain ⟨bn30, bn31, xr29⟩ := hw
                try clear hw
                obtain ⟨hP1, hK1, hD1⟩ := hB
                rw [ht] at hP1
                obtain ⟨hP, hD⟩ := va_join (wr := [(bo, .inl (cbo, 101, .inl gbo)), (bg, .inl (cbg, 101, .inl gbg)), (bh, .inl (cbh, 101, .inl gbh)), (bd, .inl (cbd, 101, .inl gbd))]) (w1 := [(h0, .inr (9, [.ref aw, .ref ac, .int j154_s0, .int h0_function, .ref ty, .int n31, .ref bo, .ref bg, .ref bh, .ref bd, .int n25])), (ty, .inl (cty, 5000, .inl n30))]) hP hD [1, 2] [0, 3, 4, 5] rfl rfl (by decide) (by decide) hk1 hFc hP1 hD1
                clear hPc hDc hKc hFc hz1 hk1 hP1 hK1 hD1
                generalize H1 = H at hP hS ⊢
                have hP : va_P (dC, dI) cls [(bo, .inl (cbo, 101, .inl gbo)), (bg, .inl (cbg, 101, .inl gbg)), (bh, .inl (cbh, 101, .inl gbh)), (bd, .inl (cbd, 101, .inl gbd)), (h0, .inr (9, [.ref aw, .ref ac, .int j154_s0, .int h0_function, .ref ty, .int n31, .ref bo, .ref bg, .ref bh, .ref bd, .int n25])), (ty, .inl (cty, 5000, .inl n30))] H := hP
                have hD : va_D A [(bo, .inl (cbo, 101, .inl gbo)), (bg, .inl (cbg, 101, .inl gbg)), (bh, .inl (cbh, 101, .inl gbh)), (bd, .inl (cbd, 101, .inl gbd)), (h0, .inr (9, [.ref aw, .ref ac, .int j154_s0, .int h0_function, .ref ty, .int n31, .ref bo, .ref bg, .ref bh, .ref bd, .int n25])), (ty, .inl (cty, 5000, .inl n30))] := hD
                refine lv_goto (tgt := 186) hx hb d_VA_checkBlocks_177 (by decide) ?_
                have hP9 := hP.sub (ws' := [(h0, .inr (9, [.ref aw, .ref ac, .int j154_s0, .int h0_function, .ref ty, .int n31, .ref bo, .ref bg, .ref bh, .ref bd, .int n25])), (ty, .inl (cty, 5000, .inl n30)), (bo, .inl (cbo, 101, .inl gbo)), (bg, .inl (cbg, 101, .inl gbg)), (bh, .inl (cbh, 101, .inl gbh)), (bd, .inl (cbd, 101, .inl gbd))]) [4, 5, 0, 1, 2, 3] rfl
                have hD9 := hD.sub (ws' := [(h0, .inr (9, [.ref aw, .ref ac, .int j154_s0, .int h0_function, .ref ty, .int n31, .ref bo, .ref bg, .ref bh, .ref bd, .int n25])), (ty, .inl (cty, 5000, .inl n30)), (bo, .inl (cbo, 101, .inl gbo)), (bg, .inl (cbg, 101, .inl gbg)), (bh, .inl (cbh, 101, .inl gbh)), (bd, .inl (cbd, 101, .inl gbd))]) [4, 5, 0, 1, 2, 3] (by decide) rfl
                exact W.vret hx hb hr (fun t ht hW => ⟨⟨(gbd, gbg, gbh, gbo, n30, n25, n31, j154_s0), rfl, ⟨b_gbh, bn30, bn25, bn31, b_j154_s0, ⟨fun z => absurd z (by omega), fun z => absurd z (by omega), fun z => absurd z (by omega), fun z => absurd z (by omega), fun z => absurd z (by omega), fun _ => ⟨rfl, rfl, rfl, rfl, by (try dsimp only) <;> omega, by (try dsimp only) <;> omega⟩⟩⟩, by rw [ht]; exact hP9, va_K.moved hW.alike hK, hD9⟩, hS.F ht⟩) hS.2.2 d_VA_checkBlocks_186
            · skip
              refine w_cut (pc2 := 153) (σ := Unit) (fun u H locs ls => match u with | _ => va_P (dC, dI) cls [(bo, .inl (cbo, 101, .inl gbo)), (h0, .inr (9, [.ref aw, .ref ac, .int n27, .int h0_function, .ref ty, .int n26, .ref bo, .ref bg, .ref bh, .ref bd, .int n25])), (ty, .inl (cty, 5000, .inl gty)), (bg, .inl (cbg, 101, .inl gbg)), (bh, .inl (cbh, 101, .inl gbh)), (bd, .inl (cbd, 101, .inl gbd))] H ∧ va_D A [(bo, .inl (cbo, 101, .inl gbo)), (h0, .inr (9, [.ref aw, .ref ac, .int n27, .int h0_function, .ref ty, .int n26, .ref bo, .ref bg, .ref bh, .ref bd, .int n25])), (ty, .inl (cty, 5000, .inl gty)), (bg, .inl (cbg, 101, .inl gbg)), (bh, .inl (cbh, 101, .inl gbh)), (bd, .inl (cbd, 101, .inl gbd))] ∧ va_S A s.heap H locs ∧ lv_has ls 3 [(0, .ref h0)]) (fun u => match u with | _ => [.ref h0]) ?_ (fun jn153 => ?_)
              · intro u H locs ls hI
                obtain ⟨hP, hD, hS, hl⟩ := hI
                refine lv_iconst (v := 0) hx hb d_VA_checkBlocks_153 (by decide) ?_
                exact jn154 0 _ _ _ ⟨Or.inl rfl, by (try dsimp only) <;> omega, hP, hD, hS, lv_sub hl [0] rfl⟩
              · skip
                refine lv_if_eq (tgt := 153) hx hb d_VA_checkBlocks_119 (by decide) (fun c119 => ?_) (fun c119 => ?_)
                · have q119 := eqI c119
                  exact jn153 () _ _ _ ⟨hP, hD, hS, lv_sub hl [0] rfl⟩
                · have q119 := neI c119
                  refine lv_aload_n hx hb d_VA_checkBlocks_122 rfl (lv_at hl 0 rfl) ?_
                  refine va_get (D := (dC, dI)) (ci := 9) (v := .ref bo) (C := R_VA) (T := F_VA) (N := 11) hx hb hts i_VA hown hK hP 1 rfl rfl 6 (by decide) (hts _ kF_VA_15) (fun _ h9 => h9) rfl d_VA_checkBlocks_123 ?_
                  refine lv_aload_n hx hb d_VA_checkBlocks_126 rfl (lv_at hl 0 rfl) ?_
                  refine va_get (D := (dC, dI)) (ci := 9) (v := .int n25) (C := R_VA) (T := F_VA) (N := 11) hx hb hts i_VA hown hK hP 1 rfl rfl 10 (by decide) (hts _ kF_VA_117) (fun _ h9 => h9) rfl d_VA_checkBlocks_127 ?_
                  have g130 : vp_in n25 101 := vp_in_iff.mpr ⟨by omega, by omega⟩
                  refine va_iald hx hb hK hP 0 1 rfl rfl g130 d_VA_checkBlocks_130 ?_
                  refine lv_topi (fun x32 ex32 => ?_)
                  rw [i32_natI (x := n25) (n := h0_depth.toInt - 1) (by omega)] at ex32
                  have u130 : x32.toInt = (gbo (h0_depth.toInt - 1).toNat).toInt := by rw [ex32]
                  refine lv_iconst (v := 4) hx hb d_VA_checkBlocks_131 (by decide) ?_
                  refine lv_icmp_ne (tgt := 149) hx hb d_VA_checkBlocks_132 (by decide) (fun c132 => ?_) (fun c132 => ?_)
                  · have q132 := neI c132
                    refine lv_iconst (v := 1) hx hb d_VA_checkBlocks_149 (by decide) ?_
                    refine lv_goto (tgt := 154) hx hb d_VA_checkBlocks_150 (by decide) ?_
                    exact jn154 1 _ _ _ ⟨Or.inr rfl, by (try dsimp only) <;> omega, hP, hD, hS, lv_sub hl [0] rfl⟩
                  · have q132 := eqI c132
                    refine lv_aload_n hx hb d_VA_checkBlocks_135 rfl (lv_at hl 0 rfl) ?_
                    refine va_get (D := (dC, dI)) (ci := 9) (v := .ref bg) (C := R_VA) (T := F_VA) (N := 11) hx hb hts i_VA hown hK hP 1 rfl rfl 7 (by decide) (hts _ kF_VA_18) (fun _ h9 => h9) rfl d_VA_checkBlocks_136 ?_
                    refine lv_aload_n hx hb d_VA_checkBlocks_139 rfl (lv_at hl 0 rfl) ?_
                    refine va_get (D := (dC, dI)) (ci := 9) (v := .int n25) (C := R_VA) (T := F_VA) (N := 11) hx hb hts i_VA hown hK hP 1 rfl rfl 10 (by decide) (hts _ kF_VA_117) (fun _ h9 => h9) rfl d_VA_checkBlocks_140 ?_
                    have g143 : vp_in n25 101 := vp_in_iff.mpr ⟨by omega, by omega⟩
                    refine va_iald hx hb hK hP 3 2 rfl rfl g143 d_VA_checkBlocks_143 ?_
                    refine lv_topi (fun x33 ex33 => ?_)
                    rw [i32_natI (x := n25) (n := h0_depth.toInt - 1) (by omega)] at ex33
                    have u143 : x33.toInt = (gbg (h0_depth.toInt - 1).toNat).toInt := by rw [ex33]
                    refine lv_bipush (v := 64) hx hb d_VA_checkBlocks_144 (by decide) ?_
                    refine lv_icmp_ne (tgt := 153) hx hb d_VA_checkBlocks_146 (by decide) (fun c146 => ?_) (fun c146 => ?_)
                    · have q146 := neI c146
                      exact jn153 () _ _ _ ⟨hP, hD, hS, lv_sub hl [0] rfl⟩
                    · have q146 := eqI c146
                      refine lv_iconst (v := 1) hx hb d_VA_checkBlocks_149 (by decide) ?_
                      refine lv_goto (tgt := 154) hx hb d_VA_checkBlocks_150 (by decide) ?_
                      exact jn154 1 _ _ _ ⟨Or.inr rfl, by (try dsimp only) <;> omega, hP, hD, hS, lv_sub hl [0] rfl⟩
          · skip
            have ho1 : tab_off 179 0 11 #[63, 70, 179, 179, 73, 88, 179, 179, 179, 179, 179, 109] p0.toInt = 179 := by
              unfold tab_off
              split
              · rfl
              · rcases (by omega : p0.toInt = 2 ∨ p0.toInt = 3 ∨ p0.toInt = 6 ∨ p0.toInt = 7 ∨ p0.toInt = 8 ∨ p0.toInt = 9 ∨ p0.toInt = 10) with z | z | z | z | z | z | z <;> (rw [z]; rfl)
            refine lv_tab (tgt := 180) hx hb d_VA_checkBlocks_1 (by decide) ho1 (by decide) ?_
            clear ho1
            refine lv_aload_n hx hb d_VA_checkBlocks_180 rfl (lv_at hl 0 rfl) ?_
            refine lv_iload_n hx hb d_VA_checkBlocks_181 rfl (lv_at hl 1 rfl) ?_
            refine lv_iload_n hx hb d_VA_checkBlocks_182 rfl (lv_at hl 2 rfl) ?_
            have hPc := hP.sub (ws' := [(h0, .inr (9, [.ref aw, .ref ac, .int h0_sound, .int h0_function, .ref ty, .int h0_height, .ref bo, .ref bg, .ref bh, .ref bd, .int h0_depth])), (bo, .inl (cbo, 101, .inl gbo)), (bg, .inl (cbg, 101, .inl gbg)), (bh, .inl (cbh, 101, .inl gbh)), (bd, .inl (cbd, 101, .inl gbd))]) [0, 2, 3, 4, 5] rfl
            have hDc := hD.sub (ws' := [(h0, .inr (9, [.ref aw, .ref ac, .int h0_sound, .int h0_function, .ref ty, .int h0_height, .ref bo, .ref bg, .ref bh, .ref bd, .int h0_depth])), (bo, .inl (cbo, 101, .inl gbo)), (bg, .inl (cbg, 101, .inl gbg)), (bh, .inl (cbh, 101, .inl gbh)), (bd, .inl (cbd, 101, .inl gbd))]) [0, 2, 3, 4, 5] (by decide) rfl
            have hKc := hK.sub (tys' := [(cbo, .int), (cbg, .int), (cbh, .int), (cbd, .boolean)]) [1, 2, 3, 4] rfl
            have hFc := va_free (wc := [(h0, .inr (9, [.ref aw, .ref ac, .int h0_sound, .int h0_function, .ref ty, .int h0_height, .ref bo, .ref bg, .ref bh, .ref bd, .int h0_depth])), (bo, .inl (cbo, 101, .inl gbo)), (bg, .inl (cbg, 101, .inl gbg)), (bh, .inl (cbh, 101, .inl gbh)), (bd, .inl (cbd, 101, .inl gbd))]) hD hS hA [0, 2, 3, 4, 5] rfl
            refine va_callv (va_runV (As := [.int p0, .int p1]) (rest := []) ⟨hx, hb, hml, hown, hts⟩ (c_VA_open l dC dI H.size h0 aw ac ty bo bg bh bd cbo cbg cbh cbd h0_sound h0_function h0_height h0_depth gbo gbg gbh gbd (b_h0_height) (b_h0_depth) (b_gbh) p0 p1 (by (try dsimp only) <;> omega)) (cwV 2 hts (gV kM_VA_124 kV_VA_open kS_VA_open kI_VA kC_VA_open) rfl rfl rfl (by decide +kernel) ⟨Nat.le_of_ble_eq_true rfl, Nat.le_of_ble_eq_true rfl⟩) ⟨fun a U g mk z => by obtain ⟨z0, z1, zP, zK, zD⟩ := z; exact ⟨z0, z1, zP, va_K.moved (u := U) (U := U.calling g mk a) (Vm.Alike.refl U.vm) zK, zD⟩, va_recv hKc hPc (ci := 9) (q0 := 0) rfl rfl, fun U hU hW => ⟨rfl, by rw [hU], by rw [hU]; exact hPc, va_K.moved hW.alike hKc, hDc.weaken (fun _ _ _ _ => trivial)⟩⟩ rfl rfl hl.1 rfl (lv_room (Nat.le_of_ble_eq_true rfl)) d_VA_checkBlocks_183 ⟨(Nat.zero_le _), (Nat.zero_le _)⟩) hS (fun q _ h => hFc q h) hFc (fun u t H1 locs ht hvm hw hB hz1 hk1 hS => ?_)
            obtain ⟨n35, n36, n37, n38, n39⟩ := u
            try dsimp only at hw
            obtain ⟨bn37, bn39, xr34⟩ := hw
            try clear hw
            obtain ⟨hP1, hK1, hD1⟩ := hB
            rw [ht] at hP1
            obtain ⟨hP, hD⟩ := va_join (wr := [(ty, .inl (cty, 5000, .inl gty))]) (w1 := [(h0, .inr (9, [.ref aw, .ref ac, .int h0_sound, .int h0_function, .ref ty, .int h0_height, .ref bo, .ref bg, .ref bh, .ref bd, .int n39])), (bo, .inl (cbo, 101, .inl n38)), (bg, .inl (cbg, 101, .inl n36)), (bh, .inl (cbh, 101, .inl n37)), (bd, .inl (cbd, 101, .inl n35))]) hP hD [0, 2, 3, 4, 5] [1] rfl rfl (by decide) (by decide) hk1 hFc hP1 hD1
            clear hPc hDc hKc hFc hz1 hk1 hP1 hK1 hD1
            generalize H1 = H at hP hS ⊢
            have hP : va_P (dC, dI) cls [(ty, .inl (cty, 5000, .inl gty)), (h0, .inr (9, [.ref aw, .ref ac, .int h0_sound, .int h0_function, .ref ty, .int h0_height, .ref bo, .ref bg, .ref bh, .ref bd, .int n39])), (bo, .inl (cbo, 101, .inl n38)), (bg, .inl (cbg, 101, .inl n36)), (bh, .inl (cbh, 101, .inl n37)), (bd, .inl (cbd, 101, .inl n35))] H := hP
            have hD : va_D A [(ty, .inl (cty, 5000, .inl gty)), (h0, .inr (9, [.ref aw, .ref ac, .int h0_sound, .int h0_function, .ref ty, .int h0_height, .ref bo, .ref bg, .ref bh, .ref bd, .int n39])), (bo, .inl (cbo, 101, .inl n38)), (bg, .inl (cbg, 101, .inl n36)), (bh, .inl (cbh, 101, .inl n37)), (bd, .inl (cbd, 101, .inl n35))] := hD
            have hP9 := hP.sub (ws' := [(h0, .inr (9, [.ref aw, .ref ac, .int h0_sound, .int h0_function, .ref ty, .int h0_height, .ref bo, .ref bg, .ref bh, .ref bd, .int n39])), (ty, .inl (cty, 5000, .inl gty)), (bo, .inl (cbo, 101, .inl n38)), (bg, .inl (cbg, 101, .inl n36)), (bh, .inl (cbh, 101, .inl n37)), (bd, .inl (cbd, 101, .inl n35))]) [1, 0, 2, 3, 4, 5] rfl
            have hD9 := hD.sub (ws' := [(h0, .inr (9, [.ref aw, .ref ac, .int h0_sound, .int h0_function, .ref ty, .int h0_height, .ref bo, .ref bg, .ref bh, .ref bd, .int n39])), (ty, .inl (cty, 5000, .inl gty)), (bo, .inl (cbo, 101, .inl n38)), (bg, .inl (cbg, 101, .inl n36)), (bh, .inl (cbh, 101, .inl n37)), (bd, .inl (cbd, 101, .inl n35))]) [1, 0, 2, 3, 4, 5] (by decide) rfl
            exact W.vret hx hb hr (fun t ht hW => ⟨⟨(n35, n36, n37, n38, gty, n39, h0_height, h0_sound), rfl, ⟨bn37, b_gty, bn39, b_h0_height, b_h0_sound, ⟨fun z => absurd z (by omega), fun z => absurd z (by omega), fun _ => ⟨xr34, rfl, fun z => z⟩, fun z => absurd z (by omega), fun z => absurd z (by omega), fun z => absurd z (by omega)⟩⟩, by rw [ht]; exact hP9, va_K.moved hW.alike hK, hD9⟩, hS.F ht⟩) hS.2.2 d_VA_checkBlocks_186

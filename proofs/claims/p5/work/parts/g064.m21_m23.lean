section q_m21
/-! the reference: sized -/
theorem bl_add (f : Nat → Int32) (a : Nat) : ∀ b : Nat, bl f (a + b) = bl f a ++ bl (fun j => f (a + j)) b
  | 0 => by rw [show bl (fun j => f (a + j)) 0 = [] from rfl, List.append_nil]; rfl
  | b + 1 => by rw [← Nat.add_assoc, bl_succ, bl_add f a b, bl_succ, List.append_assoc]
theorem leb_l3 {n : Nat} : (n < 128 → (leb 5 n).length = 1) ∧ (128 ≤ n → n < 16384 → (leb 5 n).length = 2) ∧ (16384 ≤ n → n < 2097152 → (leb 5 n).length = 3) := by
  refine ⟨fun h => by rw [leb_end (by (first | (apply Int.le_antisymm <;> omega) | omega))]; rfl, fun h1 h2 => by rw [leb_go (by (first | (apply Int.le_antisymm <;> omega) | omega)), leb_end (by (first | (apply Int.le_antisymm <;> omega) | omega))]; rfl, fun h1 h2 => by rw [leb_go (by (first | (apply Int.le_antisymm <;> omega) | omega)), leb_go (by (first | (apply Int.le_antisymm <;> omega) | omega)), leb_end (by (first | (apply Int.le_antisymm <;> omega) | omega))]; rfl⟩
abbrev b_MD_sized : ByteArray := prog_15_method_41_code
def y_MD_sized : MethodName := ⟨R_MD, "sized", "(I)V"⟩
abbrev w_MD_sized : List Cond := .code y_MD_sized b_MD_sized 5 none :: lw_g
theorem kC_MD_sized : Cond.code y_MD_sized b_MD_sized 5 none ∈ lw_g := in_c12 126 rfl rfl
theorem d_MD_sized_0 : decode b_MD_sized 0 = .ok (.aload_n 0, 1) := bz_c42 (by decide +kernel)
theorem d_MD_sized_1 : decode b_MD_sized 1 = .ok (.getfield 391, 3) := bz_c180 (by decide +kernel)
theorem d_MD_sized_4 : decode b_MD_sized 4 = .ok (.iload_n 1, 1) := bz_c27 (by decide +kernel)
theorem d_MD_sized_5 : decode b_MD_sized 5 = .ok (.isub, 1) := bz_c100 (by decide +kernel)
theorem d_MD_sized_6 : decode b_MD_sized 6 = .ok (.istore_n 2, 1) := bz_c61 (by decide +kernel)
theorem d_MD_sized_7 : decode b_MD_sized 7 = .ok (.iload_n 2, 1) := bz_c28 (by decide +kernel)
theorem d_MD_sized_8 : decode b_MD_sized 8 = .ok (.sipush 128, 3) := bz_c17 (by decide +kernel)
theorem d_MD_sized_11 : decode b_MD_sized 11 = .ok (.if_icmp .ge 7, 3) := bz_c162 (by decide +kernel)
theorem d_MD_sized_14 : decode b_MD_sized 14 = .ok (.iconst 1, 1) := bz_c4 (by decide +kernel)
theorem d_MD_sized_15 : decode b_MD_sized 15 = .ok (.goto 15, 3) := bz_c167 (by decide +kernel)
theorem d_MD_sized_18 : decode b_MD_sized 18 = .ok (.iload_n 2, 1) := bz_c28 (by decide +kernel)
theorem d_MD_sized_19 : decode b_MD_sized 19 = .ok (.sipush 16384, 3) := bz_c17 (by decide +kernel)
theorem d_MD_sized_22 : decode b_MD_sized 22 = .ok (.if_icmp .ge 7, 3) := bz_c162 (by decide +kernel)
theorem d_MD_sized_25 : decode b_MD_sized 25 = .ok (.iconst 2, 1) := bz_c5 (by decide +kernel)
theorem d_MD_sized_26 : decode b_MD_sized 26 = .ok (.goto 4, 3) := bz_c167 (by decide +kernel)
theorem d_MD_sized_29 : decode b_MD_sized 29 = .ok (.iconst 3, 1) := bz_c6 (by decide +kernel)
theorem d_MD_sized_30 : decode b_MD_sized 30 = .ok (.istore_n 3, 1) := bz_c62 (by decide +kernel)
theorem d_MD_sized_31 : decode b_MD_sized 31 = .ok (.aload_n 0, 1) := bz_c42 (by decide +kernel)
theorem d_MD_sized_32 : decode b_MD_sized 32 = .ok (.getfield 391, 3) := bz_c180 (by decide +kernel)
theorem d_MD_sized_35 : decode b_MD_sized 35 = .ok (.iconst 1, 1) := bz_c4 (by decide +kernel)
theorem d_MD_sized_36 : decode b_MD_sized 36 = .ok (.isub, 1) := bz_c100 (by decide +kernel)
theorem d_MD_sized_37 : decode b_MD_sized 37 = .ok (.istore 4, 2) := bz_c54 (by decide +kernel)
theorem d_MD_sized_39 : decode b_MD_sized 39 = .ok (.iload 4, 2) := bz_c21 (by decide +kernel)
theorem d_MD_sized_41 : decode b_MD_sized 41 = .ok (.iload_n 1, 1) := bz_c27 (by decide +kernel)
theorem d_MD_sized_42 : decode b_MD_sized 42 = .ok (.if_icmp .lt 25, 3) := bz_c161 (by decide +kernel)
theorem d_MD_sized_45 : decode b_MD_sized 45 = .ok (.aload_n 0, 1) := bz_c42 (by decide +kernel)
theorem d_MD_sized_46 : decode b_MD_sized 46 = .ok (.getfield 388, 3) := bz_c180 (by decide +kernel)
theorem d_MD_sized_49 : decode b_MD_sized 49 = .ok (.iload 4, 2) := bz_c21 (by decide +kernel)
theorem d_MD_sized_51 : decode b_MD_sized 51 = .ok (.iload_n 3, 1) := bz_c29 (by decide +kernel)
theorem d_MD_sized_52 : decode b_MD_sized 52 = .ok (.iadd, 1) := bz_c96 (by decide +kernel)
theorem d_MD_sized_53 : decode b_MD_sized 53 = .ok (.aload_n 0, 1) := bz_c42 (by decide +kernel)
theorem d_MD_sized_54 : decode b_MD_sized 54 = .ok (.getfield 388, 3) := bz_c180 (by decide +kernel)
theorem d_MD_sized_57 : decode b_MD_sized 57 = .ok (.iload 4, 2) := bz_c21 (by decide +kernel)
theorem d_MD_sized_59 : decode b_MD_sized 59 = .ok (.baload, 1) := bz_c51 (by decide +kernel)
theorem d_MD_sized_60 : decode b_MD_sized 60 = .ok (.bastore, 1) := bz_c84 (by decide +kernel)
theorem d_MD_sized_61 : decode b_MD_sized 61 = .ok (.iinc 4 (-1), 3) := by decide +kernel
theorem d_MD_sized_64 : decode b_MD_sized 64 = .ok (.goto (-25), 3) := bz_c167 (by decide +kernel)
theorem d_MD_sized_67 : decode b_MD_sized 67 = .ok (.aload_n 0, 1) := bz_c42 (by decide +kernel)
theorem d_MD_sized_68 : decode b_MD_sized 68 = .ok (.iload_n 1, 1) := bz_c27 (by decide +kernel)
theorem d_MD_sized_69 : decode b_MD_sized 69 = .ok (.putfield 391, 3) := bz_c181 (by decide +kernel)
theorem d_MD_sized_72 : decode b_MD_sized 72 = .ok (.aload_n 0, 1) := bz_c42 (by decide +kernel)
theorem d_MD_sized_73 : decode b_MD_sized 73 = .ok (.iload_n 2, 1) := bz_c28 (by decide +kernel)
theorem d_MD_sized_74 : decode b_MD_sized 74 = .ok (.i2l, 1) := bz_c133 (by decide +kernel)
theorem d_MD_sized_75 : decode b_MD_sized 75 = .ok (.invokevirtual 409, 3) := bz_c182 (by decide +kernel)
theorem d_MD_sized_78 : decode b_MD_sized 78 = .ok (.aload_n 0, 1) := bz_c42 (by decide +kernel)
theorem d_MD_sized_79 : decode b_MD_sized 79 = .ok (.iload_n 1, 1) := bz_c27 (by decide +kernel)
theorem d_MD_sized_80 : decode b_MD_sized 80 = .ok (.iload_n 3, 1) := bz_c29 (by decide +kernel)
theorem d_MD_sized_81 : decode b_MD_sized 81 = .ok (.iadd, 1) := bz_c96 (by decide +kernel)
theorem d_MD_sized_82 : decode b_MD_sized 82 = .ok (.iload_n 2, 1) := bz_c28 (by decide +kernel)
theorem d_MD_sized_83 : decode b_MD_sized 83 = .ok (.iadd, 1) := bz_c96 (by decide +kernel)
theorem d_MD_sized_84 : decode b_MD_sized 84 = .ok (.putfield 391, 3) := bz_c181 (by decide +kernel)
theorem d_MD_sized_87 : decode b_MD_sized 87 = .ok (.return_, 1) := bz_c177 (by decide +kernel)
theorem kM_MD_409 : Cond.methodLink R_MD 409 y_MD_putCount ∈ lw_g := in_c12 117 rfl rfl
theorem kV_MD_putCount : Cond.instanceMethod y_MD_putCount ∈ lw_g := in_c12 119 rfl rfl
theorem kS_MD_putCount : Cond.selects R_MD y_MD_putCount y_MD_putCount ∈ lw_g := in_s 155 (by decide +kernel) rfl
abbrev at_MD_sized (dC : Nat → ClassId) (dI : Nat → Nat → Nat) (h0 rf tap h0_globalNames_r h0_globalPlaces_r h0_globalTypes_r h0_globalValues_r h0_funs_r h0_levels_r h0_known_r mad mag h0_smalls_r h0_greats_r h0_module_r h0_spare_r blk stk hgt lab ous kis los mem glo val ffu fre fba fla lat lhe rsl arg : Nat) (cmad : ClassId) (h0_taped : Int32) (h0_length : Int32) (h0_kind : Int32) (h0_from : Int32) (h0_to : Int32) (h0_word : Value) (h0_numeral : Int64) (h0_globalCount : Int32) (h0_funCount : Int32) (h0_open : Int32) (h0_signs : Int32) (h0_now : Value) (h0_knownCount : Int32) (h0_loops : Int32) (h0_m : Value) (h0_cursor : Int32) (h0_limit : Int32) (h0_top : Int32) (h0_depth : Int32) (h0_function : Int32) (h0_pages : Int32) (h0_valueTop : Int32) (h0_frames : Int32) (h0_labelTop : Int32) (h0_steps : Int32) (h0_there : Int32) (h0_resultLength : Int32) (h0_reason : Int32) (h0_place : Int32) (h0_argumentCount : Int32) (h0_code : Int32) (A : Nat → Prop) (u : (Nat → Int32) × Int32) (t : State) : Prop := match u with | (gmad, h0_madeLength) => va_P (dC, dI) cls2 (wz_311 h0 rf tap h0_taped h0_length h0_kind h0_from h0_to h0_word h0_numeral h0_globalNames_r h0_globalPlaces_r h0_globalTypes_r h0_globalValues_r h0_globalCount h0_funs_r h0_funCount h0_open h0_signs h0_levels_r h0_now h0_known_r h0_knownCount h0_loops mad h0_madeLength mag h0_smalls_r h0_greats_r h0_module_r h0_spare_r h0_m h0_cursor h0_limit blk stk h0_top hgt lab ous kis los h0_depth h0_function mem h0_pages glo val h0_valueTop ffu fre fba fla h0_frames lat lhe h0_labelTop h0_steps h0_there rsl h0_resultLength h0_reason h0_place arg h0_argumentCount h0_code mad cmad gmad) t.heap ∧ va_K (dC, dI) cls2 [(cmad, .byte)] t ∧ va_D A (wz_311 h0 rf tap h0_taped h0_length h0_kind h0_from h0_to h0_word h0_numeral h0_globalNames_r h0_globalPlaces_r h0_globalTypes_r h0_globalValues_r h0_globalCount h0_funs_r h0_funCount h0_open h0_signs h0_levels_r h0_now h0_known_r h0_knownCount h0_loops mad h0_madeLength mag h0_smalls_r h0_greats_r h0_module_r h0_spare_r h0_m h0_cursor h0_limit blk stk h0_top hgt lab ous kis los h0_depth h0_function mem h0_pages glo val h0_valueTop ffu fre fba fla h0_frames lat lhe h0_labelTop h0_steps h0_there rsl h0_resultLength h0_reason h0_place arg h0_argumentCount h0_code mad cmad gmad)
set_option maxHeartbeats 4000000 in
set_option maxRecDepth 100000 in
theorem c_MD_sized (l : Launch) (dC : Nat → ClassId) (dI : Nat → Nat → Nat) (sz : Nat) (h0 rf tap h0_globalNames_r h0_globalPlaces_r h0_globalTypes_r h0_globalValues_r h0_funs_r h0_levels_r h0_known_r mad mag h0_smalls_r h0_greats_r h0_module_r h0_spare_r blk stk hgt lab ous kis los mem glo val ffu fre fba fla lat lhe rsl arg : Nat) (cmad : ClassId) (h0_taped : Int32) (h0_length : Int32) (h0_kind : Int32) (h0_from : Int32) (h0_to : Int32) (h0_word : Value) (h0_numeral : Int64) (h0_globalCount : Int32) (h0_funCount : Int32) (h0_open : Int32) (h0_signs : Int32) (h0_now : Value) (h0_knownCount : Int32) (h0_loops : Int32) (h0_madeLength : Int32) (h0_m : Value) (h0_cursor : Int32) (h0_limit : Int32) (h0_top : Int32) (h0_depth : Int32) (h0_function : Int32) (h0_pages : Int32) (h0_valueTop : Int32) (h0_frames : Int32) (h0_labelTop : Int32) (h0_steps : Int32) (h0_there : Int32) (h0_resultLength : Int32) (h0_reason : Int32) (h0_place : Int32) (h0_argumentCount : Int32) (h0_code : Int32) (gmad : Nat → Int32)  (b_h0_madeLength : 0 ≤ h0_madeLength.toInt ∧ h0_madeLength.toInt ≤ 32768) (p0 : Int32)  (hp : 0 ≤ p0.toInt ∧ p0.toInt ≤ h0_madeLength.toInt) (hm : h0_madeLength.toInt + 5 ≤ 32768) : Met l y_MD_sized w_MD_sized ({ frames := 2, cells := 0, slots := 0, locals := 45 }) (va_Pc [.ref h0, .int p0] (fun U => U.heap.size = sz ∧ va_P (dC, dI) cls2 (wz_311 h0 rf tap h0_taped h0_length h0_kind h0_from h0_to h0_word h0_numeral h0_globalNames_r h0_globalPlaces_r h0_globalTypes_r h0_globalValues_r h0_globalCount h0_funs_r h0_funCount h0_open h0_signs h0_levels_r h0_now h0_known_r h0_knownCount h0_loops mad h0_madeLength mag h0_smalls_r h0_greats_r h0_module_r h0_spare_r h0_m h0_cursor h0_limit blk stk h0_top hgt lab ous kis los h0_depth h0_function mem h0_pages glo val h0_valueTop ffu fre fba fla h0_frames lat lhe h0_labelTop h0_steps h0_there rsl h0_resultLength h0_reason h0_place arg h0_argumentCount h0_code mad cmad gmad) U.heap ∧ va_K (dC, dI) cls2 [(cmad, .byte)] U ∧ va_D (fun _ => True) (wz_311 h0 rf tap h0_taped h0_length h0_kind h0_from h0_to h0_word h0_numeral h0_globalNames_r h0_globalPlaces_r h0_globalTypes_r h0_globalValues_r h0_globalCount h0_funs_r h0_funCount h0_open h0_signs h0_levels_r h0_now h0_known_r h0_knownCount h0_loops mad h0_madeLength mag h0_smalls_r h0_greats_r h0_module_r h0_spare_r h0_m h0_cursor h0_limit blk stk h0_top hgt lab ous kis los h0_depth h0_function mem h0_pages glo val h0_valueTop ffu fre fba fla h0_frames lat lhe h0_labelTop h0_steps h0_there rsl h0_resultLength h0_reason h0_place arg h0_argumentCount h0_code mad cmad gmad) ∧ sw_nest U)) (va_Qv (fun (u : (Nat → Int32) × Int32) => match u with | (gmad2, h0_madeLength2) => (0 ≤ h0_madeLength2.toInt ∧ h0_madeLength2.toInt ≤ 32768) ∧ (h0_madeLength2.toInt = h0_madeLength.toInt + ((leb 5 (h0_madeLength.toInt - p0.toInt).toNat).length : Int) ∧ bl gmad2 h0_madeLength2.toNatClampNeg = bl gmad p0.toNatClampNeg ++ (leb 5 (h0_madeLength.toInt - p0.toInt).toNat ++ bl (fun j => gmad (p0.toNatClampNeg + j)) (h0_madeLength.toInt - p0.toInt).toNat))) (at_MD_sized dC dI h0 rf tap h0_globalNames_r h0_globalPlaces_r h0_globalTypes_r h0_globalValues_r h0_funs_r h0_levels_r h0_known_r mad mag h0_smalls_r h0_greats_r h0_module_r h0_spare_r blk stk hgt lab ous kis los mem glo val ffu fre fba fla lat lhe rsl arg cmad h0_taped h0_length h0_kind h0_from h0_to h0_word h0_numeral h0_globalCount h0_funCount h0_open h0_signs h0_now h0_knownCount h0_loops h0_m h0_cursor h0_limit h0_top h0_depth h0_function h0_pages h0_valueTop h0_frames h0_labelTop h0_steps h0_there h0_resultLength h0_reason h0_place h0_argumentCount h0_code (va_A (wz_311 h0 rf tap h0_taped h0_length h0_kind h0_from h0_to h0_word h0_numeral h0_globalNames_r h0_globalPlaces_r h0_globalTypes_r h0_globalValues_r h0_globalCount h0_funs_r h0_funCount h0_open h0_signs h0_levels_r h0_now h0_known_r h0_knownCount h0_loops mad h0_madeLength mag h0_smalls_r h0_greats_r h0_module_r h0_spare_r h0_m h0_cursor h0_limit blk stk h0_top hgt lab ous kis los h0_depth h0_function mem h0_pages glo val h0_valueTop ffu fre fba fla h0_frames lat lhe h0_labelTop h0_steps h0_there rsl h0_resultLength h0_reason h0_place arg h0_argumentCount h0_code mad cmad gmad) sz)) (va_A (wz_311 h0 rf tap h0_taped h0_length h0_kind h0_from h0_to h0_word h0_numeral h0_globalNames_r h0_globalPlaces_r h0_globalTypes_r h0_globalValues_r h0_globalCount h0_funs_r h0_funCount h0_open h0_signs h0_levels_r h0_now h0_known_r h0_knownCount h0_loops mad h0_madeLength mag h0_smalls_r h0_greats_r h0_module_r h0_spare_r h0_m h0_cursor h0_limit blk stk h0_top hgt lab ous kis los h0_depth h0_function mem h0_pages glo val h0_valueTop ffu fre fba fla h0_frames lat lhe h0_labelTop h0_steps h0_there rsl h0_resultLength h0_reason h0_place arg h0_argumentCount h0_code mad cmad gmad) sz)) 0 0 (va_A (wz_311 h0 rf tap h0_taped h0_length h0_kind h0_from h0_to h0_word h0_numeral h0_globalNames_r h0_globalPlaces_r h0_globalTypes_r h0_globalValues_r h0_globalCount h0_funs_r h0_funCount h0_open h0_signs h0_levels_r h0_now h0_known_r h0_knownCount h0_loops mad h0_madeLength mag h0_smalls_r h0_greats_r h0_module_r h0_spare_r h0_m h0_cursor h0_limit blk stk h0_top hgt lab ous kis los h0_depth h0_function mem h0_pages glo val h0_valueTop ffu fre fba fla h0_frames lat lhe h0_labelTop h0_steps h0_there rsl h0_resultLength h0_reason h0_place arg h0_argumentCount h0_code mad cmad gmad) sz) := by
  refine Met.ofW (cc := b_MD_sized) (maxL := 5) (ret := none) (by decide) rfl ?_
  intro p e s m args below meth c s₁ B hml hv
  obtain ⟨rfl, hsz, hP, hK, hD0, hSW⟩ := hv
  have hx := B.exec
  have hb := B.bytes
  have hr := B.returns
  have hts0 := atoms_spec (ws := w_MD_sized) B.pre
  have hts : ∀ w ∈ lw_g, w.before _ s = true := fun w h => hts0 w (List.mem_cons_of_mem _ h)
  have hown : s.vm.findClass R_MD = some m.cls := findClass_of_methodNamed B.named
  have hlocks := B.notSynchronized
  clear hts0
  subst hsz
  have hD := hD0.self (sz := s.heap.size)
  generalize hAe : va_A (wz_311 h0 rf tap h0_taped h0_length h0_kind h0_from h0_to h0_word h0_numeral h0_globalNames_r h0_globalPlaces_r h0_globalTypes_r h0_globalValues_r h0_globalCount h0_funs_r h0_funCount h0_open h0_signs h0_levels_r h0_now h0_known_r h0_knownCount h0_loops mad h0_madeLength mag h0_smalls_r h0_greats_r h0_module_r h0_spare_r h0_m h0_cursor h0_limit blk stk h0_top hgt lab ous kis los h0_depth h0_function mem h0_pages glo val h0_valueTop ffu fre fba fla h0_frames lat lhe h0_labelTop h0_steps h0_there rsl h0_resultLength h0_reason h0_place arg h0_argumentCount h0_code mad cmad gmad) s.heap.size = A at hD ⊢
  have hA : ∀ q : Nat, s.heap.size ≤ q → A q := fun q h => by rw [← hAe]; exact Or.inr h
  clear hAe
  have hP : va_P (dC, dI) cls2 (wz_311 h0 rf tap h0_taped h0_length h0_kind h0_from h0_to h0_word h0_numeral h0_globalNames_r h0_globalPlaces_r h0_globalTypes_r h0_globalValues_r h0_globalCount h0_funs_r h0_funCount h0_open h0_signs h0_levels_r h0_now h0_known_r h0_knownCount h0_loops mad h0_madeLength mag h0_smalls_r h0_greats_r h0_module_r h0_spare_r h0_m h0_cursor h0_limit blk stk h0_top hgt lab ous kis los h0_depth h0_function mem h0_pages glo val h0_valueTop ffu fre fba fla h0_frames lat lhe h0_labelTop h0_steps h0_there rsl h0_resultLength h0_reason h0_place arg h0_argumentCount h0_code mad cmad gmad) s.heap := hP
  have hl := lv_entry ([.ref h0, .int p0]) (n := 5) (Nat.le_of_ble_eq_true rfl)
  rw [lg_entry_eq]
  generalize (lg_sl ([.ref h0, .int p0]) ++ List.replicate (5 - (lg_sl ([.ref h0, .int p0])).length) Slot.unset).toArray = ls at hl ⊢
  have hl : lv_has ls 5 [(0, .ref h0), (1, .int p0)] := hl
  have k0 : (0 : Int32).toInt = 0 := by decide
  refine w_gen (A := A) hP (fun H locs hP hS => ?_)
  have km1 : (-1 : Int32).toInt = -1 := by decide
  have k1 : (1 : Int32).toInt = 1 := by decide
  have k2 : (2 : Int32).toInt = 2 := by decide
  have k3 : (3 : Int32).toInt = 3 := by decide
  have k128 : (128 : Int32).toInt = 128 := by decide
  have k16384 : (16384 : Int32).toInt = 16384 := by decide
  have lo_p0 := i32_lo p0
  have hi_p0 := i32_hi p0
  have zm := i32_clamp (x := h0_madeLength) (by (first | (apply Int.le_antisymm <;> omega) | omega))
  have zp := i32_clamp (x := p0) (by (first | (apply Int.le_antisymm <;> omega) | omega))
  refine lv_aload_n hx hb d_MD_sized_0 rfl (lv_at hl 0 rfl) ?_
  refine va_get (D := (dC, dI)) (ci := 11) (v := .int h0_madeLength) (C := R_MD) (T := F_MD) (N := 65) hx hb hts i_MD hown hK hP 0 rfl rfl 24 (by decide) (hts _ kF_MD_391) (fun _ h9 => h9) rfl d_MD_sized_1 ?_
  refine lv_iload_n hx hb d_MD_sized_4 rfl (lv_at hl 1 rfl) ?_
  refine lv_isub hx hb d_MD_sized_5 ?_
  refine lv_topi (fun x1 ex1 => ?_)
  have tx1 : x1.toInt = h0_madeLength.toInt - p0.toInt := by have z := i32_sub ex1 (by (first | (apply Int.le_antisymm <;> omega) | omega)) (by (first | (apply Int.le_antisymm <;> omega) | omega)); first | exact z | (first | (apply Int.le_antisymm <;> omega) | omega)
  refine lv_istore_n (lv' := [(2, .int x1), (0, .ref h0), (1, .int p0)]) hx hb d_MD_sized_6 rfl hl (by decide) rfl (fun ls hl => ?_)
  refine lv_iload_n hx hb d_MD_sized_7 rfl (lv_at hl 0 rfl) ?_
  refine lv_sipush (v := 128) hx hb d_MD_sized_8 (by decide) ?_
  refine w_cut (pc2 := 30) (σ := Int32) (fun u H locs ls => match u with | j30_s0 => (1 ≤ j30_s0.toInt ∧ j30_s0.toInt ≤ 3 ∧ (x1.toInt < 128 → j30_s0.toInt = 1) ∧ (128 ≤ x1.toInt → x1.toInt < 16384 → j30_s0.toInt = 2) ∧ (16384 ≤ x1.toInt → j30_s0.toInt = 3)) ∧ va_P (dC, dI) cls2 (wz_311 h0 rf tap h0_taped h0_length h0_kind h0_from h0_to h0_word h0_numeral h0_globalNames_r h0_globalPlaces_r h0_globalTypes_r h0_globalValues_r h0_globalCount h0_funs_r h0_funCount h0_open h0_signs h0_levels_r h0_now h0_known_r h0_knownCount h0_loops mad h0_madeLength mag h0_smalls_r h0_greats_r h0_module_r h0_spare_r h0_m h0_cursor h0_limit blk stk h0_top hgt lab ous kis los h0_depth h0_function mem h0_pages glo val h0_valueTop ffu fre fba fla h0_frames lat lhe h0_labelTop h0_steps h0_there rsl h0_resultLength h0_reason h0_place arg h0_argumentCount h0_code mad cmad gmad) H ∧ va_D A (wz_311 h0 rf tap h0_taped h0_length h0_kind h0_from h0_to h0_word h0_numeral h0_globalNames_r h0_globalPlaces_r h0_globalTypes_r h0_globalValues_r h0_globalCount h0_funs_r h0_funCount h0_open h0_signs h0_levels_r h0_now h0_known_r h0_knownCount h0_loops mad h0_madeLength mag h0_smalls_r h0_greats_r h0_module_r h0_spare_r h0_m h0_cursor h0_limit blk stk h0_top hgt lab ous kis los h0_depth h0_function mem h0_pages glo val h0_valueTop ffu fre fba fla h0_frames lat lhe h0_labelTop h0_steps h0_there rsl h0_resultLength h0_reason h0_place arg h0_argumentCount h0_code mad cmad gmad) ∧ va_S A s.heap H locs ∧ lv_has ls 5 [(0, .ref h0), (1, .int p0), (2, .int x1)]) (fun u => match u with | j30_s0 => [.int j30_s0]) ?_ (fun jn30 => ?_)
  · intro u H locs ls hI
    obtain ⟨j30_s0, rfl⟩ : ∃ z, z = u := ⟨_, rfl⟩
    obtain ⟨y30, hP, hD, hS, hl⟩ := hI
    refine lv_istore_n (lv' := [(3, .int j30_s0), (0, .ref h0), (1, .int p0), (2, .int x1)]) hx hb d_MD_sized_30 rfl hl (by decide) rfl (fun ls hl => ?_)
    have zs := i32_clamp (x := j30_s0) (by (first | (apply Int.le_antisymm <;> omega) | omega))
    refine lv_aload_n hx hb d_MD_sized_31 rfl (lv_at hl 1 rfl) ?_
    refine va_get (D := (dC, dI)) (ci := 11) (v := .int h0_madeLength) (C := R_MD) (T := F_MD) (N := 65) hx hb hts i_MD hown hK hP 0 rfl rfl 24 (by decide) (hts _ kF_MD_391) (fun _ h9 => h9) rfl d_MD_sized_32 ?_
    refine lv_iconst (v := 1) hx hb d_MD_sized_35 (by decide) ?_
    refine lv_isub hx hb d_MD_sized_36 ?_
    refine lv_topi (fun x2 ex2 => ?_)
    have tx2 : x2.toInt = h0_madeLength.toInt - 1 := by have z := i32_sub ex2 (by (first | (apply Int.le_antisymm <;> omega) | omega)) (by (first | (apply Int.le_antisymm <;> omega) | omega)); first | exact z | (first | (apply Int.le_antisymm <;> omega) | omega)
    refine lv_istore (lv' := [(4, .int x2), (3, .int j30_s0), (0, .ref h0), (1, .int p0), (2, .int x1)]) hx hb d_MD_sized_37 hl (by decide) rfl (fun ls hl => ?_)
    refine w_loop (σ := Int32 × (Nat → Int32)) (fun u H locs ls => match u with | (j39_l4, j39_mad) => (-1 ≤ j39_l4.toInt ∧ j39_l4.toInt ≤ 32767) ∧ (p0.toInt - 1 ≤ j39_l4.toInt ∧ j39_l4.toInt < h0_madeLength.toInt) ∧ (bx (∀ j : Nat, ((j : Int) ≤ j39_l4.toInt → bn (j39_mad j) = bn (gmad j)) ∧ (j39_l4.toInt < (j : Int) → (j : Int) < h0_madeLength.toInt → bn (j39_mad (j + j30_s0.toNatClampNeg)) = bn (gmad j)))) ∧ va_P (dC, dI) cls2 (wz_311 h0 rf tap h0_taped h0_length h0_kind h0_from h0_to h0_word h0_numeral h0_globalNames_r h0_globalPlaces_r h0_globalTypes_r h0_globalValues_r h0_globalCount h0_funs_r h0_funCount h0_open h0_signs h0_levels_r h0_now h0_known_r h0_knownCount h0_loops mad h0_madeLength mag h0_smalls_r h0_greats_r h0_module_r h0_spare_r h0_m h0_cursor h0_limit blk stk h0_top hgt lab ous kis los h0_depth h0_function mem h0_pages glo val h0_valueTop ffu fre fba fla h0_frames lat lhe h0_labelTop h0_steps h0_there rsl h0_resultLength h0_reason h0_place arg h0_argumentCount h0_code mad cmad j39_mad) H ∧ va_D A (wz_311 h0 rf tap h0_taped h0_length h0_kind h0_from h0_to h0_word h0_numeral h0_globalNames_r h0_globalPlaces_r h0_globalTypes_r h0_globalValues_r h0_globalCount h0_funs_r h0_funCount h0_open h0_signs h0_levels_r h0_now h0_known_r h0_knownCount h0_loops mad h0_madeLength mag h0_smalls_r h0_greats_r h0_module_r h0_spare_r h0_m h0_cursor h0_limit blk stk h0_top hgt lab ous kis los h0_depth h0_function mem h0_pages glo val h0_valueTop ffu fre fba fla h0_frames lat lhe h0_labelTop h0_steps h0_there rsl h0_resultLength h0_reason h0_place arg h0_argumentCount h0_code mad cmad j39_mad) ∧ va_S A s.heap H locs ∧ lv_has ls 5 [(0, .ref h0), (1, .int p0), (2, .int x1), (3, .int j30_s0), (4, .int j39_l4)]) (fun u => match u with | (j39_l4, j39_mad) => (j39_l4.toInt + 1).toNat) ?_ (x2, gmad) ⟨by (try dsimp only) <;> (first | (apply Int.le_antisymm <;> omega) | omega), by (try dsimp only) <;> (first | (apply Int.le_antisymm <;> omega) | omega), (fun j => ⟨fun _ => rfl, fun z1 z2 => absurd z2 (by (first | (apply Int.le_antisymm <;> omega) | omega))⟩), hP, hD, hS, lv_sub hl [2, 3, 4, 1, 0] rfl⟩
    intro N39 ih39 u H locs ls hN39 hI
    obtain ⟨j39_l4, j39_mad⟩ := u
    obtain ⟨b_j39_l4, v1, hAr, hP, hD, hS, hl⟩ := hI
    have hN39 : (j39_l4.toInt + 1).toNat < N39 + 1 := hN39
    refine lv_iload hx hb d_MD_sized_39 (lv_at hl 4 rfl) ?_
    refine lv_iload_n hx hb d_MD_sized_41 rfl (lv_at hl 1 rfl) ?_
    refine lv_icmp_lt (tgt := 67) hx hb d_MD_sized_42 (by decide) (fun c42 => ?_) (fun c42 => ?_)
    · have q42 := ltI c42
      refine lv_aload_n hx hb d_MD_sized_67 rfl (lv_at hl 0 rfl) ?_
      refine lv_iload_n hx hb d_MD_sized_68 rfl (lv_at hl 1 rfl) ?_
      refine va_put (D := (dC, dI)) (ci := 11) (v := .int p0) (ty := .int) (C := R_MD) (T := F_MD) (N := 65) hx hb hts i_MD t_MD t_MD_ok n_MD hown hK hP hD hS 0 rfl rfl 24 (by decide) (hts _ kF_MD_391) (fun _ h9 => h9) rfl (by decide +kernel) rfl rfl (Nat.le_of_ble_eq_true rfl) d_MD_sized_69 (fun H locs hP hD hS => ?_)
      refine lv_aload_n hx hb d_MD_sized_72 rfl (lv_at hl 0 rfl) ?_
      refine lv_iload_n hx hb d_MD_sized_73 rfl (lv_at hl 2 rfl) ?_
      refine lv_i2l hx hb d_MD_sized_74 rfl ?_
      refine lv_topl (fun x3 ex3 => ?_)
      have tx3 := i2l_t ex3
      have hPc := hP.sb (wq := (wz_311 h0 rf tap h0_taped h0_length h0_kind h0_from h0_to h0_word h0_numeral h0_globalNames_r h0_globalPlaces_r h0_globalTypes_r h0_globalValues_r h0_globalCount h0_funs_r h0_funCount h0_open h0_signs h0_levels_r h0_now h0_known_r h0_knownCount h0_loops mad p0 mag h0_smalls_r h0_greats_r h0_module_r h0_spare_r h0_m h0_cursor h0_limit blk stk h0_top hgt lab ous kis los h0_depth h0_function mem h0_pages glo val h0_valueTop ffu fre fba fla h0_frames lat lhe h0_labelTop h0_steps h0_there rsl h0_resultLength h0_reason h0_place arg h0_argumentCount h0_code mad cmad j39_mad)) [0, 1] rfl
      have hDc := hD.sb (wq := (wz_311 h0 rf tap h0_taped h0_length h0_kind h0_from h0_to h0_word h0_numeral h0_globalNames_r h0_globalPlaces_r h0_globalTypes_r h0_globalValues_r h0_globalCount h0_funs_r h0_funCount h0_open h0_signs h0_levels_r h0_now h0_known_r h0_knownCount h0_loops mad p0 mag h0_smalls_r h0_greats_r h0_module_r h0_spare_r h0_m h0_cursor h0_limit blk stk h0_top hgt lab ous kis los h0_depth h0_function mem h0_pages glo val h0_valueTop ffu fre fba fla h0_frames lat lhe h0_labelTop h0_steps h0_there rsl h0_resultLength h0_reason h0_place arg h0_argumentCount h0_code mad cmad j39_mad)) [0, 1] (by decide) rfl
      have hKc := hK.sb (tyq := [(cmad, .byte)]) [0] rfl
      have hFc := va_free (wc := (wz_311 h0 rf tap h0_taped h0_length h0_kind h0_from h0_to h0_word h0_numeral h0_globalNames_r h0_globalPlaces_r h0_globalTypes_r h0_globalValues_r h0_globalCount h0_funs_r h0_funCount h0_open h0_signs h0_levels_r h0_now h0_known_r h0_knownCount h0_loops mad p0 mag h0_smalls_r h0_greats_r h0_module_r h0_spare_r h0_m h0_cursor h0_limit blk stk h0_top hgt lab ous kis los h0_depth h0_function mem h0_pages glo val h0_valueTop ffu fre fba fla h0_frames lat lhe h0_labelTop h0_steps h0_there rsl h0_resultLength h0_reason h0_place arg h0_argumentCount h0_code mad cmad j39_mad)) hD hS hA [0, 1] rfl
      refine va_callv (va_runV (As := [.long x3]) (rest := []) ⟨hx, hb, hml, hown, hts⟩ (c_MD_putCount l dC dI H.size h0 rf tap h0_globalNames_r h0_globalPlaces_r h0_globalTypes_r h0_globalValues_r h0_funs_r h0_levels_r h0_known_r mad mag h0_smalls_r h0_greats_r h0_module_r h0_spare_r blk stk hgt lab ous kis los mem glo val ffu fre fba fla lat lhe rsl arg cmad h0_taped h0_length h0_kind h0_from h0_to h0_word h0_numeral h0_globalCount h0_funCount h0_open h0_signs h0_now h0_knownCount h0_loops p0 h0_m h0_cursor h0_limit h0_top h0_depth h0_function h0_pages h0_valueTop h0_frames h0_labelTop h0_steps h0_there h0_resultLength h0_reason h0_place h0_argumentCount h0_code j39_mad (by (try dsimp only) <;> (first | (apply Int.le_antisymm <;> omega) | omega)) x3 (by (first | (apply Int.le_antisymm <;> omega) | omega)) (by (first | (apply Int.le_antisymm <;> omega) | omega))) (cwV 1 hts (gV kM_MD_409 kV_MD_putCount kS_MD_putCount kI_MD kC_MD_putCount) rfl rfl rfl (by decide +kernel) ⟨Nat.le_of_ble_eq_true rfl, Nat.le_of_ble_eq_true rfl⟩) ⟨fun a U g mk z => by obtain ⟨z0, z1, zP, zK, zD, zS⟩ := z; exact ⟨z0, z1, zP, va_K.moved (u := U) (U := U.calling g mk a) (Vm.Alike.refl U.vm) zK, zD, sw_nest.same (s := U) (U := U.calling g mk a) rfl zS⟩, va_recv hKc hPc (ci := 11) (q0 := 0) rfl rfl, fun U hU hW => ⟨rfl, by rw [hU], va_P.he hU.symm hPc, va_K.moved hW.alike hKc, hDc.weaken (fun _ _ _ _ => trivial), hSW.warm hW⟩⟩ rfl rfl hl.1 rfl (lv_room (Nat.le_of_ble_eq_true rfl)) d_MD_sized_75 ⟨(Nat.zero_le _), (Nat.zero_le _)⟩) hS (fun q _ h => hFc q h) hFc (fun u t H1 locs ht hvm hw hB hz1 hk1 hS => ?_)
      obtain ⟨n5, n6⟩ := u
      try dsimp only at hw
      obtain ⟨bn6, xr4⟩ := hw
      try clear hw
      obtain ⟨b1, b2, b3⟩ := xr4
      replace b3 : bx _ := b3
      have x9 : x3.toInt = h0_madeLength.toInt - p0.toInt := by (first | (apply Int.le_antisymm <;> omega) | omega)
      rw [x9] at b1 b2
      obtain ⟨hP1, hK1, hD1⟩ := hB
      replace hP1 := va_P.he ht hP1
      obtain ⟨hP, hD⟩ := va_join (wr := []) (w1 := (wz_311 h0 rf tap h0_taped h0_length h0_kind h0_from h0_to h0_word h0_numeral h0_globalNames_r h0_globalPlaces_r h0_globalTypes_r h0_globalValues_r h0_globalCount h0_funs_r h0_funCount h0_open h0_signs h0_levels_r h0_now h0_known_r h0_knownCount h0_loops mad n6 mag h0_smalls_r h0_greats_r h0_module_r h0_spare_r h0_m h0_cursor h0_limit blk stk h0_top hgt lab ous kis los h0_depth h0_function mem h0_pages glo val h0_valueTop ffu fre fba fla h0_frames lat lhe h0_labelTop h0_steps h0_there rsl h0_resultLength h0_reason h0_place arg h0_argumentCount h0_code mad cmad n5)) hP hD [0, 1] [] rfl rfl (by decide) (by decide) hk1 hFc hP1 hD1
      clear hPc hDc hKc hFc hz1 hk1 hP1 hK1 hD1
      rename Heap => H
      have hP : va_P (dC, dI) cls2 (wz_311 h0 rf tap h0_taped h0_length h0_kind h0_from h0_to h0_word h0_numeral h0_globalNames_r h0_globalPlaces_r h0_globalTypes_r h0_globalValues_r h0_globalCount h0_funs_r h0_funCount h0_open h0_signs h0_levels_r h0_now h0_known_r h0_knownCount h0_loops mad n6 mag h0_smalls_r h0_greats_r h0_module_r h0_spare_r h0_m h0_cursor h0_limit blk stk h0_top hgt lab ous kis los h0_depth h0_function mem h0_pages glo val h0_valueTop ffu fre fba fla h0_frames lat lhe h0_labelTop h0_steps h0_there rsl h0_resultLength h0_reason h0_place arg h0_argumentCount h0_code mad cmad n5) H := hP
      have hD : va_D A (wz_311 h0 rf tap h0_taped h0_length h0_kind h0_from h0_to h0_word h0_numeral h0_globalNames_r h0_globalPlaces_r h0_globalTypes_r h0_globalValues_r h0_globalCount h0_funs_r h0_funCount h0_open h0_signs h0_levels_r h0_now h0_known_r h0_knownCount h0_loops mad n6 mag h0_smalls_r h0_greats_r h0_module_r h0_spare_r h0_m h0_cursor h0_limit blk stk h0_top hgt lab ous kis los h0_depth h0_function mem h0_pages glo val h0_valueTop ffu fre fba fla h0_frames lat lhe h0_labelTop h0_steps h0_there rsl h0_resultLength h0_reason h0_place arg h0_argumentCount h0_code mad cmad n5) := hD
      refine lv_aload_n hx hb d_MD_sized_78 rfl (lv_at hl 0 rfl) ?_
      refine lv_iload_n hx hb d_MD_sized_79 rfl (lv_at hl 1 rfl) ?_
      refine lv_iload_n hx hb d_MD_sized_80 rfl (lv_at hl 3 rfl) ?_
      refine lv_iadd hx hb d_MD_sized_81 ?_
      refine lv_topi (fun x7 ex7 => ?_)
      have tx7 : x7.toInt = p0.toInt + j30_s0.toInt := by have z := i32_add ex7 (by (first | (apply Int.le_antisymm <;> omega) | omega)) (by (first | (apply Int.le_antisymm <;> omega) | omega)); first | exact z | (first | (apply Int.le_antisymm <;> omega) | omega)
      refine lv_iload_n hx hb d_MD_sized_82 rfl (lv_at hl 2 rfl) ?_
      refine lv_iadd hx hb d_MD_sized_83 ?_
      refine lv_topi (fun x8 ex8 => ?_)
      have tx8 : x8.toInt = x7.toInt + x1.toInt := by have z := i32_add ex8 (by (first | (apply Int.le_antisymm <;> omega) | omega)) (by (first | (apply Int.le_antisymm <;> omega) | omega)); first | exact z | (first | (apply Int.le_antisymm <;> omega) | omega)
      refine va_put (D := (dC, dI)) (ci := 11) (v := .int x8) (ty := .int) (C := R_MD) (T := F_MD) (N := 65) hx hb hts i_MD t_MD t_MD_ok n_MD hown hK hP hD hS 0 rfl rfl 24 (by decide) (hts _ kF_MD_391) (fun _ h9 => h9) rfl (by decide +kernel) rfl rfl (Nat.le_of_ble_eq_true rfl) d_MD_sized_84 (fun H locs hP hD hS => ?_)
      have hP9 := hP.sb (wq := (wz_311 h0 rf tap h0_taped h0_length h0_kind h0_from h0_to h0_word h0_numeral h0_globalNames_r h0_globalPlaces_r h0_globalTypes_r h0_globalValues_r h0_globalCount h0_funs_r h0_funCount h0_open h0_signs h0_levels_r h0_now h0_known_r h0_knownCount h0_loops mad x8 mag h0_smalls_r h0_greats_r h0_module_r h0_spare_r h0_m h0_cursor h0_limit blk stk h0_top hgt lab ous kis los h0_depth h0_function mem h0_pages glo val h0_valueTop ffu fre fba fla h0_frames lat lhe h0_labelTop h0_steps h0_there rsl h0_resultLength h0_reason h0_place arg h0_argumentCount h0_code mad cmad n5)) [0, 1] rfl
      have hD9 := hD.sb (wq := (wz_311 h0 rf tap h0_taped h0_length h0_kind h0_from h0_to h0_word h0_numeral h0_globalNames_r h0_globalPlaces_r h0_globalTypes_r h0_globalValues_r h0_globalCount h0_funs_r h0_funCount h0_open h0_signs h0_levels_r h0_now h0_known_r h0_knownCount h0_loops mad x8 mag h0_smalls_r h0_greats_r h0_module_r h0_spare_r h0_m h0_cursor h0_limit blk stk h0_top hgt lab ous kis los h0_depth h0_function mem h0_pages glo val h0_valueTop ffu fre fba fla h0_frames lat lhe h0_labelTop h0_steps h0_there rsl h0_resultLength h0_reason h0_place arg h0_argumentCount h0_code mad cmad n5)) [0, 1] (by decide) rfl
      exact W.vret hx hb hr (fun t ht hW => ⟨⟨(n5, x8), rfl, ⟨by (try dsimp only) <;> (first | (apply Int.le_antisymm <;> omega) | omega), (by have L := leb_l3 (n := (h0_madeLength.toInt - p0.toInt).toNat); have hd : j30_s0.toInt = ((leb 5 (h0_madeLength.toInt - p0.toInt).toNat).length : Int) := (by (first | (apply Int.le_antisymm <;> omega) | omega)); have zE := i32_clamp (x := x8) (by (first | (apply Int.le_antisymm <;> omega) | omega)); have zn := i32_clamp (x := n6) (by (first | (apply Int.le_antisymm <;> omega) | omega)); refine ⟨by (first | (apply Int.le_antisymm <;> omega) | omega), ?_⟩; rw [show x8.toNatClampNeg = n6.toNatClampNeg + (h0_madeLength.toInt - p0.toInt).toNat from by (first | (apply Int.le_antisymm <;> omega) | omega), bl_add, b2, List.append_assoc] ; congr 1; (exact bl_cong (fun j hj => (hAr.out j).1 (by (first | (apply Int.le_antisymm <;> omega) | omega)))); congr 1; (exact bl_cong (fun j hj => by rw [b3.out _ (by (first | (apply Int.le_antisymm <;> omega) | omega)), show n6.toNatClampNeg + j = (p0.toNatClampNeg + j) + j30_s0.toNatClampNeg from by (first | (apply Int.le_antisymm <;> omega) | omega)]; exact (hAr.out (p0.toNatClampNeg + j)).2 (by (first | (apply Int.le_antisymm <;> omega) | omega)) (by (first | (apply Int.le_antisymm <;> omega) | omega)))))⟩, va_P.he ht.symm hP9, va_K.moved hW.alike hK, hD9⟩, hS.F ht⟩) hS.2.2 d_MD_sized_87
    · have q42 := nltI c42
      refine lv_aload_n hx hb d_MD_sized_45 rfl (lv_at hl 0 rfl) ?_
      refine va_get (D := (dC, dI)) (ci := 11) (v := .ref mad) (C := R_MD) (T := F_MD) (N := 65) hx hb hts i_MD hown hK hP 0 rfl rfl 23 (by decide) (hts _ kF_MD_388) (fun _ h9 => h9) rfl d_MD_sized_46 ?_
      refine lv_iload hx hb d_MD_sized_49 (lv_at hl 4 rfl) ?_
      refine lv_iload_n hx hb d_MD_sized_51 rfl (lv_at hl 3 rfl) ?_
      refine lv_iadd hx hb d_MD_sized_52 ?_
      refine lv_topi (fun x9 ex9 => ?_)
      have tx9 : x9.toInt = j39_l4.toInt + j30_s0.toInt := by have z := i32_add ex9 (by (first | (apply Int.le_antisymm <;> omega) | omega)) (by (first | (apply Int.le_antisymm <;> omega) | omega)); first | exact z | (first | (apply Int.le_antisymm <;> omega) | omega)
      refine lv_aload_n hx hb d_MD_sized_53 rfl (lv_at hl 0 rfl) ?_
      refine va_get (D := (dC, dI)) (ci := 11) (v := .ref mad) (C := R_MD) (T := F_MD) (N := 65) hx hb hts i_MD hown hK hP 0 rfl rfl 23 (by decide) (hts _ kF_MD_388) (fun _ h9 => h9) rfl d_MD_sized_54 ?_
      refine lv_iload hx hb d_MD_sized_57 (lv_at hl 4 rfl) ?_
      have g59 : vp_in j39_l4 32768 := vp_in_iff.mpr ⟨by (first | (apply Int.le_antisymm <;> omega) | omega), by (first | (apply Int.le_antisymm <;> omega) | omega)⟩
      refine va_bald hx hb hK hP 1 0 rfl rfl g59 d_MD_sized_59 ?_
      refine lv_topi (fun x10 ex10 => ?_)
      have g60 : vp_in x9 32768 := vp_in_iff.mpr ⟨by (first | (apply Int.le_antisymm <;> omega) | omega), by (first | (apply Int.le_antisymm <;> omega) | omega)⟩
      refine va_bast hx hb hK hP hD hS 1 0 rfl rfl g60 d_MD_sized_60 (fun H locs hP hD hS => ?_)
      generalize ef11 : upd j39_mad x9.toNatClampNeg (vp_nar .byte x10) = f11 at hP hD
      obtain ⟨x12, ex12⟩ : ∃ z : Int32, z = j39_l4 + (-1) := ⟨_, rfl⟩
      have tx12 : x12.toInt = j39_l4.toInt + (-1) := by have z := i32_add ex12 (by (first | (apply Int.le_antisymm <;> omega) | omega)) (by (first | (apply Int.le_antisymm <;> omega) | omega)); first | exact z | (first | (apply Int.le_antisymm <;> omega) | omega)
      refine lv_iinc (v := x12) (lv' := [(4, .int x12), (0, .ref h0), (1, .int p0), (2, .int x1), (3, .int j30_s0)]) hx hb d_MD_sized_61 hl (k := 4) rfl (by rw [ex12]; rfl) (by decide) rfl (fun ls hl => ?_)
      refine lv_goto (tgt := 39) hx hb d_MD_sized_64 (by decide) ?_
      have z4 := i32_clamp (x := j39_l4) (by (first | (apply Int.le_antisymm <;> omega) | omega))
      have z52 := i32_clamp (x := x9) (by (first | (apply Int.le_antisymm <;> omega) | omega))
      exact ih39 (x12, f11) _ _ _ (by show (x12.toInt + 1).toNat < N39; (first | (apply Int.le_antisymm <;> omega) | omega)) ⟨by (try dsimp only) <;> (first | (apply Int.le_antisymm <;> omega) | omega), by (try dsimp only) <;> (first | (apply Int.le_antisymm <;> omega) | omega), (fun j => ⟨fun z => by rw [← ef11, pk_un (by (first | (apply Int.le_antisymm <;> omega) | omega))]; exact (hAr.out j).1 (by (first | (apply Int.le_antisymm <;> omega) | omega)), fun z1 z2 => by rw [← ef11]; by_cases q : j = j39_l4.toNatClampNeg; (rw [q, show j39_l4.toNatClampNeg + j30_s0.toNatClampNeg = x9.toNatClampNeg from by (first | (apply Int.le_antisymm <;> omega) | omega), pk_us, bnv, ex10]; exact (hAr.out _).1 (by (first | (apply Int.le_antisymm <;> omega) | omega))); (rw [pk_un (by (first | (apply Int.le_antisymm <;> omega) | omega))]; exact (hAr.out j).2 (by (first | (apply Int.le_antisymm <;> omega) | omega)) z2)⟩), hP, hD, hS, lv_sub hl [1, 2, 3, 4, 0] rfl⟩
  · skip
    refine lv_icmp_ge (tgt := 18) hx hb d_MD_sized_11 (by decide) (fun c11 => ?_) (fun c11 => ?_)
    · have q11 := leI c11
      refine lv_iload_n hx hb d_MD_sized_18 rfl (lv_at hl 0 rfl) ?_
      refine lv_sipush (v := 16384) hx hb d_MD_sized_19 (by decide) ?_
      refine lv_icmp_ge (tgt := 29) hx hb d_MD_sized_22 (by decide) (fun c22 => ?_) (fun c22 => ?_)
      · have q22 := leI c22
        refine lv_iconst (v := 3) hx hb d_MD_sized_29 (by decide) ?_
        exact jn30 3 _ _ _ ⟨by (try dsimp only) <;> (first | (apply Int.le_antisymm <;> omega) | omega), hP, hD, hS, lv_sub hl [1, 2, 0] rfl⟩
      · have q22 := nleI c22
        refine lv_iconst (v := 2) hx hb d_MD_sized_25 (by decide) ?_
        refine lv_goto (tgt := 30) hx hb d_MD_sized_26 (by decide) ?_
        exact jn30 2 _ _ _ ⟨by (try dsimp only) <;> (first | (apply Int.le_antisymm <;> omega) | omega), hP, hD, hS, lv_sub hl [1, 2, 0] rfl⟩
    · have q11 := nleI c11
      refine lv_iconst (v := 1) hx hb d_MD_sized_14 (by decide) ?_
      refine lv_goto (tgt := 30) hx hb d_MD_sized_15 (by decide) ?_
      exact jn30 1 _ _ _ ⟨by (try dsimp only) <;> (first | (apply Int.le_antisymm <;> omega) | omega), hP, hD, hS, lv_sub hl [1, 2, 0] rfl⟩
end q_m21
section q_m22
/-! the reference: at, letter, digit, can, few, deeper, memory, number -/
abbrev b_MD_at : ByteArray := prog_15_method_2_code
def y_MD_at : MethodName := ⟨R_MD, "at", "(I)I"⟩
abbrev w_MD_at : List Cond := .code y_MD_at b_MD_at 2 (Option.some .int) :: lw_g
theorem kC_MD_at : Cond.code y_MD_at b_MD_at 2 (Option.some .int) ∈ lw_g := in_c9 212 rfl rfl
theorem d_MD_at_0 : decode b_MD_at 0 = .ok (.iload_n 1, 1) := bz_c27 (by decide +kernel)
theorem d_MD_at_1 : decode b_MD_at 1 = .ok (.aload_n 0, 1) := bz_c42 (by decide +kernel)
theorem d_MD_at_2 : decode b_MD_at 2 = .ok (.getfield 16, 3) := bz_c180 (by decide +kernel)
theorem d_MD_at_5 : decode b_MD_at 5 = .ok (.if_icmp .ge 16, 3) := bz_c162 (by decide +kernel)
theorem d_MD_at_8 : decode b_MD_at 8 = .ok (.aload_n 0, 1) := bz_c42 (by decide +kernel)
theorem d_MD_at_9 : decode b_MD_at 9 = .ok (.getfield 19, 3) := bz_c180 (by decide +kernel)
theorem d_MD_at_12 : decode b_MD_at 12 = .ok (.iload_n 1, 1) := bz_c27 (by decide +kernel)
theorem d_MD_at_13 : decode b_MD_at 13 = .ok (.baload, 1) := bz_c51 (by decide +kernel)
theorem d_MD_at_14 : decode b_MD_at 14 = .ok (.sipush 255, 3) := bz_c17 (by decide +kernel)
theorem d_MD_at_17 : decode b_MD_at 17 = .ok (.iand, 1) := bz_c126 (by decide +kernel)
theorem d_MD_at_18 : decode b_MD_at 18 = .ok (.goto 4, 3) := bz_c167 (by decide +kernel)
theorem d_MD_at_21 : decode b_MD_at 21 = .ok (.iconst (-1), 1) := bz_c2 (by decide +kernel)
theorem d_MD_at_22 : decode b_MD_at 22 = .ok (.ireturn, 1) := bz_c172 (by decide +kernel)
theorem kF_MD_16 : Cond.fieldLink R_MD 16 "WaferForgeModel" "length" "I" ∈ lw_g := in_c8 224 rfl rfl
abbrev at_MD_at (dC : Nat → ClassId) (dI : Nat → Nat → Nat) (h0 rf tap h0_globalNames_r h0_globalPlaces_r h0_globalTypes_r h0_globalValues_r h0_funs_r h0_levels_r h0_known_r mad mag h0_smalls_r h0_greats_r h0_module_r h0_spare_r blk stk hgt lab ous kis los mem glo val ffu fre fba fla lat lhe rsl arg : Nat) (ctap : ClassId) (h0_taped : Int32) (h0_length : Int32) (h0_kind : Int32) (h0_from : Int32) (h0_to : Int32) (h0_word : Value) (h0_numeral : Int64) (h0_globalCount : Int32) (h0_funCount : Int32) (h0_open : Int32) (h0_signs : Int32) (h0_now : Value) (h0_knownCount : Int32) (h0_loops : Int32) (h0_madeLength : Int32) (h0_m : Value) (h0_cursor : Int32) (h0_limit : Int32) (h0_top : Int32) (h0_depth : Int32) (h0_function : Int32) (h0_pages : Int32) (h0_valueTop : Int32) (h0_frames : Int32) (h0_labelTop : Int32) (h0_steps : Int32) (h0_there : Int32) (h0_resultLength : Int32) (h0_reason : Int32) (h0_place : Int32) (h0_argumentCount : Int32) (h0_code : Int32) (gtap : Nat → Int32) (A : Nat → Prop) (u : Unit) (t : State) : Prop := match u with | _ => va_P (dC, dI) cls2 (wz_307 h0 rf tap h0_taped h0_length h0_kind h0_from h0_to h0_word h0_numeral h0_globalNames_r h0_globalPlaces_r h0_globalTypes_r h0_globalValues_r h0_globalCount h0_funs_r h0_funCount h0_open h0_signs h0_levels_r h0_now h0_known_r h0_knownCount h0_loops mad h0_madeLength mag h0_smalls_r h0_greats_r h0_module_r h0_spare_r h0_m h0_cursor h0_limit blk stk h0_top hgt lab ous kis los h0_depth h0_function mem h0_pages glo val h0_valueTop ffu fre fba fla h0_frames lat lhe h0_labelTop h0_steps h0_there rsl h0_resultLength h0_reason h0_place arg h0_argumentCount h0_code tap ctap gtap) t.heap ∧ va_K (dC, dI) cls2 [(ctap, .byte)] t ∧ va_D A (wz_307 h0 rf tap h0_taped h0_length h0_kind h0_from h0_to h0_word h0_numeral h0_globalNames_r h0_globalPlaces_r h0_globalTypes_r h0_globalValues_r h0_globalCount h0_funs_r h0_funCount h0_open h0_signs h0_levels_r h0_now h0_known_r h0_knownCount h0_loops mad h0_madeLength mag h0_smalls_r h0_greats_r h0_module_r h0_spare_r h0_m h0_cursor h0_limit blk stk h0_top hgt lab ous kis los h0_depth h0_function mem h0_pages glo val h0_valueTop ffu fre fba fla h0_frames lat lhe h0_labelTop h0_steps h0_there rsl h0_resultLength h0_reason h0_place arg h0_argumentCount h0_code tap ctap gtap)
set_option maxHeartbeats 4000000 in
set_option maxRecDepth 100000 in
theorem c_MD_at (l : Launch) (dC : Nat → ClassId) (dI : Nat → Nat → Nat) (sz : Nat) (h0 rf tap h0_globalNames_r h0_globalPlaces_r h0_globalTypes_r h0_globalValues_r h0_funs_r h0_levels_r h0_known_r mad mag h0_smalls_r h0_greats_r h0_module_r h0_spare_r blk stk hgt lab ous kis los mem glo val ffu fre fba fla lat lhe rsl arg : Nat) (ctap : ClassId) (h0_taped : Int32) (h0_length : Int32) (h0_kind : Int32) (h0_from : Int32) (h0_to : Int32) (h0_word : Value) (h0_numeral : Int64) (h0_globalCount : Int32) (h0_funCount : Int32) (h0_open : Int32) (h0_signs : Int32) (h0_now : Value) (h0_knownCount : Int32) (h0_loops : Int32) (h0_madeLength : Int32) (h0_m : Value) (h0_cursor : Int32) (h0_limit : Int32) (h0_top : Int32) (h0_depth : Int32) (h0_function : Int32) (h0_pages : Int32) (h0_valueTop : Int32) (h0_frames : Int32) (h0_labelTop : Int32) (h0_steps : Int32) (h0_there : Int32) (h0_resultLength : Int32) (h0_reason : Int32) (h0_place : Int32) (h0_argumentCount : Int32) (h0_code : Int32) (gtap : Nat → Int32)  (b_h0_length : 0 ≤ h0_length.toInt ∧ h0_length.toInt ≤ 2000) (p0 : Int32) (ba0 : 0 ≤ p0.toInt ∧ p0.toInt ≤ 2147483640)  : Met l y_MD_at w_MD_at ({ frames := 0, cells := 0, slots := 0, locals := 0 }) (va_Pc [.ref h0, .int p0] (fun U => U.heap.size = sz ∧ va_P (dC, dI) cls2 (wz_307 h0 rf tap h0_taped h0_length h0_kind h0_from h0_to h0_word h0_numeral h0_globalNames_r h0_globalPlaces_r h0_globalTypes_r h0_globalValues_r h0_globalCount h0_funs_r h0_funCount h0_open h0_signs h0_levels_r h0_now h0_known_r h0_knownCount h0_loops mad h0_madeLength mag h0_smalls_r h0_greats_r h0_module_r h0_spare_r h0_m h0_cursor h0_limit blk stk h0_top hgt lab ous kis los h0_depth h0_function mem h0_pages glo val h0_valueTop ffu fre fba fla h0_frames lat lhe h0_labelTop h0_steps h0_there rsl h0_resultLength h0_reason h0_place arg h0_argumentCount h0_code tap ctap gtap) U.heap ∧ va_K (dC, dI) cls2 [(ctap, .byte)] U ∧ va_D (fun _ => True) (wz_307 h0 rf tap h0_taped h0_length h0_kind h0_from h0_to h0_word h0_numeral h0_globalNames_r h0_globalPlaces_r h0_globalTypes_r h0_globalValues_r h0_globalCount h0_funs_r h0_funCount h0_open h0_signs h0_levels_r h0_now h0_known_r h0_knownCount h0_loops mad h0_madeLength mag h0_smalls_r h0_greats_r h0_module_r h0_spare_r h0_m h0_cursor h0_limit blk stk h0_top hgt lab ous kis los h0_depth h0_function mem h0_pages glo val h0_valueTop ffu fre fba fla h0_frames lat lhe h0_labelTop h0_steps h0_there rsl h0_resultLength h0_reason h0_place arg h0_argumentCount h0_code tap ctap gtap) ∧ sw_nest U)) (va_Qi (fun (r : Int32) (u : Unit) => match u with | _ => ((p0.toInt < h0_length.toInt → r.toInt = (bn (gtap p0.toNatClampNeg) : Int)) ∧ (h0_length.toInt ≤ p0.toInt → r.toInt = -1) ∧ -1 ≤ r.toInt ∧ r.toInt ≤ 255)) (at_MD_at dC dI h0 rf tap h0_globalNames_r h0_globalPlaces_r h0_globalTypes_r h0_globalValues_r h0_funs_r h0_levels_r h0_known_r mad mag h0_smalls_r h0_greats_r h0_module_r h0_spare_r blk stk hgt lab ous kis los mem glo val ffu fre fba fla lat lhe rsl arg ctap h0_taped h0_length h0_kind h0_from h0_to h0_word h0_numeral h0_globalCount h0_funCount h0_open h0_signs h0_now h0_knownCount h0_loops h0_madeLength h0_m h0_cursor h0_limit h0_top h0_depth h0_function h0_pages h0_valueTop h0_frames h0_labelTop h0_steps h0_there h0_resultLength h0_reason h0_place h0_argumentCount h0_code gtap (va_A (wz_307 h0 rf tap h0_taped h0_length h0_kind h0_from h0_to h0_word h0_numeral h0_globalNames_r h0_globalPlaces_r h0_globalTypes_r h0_globalValues_r h0_globalCount h0_funs_r h0_funCount h0_open h0_signs h0_levels_r h0_now h0_known_r h0_knownCount h0_loops mad h0_madeLength mag h0_smalls_r h0_greats_r h0_module_r h0_spare_r h0_m h0_cursor h0_limit blk stk h0_top hgt lab ous kis los h0_depth h0_function mem h0_pages glo val h0_valueTop ffu fre fba fla h0_frames lat lhe h0_labelTop h0_steps h0_there rsl h0_resultLength h0_reason h0_place arg h0_argumentCount h0_code tap ctap gtap) sz)) (va_A (wz_307 h0 rf tap h0_taped h0_length h0_kind h0_from h0_to h0_word h0_numeral h0_globalNames_r h0_globalPlaces_r h0_globalTypes_r h0_globalValues_r h0_globalCount h0_funs_r h0_funCount h0_open h0_signs h0_levels_r h0_now h0_known_r h0_knownCount h0_loops mad h0_madeLength mag h0_smalls_r h0_greats_r h0_module_r h0_spare_r h0_m h0_cursor h0_limit blk stk h0_top hgt lab ous kis los h0_depth h0_function mem h0_pages glo val h0_valueTop ffu fre fba fla h0_frames lat lhe h0_labelTop h0_steps h0_there rsl h0_resultLength h0_reason h0_place arg h0_argumentCount h0_code tap ctap gtap) sz)) 0 0 (va_A (wz_307 h0 rf tap h0_taped h0_length h0_kind h0_from h0_to h0_word h0_numeral h0_globalNames_r h0_globalPlaces_r h0_globalTypes_r h0_globalValues_r h0_globalCount h0_funs_r h0_funCount h0_open h0_signs h0_levels_r h0_now h0_known_r h0_knownCount h0_loops mad h0_madeLength mag h0_smalls_r h0_greats_r h0_module_r h0_spare_r h0_m h0_cursor h0_limit blk stk h0_top hgt lab ous kis los h0_depth h0_function mem h0_pages glo val h0_valueTop ffu fre fba fla h0_frames lat lhe h0_labelTop h0_steps h0_there rsl h0_resultLength h0_reason h0_place arg h0_argumentCount h0_code tap ctap gtap) sz) := by
  refine Met.ofW (cc := b_MD_at) (maxL := 2) (ret := (Option.some .int)) (by decide) rfl ?_
  intro p e s m args below meth c s₁ B hml hv
  obtain ⟨rfl, hsz, hP, hK, hD0, hSW⟩ := hv
  have hx := B.exec
  have hb := B.bytes
  have hr := B.returns
  have hts0 := atoms_spec (ws := w_MD_at) B.pre
  have hts : ∀ w ∈ lw_g, w.before _ s = true := fun w h => hts0 w (List.mem_cons_of_mem _ h)
  have hown : s.vm.findClass R_MD = some m.cls := findClass_of_methodNamed B.named
  have hlocks := B.notSynchronized
  clear hts0
  subst hsz
  have hD := hD0.self (sz := s.heap.size)
  generalize hAe : va_A (wz_307 h0 rf tap h0_taped h0_length h0_kind h0_from h0_to h0_word h0_numeral h0_globalNames_r h0_globalPlaces_r h0_globalTypes_r h0_globalValues_r h0_globalCount h0_funs_r h0_funCount h0_open h0_signs h0_levels_r h0_now h0_known_r h0_knownCount h0_loops mad h0_madeLength mag h0_smalls_r h0_greats_r h0_module_r h0_spare_r h0_m h0_cursor h0_limit blk stk h0_top hgt lab ous kis los h0_depth h0_function mem h0_pages glo val h0_valueTop ffu fre fba fla h0_frames lat lhe h0_labelTop h0_steps h0_there rsl h0_resultLength h0_reason h0_place arg h0_argumentCount h0_code tap ctap gtap) s.heap.size = A at hD ⊢
  have hA : ∀ q : Nat, s.heap.size ≤ q → A q := fun q h => by rw [← hAe]; exact Or.inr h
  clear hAe
  have hP : va_P (dC, dI) cls2 (wz_307 h0 rf tap h0_taped h0_length h0_kind h0_from h0_to h0_word h0_numeral h0_globalNames_r h0_globalPlaces_r h0_globalTypes_r h0_globalValues_r h0_globalCount h0_funs_r h0_funCount h0_open h0_signs h0_levels_r h0_now h0_known_r h0_knownCount h0_loops mad h0_madeLength mag h0_smalls_r h0_greats_r h0_module_r h0_spare_r h0_m h0_cursor h0_limit blk stk h0_top hgt lab ous kis los h0_depth h0_function mem h0_pages glo val h0_valueTop ffu fre fba fla h0_frames lat lhe h0_labelTop h0_steps h0_there rsl h0_resultLength h0_reason h0_place arg h0_argumentCount h0_code tap ctap gtap) s.heap := hP
  have hl := lv_entry ([.ref h0, .int p0]) (n := 2) (Nat.le_of_ble_eq_true rfl)
  rw [lg_entry_eq]
  generalize (lg_sl ([.ref h0, .int p0]) ++ List.replicate (2 - (lg_sl ([.ref h0, .int p0])).length) Slot.unset).toArray = ls at hl ⊢
  have hl : lv_has ls 2 [(0, .ref h0), (1, .int p0)] := hl
  have k0 : (0 : Int32).toInt = 0 := by decide
  refine w_gen (A := A) hP (fun H locs hP hS => ?_)
  have km1 : (-1 : Int32).toInt = -1 := by decide
  have k255 : (255 : Int32).toInt = 255 := by decide
  have lo_p0 := i32_lo p0
  have hi_p0 := i32_hi p0
  refine lv_iload_n hx hb d_MD_at_0 rfl (lv_at hl 1 rfl) ?_
  refine lv_aload_n hx hb d_MD_at_1 rfl (lv_at hl 0 rfl) ?_
  refine va_get (D := (dC, dI)) (ci := 11) (v := .int h0_length) (C := R_MD) (T := F_MD) (N := 65) hx hb hts i_MD hown hK hP 0 rfl rfl 3 (by decide) (hts _ kF_MD_16) (fun _ h9 => h9) rfl d_MD_at_2 ?_
  refine lv_icmp_ge (tgt := 21) hx hb d_MD_at_5 (by decide) (fun c5 => ?_) (fun c5 => ?_)
  · have q5 := leI c5
    refine lv_iconst (v := (-1)) hx hb d_MD_at_21 (by decide) ?_
    have hP9 := hP.sb (wq := (wz_307 h0 rf tap h0_taped h0_length h0_kind h0_from h0_to h0_word h0_numeral h0_globalNames_r h0_globalPlaces_r h0_globalTypes_r h0_globalValues_r h0_globalCount h0_funs_r h0_funCount h0_open h0_signs h0_levels_r h0_now h0_known_r h0_knownCount h0_loops mad h0_madeLength mag h0_smalls_r h0_greats_r h0_module_r h0_spare_r h0_m h0_cursor h0_limit blk stk h0_top hgt lab ous kis los h0_depth h0_function mem h0_pages glo val h0_valueTop ffu fre fba fla h0_frames lat lhe h0_labelTop h0_steps h0_there rsl h0_resultLength h0_reason h0_place arg h0_argumentCount h0_code tap ctap gtap)) [0, 1] rfl
    have hD9 := hD.sb (wq := (wz_307 h0 rf tap h0_taped h0_length h0_kind h0_from h0_to h0_word h0_numeral h0_globalNames_r h0_globalPlaces_r h0_globalTypes_r h0_globalValues_r h0_globalCount h0_funs_r h0_funCount h0_open h0_signs h0_levels_r h0_now h0_known_r h0_knownCount h0_loops mad h0_madeLength mag h0_smalls_r h0_greats_r h0_module_r h0_spare_r h0_m h0_cursor h0_limit blk stk h0_top hgt lab ous kis los h0_depth h0_function mem h0_pages glo val h0_valueTop ffu fre fba fla h0_frames lat lhe h0_labelTop h0_steps h0_there rsl h0_resultLength h0_reason h0_place arg h0_argumentCount h0_code tap ctap gtap)) [0, 1] (by decide) rfl
    exact W.iret (v := ((-1))) hx hb hr (fun t ht hW => ⟨⟨(-1), (), rfl, (⟨fun z => absurd z (by (first | (apply Int.le_antisymm <;> omega) | omega)), fun _ => by decide, by decide, by decide⟩), va_P.he ht.symm hP9, va_K.moved hW.alike hK, hD9⟩, hS.F ht⟩) hS.2.2 d_MD_at_22
  · have q5 := nleI c5
    refine lv_aload_n hx hb d_MD_at_8 rfl (lv_at hl 0 rfl) ?_
    refine va_get (D := (dC, dI)) (ci := 11) (v := .ref tap) (C := R_MD) (T := F_MD) (N := 65) hx hb hts i_MD hown hK hP 0 rfl rfl 1 (by decide) (hts _ kF_MD_19) (fun _ h9 => h9) rfl d_MD_at_9 ?_
    refine lv_iload_n hx hb d_MD_at_12 rfl (lv_at hl 1 rfl) ?_
    have g13 : vp_in p0 2000 := vp_in_iff.mpr ⟨by (first | (apply Int.le_antisymm <;> omega) | omega), by (first | (apply Int.le_antisymm <;> omega) | omega)⟩
    refine va_bald hx hb hK hP 1 0 rfl rfl g13 d_MD_at_13 ?_
    refine lv_topi (fun x1 ex1 => ?_)
    refine lv_sipush (v := 255) hx hb d_MD_at_14 (by decide) ?_
    refine lv_iand hx hb d_MD_at_17 ?_
    refine lv_topi (fun x2 ex2 => ?_)
    have tx2 := and255 x1
    rw [← ex2] at tx2
    have bx2 := bn_lt x1
    refine lv_goto (tgt := 22) hx hb d_MD_at_18 (by decide) ?_
    have hP9 := hP.sb (wq := (wz_307 h0 rf tap h0_taped h0_length h0_kind h0_from h0_to h0_word h0_numeral h0_globalNames_r h0_globalPlaces_r h0_globalTypes_r h0_globalValues_r h0_globalCount h0_funs_r h0_funCount h0_open h0_signs h0_levels_r h0_now h0_known_r h0_knownCount h0_loops mad h0_madeLength mag h0_smalls_r h0_greats_r h0_module_r h0_spare_r h0_m h0_cursor h0_limit blk stk h0_top hgt lab ous kis los h0_depth h0_function mem h0_pages glo val h0_valueTop ffu fre fba fla h0_frames lat lhe h0_labelTop h0_steps h0_there rsl h0_resultLength h0_reason h0_place arg h0_argumentCount h0_code tap ctap gtap)) [0, 1] rfl
    have hD9 := hD.sb (wq := (wz_307 h0 rf tap h0_taped h0_length h0_kind h0_from h0_to h0_word h0_numeral h0_globalNames_r h0_globalPlaces_r h0_globalTypes_r h0_globalValues_r h0_globalCount h0_funs_r h0_funCount h0_open h0_signs h0_levels_r h0_now h0_known_r h0_knownCount h0_loops mad h0_madeLength mag h0_smalls_r h0_greats_r h0_module_r h0_spare_r h0_m h0_cursor h0_limit blk stk h0_top hgt lab ous kis los h0_depth h0_function mem h0_pages glo val h0_valueTop ffu fre fba fla h0_frames lat lhe h0_labelTop h0_steps h0_there rsl h0_resultLength h0_reason h0_place arg h0_argumentCount h0_code tap ctap gtap)) [0, 1] (by decide) rfl
    exact W.iret (v := x2) hx hb hr (fun t ht hW => ⟨⟨x2, (), rfl, (⟨fun _ => by rw [tx2, ex1], fun z => absurd z (by (first | (apply Int.le_antisymm <;> omega) | omega)), by (first | (apply Int.le_antisymm <;> omega) | omega), by (first | (apply Int.le_antisymm <;> omega) | omega)⟩), va_P.he ht.symm hP9, va_K.moved hW.alike hK, hD9⟩, hS.F ht⟩) hS.2.2 d_MD_at_22
def lt9 (c : Int) : Prop := (97 ≤ c ∧ c ≤ 122) ∨ (65 ≤ c ∧ c ≤ 90) ∨ c = 95
abbrev b_MD_letter : ByteArray := prog_15_method_3_code
def y_MD_letter : MethodName := ⟨R_MD, "letter", "(I)Z"⟩
abbrev w_MD_letter : List Cond := .code y_MD_letter b_MD_letter 1 (Option.some .boolean) :: lw_g
theorem kC_MD_letter : Cond.code y_MD_letter b_MD_letter 1 (Option.some .boolean) ∈ lw_g := in_c9 215 rfl rfl
theorem d_MD_letter_0 : decode b_MD_letter 0 = .ok (.iload_n 0, 1) := bz_c26 (by decide +kernel)
theorem d_MD_letter_1 : decode b_MD_letter 1 = .ok (.bipush 97, 2) := bz_c16 (by decide +kernel)
theorem d_MD_letter_3 : decode b_MD_letter 3 = .ok (.if_icmp .lt 9, 3) := bz_c161 (by decide +kernel)
theorem d_MD_letter_6 : decode b_MD_letter 6 = .ok (.iload_n 0, 1) := bz_c26 (by decide +kernel)
theorem d_MD_letter_7 : decode b_MD_letter 7 = .ok (.bipush 122, 2) := bz_c16 (by decide +kernel)
theorem d_MD_letter_9 : decode b_MD_letter 9 = .ok (.if_icmp .le 21, 3) := bz_c164 (by decide +kernel)
theorem d_MD_letter_12 : decode b_MD_letter 12 = .ok (.iload_n 0, 1) := bz_c26 (by decide +kernel)
theorem d_MD_letter_13 : decode b_MD_letter 13 = .ok (.bipush 65, 2) := bz_c16 (by decide +kernel)
theorem d_MD_letter_15 : decode b_MD_letter 15 = .ok (.if_icmp .lt 9, 3) := bz_c161 (by decide +kernel)
theorem d_MD_letter_18 : decode b_MD_letter 18 = .ok (.iload_n 0, 1) := bz_c26 (by decide +kernel)
theorem d_MD_letter_19 : decode b_MD_letter 19 = .ok (.bipush 90, 2) := bz_c16 (by decide +kernel)
theorem d_MD_letter_21 : decode b_MD_letter 21 = .ok (.if_icmp .le 9, 3) := bz_c164 (by decide +kernel)
theorem d_MD_letter_24 : decode b_MD_letter 24 = .ok (.iload_n 0, 1) := bz_c26 (by decide +kernel)
theorem d_MD_letter_25 : decode b_MD_letter 25 = .ok (.bipush 95, 2) := bz_c16 (by decide +kernel)
theorem d_MD_letter_27 : decode b_MD_letter 27 = .ok (.if_icmp .ne 7, 3) := bz_c160 (by decide +kernel)
theorem d_MD_letter_30 : decode b_MD_letter 30 = .ok (.iconst 1, 1) := bz_c4 (by decide +kernel)
theorem d_MD_letter_31 : decode b_MD_letter 31 = .ok (.goto 4, 3) := bz_c167 (by decide +kernel)
theorem d_MD_letter_34 : decode b_MD_letter 34 = .ok (.iconst 0, 1) := bz_c3 (by decide +kernel)
theorem d_MD_letter_35 : decode b_MD_letter 35 = .ok (.ireturn, 1) := bz_c172 (by decide +kernel)
abbrev at_MD_letter (dC : Nat → ClassId) (dI : Nat → Nat → Nat)  (A : Nat → Prop) (u : Unit) (t : State) : Prop := match u with | _ => va_P (dC, dI) cls2 [] t.heap ∧ va_K (dC, dI) cls2 [] t ∧ va_D A []
set_option maxHeartbeats 4000000 in
set_option maxRecDepth 100000 in
theorem c_MD_letter (l : Launch) (dC : Nat → ClassId) (dI : Nat → Nat → Nat) (sz : Nat)    (p0 : Int32)   : Met l y_MD_letter w_MD_letter ({ frames := 0, cells := 0, slots := 0, locals := 0 }) (va_Pc [.int p0] (fun U => U.heap.size = sz ∧ va_P (dC, dI) cls2 [] U.heap ∧ va_K (dC, dI) cls2 [] U ∧ va_D (fun _ => True) [])) (va_Qi (fun (r : Int32) (u : Unit) => match u with | _ => (r = 0 ∨ r = 1) ∧ ((r.toInt = 1 → lt9 p0.toInt) ∧ (r.toInt = 0 → ¬ lt9 p0.toInt))) (at_MD_letter dC dI  (va_A [] sz)) (va_A [] sz)) 0 0 (va_A [] sz) := by
  refine Met.ofW (cc := b_MD_letter) (maxL := 1) (ret := (Option.some .boolean)) (by decide) rfl ?_
  intro p e s m args below meth c s₁ B hml hv
  obtain ⟨rfl, hsz, hP, hK, hD0⟩ := hv
  have hx := B.exec
  have hb := B.bytes
  have hr := B.returns
  have hts0 := atoms_spec (ws := w_MD_letter) B.pre
  have hts : ∀ w ∈ lw_g, w.before _ s = true := fun w h => hts0 w (List.mem_cons_of_mem _ h)
  have hown : s.vm.findClass R_MD = some m.cls := findClass_of_methodNamed B.named
  have hlocks := B.notSynchronized
  clear hts0
  subst hsz
  have hD := hD0.self (sz := s.heap.size)
  generalize hAe : va_A [] s.heap.size = A at hD ⊢
  have hA : ∀ q : Nat, s.heap.size ≤ q → A q := fun q h => by rw [← hAe]; exact Or.inr h
  clear hAe
  have hP : va_P (dC, dI) cls2 [] s.heap := hP
  have hl := lv_entry ([.int p0]) (n := 1) (Nat.le_of_ble_eq_true rfl)
  rw [lg_entry_eq]
  generalize (lg_sl ([.int p0]) ++ List.replicate (1 - (lg_sl ([.int p0])).length) Slot.unset).toArray = ls at hl ⊢
  have hl : lv_has ls 1 [(0, .int p0)] := hl
  have k0 : (0 : Int32).toInt = 0 := by decide
  refine w_gen (A := A) hP (fun H locs hP hS => ?_)
  have k1 : (1 : Int32).toInt = 1 := by decide
  have k65 : (65 : Int32).toInt = 65 := by decide
  have k90 : (90 : Int32).toInt = 90 := by decide
  have k95 : (95 : Int32).toInt = 95 := by decide
  have k97 : (97 : Int32).toInt = 97 := by decide
  have k122 : (122 : Int32).toInt = 122 := by decide
  have lo_p0 := i32_lo p0
  have hi_p0 := i32_hi p0
  refine lv_iload_n hx hb d_MD_letter_0 rfl (lv_at hl 0 rfl) ?_
  refine lv_bipush (v := 97) hx hb d_MD_letter_1 (by decide) ?_
  refine lv_icmp_lt (tgt := 12) hx hb d_MD_letter_3 (by decide) (fun c3 => ?_) (fun c3 => ?_)
  · have q3 := ltI c3
    refine lv_iload_n hx hb d_MD_letter_12 rfl (lv_at hl 0 rfl) ?_
    refine lv_bipush (v := 65) hx hb d_MD_letter_13 (by decide) ?_
    refine lv_icmp_lt (tgt := 24) hx hb d_MD_letter_15 (by decide) (fun c15 => ?_) (fun c15 => ?_)
    · have q15 := ltI c15
      refine lv_iload_n hx hb d_MD_letter_24 rfl (lv_at hl 0 rfl) ?_
      refine lv_bipush (v := 95) hx hb d_MD_letter_25 (by decide) ?_
      refine lv_icmp_ne (tgt := 34) hx hb d_MD_letter_27 (by decide) (fun c27 => ?_) (fun c27 => ?_)
      · have q27 := neI c27
        refine lv_iconst (v := 0) hx hb d_MD_letter_34 (by decide) ?_
        have hP9 := hP.sb (wq := []) [] rfl
        have hD9 := hD.sb (wq := []) [] (by decide) rfl
        exact W.zret (v := 0) hx hb hr (zn01 (Or.inl rfl)) (fun t ht hW => ⟨⟨0, (), rfl, ⟨Or.inl rfl, ⟨fun z => absurd z (by decide), fun _ => by unfold lt9; (first | (apply Int.le_antisymm <;> omega) | omega)⟩⟩, va_P.he ht.symm hP9, va_K.moved hW.alike hK, hD9⟩, hS.F ht⟩) hS.2.2 d_MD_letter_35
      · have q27 := eqI c27
        refine lv_iconst (v := 1) hx hb d_MD_letter_30 (by decide) ?_
        refine lv_goto (tgt := 35) hx hb d_MD_letter_31 (by decide) ?_
        have hP9 := hP.sb (wq := []) [] rfl
        have hD9 := hD.sb (wq := []) [] (by decide) rfl
        exact W.zret (v := 1) hx hb hr (zn01 (Or.inr rfl)) (fun t ht hW => ⟨⟨1, (), rfl, ⟨Or.inr rfl, ⟨fun _ => by unfold lt9; (first | (apply Int.le_antisymm <;> omega) | omega), fun z => absurd z (by decide)⟩⟩, va_P.he ht.symm hP9, va_K.moved hW.alike hK, hD9⟩, hS.F ht⟩) hS.2.2 d_MD_letter_35
    · have q15 := nltI c15
      refine lv_iload_n hx hb d_MD_letter_18 rfl (lv_at hl 0 rfl) ?_
      refine lv_bipush (v := 90) hx hb d_MD_letter_19 (by decide) ?_
      refine lv_icmp_le (tgt := 30) hx hb d_MD_letter_21 (by decide) (fun c21 => ?_) (fun c21 => ?_)
      · have q21 := leI c21
        refine lv_iconst (v := 1) hx hb d_MD_letter_30 (by decide) ?_
        refine lv_goto (tgt := 35) hx hb d_MD_letter_31 (by decide) ?_
        have hP9 := hP.sb (wq := []) [] rfl
        have hD9 := hD.sb (wq := []) [] (by decide) rfl
        exact W.zret (v := 1) hx hb hr (zn01 (Or.inr rfl)) (fun t ht hW => ⟨⟨1, (), rfl, ⟨Or.inr rfl, ⟨fun _ => by unfold lt9; (first | (apply Int.le_antisymm <;> omega) | omega), fun z => absurd z (by decide)⟩⟩, va_P.he ht.symm hP9, va_K.moved hW.alike hK, hD9⟩, hS.F ht⟩) hS.2.2 d_MD_letter_35
      · have q21 := nleI c21
        refine lv_iload_n hx hb d_MD_letter_24 rfl (lv_at hl 0 rfl) ?_
        refine lv_bipush (v := 95) hx hb d_MD_letter_25 (by decide) ?_
        refine lv_icmp_ne (tgt := 34) hx hb d_MD_letter_27 (by decide) (fun c27 => ?_) (fun c27 => ?_)
        · have q27 := neI c27
          refine lv_iconst (v := 0) hx hb d_MD_letter_34 (by decide) ?_
          have hP9 := hP.sb (wq := []) [] rfl
          have hD9 := hD.sb (wq := []) [] (by decide) rfl
          exact W.zret (v := 0) hx hb hr (zn01 (Or.inl rfl)) (fun t ht hW => ⟨⟨0, (), rfl, ⟨Or.inl rfl, ⟨fun z => absurd z (by decide), fun _ => by unfold lt9; (first | (apply Int.le_antisymm <;> omega) | omega)⟩⟩, va_P.he ht.symm hP9, va_K.moved hW.alike hK, hD9⟩, hS.F ht⟩) hS.2.2 d_MD_letter_35
        · have q27 := eqI c27
          refine lv_iconst (v := 1) hx hb d_MD_letter_30 (by decide) ?_
          refine lv_goto (tgt := 35) hx hb d_MD_letter_31 (by decide) ?_
          have hP9 := hP.sb (wq := []) [] rfl
          have hD9 := hD.sb (wq := []) [] (by decide) rfl
          exact W.zret (v := 1) hx hb hr (zn01 (Or.inr rfl)) (fun t ht hW => ⟨⟨1, (), rfl, ⟨Or.inr rfl, ⟨fun _ => by unfold lt9; (first | (apply Int.le_antisymm <;> omega) | omega), fun z => absurd z (by decide)⟩⟩, va_P.he ht.symm hP9, va_K.moved hW.alike hK, hD9⟩, hS.F ht⟩) hS.2.2 d_MD_letter_35
  · have q3 := nltI c3
    refine lv_iload_n hx hb d_MD_letter_6 rfl (lv_at hl 0 rfl) ?_
    refine lv_bipush (v := 122) hx hb d_MD_letter_7 (by decide) ?_
    refine lv_icmp_le (tgt := 30) hx hb d_MD_letter_9 (by decide) (fun c9 => ?_) (fun c9 => ?_)
    · have q9 := leI c9
      refine lv_iconst (v := 1) hx hb d_MD_letter_30 (by decide) ?_
      refine lv_goto (tgt := 35) hx hb d_MD_letter_31 (by decide) ?_
      have hP9 := hP.sb (wq := []) [] rfl
      have hD9 := hD.sb (wq := []) [] (by decide) rfl
      exact W.zret (v := 1) hx hb hr (zn01 (Or.inr rfl)) (fun t ht hW => ⟨⟨1, (), rfl, ⟨Or.inr rfl, ⟨fun _ => by unfold lt9; (first | (apply Int.le_antisymm <;> omega) | omega), fun z => absurd z (by decide)⟩⟩, va_P.he ht.symm hP9, va_K.moved hW.alike hK, hD9⟩, hS.F ht⟩) hS.2.2 d_MD_letter_35
    · have q9 := nleI c9
      refine lv_iload_n hx hb d_MD_letter_12 rfl (lv_at hl 0 rfl) ?_
      refine lv_bipush (v := 65) hx hb d_MD_letter_13 (by decide) ?_
      refine lv_icmp_lt (tgt := 24) hx hb d_MD_letter_15 (by decide) (fun c15 => ?_) (fun c15 => ?_)
      · have q15 := ltI c15
        refine lv_iload_n hx hb d_MD_letter_24 rfl (lv_at hl 0 rfl) ?_
        refine lv_bipush (v := 95) hx hb d_MD_letter_25 (by decide) ?_
        refine lv_icmp_ne (tgt := 34) hx hb d_MD_letter_27 (by decide) (fun c27 => ?_) (fun c27 => ?_)
        · have q27 := neI c27
          refine lv_iconst (v := 0) hx hb d_MD_letter_34 (by decide) ?_
          have hP9 := hP.sb (wq := []) [] rfl
          have hD9 := hD.sb (wq := []) [] (by decide) rfl
          exact W.zret (v := 0) hx hb hr (zn01 (Or.inl rfl)) (fun t ht hW => ⟨⟨0, (), rfl, ⟨Or.inl rfl, ⟨fun z => absurd z (by decide), fun _ => by unfold lt9; (first | (apply Int.le_antisymm <;> omega) | omega)⟩⟩, va_P.he ht.symm hP9, va_K.moved hW.alike hK, hD9⟩, hS.F ht⟩) hS.2.2 d_MD_letter_35
        · have q27 := eqI c27
          refine lv_iconst (v := 1) hx hb d_MD_letter_30 (by decide) ?_
          refine lv_goto (tgt := 35) hx hb d_MD_letter_31 (by decide) ?_
          have hP9 := hP.sb (wq := []) [] rfl
          have hD9 := hD.sb (wq := []) [] (by decide) rfl
          exact W.zret (v := 1) hx hb hr (zn01 (Or.inr rfl)) (fun t ht hW => ⟨⟨1, (), rfl, ⟨Or.inr rfl, ⟨fun _ => by unfold lt9; (first | (apply Int.le_antisymm <;> omega) | omega), fun z => absurd z (by decide)⟩⟩, va_P.he ht.symm hP9, va_K.moved hW.alike hK, hD9⟩, hS.F ht⟩) hS.2.2 d_MD_letter_35
      · have q15 := nltI c15
        refine lv_iload_n hx hb d_MD_letter_18 rfl (lv_at hl 0 rfl) ?_
        refine lv_bipush (v := 90) hx hb d_MD_letter_19 (by decide) ?_
        refine lv_icmp_le (tgt := 30) hx hb d_MD_letter_21 (by decide) (fun c21 => ?_) (fun c21 => ?_)
        · have q21 := leI c21
          refine lv_iconst (v := 1) hx hb d_MD_letter_30 (by decide) ?_
          refine lv_goto (tgt := 35) hx hb d_MD_letter_31 (by decide) ?_
          have hP9 := hP.sb (wq := []) [] rfl
          have hD9 := hD.sb (wq := []) [] (by decide) rfl
          exact W.zret (v := 1) hx hb hr (zn01 (Or.inr rfl)) (fun t ht hW => ⟨⟨1, (), rfl, ⟨Or.inr rfl, ⟨fun _ => by unfold lt9; (first | (apply Int.le_antisymm <;> omega) | omega), fun z => absurd z (by decide)⟩⟩, va_P.he ht.symm hP9, va_K.moved hW.alike hK, hD9⟩, hS.F ht⟩) hS.2.2 d_MD_letter_35
        · have q21 := nleI c21
          refine lv_iload_n hx hb d_MD_letter_24 rfl (lv_at hl 0 rfl) ?_
          refine lv_bipush (v := 95) hx hb d_MD_letter_25 (by decide) ?_
          refine lv_icmp_ne (tgt := 34) hx hb d_MD_letter_27 (by decide) (fun c27 => ?_) (fun c27 => ?_)
          · have q27 := neI c27
            refine lv_iconst (v := 0) hx hb d_MD_letter_34 (by decide) ?_
            have hP9 := hP.sb (wq := []) [] rfl
            have hD9 := hD.sb (wq := []) [] (by decide) rfl
            exact W.zret (v := 0) hx hb hr (zn01 (Or.inl rfl)) (fun t ht hW => ⟨⟨0, (), rfl, ⟨Or.inl rfl, ⟨fun z => absurd z (by decide), fun _ => by unfold lt9; (first | (apply Int.le_antisymm <;> omega) | omega)⟩⟩, va_P.he ht.symm hP9, va_K.moved hW.alike hK, hD9⟩, hS.F ht⟩) hS.2.2 d_MD_letter_35
          · have q27 := eqI c27
            refine lv_iconst (v := 1) hx hb d_MD_letter_30 (by decide) ?_
            refine lv_goto (tgt := 35) hx hb d_MD_letter_31 (by decide) ?_
            have hP9 := hP.sb (wq := []) [] rfl
            have hD9 := hD.sb (wq := []) [] (by decide) rfl
            exact W.zret (v := 1) hx hb hr (zn01 (Or.inr rfl)) (fun t ht hW => ⟨⟨1, (), rfl, ⟨Or.inr rfl, ⟨fun _ => by unfold lt9; (first | (apply Int.le_antisymm <;> omega) | omega), fun z => absurd z (by decide)⟩⟩, va_P.he ht.symm hP9, va_K.moved hW.alike hK, hD9⟩, hS.F ht⟩) hS.2.2 d_MD_letter_35
abbrev b_MD_digit : ByteArray := prog_15_method_4_code
def y_MD_digit : MethodName := ⟨R_MD, "digit", "(I)Z"⟩
abbrev w_MD_digit : List Cond := .code y_MD_digit b_MD_digit 1 (Option.some .boolean) :: lw_g
theorem kC_MD_digit : Cond.code y_MD_digit b_MD_digit 1 (Option.some .boolean) ∈ lw_g := in_c10 8 rfl rfl
theorem d_MD_digit_0 : decode b_MD_digit 0 = .ok (.iload_n 0, 1) := bz_c26 (by decide +kernel)
theorem d_MD_digit_1 : decode b_MD_digit 1 = .ok (.bipush 48, 2) := bz_c16 (by decide +kernel)
theorem d_MD_digit_3 : decode b_MD_digit 3 = .ok (.if_icmp .lt 13, 3) := bz_c161 (by decide +kernel)
theorem d_MD_digit_6 : decode b_MD_digit 6 = .ok (.iload_n 0, 1) := bz_c26 (by decide +kernel)
theorem d_MD_digit_7 : decode b_MD_digit 7 = .ok (.bipush 57, 2) := bz_c16 (by decide +kernel)
theorem d_MD_digit_9 : decode b_MD_digit 9 = .ok (.if_icmp .gt 7, 3) := bz_c163 (by decide +kernel)
theorem d_MD_digit_12 : decode b_MD_digit 12 = .ok (.iconst 1, 1) := bz_c4 (by decide +kernel)
theorem d_MD_digit_13 : decode b_MD_digit 13 = .ok (.goto 4, 3) := bz_c167 (by decide +kernel)
theorem d_MD_digit_16 : decode b_MD_digit 16 = .ok (.iconst 0, 1) := bz_c3 (by decide +kernel)
theorem d_MD_digit_17 : decode b_MD_digit 17 = .ok (.ireturn, 1) := bz_c172 (by decide +kernel)
abbrev at_MD_digit (dC : Nat → ClassId) (dI : Nat → Nat → Nat)  (A : Nat → Prop) (u : Unit) (t : State) : Prop := match u with | _ => va_P (dC, dI) cls2 [] t.heap ∧ va_K (dC, dI) cls2 [] t ∧ va_D A []
set_option maxHeartbeats 4000000 in
set_option maxRecDepth 100000 in
theorem c_MD_digit (l : Launch) (dC : Nat → ClassId) (dI : Nat → Nat → Nat) (sz : Nat)    (p0 : Int32)   : Met l y_MD_digit w_MD_digit ({ frames := 0, cells := 0, slots := 0, locals := 0 }) (va_Pc [.int p0] (fun U => U.heap.size = sz ∧ va_P (dC, dI) cls2 [] U.heap ∧ va_K (dC, dI) cls2 [] U ∧ va_D (fun _ => True) [])) (va_Qi (fun (r : Int32) (u : Unit) => match u with | _ => (r = 0 ∨ r = 1) ∧ ((r.toInt = 1 → 48 ≤ p0.toInt ∧ p0.toInt ≤ 57) ∧ (r.toInt = 0 → p0.toInt < 48 ∨ 57 < p0.toInt))) (at_MD_digit dC dI  (va_A [] sz)) (va_A [] sz)) 0 0 (va_A [] sz) := by
  refine Met.ofW (cc := b_MD_digit) (maxL := 1) (ret := (Option.some .boolean)) (by decide) rfl ?_
  intro p e s m args below meth c s₁ B hml hv
  obtain ⟨rfl, hsz, hP, hK, hD0⟩ := hv
  have hx := B.exec
  have hb := B.bytes
  have hr := B.returns
  have hts0 := atoms_spec (ws := w_MD_digit) B.pre
  have hts : ∀ w ∈ lw_g, w.before _ s = true := fun w h => hts0 w (List.mem_cons_of_mem _ h)
  have hown : s.vm.findClass R_MD = some m.cls := findClass_of_methodNamed B.named
  have hlocks := B.notSynchronized
  clear hts0
  subst hsz
  have hD := hD0.self (sz := s.heap.size)
  generalize hAe : va_A [] s.heap.size = A at hD ⊢
  have hA : ∀ q : Nat, s.heap.size ≤ q → A q := fun q h => by rw [← hAe]; exact Or.inr h
  clear hAe
  have hP : va_P (dC, dI) cls2 [] s.heap := hP
  have hl := lv_entry ([.int p0]) (n := 1) (Nat.le_of_ble_eq_true rfl)
  rw [lg_entry_eq]
  generalize (lg_sl ([.int p0]) ++ List.replicate (1 - (lg_sl ([.int p0])).length) Slot.unset).toArray = ls at hl ⊢
  have hl : lv_has ls 1 [(0, .int p0)] := hl
  have k0 : (0 : Int32).toInt = 0 := by decide
  refine w_gen (A := A) hP (fun H locs hP hS => ?_)
  have k1 : (1 : Int32).toInt = 1 := by decide
  have k48 : (48 : Int32).toInt = 48 := by decide
  have k57 : (57 : Int32).toInt = 57 := by decide
  have lo_p0 := i32_lo p0
  have hi_p0 := i32_hi p0
  refine lv_iload_n hx hb d_MD_digit_0 rfl (lv_at hl 0 rfl) ?_
  refine lv_bipush (v := 48) hx hb d_MD_digit_1 (by decide) ?_
  refine lv_icmp_lt (tgt := 16) hx hb d_MD_digit_3 (by decide) (fun c3 => ?_) (fun c3 => ?_)
  · have q3 := ltI c3
    refine lv_iconst (v := 0) hx hb d_MD_digit_16 (by decide) ?_
    have hP9 := hP.sb (wq := []) [] rfl
    have hD9 := hD.sb (wq := []) [] (by decide) rfl
    exact W.zret (v := 0) hx hb hr (zn01 (Or.inl rfl)) (fun t ht hW => ⟨⟨0, (), rfl, ⟨Or.inl rfl, ⟨fun z => absurd z (by decide), fun _ => by (first | (apply Int.le_antisymm <;> omega) | omega)⟩⟩, va_P.he ht.symm hP9, va_K.moved hW.alike hK, hD9⟩, hS.F ht⟩) hS.2.2 d_MD_digit_17
  · have q3 := nltI c3
    refine lv_iload_n hx hb d_MD_digit_6 rfl (lv_at hl 0 rfl) ?_
    refine lv_bipush (v := 57) hx hb d_MD_digit_7 (by decide) ?_
    refine lv_icmp_gt (tgt := 16) hx hb d_MD_digit_9 (by decide) (fun c9 => ?_) (fun c9 => ?_)
    · have q9 := ltI c9
      refine lv_iconst (v := 0) hx hb d_MD_digit_16 (by decide) ?_
      have hP9 := hP.sb (wq := []) [] rfl
      have hD9 := hD.sb (wq := []) [] (by decide) rfl
      exact W.zret (v := 0) hx hb hr (zn01 (Or.inl rfl)) (fun t ht hW => ⟨⟨0, (), rfl, ⟨Or.inl rfl, ⟨fun z => absurd z (by decide), fun _ => by (first | (apply Int.le_antisymm <;> omega) | omega)⟩⟩, va_P.he ht.symm hP9, va_K.moved hW.alike hK, hD9⟩, hS.F ht⟩) hS.2.2 d_MD_digit_17
    · have q9 := nltI c9
      refine lv_iconst (v := 1) hx hb d_MD_digit_12 (by decide) ?_
      refine lv_goto (tgt := 17) hx hb d_MD_digit_13 (by decide) ?_
      have hP9 := hP.sb (wq := []) [] rfl
      have hD9 := hD.sb (wq := []) [] (by decide) rfl
      exact W.zret (v := 1) hx hb hr (zn01 (Or.inr rfl)) (fun t ht hW => ⟨⟨1, (), rfl, ⟨Or.inr rfl, ⟨fun _ => by (first | (apply Int.le_antisymm <;> omega) | omega), fun z => absurd z (by decide)⟩⟩, va_P.he ht.symm hP9, va_K.moved hW.alike hK, hD9⟩, hS.F ht⟩) hS.2.2 d_MD_digit_17
abbrev b_MD_can : ByteArray := prog_15_method_10_code
def y_MD_can : MethodName := ⟨R_MD, "can", "(Z)V"⟩
abbrev w_MD_can : List Cond := .code y_MD_can b_MD_can 2 none :: lw_g
theorem kC_MD_can : Cond.code y_MD_can b_MD_can 2 none ∈ lw_g := in_c11 104 rfl rfl
theorem d_MD_can_0 : decode b_MD_can 0 = .ok (.iload_n 1, 1) := bz_c27 (by decide +kernel)
theorem d_MD_can_1 : decode b_MD_can 1 = .ok (.ifCond .ne 13, 3) := bz_c154 (by decide +kernel)
theorem d_MD_can_4 : decode b_MD_can 4 = .ok (.aload_n 0, 1) := bz_c42 (by decide +kernel)
theorem d_MD_can_5 : decode b_MD_can 5 = .ok (.iconst 1, 1) := bz_c4 (by decide +kernel)
theorem d_MD_can_6 : decode b_MD_can 6 = .ok (.aload_n 0, 1) := bz_c42 (by decide +kernel)
theorem d_MD_can_7 : decode b_MD_can 7 = .ok (.getfield 30, 3) := bz_c180 (by decide +kernel)
theorem d_MD_can_10 : decode b_MD_can 10 = .ok (.invokevirtual 115, 3) := bz_c182 (by decide +kernel)
theorem d_MD_can_13 : decode b_MD_can 13 = .ok (.athrow, 1) := bz_c191 (by decide +kernel)
theorem d_MD_can_14 : decode b_MD_can 14 = .ok (.return_, 1) := bz_c177 (by decide +kernel)
theorem kF_MD_30 : Cond.fieldLink R_MD 30 "WaferForgeModel" "from" "I" ∈ lw_g := in_c8 226 rfl rfl
abbrev at_MD_can (dC : Nat → ClassId) (dI : Nat → Nat → Nat) (h0 rf tap h0_globalNames_r h0_globalPlaces_r h0_globalTypes_r h0_globalValues_r h0_funs_r h0_levels_r h0_known_r mad mag h0_smalls_r h0_greats_r h0_module_r h0_spare_r blk stk hgt lab ous kis los mem glo val ffu fre fba fla lat lhe rsl arg : Nat) (h0_taped : Int32) (h0_length : Int32) (h0_kind : Int32) (h0_from : Int32) (h0_to : Int32) (h0_word : Value) (h0_numeral : Int64) (h0_globalCount : Int32) (h0_funCount : Int32) (h0_open : Int32) (h0_signs : Int32) (h0_now : Value) (h0_knownCount : Int32) (h0_loops : Int32) (h0_madeLength : Int32) (h0_m : Value) (h0_cursor : Int32) (h0_limit : Int32) (h0_top : Int32) (h0_depth : Int32) (h0_function : Int32) (h0_pages : Int32) (h0_valueTop : Int32) (h0_frames : Int32) (h0_labelTop : Int32) (h0_steps : Int32) (h0_there : Int32) (h0_resultLength : Int32) (h0_reason : Int32) (h0_place : Int32) (h0_argumentCount : Int32) (h0_code : Int32) (rf_backtrace : Value) (rf_detailMessage : Value) (rf_cause : Value) (rf_stackTrace : Value) (rf_depth : Int32) (rf_suppressedExceptions : Value) (A : Nat → Prop) (u : Int32 × Int32) (t : State) : Prop := match u with | (rf_place, rf_reason) => va_P (dC, dI) cls2 (wz_301 h0 rf tap h0_taped h0_length h0_kind h0_from h0_to h0_word h0_numeral h0_globalNames_r h0_globalPlaces_r h0_globalTypes_r h0_globalValues_r h0_globalCount h0_funs_r h0_funCount h0_open h0_signs h0_levels_r h0_now h0_known_r h0_knownCount h0_loops mad h0_madeLength mag h0_smalls_r h0_greats_r h0_module_r h0_spare_r h0_m h0_cursor h0_limit blk stk h0_top hgt lab ous kis los h0_depth h0_function mem h0_pages glo val h0_valueTop ffu fre fba fla h0_frames lat lhe h0_labelTop h0_steps h0_there rsl h0_resultLength h0_reason h0_place arg h0_argumentCount h0_code rf rf_backtrace rf_detailMessage rf_cause rf_stackTrace rf_depth rf_suppressedExceptions rf_reason rf_place) t.heap ∧ va_K (dC, dI) cls2 [] t ∧ va_D A (wz_301 h0 rf tap h0_taped h0_length h0_kind h0_from h0_to h0_word h0_numeral h0_globalNames_r h0_globalPlaces_r h0_globalTypes_r h0_globalValues_r h0_globalCount h0_funs_r h0_funCount h0_open h0_signs h0_levels_r h0_now h0_known_r h0_knownCount h0_loops mad h0_madeLength mag h0_smalls_r h0_greats_r h0_module_r h0_spare_r h0_m h0_cursor h0_limit blk stk h0_top hgt lab ous kis los h0_depth h0_function mem h0_pages glo val h0_valueTop ffu fre fba fla h0_frames lat lhe h0_labelTop h0_steps h0_there rsl h0_resultLength h0_reason h0_place arg h0_argumentCount h0_code rf rf_backtrace rf_detailMessage rf_cause rf_stackTrace rf_depth rf_suppressedExceptions rf_reason rf_place)
set_option maxHeartbeats 4000000 in
set_option maxRecDepth 100000 in
theorem c_MD_can (l : Launch) (hlt : l.stackTraces = false) (dC : Nat → ClassId) (dI : Nat → Nat → Nat) (sz : Nat) (h0 rf tap h0_globalNames_r h0_globalPlaces_r h0_globalTypes_r h0_globalValues_r h0_funs_r h0_levels_r h0_known_r mad mag h0_smalls_r h0_greats_r h0_module_r h0_spare_r blk stk hgt lab ous kis los mem glo val ffu fre fba fla lat lhe rsl arg : Nat) (h0_taped : Int32) (h0_length : Int32) (h0_kind : Int32) (h0_from : Int32) (h0_to : Int32) (h0_word : Value) (h0_numeral : Int64) (h0_globalCount : Int32) (h0_funCount : Int32) (h0_open : Int32) (h0_signs : Int32) (h0_now : Value) (h0_knownCount : Int32) (h0_loops : Int32) (h0_madeLength : Int32) (h0_m : Value) (h0_cursor : Int32) (h0_limit : Int32) (h0_top : Int32) (h0_depth : Int32) (h0_function : Int32) (h0_pages : Int32) (h0_valueTop : Int32) (h0_frames : Int32) (h0_labelTop : Int32) (h0_steps : Int32) (h0_there : Int32) (h0_resultLength : Int32) (h0_reason : Int32) (h0_place : Int32) (h0_argumentCount : Int32) (h0_code : Int32) (rf_backtrace : Value) (rf_detailMessage : Value) (rf_cause : Value) (rf_stackTrace : Value) (rf_depth : Int32) (rf_suppressedExceptions : Value) (rf_reason : Int32) (rf_place : Int32)  (b_h0_from : 0 ≤ h0_from.toInt ∧ h0_from.toInt ≤ 2000) (p0 : Int32) (ba0 : p0 = 0 ∨ p0 = 1)  : tz_Met l y_MD_can w_MD_can ({ frames := 1, cells := 0, slots := 0, locals := 22 }) (va_Pc [.ref h0, .int p0] (fun U => U.heap.size = sz ∧ va_P (dC, dI) cls2 (wz_301 h0 rf tap h0_taped h0_length h0_kind h0_from h0_to h0_word h0_numeral h0_globalNames_r h0_globalPlaces_r h0_globalTypes_r h0_globalValues_r h0_globalCount h0_funs_r h0_funCount h0_open h0_signs h0_levels_r h0_now h0_known_r h0_knownCount h0_loops mad h0_madeLength mag h0_smalls_r h0_greats_r h0_module_r h0_spare_r h0_m h0_cursor h0_limit blk stk h0_top hgt lab ous kis los h0_depth h0_function mem h0_pages glo val h0_valueTop ffu fre fba fla h0_frames lat lhe h0_labelTop h0_steps h0_there rsl h0_resultLength h0_reason h0_place arg h0_argumentCount h0_code rf rf_backtrace rf_detailMessage rf_cause rf_stackTrace rf_depth rf_suppressedExceptions rf_reason rf_place) U.heap ∧ va_K (dC, dI) cls2 [] U ∧ va_D (fun _ => True) (wz_301 h0 rf tap h0_taped h0_length h0_kind h0_from h0_to h0_word h0_numeral h0_globalNames_r h0_globalPlaces_r h0_globalTypes_r h0_globalValues_r h0_globalCount h0_funs_r h0_funCount h0_open h0_signs h0_levels_r h0_now h0_known_r h0_knownCount h0_loops mad h0_madeLength mag h0_smalls_r h0_greats_r h0_module_r h0_spare_r h0_m h0_cursor h0_limit blk stk h0_top hgt lab ous kis los h0_depth h0_function mem h0_pages glo val h0_valueTop ffu fre fba fla h0_frames lat lhe h0_labelTop h0_steps h0_there rsl h0_resultLength h0_reason h0_place arg h0_argumentCount h0_code rf rf_backtrace rf_detailMessage rf_cause rf_stackTrace rf_depth rf_suppressedExceptions rf_reason rf_place) ∧ sw_nest U)) (tq_Q (tr_v (fun (u : Int32 × Int32) => match u with | (rf_place2, rf_reason2) => (p0 = 1)) rf "WaferForgeModel$Refused" (fun (u : Int32 × Int32) => match u with | (rf_place2, rf_reason2) => (p0 = 0))) (at_MD_can dC dI h0 rf tap h0_globalNames_r h0_globalPlaces_r h0_globalTypes_r h0_globalValues_r h0_funs_r h0_levels_r h0_known_r mad mag h0_smalls_r h0_greats_r h0_module_r h0_spare_r blk stk hgt lab ous kis los mem glo val ffu fre fba fla lat lhe rsl arg h0_taped h0_length h0_kind h0_from h0_to h0_word h0_numeral h0_globalCount h0_funCount h0_open h0_signs h0_now h0_knownCount h0_loops h0_madeLength h0_m h0_cursor h0_limit h0_top h0_depth h0_function h0_pages h0_valueTop h0_frames h0_labelTop h0_steps h0_there h0_resultLength h0_reason h0_place h0_argumentCount h0_code rf_backtrace rf_detailMessage rf_cause rf_stackTrace rf_depth rf_suppressedExceptions (va_A (wz_301 h0 rf tap h0_taped h0_length h0_kind h0_from h0_to h0_word h0_numeral h0_globalNames_r h0_globalPlaces_r h0_globalTypes_r h0_globalValues_r h0_globalCount h0_funs_r h0_funCount h0_open h0_signs h0_levels_r h0_now h0_known_r h0_knownCount h0_loops mad h0_madeLength mag h0_smalls_r h0_greats_r h0_module_r h0_spare_r h0_m h0_cursor h0_limit blk stk h0_top hgt lab ous kis los h0_depth h0_function mem h0_pages glo val h0_valueTop ffu fre fba fla h0_frames lat lhe h0_labelTop h0_steps h0_there rsl h0_resultLength h0_reason h0_place arg h0_argumentCount h0_code rf rf_backtrace rf_detailMessage rf_cause rf_stackTrace rf_depth rf_suppressedExceptions rf_reason rf_place) sz)) (va_A (wz_301 h0 rf tap h0_taped h0_length h0_kind h0_from h0_to h0_word h0_numeral h0_globalNames_r h0_globalPlaces_r h0_globalTypes_r h0_globalValues_r h0_globalCount h0_funs_r h0_funCount h0_open h0_signs h0_levels_r h0_now h0_known_r h0_knownCount h0_loops mad h0_madeLength mag h0_smalls_r h0_greats_r h0_module_r h0_spare_r h0_m h0_cursor h0_limit blk stk h0_top hgt lab ous kis los h0_depth h0_function mem h0_pages glo val h0_valueTop ffu fre fba fla h0_frames lat lhe h0_labelTop h0_steps h0_there rsl h0_resultLength h0_reason h0_place arg h0_argumentCount h0_code rf rf_backtrace rf_detailMessage rf_cause rf_stackTrace rf_depth rf_suppressedExceptions rf_reason rf_place) sz)) (tz_k 0 0 0 0) (va_A (wz_301 h0 rf tap h0_taped h0_length h0_kind h0_from h0_to h0_word h0_numeral h0_globalNames_r h0_globalPlaces_r h0_globalTypes_r h0_globalValues_r h0_globalCount h0_funs_r h0_funCount h0_open h0_signs h0_levels_r h0_now h0_known_r h0_knownCount h0_loops mad h0_madeLength mag h0_smalls_r h0_greats_r h0_module_r h0_spare_r h0_m h0_cursor h0_limit blk stk h0_top hgt lab ous kis los h0_depth h0_function mem h0_pages glo val h0_valueTop ffu fre fba fla h0_frames lat lhe h0_labelTop h0_steps h0_there rsl h0_resultLength h0_reason h0_place arg h0_argumentCount h0_code rf rf_backtrace rf_detailMessage rf_cause rf_stackTrace rf_depth rf_suppressedExceptions rf_reason rf_place) sz) := by
  refine tz_ofW (cc := b_MD_can) (maxL := 2) (ret := none) (by decide) rfl ?_
  intro p e s m args below meth c s₁ B hml hno hv
  obtain ⟨rfl, hsz, hP, hK, hD0, hSW⟩ := hv
  have hx := B.exec
  have hb := B.bytes
  have hr := B.returns
  have hts0 := atoms_spec (ws := w_MD_can) B.pre
  have hts : ∀ w ∈ lw_g, w.before _ s = true := fun w h => hts0 w (List.mem_cons_of_mem _ h)
  have hown : s.vm.findClass R_MD = some m.cls := findClass_of_methodNamed B.named
  have hlocks := B.notSynchronized
  clear hts0
  subst hsz
  have hD := hD0.self (sz := s.heap.size)
  generalize hAe : va_A (wz_301 h0 rf tap h0_taped h0_length h0_kind h0_from h0_to h0_word h0_numeral h0_globalNames_r h0_globalPlaces_r h0_globalTypes_r h0_globalValues_r h0_globalCount h0_funs_r h0_funCount h0_open h0_signs h0_levels_r h0_now h0_known_r h0_knownCount h0_loops mad h0_madeLength mag h0_smalls_r h0_greats_r h0_module_r h0_spare_r h0_m h0_cursor h0_limit blk stk h0_top hgt lab ous kis los h0_depth h0_function mem h0_pages glo val h0_valueTop ffu fre fba fla h0_frames lat lhe h0_labelTop h0_steps h0_there rsl h0_resultLength h0_reason h0_place arg h0_argumentCount h0_code rf rf_backtrace rf_detailMessage rf_cause rf_stackTrace rf_depth rf_suppressedExceptions rf_reason rf_place) s.heap.size = A at hD ⊢
  have hA : ∀ q : Nat, s.heap.size ≤ q → A q := fun q h => by rw [← hAe]; exact Or.inr h
  clear hAe
  have hP : va_P (dC, dI) cls2 (wz_301 h0 rf tap h0_taped h0_length h0_kind h0_from h0_to h0_word h0_numeral h0_globalNames_r h0_globalPlaces_r h0_globalTypes_r h0_globalValues_r h0_globalCount h0_funs_r h0_funCount h0_open h0_signs h0_levels_r h0_now h0_known_r h0_knownCount h0_loops mad h0_madeLength mag h0_smalls_r h0_greats_r h0_module_r h0_spare_r h0_m h0_cursor h0_limit blk stk h0_top hgt lab ous kis los h0_depth h0_function mem h0_pages glo val h0_valueTop ffu fre fba fla h0_frames lat lhe h0_labelTop h0_steps h0_there rsl h0_resultLength h0_reason h0_place arg h0_argumentCount h0_code rf rf_backtrace rf_detailMessage rf_cause rf_stackTrace rf_depth rf_suppressedExceptions rf_reason rf_place) s.heap := hP
  have hl := lv_entry ([.ref h0, .int p0]) (n := 2) (Nat.le_of_ble_eq_true rfl)
  rw [lg_entry_eq]
  generalize (lg_sl ([.ref h0, .int p0]) ++ List.replicate (2 - (lg_sl ([.ref h0, .int p0])).length) Slot.unset).toArray = ls at hl ⊢
  have hl : lv_has ls 2 [(0, .ref h0), (1, .int p0)] := hl
  have k0 : (0 : Int32).toInt = 0 := by decide
  refine w_gen (A := A) hP (fun H locs hP hS => ?_)
  have k1 : (1 : Int32).toInt = 1 := by decide
  have lo_p0 := i32_lo p0
  have hi_p0 := i32_hi p0
  have tp0 := b01 ba0
  refine lv_iload_n hx hb d_MD_can_0 rfl (lv_at hl 1 rfl) ?_
  refine lv_if_ne (tgt := 14) hx hb d_MD_can_1 (by decide) (fun c1 => ?_) (fun c1 => ?_)
  · have q1 := neI c1
    have hP9 := hP.sb (wq := (wz_301 h0 rf tap h0_taped h0_length h0_kind h0_from h0_to h0_word h0_numeral h0_globalNames_r h0_globalPlaces_r h0_globalTypes_r h0_globalValues_r h0_globalCount h0_funs_r h0_funCount h0_open h0_signs h0_levels_r h0_now h0_known_r h0_knownCount h0_loops mad h0_madeLength mag h0_smalls_r h0_greats_r h0_module_r h0_spare_r h0_m h0_cursor h0_limit blk stk h0_top hgt lab ous kis los h0_depth h0_function mem h0_pages glo val h0_valueTop ffu fre fba fla h0_frames lat lhe h0_labelTop h0_steps h0_there rsl h0_resultLength h0_reason h0_place arg h0_argumentCount h0_code rf rf_backtrace rf_detailMessage rf_cause rf_stackTrace rf_depth rf_suppressedExceptions rf_reason rf_place)) [0, 1] rfl
    have hD9 := hD.sb (wq := (wz_301 h0 rf tap h0_taped h0_length h0_kind h0_from h0_to h0_word h0_numeral h0_globalNames_r h0_globalPlaces_r h0_globalTypes_r h0_globalValues_r h0_globalCount h0_funs_r h0_funCount h0_open h0_signs h0_levels_r h0_now h0_known_r h0_knownCount h0_loops mad h0_madeLength mag h0_smalls_r h0_greats_r h0_module_r h0_spare_r h0_m h0_cursor h0_limit blk stk h0_top hgt lab ous kis los h0_depth h0_function mem h0_pages glo val h0_valueTop ffu fre fba fla h0_frames lat lhe h0_labelTop h0_steps h0_there rsl h0_resultLength h0_reason h0_place arg h0_argumentCount h0_code rf rf_backtrace rf_detailMessage rf_cause rf_stackTrace rf_depth rf_suppressedExceptions rf_reason rf_place)) [0, 1] (by decide) rfl
    exact tz_up (fun _ => rfl) (W.vret hx hb hr (fun t ht hW => ⟨⟨(rf_place, rf_reason), ⟨rfl, (b1_of ba0 (by (first | (apply Int.le_antisymm <;> omega) | omega)))⟩, va_P.he ht.symm hP9, va_K.moved hW.alike hK, hD9⟩, hS.F ht⟩) hS.2.2 d_MD_can_14)
  · have q1 := eqI c1
    refine lv_aload_n hx hb d_MD_can_4 rfl (lv_at hl 0 rfl) ?_
    refine lv_iconst (v := 1) hx hb d_MD_can_5 (by decide) ?_
    refine lv_aload_n hx hb d_MD_can_6 rfl (lv_at hl 0 rfl) ?_
    refine va_get (D := (dC, dI)) (ci := 11) (v := .int h0_from) (C := R_MD) (T := F_MD) (N := 65) hx hb hts i_MD hown hK hP 0 rfl rfl 5 (by decide) (hts _ kF_MD_30) (fun _ h9 => h9) rfl d_MD_can_7 ?_
    have hPc := hP.sb (wq := (wz_301 h0 rf tap h0_taped h0_length h0_kind h0_from h0_to h0_word h0_numeral h0_globalNames_r h0_globalPlaces_r h0_globalTypes_r h0_globalValues_r h0_globalCount h0_funs_r h0_funCount h0_open h0_signs h0_levels_r h0_now h0_known_r h0_knownCount h0_loops mad h0_madeLength mag h0_smalls_r h0_greats_r h0_module_r h0_spare_r h0_m h0_cursor h0_limit blk stk h0_top hgt lab ous kis los h0_depth h0_function mem h0_pages glo val h0_valueTop ffu fre fba fla h0_frames lat lhe h0_labelTop h0_steps h0_there rsl h0_resultLength h0_reason h0_place arg h0_argumentCount h0_code rf rf_backtrace rf_detailMessage rf_cause rf_stackTrace rf_depth rf_suppressedExceptions rf_reason rf_place)) [0, 1] rfl
    have hDc := hD.sb (wq := (wz_301 h0 rf tap h0_taped h0_length h0_kind h0_from h0_to h0_word h0_numeral h0_globalNames_r h0_globalPlaces_r h0_globalTypes_r h0_globalValues_r h0_globalCount h0_funs_r h0_funCount h0_open h0_signs h0_levels_r h0_now h0_known_r h0_knownCount h0_loops mad h0_madeLength mag h0_smalls_r h0_greats_r h0_module_r h0_spare_r h0_m h0_cursor h0_limit blk stk h0_top hgt lab ous kis los h0_depth h0_function mem h0_pages glo val h0_valueTop ffu fre fba fla h0_frames lat lhe h0_labelTop h0_steps h0_there rsl h0_resultLength h0_reason h0_place arg h0_argumentCount h0_code rf rf_backtrace rf_detailMessage rf_cause rf_stackTrace rf_depth rf_suppressedExceptions rf_reason rf_place)) [0, 1] (by decide) rfl
    have hKc := hK.sb (tyq := []) [] rfl
    have hFc := va_free (wc := (wz_301 h0 rf tap h0_taped h0_length h0_kind h0_from h0_to h0_word h0_numeral h0_globalNames_r h0_globalPlaces_r h0_globalTypes_r h0_globalValues_r h0_globalCount h0_funs_r h0_funCount h0_open h0_signs h0_levels_r h0_now h0_known_r h0_knownCount h0_loops mad h0_madeLength mag h0_smalls_r h0_greats_r h0_module_r h0_spare_r h0_m h0_cursor h0_limit blk stk h0_top hgt lab ous kis los h0_depth h0_function mem h0_pages glo val h0_valueTop ffu fre fba fla h0_frames lat lhe h0_labelTop h0_steps h0_there rsl h0_resultLength h0_reason h0_place arg h0_argumentCount h0_code rf rf_backtrace rf_detailMessage rf_cause rf_stackTrace rf_depth rf_suppressedExceptions rf_reason rf_place)) hD hS hA [0, 1] rfl
    refine va_callr (va_runV (As := [.int 1, .int h0_from]) (rest := []) ⟨hx, hb, hml, hown, hts⟩ (c_MD_no l dC dI H.size h0 rf tap h0_globalNames_r h0_globalPlaces_r h0_globalTypes_r h0_globalValues_r h0_funs_r h0_levels_r h0_known_r mad mag h0_smalls_r h0_greats_r h0_module_r h0_spare_r blk stk hgt lab ous kis los mem glo val ffu fre fba fla lat lhe rsl arg h0_taped h0_length h0_kind h0_from h0_to h0_word h0_numeral h0_globalCount h0_funCount h0_open h0_signs h0_now h0_knownCount h0_loops h0_madeLength h0_m h0_cursor h0_limit h0_top h0_depth h0_function h0_pages h0_valueTop h0_frames h0_labelTop h0_steps h0_there h0_resultLength h0_reason h0_place h0_argumentCount h0_code rf_backtrace rf_detailMessage rf_cause rf_stackTrace rf_depth rf_suppressedExceptions rf_reason rf_place 1 h0_from) (cwV 2 hts (gV kM_MD_115 kV_MD_no kS_MD_no kI_MD kC_MD_no) rfl rfl rfl (by decide +kernel) ⟨Nat.le_of_ble_eq_true rfl, Nat.le_of_ble_eq_true rfl⟩) ⟨fun a U g mk z => by obtain ⟨z0, z1, zP, zK, zD, zS⟩ := z; exact ⟨z0, z1, zP, va_K.moved (u := U) (U := U.calling g mk a) (Vm.Alike.refl U.vm) zK, zD, sw_nest.same (s := U) (U := U.calling g mk a) rfl zS⟩, va_recv hKc hPc (ci := 11) (q0 := 0) rfl rfl, fun U hU hW => ⟨rfl, by rw [hU], va_P.he hU.symm hPc, va_K.moved hW.alike hKc, hDc.weaken (fun _ _ _ _ => trivial), hSW.warm hW⟩⟩ rfl rfl hl.1 rfl (lv_room (Nat.le_of_ble_eq_true rfl)) d_MD_can_10 ⟨(Nat.zero_le _), (Nat.zero_le _)⟩) hS (fun q _ h => hFc q h) hFc (fun u ra t H1 locs ht hvm hw hB hz1 hk1 hS => ?_)
    obtain ⟨rfl, hB⟩ := hB
    obtain ⟨n2, n3⟩ := u
    try dsimp only at hw
    have xr1 := hw
    try clear hw
    obtain ⟨hP1, hK1, hD1⟩ := hB
    replace hP1 := va_P.he ht hP1
    obtain ⟨hP, hD⟩ := va_join (wr := []) (w1 := (wz_301 h0 rf tap h0_taped h0_length h0_kind h0_from h0_to h0_word h0_numeral h0_globalNames_r h0_globalPlaces_r h0_globalTypes_r h0_globalValues_r h0_globalCount h0_funs_r h0_funCount h0_open h0_signs h0_levels_r h0_now h0_known_r h0_knownCount h0_loops mad h0_madeLength mag h0_smalls_r h0_greats_r h0_module_r h0_spare_r h0_m h0_cursor h0_limit blk stk h0_top hgt lab ous kis los h0_depth h0_function mem h0_pages glo val h0_valueTop ffu fre fba fla h0_frames lat lhe h0_labelTop h0_steps h0_there rsl h0_resultLength h0_reason h0_place arg h0_argumentCount h0_code rf rf_backtrace rf_detailMessage rf_cause rf_stackTrace rf_depth rf_suppressedExceptions n3 n2)) hP hD [0, 1] [] rfl rfl (by decide) (by decide) hk1 hFc hP1 hD1
    clear hPc hDc hKc hFc hz1 hk1 hP1 hK1 hD1
    rename Heap => H
    have hP : va_P (dC, dI) cls2 (wz_301 h0 rf tap h0_taped h0_length h0_kind h0_from h0_to h0_word h0_numeral h0_globalNames_r h0_globalPlaces_r h0_globalTypes_r h0_globalValues_r h0_globalCount h0_funs_r h0_funCount h0_open h0_signs h0_levels_r h0_now h0_known_r h0_knownCount h0_loops mad h0_madeLength mag h0_smalls_r h0_greats_r h0_module_r h0_spare_r h0_m h0_cursor h0_limit blk stk h0_top hgt lab ous kis los h0_depth h0_function mem h0_pages glo val h0_valueTop ffu fre fba fla h0_frames lat lhe h0_labelTop h0_steps h0_there rsl h0_resultLength h0_reason h0_place arg h0_argumentCount h0_code rf rf_backtrace rf_detailMessage rf_cause rf_stackTrace rf_depth rf_suppressedExceptions n3 n2) H := hP
    have hD : va_D A (wz_301 h0 rf tap h0_taped h0_length h0_kind h0_from h0_to h0_word h0_numeral h0_globalNames_r h0_globalPlaces_r h0_globalTypes_r h0_globalValues_r h0_globalCount h0_funs_r h0_funCount h0_open h0_signs h0_levels_r h0_now h0_known_r h0_knownCount h0_loops mad h0_madeLength mag h0_smalls_r h0_greats_r h0_module_r h0_spare_r h0_m h0_cursor h0_limit blk stk h0_top hgt lab ous kis los h0_depth h0_function mem h0_pages glo val h0_valueTop ffu fre fba fla h0_frames lat lhe h0_labelTop h0_steps h0_there rsl h0_resultLength h0_reason h0_place arg h0_argumentCount h0_code rf rf_backtrace rf_detailMessage rf_cause rf_stackTrace rf_depth rf_suppressedExceptions n3 n2) := hD
    have hP9 := hP.sb (wq := (wz_301 h0 rf tap h0_taped h0_length h0_kind h0_from h0_to h0_word h0_numeral h0_globalNames_r h0_globalPlaces_r h0_globalTypes_r h0_globalValues_r h0_globalCount h0_funs_r h0_funCount h0_open h0_signs h0_levels_r h0_now h0_known_r h0_knownCount h0_loops mad h0_madeLength mag h0_smalls_r h0_greats_r h0_module_r h0_spare_r h0_m h0_cursor h0_limit blk stk h0_top hgt lab ous kis los h0_depth h0_function mem h0_pages glo val h0_valueTop ffu fre fba fla h0_frames lat lhe h0_labelTop h0_steps h0_there rsl h0_resultLength h0_reason h0_place arg h0_argumentCount h0_code rf rf_backtrace rf_detailMessage rf_cause rf_stackTrace rf_depth rf_suppressedExceptions n3 n2)) [0, 1] rfl
    have hD9 := hD.sb (wq := (wz_301 h0 rf tap h0_taped h0_length h0_kind h0_from h0_to h0_word h0_numeral h0_globalNames_r h0_globalPlaces_r h0_globalTypes_r h0_globalValues_r h0_globalCount h0_funs_r h0_funCount h0_open h0_signs h0_levels_r h0_now h0_known_r h0_knownCount h0_loops mad h0_madeLength mag h0_smalls_r h0_greats_r h0_module_r h0_spare_r h0_m h0_cursor h0_limit blk stk h0_top hgt lab ous kis los h0_depth h0_function mem h0_pages glo val h0_valueTop ffu fre fba fla h0_frames lat lhe h0_labelTop h0_steps h0_there rsl h0_resultLength h0_reason h0_place arg h0_argumentCount h0_code rf rf_backtrace rf_detailMessage rf_cause rf_stackTrace rf_depth rf_suppressedExceptions n3 n2)) [0, 1] (by decide) rfl
    exact tz_athrow rfl hx hb hno hlocks (fun t ht hW => ⟨⟨(n2, n3), ⟨(b0_of ba0 (by (first | (apply Int.le_antisymm <;> omega) | omega))), rfl, by rw [ht]; exact (show xo _ _ s H from va_recv hK hP (ci := 15) (q0 := 1) rfl rfl).moved hW.alike⟩, va_P.he ht.symm hP9, va_K.moved hW.alike hK, hD9⟩, hS.F ht⟩) hS.2.2 d_MD_can_13
abbrev b_MD_few : ByteArray := prog_15_method_12_code
def y_MD_few : MethodName := ⟨R_MD, "few", "(Z)V"⟩
abbrev w_MD_few : List Cond := .code y_MD_few b_MD_few 2 none :: lw_g
theorem kC_MD_few : Cond.code y_MD_few b_MD_few 2 none ∈ lw_g := in_c11 92 rfl rfl
theorem d_MD_few_0 : decode b_MD_few 0 = .ok (.iload_n 1, 1) := bz_c27 (by decide +kernel)
theorem d_MD_few_1 : decode b_MD_few 1 = .ok (.ifCond .ne 26, 3) := bz_c154 (by decide +kernel)
theorem d_MD_few_4 : decode b_MD_few 4 = .ok (.aload_n 0, 1) := bz_c42 (by decide +kernel)
theorem d_MD_few_5 : decode b_MD_few 5 = .ok (.aload_n 0, 1) := bz_c42 (by decide +kernel)
theorem d_MD_few_6 : decode b_MD_few 6 = .ok (.getfield 33, 3) := bz_c180 (by decide +kernel)
theorem d_MD_few_9 : decode b_MD_few 9 = .ok (.bipush 6, 2) := bz_c16 (by decide +kernel)
theorem d_MD_few_11 : decode b_MD_few 11 = .ok (.if_icmp .ne 7, 3) := bz_c160 (by decide +kernel)
theorem d_MD_few_14 : decode b_MD_few 14 = .ok (.iconst 1, 1) := bz_c4 (by decide +kernel)
theorem d_MD_few_15 : decode b_MD_few 15 = .ok (.goto 4, 3) := bz_c167 (by decide +kernel)
theorem d_MD_few_18 : decode b_MD_few 18 = .ok (.iconst 5, 1) := bz_c8 (by decide +kernel)
theorem d_MD_few_19 : decode b_MD_few 19 = .ok (.aload_n 0, 1) := bz_c42 (by decide +kernel)
theorem d_MD_few_20 : decode b_MD_few 20 = .ok (.getfield 30, 3) := bz_c180 (by decide +kernel)
theorem d_MD_few_23 : decode b_MD_few 23 = .ok (.invokevirtual 115, 3) := bz_c182 (by decide +kernel)
theorem d_MD_few_26 : decode b_MD_few 26 = .ok (.athrow, 1) := bz_c191 (by decide +kernel)
theorem d_MD_few_27 : decode b_MD_few 27 = .ok (.return_, 1) := bz_c177 (by decide +kernel)
theorem kF_MD_33 : Cond.fieldLink R_MD 33 "WaferForgeModel" "kind" "I" ∈ lw_g := in_c8 225 rfl rfl
abbrev at_MD_few (dC : Nat → ClassId) (dI : Nat → Nat → Nat) (h0 rf tap h0_globalNames_r h0_globalPlaces_r h0_globalTypes_r h0_globalValues_r h0_funs_r h0_levels_r h0_known_r mad mag h0_smalls_r h0_greats_r h0_module_r h0_spare_r blk stk hgt lab ous kis los mem glo val ffu fre fba fla lat lhe rsl arg : Nat) (h0_taped : Int32) (h0_length : Int32) (h0_kind : Int32) (h0_from : Int32) (h0_to : Int32) (h0_word : Value) (h0_numeral : Int64) (h0_globalCount : Int32) (h0_funCount : Int32) (h0_open : Int32) (h0_signs : Int32) (h0_now : Value) (h0_knownCount : Int32) (h0_loops : Int32) (h0_madeLength : Int32) (h0_m : Value) (h0_cursor : Int32) (h0_limit : Int32) (h0_top : Int32) (h0_depth : Int32) (h0_function : Int32) (h0_pages : Int32) (h0_valueTop : Int32) (h0_frames : Int32) (h0_labelTop : Int32) (h0_steps : Int32) (h0_there : Int32) (h0_resultLength : Int32) (h0_reason : Int32) (h0_place : Int32) (h0_argumentCount : Int32) (h0_code : Int32) (rf_backtrace : Value) (rf_detailMessage : Value) (rf_cause : Value) (rf_stackTrace : Value) (rf_depth : Int32) (rf_suppressedExceptions : Value) (A : Nat → Prop) (u : Int32 × Int32) (t : State) : Prop := match u with | (rf_place, rf_reason) => va_P (dC, dI) cls2 (wz_301 h0 rf tap h0_taped h0_length h0_kind h0_from h0_to h0_word h0_numeral h0_globalNames_r h0_globalPlaces_r h0_globalTypes_r h0_globalValues_r h0_globalCount h0_funs_r h0_funCount h0_open h0_signs h0_levels_r h0_now h0_known_r h0_knownCount h0_loops mad h0_madeLength mag h0_smalls_r h0_greats_r h0_module_r h0_spare_r h0_m h0_cursor h0_limit blk stk h0_top hgt lab ous kis los h0_depth h0_function mem h0_pages glo val h0_valueTop ffu fre fba fla h0_frames lat lhe h0_labelTop h0_steps h0_there rsl h0_resultLength h0_reason h0_place arg h0_argumentCount h0_code rf rf_backtrace rf_detailMessage rf_cause rf_stackTrace rf_depth rf_suppressedExceptions rf_reason rf_place) t.heap ∧ va_K (dC, dI) cls2 [] t ∧ va_D A (wz_301 h0 rf tap h0_taped h0_length h0_kind h0_from h0_to h0_word h0_numeral h0_globalNames_r h0_globalPlaces_r h0_globalTypes_r h0_globalValues_r h0_globalCount h0_funs_r h0_funCount h0_open h0_signs h0_levels_r h0_now h0_known_r h0_knownCount h0_loops mad h0_madeLength mag h0_smalls_r h0_greats_r h0_module_r h0_spare_r h0_m h0_cursor h0_limit blk stk h0_top hgt lab ous kis los h0_depth h0_function mem h0_pages glo val h0_valueTop ffu fre fba fla h0_frames lat lhe h0_labelTop h0_steps h0_there rsl h0_resultLength h0_reason h0_place arg h0_argumentCount h0_code rf rf_backtrace rf_detailMessage rf_cause rf_stackTrace rf_depth rf_suppressedExceptions rf_reason rf_place)
set_option maxHeartbeats 4000000 in
set_option maxRecDepth 100000 in
theorem c_MD_few (l : Launch) (hlt : l.stackTraces = false) (dC : Nat → ClassId) (dI : Nat → Nat → Nat) (sz : Nat) (h0 rf tap h0_globalNames_r h0_globalPlaces_r h0_globalTypes_r h0_globalValues_r h0_funs_r h0_levels_r h0_known_r mad mag h0_smalls_r h0_greats_r h0_module_r h0_spare_r blk stk hgt lab ous kis los mem glo val ffu fre fba fla lat lhe rsl arg : Nat) (h0_taped : Int32) (h0_length : Int32) (h0_kind : Int32) (h0_from : Int32) (h0_to : Int32) (h0_word : Value) (h0_numeral : Int64) (h0_globalCount : Int32) (h0_funCount : Int32) (h0_open : Int32) (h0_signs : Int32) (h0_now : Value) (h0_knownCount : Int32) (h0_loops : Int32) (h0_madeLength : Int32) (h0_m : Value) (h0_cursor : Int32) (h0_limit : Int32) (h0_top : Int32) (h0_depth : Int32) (h0_function : Int32) (h0_pages : Int32) (h0_valueTop : Int32) (h0_frames : Int32) (h0_labelTop : Int32) (h0_steps : Int32) (h0_there : Int32) (h0_resultLength : Int32) (h0_reason : Int32) (h0_place : Int32) (h0_argumentCount : Int32) (h0_code : Int32) (rf_backtrace : Value) (rf_detailMessage : Value) (rf_cause : Value) (rf_stackTrace : Value) (rf_depth : Int32) (rf_suppressedExceptions : Value) (rf_reason : Int32) (rf_place : Int32)  (b_h0_from : 0 ≤ h0_from.toInt ∧ h0_from.toInt ≤ 2000) (p0 : Int32) (ba0 : p0 = 0 ∨ p0 = 1)  : tz_Met l y_MD_few w_MD_few ({ frames := 1, cells := 0, slots := 0, locals := 22 }) (va_Pc [.ref h0, .int p0] (fun U => U.heap.size = sz ∧ va_P (dC, dI) cls2 (wz_301 h0 rf tap h0_taped h0_length h0_kind h0_from h0_to h0_word h0_numeral h0_globalNames_r h0_globalPlaces_r h0_globalTypes_r h0_globalValues_r h0_globalCount h0_funs_r h0_funCount h0_open h0_signs h0_levels_r h0_now h0_known_r h0_knownCount h0_loops mad h0_madeLength mag h0_smalls_r h0_greats_r h0_module_r h0_spare_r h0_m h0_cursor h0_limit blk stk h0_top hgt lab ous kis los h0_depth h0_function mem h0_pages glo val h0_valueTop ffu fre fba fla h0_frames lat lhe h0_labelTop h0_steps h0_there rsl h0_resultLength h0_reason h0_place arg h0_argumentCount h0_code rf rf_backtrace rf_detailMessage rf_cause rf_stackTrace rf_depth rf_suppressedExceptions rf_reason rf_place) U.heap ∧ va_K (dC, dI) cls2 [] U ∧ va_D (fun _ => True) (wz_301 h0 rf tap h0_taped h0_length h0_kind h0_from h0_to h0_word h0_numeral h0_globalNames_r h0_globalPlaces_r h0_globalTypes_r h0_globalValues_r h0_globalCount h0_funs_r h0_funCount h0_open h0_signs h0_levels_r h0_now h0_known_r h0_knownCount h0_loops mad h0_madeLength mag h0_smalls_r h0_greats_r h0_module_r h0_spare_r h0_m h0_cursor h0_limit blk stk h0_top hgt lab ous kis los h0_depth h0_function mem h0_pages glo val h0_valueTop ffu fre fba fla h0_frames lat lhe h0_labelTop h0_steps h0_there rsl h0_resultLength h0_reason h0_place arg h0_argumentCount h0_code rf rf_backtrace rf_detailMessage rf_cause rf_stackTrace rf_depth rf_suppressedExceptions rf_reason rf_place) ∧ sw_nest U)) (tq_Q (tr_v (fun (u : Int32 × Int32) => match u with | (rf_place2, rf_reason2) => (p0 = 1)) rf "WaferForgeModel$Refused" (fun (u : Int32 × Int32) => match u with | (rf_place2, rf_reason2) => (p0 = 0))) (at_MD_few dC dI h0 rf tap h0_globalNames_r h0_globalPlaces_r h0_globalTypes_r h0_globalValues_r h0_funs_r h0_levels_r h0_known_r mad mag h0_smalls_r h0_greats_r h0_module_r h0_spare_r blk stk hgt lab ous kis los mem glo val ffu fre fba fla lat lhe rsl arg h0_taped h0_length h0_kind h0_from h0_to h0_word h0_numeral h0_globalCount h0_funCount h0_open h0_signs h0_now h0_knownCount h0_loops h0_madeLength h0_m h0_cursor h0_limit h0_top h0_depth h0_function h0_pages h0_valueTop h0_frames h0_labelTop h0_steps h0_there h0_resultLength h0_reason h0_place h0_argumentCount h0_code rf_backtrace rf_detailMessage rf_cause rf_stackTrace rf_depth rf_suppressedExceptions (va_A (wz_301 h0 rf tap h0_taped h0_length h0_kind h0_from h0_to h0_word h0_numeral h0_globalNames_r h0_globalPlaces_r h0_globalTypes_r h0_globalValues_r h0_globalCount h0_funs_r h0_funCount h0_open h0_signs h0_levels_r h0_now h0_known_r h0_knownCount h0_loops mad h0_madeLength mag h0_smalls_r h0_greats_r h0_module_r h0_spare_r h0_m h0_cursor h0_limit blk stk h0_top hgt lab ous kis los h0_depth h0_function mem h0_pages glo val h0_valueTop ffu fre fba fla h0_frames lat lhe h0_labelTop h0_steps h0_there rsl h0_resultLength h0_reason h0_place arg h0_argumentCount h0_code rf rf_backtrace rf_detailMessage rf_cause rf_stackTrace rf_depth rf_suppressedExceptions rf_reason rf_place) sz)) (va_A (wz_301 h0 rf tap h0_taped h0_length h0_kind h0_from h0_to h0_word h0_numeral h0_globalNames_r h0_globalPlaces_r h0_globalTypes_r h0_globalValues_r h0_globalCount h0_funs_r h0_funCount h0_open h0_signs h0_levels_r h0_now h0_known_r h0_knownCount h0_loops mad h0_madeLength mag h0_smalls_r h0_greats_r h0_module_r h0_spare_r h0_m h0_cursor h0_limit blk stk h0_top hgt lab ous kis los h0_depth h0_function mem h0_pages glo val h0_valueTop ffu fre fba fla h0_frames lat lhe h0_labelTop h0_steps h0_there rsl h0_resultLength h0_reason h0_place arg h0_argumentCount h0_code rf rf_backtrace rf_detailMessage rf_cause rf_stackTrace rf_depth rf_suppressedExceptions rf_reason rf_place) sz)) (tz_k 0 0 0 0) (va_A (wz_301 h0 rf tap h0_taped h0_length h0_kind h0_from h0_to h0_word h0_numeral h0_globalNames_r h0_globalPlaces_r h0_globalTypes_r h0_globalValues_r h0_globalCount h0_funs_r h0_funCount h0_open h0_signs h0_levels_r h0_now h0_known_r h0_knownCount h0_loops mad h0_madeLength mag h0_smalls_r h0_greats_r h0_module_r h0_spare_r h0_m h0_cursor h0_limit blk stk h0_top hgt lab ous kis los h0_depth h0_function mem h0_pages glo val h0_valueTop ffu fre fba fla h0_frames lat lhe h0_labelTop h0_steps h0_there rsl h0_resultLength h0_reason h0_place arg h0_argumentCount h0_code rf rf_backtrace rf_detailMessage rf_cause rf_stackTrace rf_depth rf_suppressedExceptions rf_reason rf_place) sz) := by
  refine tz_ofW (cc := b_MD_few) (maxL := 2) (ret := none) (by decide) rfl ?_
  intro p e s m args below meth c s₁ B hml hno hv
  obtain ⟨rfl, hsz, hP, hK, hD0, hSW⟩ := hv
  have hx := B.exec
  have hb := B.bytes
  have hr := B.returns
  have hts0 := atoms_spec (ws := w_MD_few) B.pre
  have hts : ∀ w ∈ lw_g, w.before _ s = true := fun w h => hts0 w (List.mem_cons_of_mem _ h)
  have hown : s.vm.findClass R_MD = some m.cls := findClass_of_methodNamed B.named
  have hlocks := B.notSynchronized
  clear hts0
  subst hsz
  have hD := hD0.self (sz := s.heap.size)
  generalize hAe : va_A (wz_301 h0 rf tap h0_taped h0_length h0_kind h0_from h0_to h0_word h0_numeral h0_globalNames_r h0_globalPlaces_r h0_globalTypes_r h0_globalValues_r h0_globalCount h0_funs_r h0_funCount h0_open h0_signs h0_levels_r h0_now h0_known_r h0_knownCount h0_loops mad h0_madeLength mag h0_smalls_r h0_greats_r h0_module_r h0_spare_r h0_m h0_cursor h0_limit blk stk h0_top hgt lab ous kis los h0_depth h0_function mem h0_pages glo val h0_valueTop ffu fre fba fla h0_frames lat lhe h0_labelTop h0_steps h0_there rsl h0_resultLength h0_reason h0_place arg h0_argumentCount h0_code rf rf_backtrace rf_detailMessage rf_cause rf_stackTrace rf_depth rf_suppressedExceptions rf_reason rf_place) s.heap.size = A at hD ⊢
  have hA : ∀ q : Nat, s.heap.size ≤ q → A q := fun q h => by rw [← hAe]; exact Or.inr h
  clear hAe
  have hP : va_P (dC, dI) cls2 (wz_301 h0 rf tap h0_taped h0_length h0_kind h0_from h0_to h0_word h0_numeral h0_globalNames_r h0_globalPlaces_r h0_globalTypes_r h0_globalValues_r h0_globalCount h0_funs_r h0_funCount h0_open h0_signs h0_levels_r h0_now h0_known_r h0_knownCount h0_loops mad h0_madeLength mag h0_smalls_r h0_greats_r h0_module_r h0_spare_r h0_m h0_cursor h0_limit blk stk h0_top hgt lab ous kis los h0_depth h0_function mem h0_pages glo val h0_valueTop ffu fre fba fla h0_frames lat lhe h0_labelTop h0_steps h0_there rsl h0_resultLength h0_reason h0_place arg h0_argumentCount h0_code rf rf_backtrace rf_detailMessage rf_cause rf_stackTrace rf_depth rf_suppressedExceptions rf_reason rf_place) s.heap := hP
  have hl := lv_entry ([.ref h0, .int p0]) (n := 2) (Nat.le_of_ble_eq_true rfl)
  rw [lg_entry_eq]
  generalize (lg_sl ([.ref h0, .int p0]) ++ List.replicate (2 - (lg_sl ([.ref h0, .int p0])).length) Slot.unset).toArray = ls at hl ⊢
  have hl : lv_has ls 2 [(0, .ref h0), (1, .int p0)] := hl
  have k0 : (0 : Int32).toInt = 0 := by decide
  refine w_gen (A := A) hP (fun H locs hP hS => ?_)
  have k1 : (1 : Int32).toInt = 1 := by decide
  have k5 : (5 : Int32).toInt = 5 := by decide
  have k6 : (6 : Int32).toInt = 6 := by decide
  have lo_p0 := i32_lo p0
  have hi_p0 := i32_hi p0
  have tp0 := b01 ba0
  refine lv_iload_n hx hb d_MD_few_0 rfl (lv_at hl 1 rfl) ?_
  refine lv_if_ne (tgt := 27) hx hb d_MD_few_1 (by decide) (fun c1 => ?_) (fun c1 => ?_)
  · have q1 := neI c1
    have hP9 := hP.sb (wq := (wz_301 h0 rf tap h0_taped h0_length h0_kind h0_from h0_to h0_word h0_numeral h0_globalNames_r h0_globalPlaces_r h0_globalTypes_r h0_globalValues_r h0_globalCount h0_funs_r h0_funCount h0_open h0_signs h0_levels_r h0_now h0_known_r h0_knownCount h0_loops mad h0_madeLength mag h0_smalls_r h0_greats_r h0_module_r h0_spare_r h0_m h0_cursor h0_limit blk stk h0_top hgt lab ous kis los h0_depth h0_function mem h0_pages glo val h0_valueTop ffu fre fba fla h0_frames lat lhe h0_labelTop h0_steps h0_there rsl h0_resultLength h0_reason h0_place arg h0_argumentCount h0_code rf rf_backtrace rf_detailMessage rf_cause rf_stackTrace rf_depth rf_suppressedExceptions rf_reason rf_place)) [0, 1] rfl
    have hD9 := hD.sb (wq := (wz_301 h0 rf tap h0_taped h0_length h0_kind h0_from h0_to h0_word h0_numeral h0_globalNames_r h0_globalPlaces_r h0_globalTypes_r h0_globalValues_r h0_globalCount h0_funs_r h0_funCount h0_open h0_signs h0_levels_r h0_now h0_known_r h0_knownCount h0_loops mad h0_madeLength mag h0_smalls_r h0_greats_r h0_module_r h0_spare_r h0_m h0_cursor h0_limit blk stk h0_top hgt lab ous kis los h0_depth h0_function mem h0_pages glo val h0_valueTop ffu fre fba fla h0_frames lat lhe h0_labelTop h0_steps h0_there rsl h0_resultLength h0_reason h0_place arg h0_argumentCount h0_code rf rf_backtrace rf_detailMessage rf_cause rf_stackTrace rf_depth rf_suppressedExceptions rf_reason rf_place)) [0, 1] (by decide) rfl
    exact tz_up (fun _ => rfl) (W.vret hx hb hr (fun t ht hW => ⟨⟨(rf_place, rf_reason), ⟨rfl, (b1_of ba0 (by (first | (apply Int.le_antisymm <;> omega) | omega)))⟩, va_P.he ht.symm hP9, va_K.moved hW.alike hK, hD9⟩, hS.F ht⟩) hS.2.2 d_MD_few_27)
  · have q1 := eqI c1
    refine lv_aload_n hx hb d_MD_few_4 rfl (lv_at hl 0 rfl) ?_
    refine lv_aload_n hx hb d_MD_few_5 rfl (lv_at hl 0 rfl) ?_
    refine va_get (D := (dC, dI)) (ci := 11) (v := .int h0_kind) (C := R_MD) (T := F_MD) (N := 65) hx hb hts i_MD hown hK hP 0 rfl rfl 4 (by decide) (hts _ kF_MD_33) (fun _ h9 => h9) rfl d_MD_few_6 ?_
    refine lv_bipush (v := 6) hx hb d_MD_few_9 (by decide) ?_
    refine lv_icmp_ne (tgt := 18) hx hb d_MD_few_11 (by decide) (fun c11 => ?_) (fun c11 => ?_)
    · have q11 := neI c11
      refine lv_iconst (v := 5) hx hb d_MD_few_18 (by decide) ?_
      refine lv_aload_n hx hb d_MD_few_19 rfl (lv_at hl 0 rfl) ?_
      refine va_get (D := (dC, dI)) (ci := 11) (v := .int h0_from) (C := R_MD) (T := F_MD) (N := 65) hx hb hts i_MD hown hK hP 0 rfl rfl 5 (by decide) (hts _ kF_MD_30) (fun _ h9 => h9) rfl d_MD_few_20 ?_
      have hPc := hP.sb (wq := (wz_301 h0 rf tap h0_taped h0_length h0_kind h0_from h0_to h0_word h0_numeral h0_globalNames_r h0_globalPlaces_r h0_globalTypes_r h0_globalValues_r h0_globalCount h0_funs_r h0_funCount h0_open h0_signs h0_levels_r h0_now h0_known_r h0_knownCount h0_loops mad h0_madeLength mag h0_smalls_r h0_greats_r h0_module_r h0_spare_r h0_m h0_cursor h0_limit blk stk h0_top hgt lab ous kis los h0_depth h0_function mem h0_pages glo val h0_valueTop ffu fre fba fla h0_frames lat lhe h0_labelTop h0_steps h0_there rsl h0_resultLength h0_reason h0_place arg h0_argumentCount h0_code rf rf_backtrace rf_detailMessage rf_cause rf_stackTrace rf_depth rf_suppressedExceptions rf_reason rf_place)) [0, 1] rfl
      have hDc := hD.sb (wq := (wz_301 h0 rf tap h0_taped h0_length h0_kind h0_from h0_to h0_word h0_numeral h0_globalNames_r h0_globalPlaces_r h0_globalTypes_r h0_globalValues_r h0_globalCount h0_funs_r h0_funCount h0_open h0_signs h0_levels_r h0_now h0_known_r h0_knownCount h0_loops mad h0_madeLength mag h0_smalls_r h0_greats_r h0_module_r h0_spare_r h0_m h0_cursor h0_limit blk stk h0_top hgt lab ous kis los h0_depth h0_function mem h0_pages glo val h0_valueTop ffu fre fba fla h0_frames lat lhe h0_labelTop h0_steps h0_there rsl h0_resultLength h0_reason h0_place arg h0_argumentCount h0_code rf rf_backtrace rf_detailMessage rf_cause rf_stackTrace rf_depth rf_suppressedExceptions rf_reason rf_place)) [0, 1] (by decide) rfl
      have hKc := hK.sb (tyq := []) [] rfl
      have hFc := va_free (wc := (wz_301 h0 rf tap h0_taped h0_length h0_kind h0_from h0_to h0_word h0_numeral h0_globalNames_r h0_globalPlaces_r h0_globalTypes_r h0_globalValues_r h0_globalCount h0_funs_r h0_funCount h0_open h0_signs h0_levels_r h0_now h0_known_r h0_knownCount h0_loops mad h0_madeLength mag h0_smalls_r h0_greats_r h0_module_r h0_spare_r h0_m h0_cursor h0_limit blk stk h0_top hgt lab ous kis los h0_depth h0_function mem h0_pages glo val h0_valueTop ffu fre fba fla h0_frames lat lhe h0_labelTop h0_steps h0_there rsl h0_resultLength h0_reason h0_place arg h0_argumentCount h0_code rf rf_backtrace rf_detailMessage rf_cause rf_stackTrace rf_depth rf_suppressedExceptions rf_reason rf_place)) hD hS hA [0, 1] rfl
      refine va_callr (va_runV (As := [.int 5, .int h0_from]) (rest := []) ⟨hx, hb, hml, hown, hts⟩ (c_MD_no l dC dI H.size h0 rf tap h0_globalNames_r h0_globalPlaces_r h0_globalTypes_r h0_globalValues_r h0_funs_r h0_levels_r h0_known_r mad mag h0_smalls_r h0_greats_r h0_module_r h0_spare_r blk stk hgt lab ous kis los mem glo val ffu fre fba fla lat lhe rsl arg h0_taped h0_length h0_kind h0_from h0_to h0_word h0_numeral h0_globalCount h0_funCount h0_open h0_signs h0_now h0_knownCount h0_loops h0_madeLength h0_m h0_cursor h0_limit h0_top h0_depth h0_function h0_pages h0_valueTop h0_frames h0_labelTop h0_steps h0_there h0_resultLength h0_reason h0_place h0_argumentCount h0_code rf_backtrace rf_detailMessage rf_cause rf_stackTrace rf_depth rf_suppressedExceptions rf_reason rf_place 5 h0_from) (cwV 2 hts (gV kM_MD_115 kV_MD_no kS_MD_no kI_MD kC_MD_no) rfl rfl rfl (by decide +kernel) ⟨Nat.le_of_ble_eq_true rfl, Nat.le_of_ble_eq_true rfl⟩) ⟨fun a U g mk z => by obtain ⟨z0, z1, zP, zK, zD, zS⟩ := z; exact ⟨z0, z1, zP, va_K.moved (u := U) (U := U.calling g mk a) (Vm.Alike.refl U.vm) zK, zD, sw_nest.same (s := U) (U := U.calling g mk a) rfl zS⟩, va_recv hKc hPc (ci := 11) (q0 := 0) rfl rfl, fun U hU hW => ⟨rfl, by rw [hU], va_P.he hU.symm hPc, va_K.moved hW.alike hKc, hDc.weaken (fun _ _ _ _ => trivial), hSW.warm hW⟩⟩ rfl rfl hl.1 rfl (lv_room (Nat.le_of_ble_eq_true rfl)) d_MD_few_23 ⟨(Nat.zero_le _), (Nat.zero_le _)⟩) hS (fun q _ h => hFc q h) hFc (fun u ra t H1 locs ht hvm hw hB hz1 hk1 hS => ?_)
      obtain ⟨rfl, hB⟩ := hB
      obtain ⟨n2, n3⟩ := u
      try dsimp only at hw
      have xr1 := hw
      try clear hw
      obtain ⟨hP1, hK1, hD1⟩ := hB
      replace hP1 := va_P.he ht hP1
      obtain ⟨hP, hD⟩ := va_join (wr := []) (w1 := (wz_301 h0 rf tap h0_taped h0_length h0_kind h0_from h0_to h0_word h0_numeral h0_globalNames_r h0_globalPlaces_r h0_globalTypes_r h0_globalValues_r h0_globalCount h0_funs_r h0_funCount h0_open h0_signs h0_levels_r h0_now h0_known_r h0_knownCount h0_loops mad h0_madeLength mag h0_smalls_r h0_greats_r h0_module_r h0_spare_r h0_m h0_cursor h0_limit blk stk h0_top hgt lab ous kis los h0_depth h0_function mem h0_pages glo val h0_valueTop ffu fre fba fla h0_frames lat lhe h0_labelTop h0_steps h0_there rsl h0_resultLength h0_reason h0_place arg h0_argumentCount h0_code rf rf_backtrace rf_detailMessage rf_cause rf_stackTrace rf_depth rf_suppressedExceptions n3 n2)) hP hD [0, 1] [] rfl rfl (by decide) (by decide) hk1 hFc hP1 hD1
      clear hPc hDc hKc hFc hz1 hk1 hP1 hK1 hD1
      rename Heap => H
      have hP : va_P (dC, dI) cls2 (wz_301 h0 rf tap h0_taped h0_length h0_kind h0_from h0_to h0_word h0_numeral h0_globalNames_r h0_globalPlaces_r h0_globalTypes_r h0_globalValues_r h0_globalCount h0_funs_r h0_funCount h0_open h0_signs h0_levels_r h0_now h0_known_r h0_knownCount h0_loops mad h0_madeLength mag h0_smalls_r h0_greats_r h0_module_r h0_spare_r h0_m h0_cursor h0_limit blk stk h0_top hgt lab ous kis los h0_depth h0_function mem h0_pages glo val h0_valueTop ffu fre fba fla h0_frames lat lhe h0_labelTop h0_steps h0_there rsl h0_resultLength h0_reason h0_place arg h0_argumentCount h0_code rf rf_backtrace rf_detailMessage rf_cause rf_stackTrace rf_depth rf_suppressedExceptions n3 n2) H := hP
      have hD : va_D A (wz_301 h0 rf tap h0_taped h0_length h0_kind h0_from h0_to h0_word h0_numeral h0_globalNames_r h0_globalPlaces_r h0_globalTypes_r h0_globalValues_r h0_globalCount h0_funs_r h0_funCount h0_open h0_signs h0_levels_r h0_now h0_known_r h0_knownCount h0_loops mad h0_madeLength mag h0_smalls_r h0_greats_r h0_module_r h0_spare_r h0_m h0_cursor h0_limit blk stk h0_top hgt lab ous kis los h0_depth h0_function mem h0_pages glo val h0_valueTop ffu fre fba fla h0_frames lat lhe h0_labelTop h0_steps h0_there rsl h0_resultLength h0_reason h0_place arg h0_argumentCount h0_code rf rf_backtrace rf_detailMessage rf_cause rf_stackTrace rf_depth rf_suppressedExceptions n3 n2) := hD
      have hP9 := hP.sb (wq := (wz_301 h0 rf tap h0_taped h0_length h0_kind h0_from h0_to h0_word h0_numeral h0_globalNames_r h0_globalPlaces_r h0_globalTypes_r h0_globalValues_r h0_globalCount h0_funs_r h0_funCount h0_open h0_signs h0_levels_r h0_now h0_known_r h0_knownCount h0_loops mad h0_madeLength mag h0_smalls_r h0_greats_r h0_module_r h0_spare_r h0_m h0_cursor h0_limit blk stk h0_top hgt lab ous kis los h0_depth h0_function mem h0_pages glo val h0_valueTop ffu fre fba fla h0_frames lat lhe h0_labelTop h0_steps h0_there rsl h0_resultLength h0_reason h0_place arg h0_argumentCount h0_code rf rf_backtrace rf_detailMessage rf_cause rf_stackTrace rf_depth rf_suppressedExceptions n3 n2)) [0, 1] rfl
      have hD9 := hD.sb (wq := (wz_301 h0 rf tap h0_taped h0_length h0_kind h0_from h0_to h0_word h0_numeral h0_globalNames_r h0_globalPlaces_r h0_globalTypes_r h0_globalValues_r h0_globalCount h0_funs_r h0_funCount h0_open h0_signs h0_levels_r h0_now h0_known_r h0_knownCount h0_loops mad h0_madeLength mag h0_smalls_r h0_greats_r h0_module_r h0_spare_r h0_m h0_cursor h0_limit blk stk h0_top hgt lab ous kis los h0_depth h0_function mem h0_pages glo val h0_valueTop ffu fre fba fla h0_frames lat lhe h0_labelTop h0_steps h0_there rsl h0_resultLength h0_reason h0_place arg h0_argumentCount h0_code rf rf_backtrace rf_detailMessage rf_cause rf_stackTrace rf_depth rf_suppressedExceptions n3 n2)) [0, 1] (by decide) rfl
      exact tz_athrow rfl hx hb hno hlocks (fun t ht hW => ⟨⟨(n2, n3), ⟨(b0_of ba0 (by (first | (apply Int.le_antisymm <;> omega) | omega))), rfl, by rw [ht]; exact (show xo _ _ s H from va_recv hK hP (ci := 15) (q0 := 1) rfl rfl).moved hW.alike⟩, va_P.he ht.symm hP9, va_K.moved hW.alike hK, hD9⟩, hS.F ht⟩) hS.2.2 d_MD_few_26
    · have q11 := eqI c11
      refine lv_iconst (v := 1) hx hb d_MD_few_14 (by decide) ?_
      refine lv_goto (tgt := 19) hx hb d_MD_few_15 (by decide) ?_
      refine lv_aload_n hx hb d_MD_few_19 rfl (lv_at hl 0 rfl) ?_
      refine va_get (D := (dC, dI)) (ci := 11) (v := .int h0_from) (C := R_MD) (T := F_MD) (N := 65) hx hb hts i_MD hown hK hP 0 rfl rfl 5 (by decide) (hts _ kF_MD_30) (fun _ h9 => h9) rfl d_MD_few_20 ?_
      have hPc := hP.sb (wq := (wz_301 h0 rf tap h0_taped h0_length h0_kind h0_from h0_to h0_word h0_numeral h0_globalNames_r h0_globalPlaces_r h0_globalTypes_r h0_globalValues_r h0_globalCount h0_funs_r h0_funCount h0_open h0_signs h0_levels_r h0_now h0_known_r h0_knownCount h0_loops mad h0_madeLength mag h0_smalls_r h0_greats_r h0_module_r h0_spare_r h0_m h0_cursor h0_limit blk stk h0_top hgt lab ous kis los h0_depth h0_function mem h0_pages glo val h0_valueTop ffu fre fba fla h0_frames lat lhe h0_labelTop h0_steps h0_there rsl h0_resultLength h0_reason h0_place arg h0_argumentCount h0_code rf rf_backtrace rf_detailMessage rf_cause rf_stackTrace rf_depth rf_suppressedExceptions rf_reason rf_place)) [0, 1] rfl
      have hDc := hD.sb (wq := (wz_301 h0 rf tap h0_taped h0_length h0_kind h0_from h0_to h0_word h0_numeral h0_globalNames_r h0_globalPlaces_r h0_globalTypes_r h0_globalValues_r h0_globalCount h0_funs_r h0_funCount h0_open h0_signs h0_levels_r h0_now h0_known_r h0_knownCount h0_loops mad h0_madeLength mag h0_smalls_r h0_greats_r h0_module_r h0_spare_r h0_m h0_cursor h0_limit blk stk h0_top hgt lab ous kis los h0_depth h0_function mem h0_pages glo val h0_valueTop ffu fre fba fla h0_frames lat lhe h0_labelTop h0_steps h0_there rsl h0_resultLength h0_reason h0_place arg h0_argumentCount h0_code rf rf_backtrace rf_detailMessage rf_cause rf_stackTrace rf_depth rf_suppressedExceptions rf_reason rf_place)) [0, 1] (by decide) rfl
      have hKc := hK.sb (tyq := []) [] rfl
      have hFc := va_free (wc := (wz_301 h0 rf tap h0_taped h0_length h0_kind h0_from h0_to h0_word h0_numeral h0_globalNames_r h0_globalPlaces_r h0_globalTypes_r h0_globalValues_r h0_globalCount h0_funs_r h0_funCount h0_open h0_signs h0_levels_r h0_now h0_known_r h0_knownCount h0_loops mad h0_madeLength mag h0_smalls_r h0_greats_r h0_module_r h0_spare_r h0_m h0_cursor h0_limit blk stk h0_top hgt lab ous kis los h0_depth h0_function mem h0_pages glo val h0_valueTop ffu fre fba fla h0_frames lat lhe h0_labelTop h0_steps h0_there rsl h0_resultLength h0_reason h0_place arg h0_argumentCount h0_code rf rf_backtrace rf_detailMessage rf_cause rf_stackTrace rf_depth rf_suppressedExceptions rf_reason rf_place)) hD hS hA [0, 1] rfl
      refine va_callr (va_runV (As := [.int 1, .int h0_from]) (rest := []) ⟨hx, hb, hml, hown, hts⟩ (c_MD_no l dC dI H.size h0 rf tap h0_globalNames_r h0_globalPlaces_r h0_globalTypes_r h0_globalValues_r h0_funs_r h0_levels_r h0_known_r mad mag h0_smalls_r h0_greats_r h0_module_r h0_spare_r blk stk hgt lab ous kis los mem glo val ffu fre fba fla lat lhe rsl arg h0_taped h0_length h0_kind h0_from h0_to h0_word h0_numeral h0_globalCount h0_funCount h0_open h0_signs h0_now h0_knownCount h0_loops h0_madeLength h0_m h0_cursor h0_limit h0_top h0_depth h0_function h0_pages h0_valueTop h0_frames h0_labelTop h0_steps h0_there h0_resultLength h0_reason h0_place h0_argumentCount h0_code rf_backtrace rf_detailMessage rf_cause rf_stackTrace rf_depth rf_suppressedExceptions rf_reason rf_place 1 h0_from) (cwV 2 hts (gV kM_MD_115 kV_MD_no kS_MD_no kI_MD kC_MD_no) rfl rfl rfl (by decide +kernel) ⟨Nat.le_of_ble_eq_true rfl, Nat.le_of_ble_eq_true rfl⟩) ⟨fun a U g mk z => by obtain ⟨z0, z1, zP, zK, zD, zS⟩ := z; exact ⟨z0, z1, zP, va_K.moved (u := U) (U := U.calling g mk a) (Vm.Alike.refl U.vm) zK, zD, sw_nest.same (s := U) (U := U.calling g mk a) rfl zS⟩, va_recv hKc hPc (ci := 11) (q0 := 0) rfl rfl, fun U hU hW => ⟨rfl, by rw [hU], va_P.he hU.symm hPc, va_K.moved hW.alike hKc, hDc.weaken (fun _ _ _ _ => trivial), hSW.warm hW⟩⟩ rfl rfl hl.1 rfl (lv_room (Nat.le_of_ble_eq_true rfl)) d_MD_few_23 ⟨(Nat.zero_le _), (Nat.zero_le _)⟩) hS (fun q _ h => hFc q h) hFc (fun u ra t H1 locs ht hvm hw hB hz1 hk1 hS => ?_)
      obtain ⟨rfl, hB⟩ := hB
      obtain ⟨n5, n6⟩ := u
      try dsimp only at hw
      have xr4 := hw
      try clear hw
      obtain ⟨hP1, hK1, hD1⟩ := hB
      replace hP1 := va_P.he ht hP1
      obtain ⟨hP, hD⟩ := va_join (wr := []) (w1 := (wz_301 h0 rf tap h0_taped h0_length h0_kind h0_from h0_to h0_word h0_numeral h0_globalNames_r h0_globalPlaces_r h0_globalTypes_r h0_globalValues_r h0_globalCount h0_funs_r h0_funCount h0_open h0_signs h0_levels_r h0_now h0_known_r h0_knownCount h0_loops mad h0_madeLength mag h0_smalls_r h0_greats_r h0_module_r h0_spare_r h0_m h0_cursor h0_limit blk stk h0_top hgt lab ous kis los h0_depth h0_function mem h0_pages glo val h0_valueTop ffu fre fba fla h0_frames lat lhe h0_labelTop h0_steps h0_there rsl h0_resultLength h0_reason h0_place arg h0_argumentCount h0_code rf rf_backtrace rf_detailMessage rf_cause rf_stackTrace rf_depth rf_suppressedExceptions n6 n5)) hP hD [0, 1] [] rfl rfl (by decide) (by decide) hk1 hFc hP1 hD1
      clear hPc hDc hKc hFc hz1 hk1 hP1 hK1 hD1
      rename Heap => H
      have hP : va_P (dC, dI) cls2 (wz_301 h0 rf tap h0_taped h0_length h0_kind h0_from h0_to h0_word h0_numeral h0_globalNames_r h0_globalPlaces_r h0_globalTypes_r h0_globalValues_r h0_globalCount h0_funs_r h0_funCount h0_open h0_signs h0_levels_r h0_now h0_known_r h0_knownCount h0_loops mad h0_madeLength mag h0_smalls_r h0_greats_r h0_module_r h0_spare_r h0_m h0_cursor h0_limit blk stk h0_top hgt lab ous kis los h0_depth h0_function mem h0_pages glo val h0_valueTop ffu fre fba fla h0_frames lat lhe h0_labelTop h0_steps h0_there rsl h0_resultLength h0_reason h0_place arg h0_argumentCount h0_code rf rf_backtrace rf_detailMessage rf_cause rf_stackTrace rf_depth rf_suppressedExceptions n6 n5) H := hP
      have hD : va_D A (wz_301 h0 rf tap h0_taped h0_length h0_kind h0_from h0_to h0_word h0_numeral h0_globalNames_r h0_globalPlaces_r h0_globalTypes_r h0_globalValues_r h0_globalCount h0_funs_r h0_funCount h0_open h0_signs h0_levels_r h0_now h0_known_r h0_knownCount h0_loops mad h0_madeLength mag h0_smalls_r h0_greats_r h0_module_r h0_spare_r h0_m h0_cursor h0_limit blk stk h0_top hgt lab ous kis los h0_depth h0_function mem h0_pages glo val h0_valueTop ffu fre fba fla h0_frames lat lhe h0_labelTop h0_steps h0_there rsl h0_resultLength h0_reason h0_place arg h0_argumentCount h0_code rf rf_backtrace rf_detailMessage rf_cause rf_stackTrace rf_depth rf_suppressedExceptions n6 n5) := hD
      have hP9 := hP.sb (wq := (wz_301 h0 rf tap h0_taped h0_length h0_kind h0_from h0_to h0_word h0_numeral h0_globalNames_r h0_globalPlaces_r h0_globalTypes_r h0_globalValues_r h0_globalCount h0_funs_r h0_funCount h0_open h0_signs h0_levels_r h0_now h0_known_r h0_knownCount h0_loops mad h0_madeLength mag h0_smalls_r h0_greats_r h0_module_r h0_spare_r h0_m h0_cursor h0_limit blk stk h0_top hgt lab ous kis los h0_depth h0_function mem h0_pages glo val h0_valueTop ffu fre fba fla h0_frames lat lhe h0_labelTop h0_steps h0_there rsl h0_resultLength h0_reason h0_place arg h0_argumentCount h0_code rf rf_backtrace rf_detailMessage rf_cause rf_stackTrace rf_depth rf_suppressedExceptions n6 n5)) [0, 1] rfl
      have hD9 := hD.sb (wq := (wz_301 h0 rf tap h0_taped h0_length h0_kind h0_from h0_to h0_word h0_numeral h0_globalNames_r h0_globalPlaces_r h0_globalTypes_r h0_globalValues_r h0_globalCount h0_funs_r h0_funCount h0_open h0_signs h0_levels_r h0_now h0_known_r h0_knownCount h0_loops mad h0_madeLength mag h0_smalls_r h0_greats_r h0_module_r h0_spare_r h0_m h0_cursor h0_limit blk stk h0_top hgt lab ous kis los h0_depth h0_function mem h0_pages glo val h0_valueTop ffu fre fba fla h0_frames lat lhe h0_labelTop h0_steps h0_there rsl h0_resultLength h0_reason h0_place arg h0_argumentCount h0_code rf rf_backtrace rf_detailMessage rf_cause rf_stackTrace rf_depth rf_suppressedExceptions n6 n5)) [0, 1] (by decide) rfl
      exact tz_athrow rfl hx hb hno hlocks (fun t ht hW => ⟨⟨(n5, n6), ⟨(b0_of ba0 (by (first | (apply Int.le_antisymm <;> omega) | omega))), rfl, by rw [ht]; exact (show xo _ _ s H from va_recv hK hP (ci := 15) (q0 := 1) rfl rfl).moved hW.alike⟩, va_P.he ht.symm hP9, va_K.moved hW.alike hK, hD9⟩, hS.F ht⟩) hS.2.2 d_MD_few_26
abbrev b_MD_deeper : ByteArray := prog_15_method_19_code
def y_MD_deeper : MethodName := ⟨R_MD, "deeper", "()V"⟩
abbrev w_MD_deeper : List Cond := .code y_MD_deeper b_MD_deeper 1 none :: lw_g
theorem kC_MD_deeper : Cond.code y_MD_deeper b_MD_deeper 1 none ∈ lw_g := in_c11 175 rfl rfl
theorem d_MD_deeper_0 : decode b_MD_deeper 0 = .ok (.aload_n 0, 1) := bz_c42 (by decide +kernel)
theorem d_MD_deeper_1 : decode b_MD_deeper 1 = .ok (.aload_n 0, 1) := bz_c42 (by decide +kernel)
theorem d_MD_deeper_2 : decode b_MD_deeper 2 = .ok (.getfield 143, 3) := bz_c180 (by decide +kernel)
theorem d_MD_deeper_5 : decode b_MD_deeper 5 = .ok (.bipush 40, 2) := bz_c16 (by decide +kernel)
theorem d_MD_deeper_7 : decode b_MD_deeper 7 = .ok (.if_icmp .ge 7, 3) := bz_c162 (by decide +kernel)
theorem d_MD_deeper_10 : decode b_MD_deeper 10 = .ok (.iconst 1, 1) := bz_c4 (by decide +kernel)
theorem d_MD_deeper_11 : decode b_MD_deeper 11 = .ok (.goto 4, 3) := bz_c167 (by decide +kernel)
theorem d_MD_deeper_14 : decode b_MD_deeper 14 = .ok (.iconst 0, 1) := bz_c3 (by decide +kernel)
theorem d_MD_deeper_15 : decode b_MD_deeper 15 = .ok (.invokevirtual 159, 3) := bz_c182 (by decide +kernel)
theorem d_MD_deeper_18 : decode b_MD_deeper 18 = .ok (.aload_n 0, 1) := bz_c42 (by decide +kernel)
theorem d_MD_deeper_19 : decode b_MD_deeper 19 = .ok (.dup, 1) := bz_c89 (by decide +kernel)
theorem d_MD_deeper_20 : decode b_MD_deeper 20 = .ok (.getfield 143, 3) := bz_c180 (by decide +kernel)
theorem d_MD_deeper_23 : decode b_MD_deeper 23 = .ok (.iconst 1, 1) := bz_c4 (by decide +kernel)
theorem d_MD_deeper_24 : decode b_MD_deeper 24 = .ok (.iadd, 1) := bz_c96 (by decide +kernel)
theorem d_MD_deeper_25 : decode b_MD_deeper 25 = .ok (.putfield 143, 3) := bz_c181 (by decide +kernel)
theorem d_MD_deeper_28 : decode b_MD_deeper 28 = .ok (.return_, 1) := bz_c177 (by decide +kernel)
theorem kM_MD_159 : Cond.methodLink R_MD 159 y_MD_few ∈ lw_g := in_c11 89 rfl rfl
theorem kV_MD_few : Cond.instanceMethod y_MD_few ∈ lw_g := in_c11 91 rfl rfl
theorem kS_MD_few : Cond.selects R_MD y_MD_few y_MD_few ∈ lw_g := in_s 127 (by decide +kernel) rfl
theorem kF_MD_143 : Cond.fieldLink R_MD 143 "WaferForgeModel" "open" "I" ∈ lw_g := in_c8 237 rfl rfl
abbrev at_MD_deeper (dC : Nat → ClassId) (dI : Nat → Nat → Nat) (h0 rf tap h0_globalNames_r h0_globalPlaces_r h0_globalTypes_r h0_globalValues_r h0_funs_r h0_levels_r h0_known_r mad mag h0_smalls_r h0_greats_r h0_module_r h0_spare_r blk stk hgt lab ous kis los mem glo val ffu fre fba fla lat lhe rsl arg : Nat) (h0_taped : Int32) (h0_length : Int32) (h0_kind : Int32) (h0_from : Int32) (h0_to : Int32) (h0_word : Value) (h0_numeral : Int64) (h0_globalCount : Int32) (h0_funCount : Int32) (h0_signs : Int32) (h0_now : Value) (h0_knownCount : Int32) (h0_loops : Int32) (h0_madeLength : Int32) (h0_m : Value) (h0_cursor : Int32) (h0_limit : Int32) (h0_top : Int32) (h0_depth : Int32) (h0_function : Int32) (h0_pages : Int32) (h0_valueTop : Int32) (h0_frames : Int32) (h0_labelTop : Int32) (h0_steps : Int32) (h0_there : Int32) (h0_resultLength : Int32) (h0_reason : Int32) (h0_place : Int32) (h0_argumentCount : Int32) (h0_code : Int32) (rf_backtrace : Value) (rf_detailMessage : Value) (rf_cause : Value) (rf_stackTrace : Value) (rf_depth : Int32) (rf_suppressedExceptions : Value) (A : Nat → Prop) (u : Int32 × Int32 × Int32) (t : State) : Prop := match u with | (h0_open, rf_place, rf_reason) => va_P (dC, dI) cls2 (wz_301 h0 rf tap h0_taped h0_length h0_kind h0_from h0_to h0_word h0_numeral h0_globalNames_r h0_globalPlaces_r h0_globalTypes_r h0_globalValues_r h0_globalCount h0_funs_r h0_funCount h0_open h0_signs h0_levels_r h0_now h0_known_r h0_knownCount h0_loops mad h0_madeLength mag h0_smalls_r h0_greats_r h0_module_r h0_spare_r h0_m h0_cursor h0_limit blk stk h0_top hgt lab ous kis los h0_depth h0_function mem h0_pages glo val h0_valueTop ffu fre fba fla h0_frames lat lhe h0_labelTop h0_steps h0_there rsl h0_resultLength h0_reason h0_place arg h0_argumentCount h0_code rf rf_backtrace rf_detailMessage rf_cause rf_stackTrace rf_depth rf_suppressedExceptions rf_reason rf_place) t.heap ∧ va_K (dC, dI) cls2 [] t ∧ va_D A (wz_301 h0 rf tap h0_taped h0_length h0_kind h0_from h0_to h0_word h0_numeral h0_globalNames_r h0_globalPlaces_r h0_globalTypes_r h0_globalValues_r h0_globalCount h0_funs_r h0_funCount h0_open h0_signs h0_levels_r h0_now h0_known_r h0_knownCount h0_loops mad h0_madeLength mag h0_smalls_r h0_greats_r h0_module_r h0_spare_r h0_m h0_cursor h0_limit blk stk h0_top hgt lab ous kis los h0_depth h0_function mem h0_pages glo val h0_valueTop ffu fre fba fla h0_frames lat lhe h0_labelTop h0_steps h0_there rsl h0_resultLength h0_reason h0_place arg h0_argumentCount h0_code rf rf_backtrace rf_detailMessage rf_cause rf_stackTrace rf_depth rf_suppressedExceptions rf_reason rf_place)
set_option maxHeartbeats 4000000 in
set_option maxRecDepth 100000 in
theorem c_MD_deeper (l : Launch) (hlt : l.stackTraces = false) (dC : Nat → ClassId) (dI : Nat → Nat → Nat) (sz : Nat) (h0 rf tap h0_globalNames_r h0_globalPlaces_r h0_globalTypes_r h0_globalValues_r h0_funs_r h0_levels_r h0_known_r mad mag h0_smalls_r h0_greats_r h0_module_r h0_spare_r blk stk hgt lab ous kis los mem glo val ffu fre fba fla lat lhe rsl arg : Nat) (h0_taped : Int32) (h0_length : Int32) (h0_kind : Int32) (h0_from : Int32) (h0_to : Int32) (h0_word : Value) (h0_numeral : Int64) (h0_globalCount : Int32) (h0_funCount : Int32) (h0_open : Int32) (h0_signs : Int32) (h0_now : Value) (h0_knownCount : Int32) (h0_loops : Int32) (h0_madeLength : Int32) (h0_m : Value) (h0_cursor : Int32) (h0_limit : Int32) (h0_top : Int32) (h0_depth : Int32) (h0_function : Int32) (h0_pages : Int32) (h0_valueTop : Int32) (h0_frames : Int32) (h0_labelTop : Int32) (h0_steps : Int32) (h0_there : Int32) (h0_resultLength : Int32) (h0_reason : Int32) (h0_place : Int32) (h0_argumentCount : Int32) (h0_code : Int32) (rf_backtrace : Value) (rf_detailMessage : Value) (rf_cause : Value) (rf_stackTrace : Value) (rf_depth : Int32) (rf_suppressedExceptions : Value) (rf_reason : Int32) (rf_place : Int32)  (b_h0_from : 0 ≤ h0_from.toInt ∧ h0_from.toInt ≤ 2000) (b_h0_open : 0 ≤ h0_open.toInt ∧ h0_open.toInt ≤ 40)    : tz_Met l y_MD_deeper w_MD_deeper ({ frames := 2, cells := 0, slots := 0, locals := 43 }) (va_Pc [.ref h0] (fun U => U.heap.size = sz ∧ va_P (dC, dI) cls2 (wz_301 h0 rf tap h0_taped h0_length h0_kind h0_from h0_to h0_word h0_numeral h0_globalNames_r h0_globalPlaces_r h0_globalTypes_r h0_globalValues_r h0_globalCount h0_funs_r h0_funCount h0_open h0_signs h0_levels_r h0_now h0_known_r h0_knownCount h0_loops mad h0_madeLength mag h0_smalls_r h0_greats_r h0_module_r h0_spare_r h0_m h0_cursor h0_limit blk stk h0_top hgt lab ous kis los h0_depth h0_function mem h0_pages glo val h0_valueTop ffu fre fba fla h0_frames lat lhe h0_labelTop h0_steps h0_there rsl h0_resultLength h0_reason h0_place arg h0_argumentCount h0_code rf rf_backtrace rf_detailMessage rf_cause rf_stackTrace rf_depth rf_suppressedExceptions rf_reason rf_place) U.heap ∧ va_K (dC, dI) cls2 [] U ∧ va_D (fun _ => True) (wz_301 h0 rf tap h0_taped h0_length h0_kind h0_from h0_to h0_word h0_numeral h0_globalNames_r h0_globalPlaces_r h0_globalTypes_r h0_globalValues_r h0_globalCount h0_funs_r h0_funCount h0_open h0_signs h0_levels_r h0_now h0_known_r h0_knownCount h0_loops mad h0_madeLength mag h0_smalls_r h0_greats_r h0_module_r h0_spare_r h0_m h0_cursor h0_limit blk stk h0_top hgt lab ous kis los h0_depth h0_function mem h0_pages glo val h0_valueTop ffu fre fba fla h0_frames lat lhe h0_labelTop h0_steps h0_there rsl h0_resultLength h0_reason h0_place arg h0_argumentCount h0_code rf rf_backtrace rf_detailMessage rf_cause rf_stackTrace rf_depth rf_suppressedExceptions rf_reason rf_place) ∧ sw_nest U)) (tq_Q (tr_v (fun (u : Int32 × Int32 × Int32) => match u with | (h0_open2, rf_place2, rf_reason2) => (0 ≤ h0_open2.toInt ∧ h0_open2.toInt ≤ 40) ∧ (h0_open2.toInt = h0_open.toInt + 1 ∧ h0_open.toInt < 40)) rf "WaferForgeModel$Refused" (fun (u : Int32 × Int32 × Int32) => match u with | (h0_open2, rf_place2, rf_reason2) => (0 ≤ h0_open2.toInt ∧ h0_open2.toInt ≤ 40) ∧ (h0_open2 = h0_open))) (at_MD_deeper dC dI h0 rf tap h0_globalNames_r h0_globalPlaces_r h0_globalTypes_r h0_globalValues_r h0_funs_r h0_levels_r h0_known_r mad mag h0_smalls_r h0_greats_r h0_module_r h0_spare_r blk stk hgt lab ous kis los mem glo val ffu fre fba fla lat lhe rsl arg h0_taped h0_length h0_kind h0_from h0_to h0_word h0_numeral h0_globalCount h0_funCount h0_signs h0_now h0_knownCount h0_loops h0_madeLength h0_m h0_cursor h0_limit h0_top h0_depth h0_function h0_pages h0_valueTop h0_frames h0_labelTop h0_steps h0_there h0_resultLength h0_reason h0_place h0_argumentCount h0_code rf_backtrace rf_detailMessage rf_cause rf_stackTrace rf_depth rf_suppressedExceptions (va_A (wz_301 h0 rf tap h0_taped h0_length h0_kind h0_from h0_to h0_word h0_numeral h0_globalNames_r h0_globalPlaces_r h0_globalTypes_r h0_globalValues_r h0_globalCount h0_funs_r h0_funCount h0_open h0_signs h0_levels_r h0_now h0_known_r h0_knownCount h0_loops mad h0_madeLength mag h0_smalls_r h0_greats_r h0_module_r h0_spare_r h0_m h0_cursor h0_limit blk stk h0_top hgt lab ous kis los h0_depth h0_function mem h0_pages glo val h0_valueTop ffu fre fba fla h0_frames lat lhe h0_labelTop h0_steps h0_there rsl h0_resultLength h0_reason h0_place arg h0_argumentCount h0_code rf rf_backtrace rf_detailMessage rf_cause rf_stackTrace rf_depth rf_suppressedExceptions rf_reason rf_place) sz)) (va_A (wz_301 h0 rf tap h0_taped h0_length h0_kind h0_from h0_to h0_word h0_numeral h0_globalNames_r h0_globalPlaces_r h0_globalTypes_r h0_globalValues_r h0_globalCount h0_funs_r h0_funCount h0_open h0_signs h0_levels_r h0_now h0_known_r h0_knownCount h0_loops mad h0_madeLength mag h0_smalls_r h0_greats_r h0_module_r h0_spare_r h0_m h0_cursor h0_limit blk stk h0_top hgt lab ous kis los h0_depth h0_function mem h0_pages glo val h0_valueTop ffu fre fba fla h0_frames lat lhe h0_labelTop h0_steps h0_there rsl h0_resultLength h0_reason h0_place arg h0_argumentCount h0_code rf rf_backtrace rf_detailMessage rf_cause rf_stackTrace rf_depth rf_suppressedExceptions rf_reason rf_place) sz)) (tz_k 0 0 0 0) (va_A (wz_301 h0 rf tap h0_taped h0_length h0_kind h0_from h0_to h0_word h0_numeral h0_globalNames_r h0_globalPlaces_r h0_globalTypes_r h0_globalValues_r h0_globalCount h0_funs_r h0_funCount h0_open h0_signs h0_levels_r h0_now h0_known_r h0_knownCount h0_loops mad h0_madeLength mag h0_smalls_r h0_greats_r h0_module_r h0_spare_r h0_m h0_cursor h0_limit blk stk h0_top hgt lab ous kis los h0_depth h0_function mem h0_pages glo val h0_valueTop ffu fre fba fla h0_frames lat lhe h0_labelTop h0_steps h0_there rsl h0_resultLength h0_reason h0_place arg h0_argumentCount h0_code rf rf_backtrace rf_detailMessage rf_cause rf_stackTrace rf_depth rf_suppressedExceptions rf_reason rf_place) sz) := by
  refine tz_ofW (cc := b_MD_deeper) (maxL := 1) (ret := none) (by decide) rfl ?_
  intro p e s m args below meth c s₁ B hml hno hv
  obtain ⟨rfl, hsz, hP, hK, hD0, hSW⟩ := hv
  have hx := B.exec
  have hb := B.bytes
  have hr := B.returns
  have hts0 := atoms_spec (ws := w_MD_deeper) B.pre
  have hts : ∀ w ∈ lw_g, w.before _ s = true := fun w h => hts0 w (List.mem_cons_of_mem _ h)
  have hown : s.vm.findClass R_MD = some m.cls := findClass_of_methodNamed B.named
  have hlocks := B.notSynchronized
  clear hts0
  subst hsz
  have hD := hD0.self (sz := s.heap.size)
  generalize hAe : va_A (wz_301 h0 rf tap h0_taped h0_length h0_kind h0_from h0_to h0_word h0_numeral h0_globalNames_r h0_globalPlaces_r h0_globalTypes_r h0_globalValues_r h0_globalCount h0_funs_r h0_funCount h0_open h0_signs h0_levels_r h0_now h0_known_r h0_knownCount h0_loops mad h0_madeLength mag h0_smalls_r h0_greats_r h0_module_r h0_spare_r h0_m h0_cursor h0_limit blk stk h0_top hgt lab ous kis los h0_depth h0_function mem h0_pages glo val h0_valueTop ffu fre fba fla h0_frames lat lhe h0_labelTop h0_steps h0_there rsl h0_resultLength h0_reason h0_place arg h0_argumentCount h0_code rf rf_backtrace rf_detailMessage rf_cause rf_stackTrace rf_depth rf_suppressedExceptions rf_reason rf_place) s.heap.size = A at hD ⊢
  have hA : ∀ q : Nat, s.heap.size ≤ q → A q := fun q h => by rw [← hAe]; exact Or.inr h
  clear hAe
  have hP : va_P (dC, dI) cls2 (wz_301 h0 rf tap h0_taped h0_length h0_kind h0_from h0_to h0_word h0_numeral h0_globalNames_r h0_globalPlaces_r h0_globalTypes_r h0_globalValues_r h0_globalCount h0_funs_r h0_funCount h0_open h0_signs h0_levels_r h0_now h0_known_r h0_knownCount h0_loops mad h0_madeLength mag h0_smalls_r h0_greats_r h0_module_r h0_spare_r h0_m h0_cursor h0_limit blk stk h0_top hgt lab ous kis los h0_depth h0_function mem h0_pages glo val h0_valueTop ffu fre fba fla h0_frames lat lhe h0_labelTop h0_steps h0_there rsl h0_resultLength h0_reason h0_place arg h0_argumentCount h0_code rf rf_backtrace rf_detailMessage rf_cause rf_stackTrace rf_depth rf_suppressedExceptions rf_reason rf_place) s.heap := hP
  have hl := lv_entry ([.ref h0]) (n := 1) (Nat.le_of_ble_eq_true rfl)
  rw [lg_entry_eq]
  generalize (lg_sl ([.ref h0]) ++ List.replicate (1 - (lg_sl ([.ref h0])).length) Slot.unset).toArray = ls at hl ⊢
  have hl : lv_has ls 1 [(0, .ref h0)] := hl
  have k0 : (0 : Int32).toInt = 0 := by decide
  refine w_gen (A := A) hP (fun H locs hP hS => ?_)
  have k1 : (1 : Int32).toInt = 1 := by decide
  have k40 : (40 : Int32).toInt = 40 := by decide
  refine lv_aload_n hx hb d_MD_deeper_0 rfl (lv_at hl 0 rfl) ?_
  refine lv_aload_n hx hb d_MD_deeper_1 rfl (lv_at hl 0 rfl) ?_
  refine va_get (D := (dC, dI)) (ci := 11) (v := .int h0_open) (C := R_MD) (T := F_MD) (N := 65) hx hb hts i_MD hown hK hP 0 rfl rfl 16 (by decide) (hts _ kF_MD_143) (fun _ h9 => h9) rfl d_MD_deeper_2 ?_
  refine lv_bipush (v := 40) hx hb d_MD_deeper_5 (by decide) ?_
  refine lv_icmp_ge (tgt := 14) hx hb d_MD_deeper_7 (by decide) (fun c7 => ?_) (fun c7 => ?_)
  · have q7 := leI c7
    refine lv_iconst (v := 0) hx hb d_MD_deeper_14 (by decide) ?_
    have hPc := hP.sb (wq := (wz_301 h0 rf tap h0_taped h0_length h0_kind h0_from h0_to h0_word h0_numeral h0_globalNames_r h0_globalPlaces_r h0_globalTypes_r h0_globalValues_r h0_globalCount h0_funs_r h0_funCount h0_open h0_signs h0_levels_r h0_now h0_known_r h0_knownCount h0_loops mad h0_madeLength mag h0_smalls_r h0_greats_r h0_module_r h0_spare_r h0_m h0_cursor h0_limit blk stk h0_top hgt lab ous kis los h0_depth h0_function mem h0_pages glo val h0_valueTop ffu fre fba fla h0_frames lat lhe h0_labelTop h0_steps h0_there rsl h0_resultLength h0_reason h0_place arg h0_argumentCount h0_code rf rf_backtrace rf_detailMessage rf_cause rf_stackTrace rf_depth rf_suppressedExceptions rf_reason rf_place)) [0, 1] rfl
    have hDc := hD.sb (wq := (wz_301 h0 rf tap h0_taped h0_length h0_kind h0_from h0_to h0_word h0_numeral h0_globalNames_r h0_globalPlaces_r h0_globalTypes_r h0_globalValues_r h0_globalCount h0_funs_r h0_funCount h0_open h0_signs h0_levels_r h0_now h0_known_r h0_knownCount h0_loops mad h0_madeLength mag h0_smalls_r h0_greats_r h0_module_r h0_spare_r h0_m h0_cursor h0_limit blk stk h0_top hgt lab ous kis los h0_depth h0_function mem h0_pages glo val h0_valueTop ffu fre fba fla h0_frames lat lhe h0_labelTop h0_steps h0_there rsl h0_resultLength h0_reason h0_place arg h0_argumentCount h0_code rf rf_backtrace rf_detailMessage rf_cause rf_stackTrace rf_depth rf_suppressedExceptions rf_reason rf_place)) [0, 1] (by decide) rfl
    have hKc := hK.sb (tyq := []) [] rfl
    have hFc := va_free (wc := (wz_301 h0 rf tap h0_taped h0_length h0_kind h0_from h0_to h0_word h0_numeral h0_globalNames_r h0_globalPlaces_r h0_globalTypes_r h0_globalValues_r h0_globalCount h0_funs_r h0_funCount h0_open h0_signs h0_levels_r h0_now h0_known_r h0_knownCount h0_loops mad h0_madeLength mag h0_smalls_r h0_greats_r h0_module_r h0_spare_r h0_m h0_cursor h0_limit blk stk h0_top hgt lab ous kis los h0_depth h0_function mem h0_pages glo val h0_valueTop ffu fre fba fla h0_frames lat lhe h0_labelTop h0_steps h0_there rsl h0_resultLength h0_reason h0_place arg h0_argumentCount h0_code rf rf_backtrace rf_detailMessage rf_cause rf_stackTrace rf_depth rf_suppressedExceptions rf_reason rf_place)) hD hS hA [0, 1] rfl
    refine tr_callv (tz_runV (As := [.int 0]) (rest := []) ⟨hx, hb, hml, hown, hts⟩ (c_MD_few l hlt dC dI H.size h0 rf tap h0_globalNames_r h0_globalPlaces_r h0_globalTypes_r h0_globalValues_r h0_funs_r h0_levels_r h0_known_r mad mag h0_smalls_r h0_greats_r h0_module_r h0_spare_r blk stk hgt lab ous kis los mem glo val ffu fre fba fla lat lhe rsl arg h0_taped h0_length h0_kind h0_from h0_to h0_word h0_numeral h0_globalCount h0_funCount h0_open h0_signs h0_now h0_knownCount h0_loops h0_madeLength h0_m h0_cursor h0_limit h0_top h0_depth h0_function h0_pages h0_valueTop h0_frames h0_labelTop h0_steps h0_there h0_resultLength h0_reason h0_place h0_argumentCount h0_code rf_backtrace rf_detailMessage rf_cause rf_stackTrace rf_depth rf_suppressedExceptions rf_reason rf_place (b_h0_from) 0 (Or.inl rfl)) (cwV 1 hts (gV kM_MD_159 kV_MD_few kS_MD_few kI_MD kC_MD_few) rfl rfl rfl (by decide +kernel) ⟨Nat.le_of_ble_eq_true rfl, Nat.le_of_ble_eq_true rfl⟩) ⟨fun a U g mk z => by obtain ⟨z0, z1, zP, zK, zD, zS⟩ := z; exact ⟨z0, z1, zP, va_K.moved (u := U) (U := U.calling g mk a) (Vm.Alike.refl U.vm) zK, zD, sw_nest.same (s := U) (U := U.calling g mk a) rfl zS⟩, va_recv hKc hPc (ci := 11) (q0 := 0) rfl rfl, fun U hU hW => ⟨rfl, by rw [hU], va_P.he hU.symm hPc, va_K.moved hW.alike hKc, hDc.weaken (fun _ _ _ _ => trivial), hSW.warm hW⟩⟩ rfl rfl hl.1 rfl (lv_room (Nat.le_of_ble_eq_true rfl)) d_MD_deeper_15 ⟨Nat.le_of_ble_eq_true rfl, Nat.le_of_ble_eq_true rfl⟩) hS (fun q _ h => hFc q h) hFc (fun u t H1 locs ht hvm hw hB hz1 hk1 hS => ?_) (fun xx u t H1 locs ht hvm hw hXX hB hz1 hk1 hS => ?_)
    rotate_left
    · skip
      obtain ⟨hxa, hXX⟩ := hXX
      obtain ⟨n2, n3⟩ := u
      try dsimp only at hw
      have tq9 := hw
      obtain ⟨hP1, hK1, hD1⟩ := hB
      replace hP1 := va_P.he ht hP1
      obtain ⟨hP, hD⟩ := va_join (wr := []) (w1 := (wz_301 h0 rf tap h0_taped h0_length h0_kind h0_from h0_to h0_word h0_numeral h0_globalNames_r h0_globalPlaces_r h0_globalTypes_r h0_globalValues_r h0_globalCount h0_funs_r h0_funCount h0_open h0_signs h0_levels_r h0_now h0_known_r h0_knownCount h0_loops mad h0_madeLength mag h0_smalls_r h0_greats_r h0_module_r h0_spare_r h0_m h0_cursor h0_limit blk stk h0_top hgt lab ous kis los h0_depth h0_function mem h0_pages glo val h0_valueTop ffu fre fba fla h0_frames lat lhe h0_labelTop h0_steps h0_there rsl h0_resultLength h0_reason h0_place arg h0_argumentCount h0_code rf rf_backtrace rf_detailMessage rf_cause rf_stackTrace rf_depth rf_suppressedExceptions n3 n2)) hP hD [0, 1] [] rfl rfl (by decide) (by decide) hk1 hFc hP1 hD1
      have hP : va_P (dC, dI) cls2 (wz_301 h0 rf tap h0_taped h0_length h0_kind h0_from h0_to h0_word h0_numeral h0_globalNames_r h0_globalPlaces_r h0_globalTypes_r h0_globalValues_r h0_globalCount h0_funs_r h0_funCount h0_open h0_signs h0_levels_r h0_now h0_known_r h0_knownCount h0_loops mad h0_madeLength mag h0_smalls_r h0_greats_r h0_module_r h0_spare_r h0_m h0_cursor h0_limit blk stk h0_top hgt lab ous kis los h0_depth h0_function mem h0_pages glo val h0_valueTop ffu fre fba fla h0_frames lat lhe h0_labelTop h0_steps h0_there rsl h0_resultLength h0_reason h0_place arg h0_argumentCount h0_code rf rf_backtrace rf_detailMessage rf_cause rf_stackTrace rf_depth rf_suppressedExceptions n3 n2) H1 := hP
      have hD : va_D A (wz_301 h0 rf tap h0_taped h0_length h0_kind h0_from h0_to h0_word h0_numeral h0_globalNames_r h0_globalPlaces_r h0_globalTypes_r h0_globalValues_r h0_globalCount h0_funs_r h0_funCount h0_open h0_signs h0_levels_r h0_now h0_known_r h0_knownCount h0_loops mad h0_madeLength mag h0_smalls_r h0_greats_r h0_module_r h0_spare_r h0_m h0_cursor h0_limit blk stk h0_top hgt lab ous kis los h0_depth h0_function mem h0_pages glo val h0_valueTop ffu fre fba fla h0_frames lat lhe h0_labelTop h0_steps h0_there rsl h0_resultLength h0_reason h0_place arg h0_argumentCount h0_code rf rf_backtrace rf_detailMessage rf_cause rf_stackTrace rf_depth rf_suppressedExceptions n3 n2) := hD
      have hP9 := hP.sb (wq := (wz_301 h0 rf tap h0_taped h0_length h0_kind h0_from h0_to h0_word h0_numeral h0_globalNames_r h0_globalPlaces_r h0_globalTypes_r h0_globalValues_r h0_globalCount h0_funs_r h0_funCount h0_open h0_signs h0_levels_r h0_now h0_known_r h0_knownCount h0_loops mad h0_madeLength mag h0_smalls_r h0_greats_r h0_module_r h0_spare_r h0_m h0_cursor h0_limit blk stk h0_top hgt lab ous kis los h0_depth h0_function mem h0_pages glo val h0_valueTop ffu fre fba fla h0_frames lat lhe h0_labelTop h0_steps h0_there rsl h0_resultLength h0_reason h0_place arg h0_argumentCount h0_code rf rf_backtrace rf_detailMessage rf_cause rf_stackTrace rf_depth rf_suppressedExceptions n3 n2)) [0, 1] rfl
      have hD9 := hD.sb (wq := (wz_301 h0 rf tap h0_taped h0_length h0_kind h0_from h0_to h0_word h0_numeral h0_globalNames_r h0_globalPlaces_r h0_globalTypes_r h0_globalValues_r h0_globalCount h0_funs_r h0_funCount h0_open h0_signs h0_levels_r h0_now h0_known_r h0_knownCount h0_loops mad h0_madeLength mag h0_smalls_r h0_greats_r h0_module_r h0_spare_r h0_m h0_cursor h0_limit blk stk h0_top hgt lab ous kis los h0_depth h0_function mem h0_pages glo val h0_valueTop ffu fre fba fla h0_frames lat lhe h0_labelTop h0_steps h0_there rsl h0_resultLength h0_reason h0_place arg h0_argumentCount h0_code rf rf_backtrace rf_detailMessage rf_cause rf_stackTrace rf_depth rf_suppressedExceptions n3 n2)) [0, 1] (by decide) rfl
      exact tz_leave rfl hno hlocks (fun t ht hW => ⟨⟨(h0_open, n2, n3), ⟨⟨b_h0_open, rfl⟩, hxa, by rw [ht]; exact hXX.moved hW.alike⟩, va_P.he ht.symm hP9, va_K.moved hW.alike hK, hD9⟩, hS.F ht⟩) hS.2.2
    obtain ⟨n4, n5⟩ := u
    try dsimp only at hw
    have xr1 := hw
    try clear hw
    exact absurd xr1 (by decide)
  · have q7 := nleI c7
    refine lv_iconst (v := 1) hx hb d_MD_deeper_10 (by decide) ?_
    refine lv_goto (tgt := 15) hx hb d_MD_deeper_11 (by decide) ?_
    have hPc := hP.sb (wq := (wz_301 h0 rf tap h0_taped h0_length h0_kind h0_from h0_to h0_word h0_numeral h0_globalNames_r h0_globalPlaces_r h0_globalTypes_r h0_globalValues_r h0_globalCount h0_funs_r h0_funCount h0_open h0_signs h0_levels_r h0_now h0_known_r h0_knownCount h0_loops mad h0_madeLength mag h0_smalls_r h0_greats_r h0_module_r h0_spare_r h0_m h0_cursor h0_limit blk stk h0_top hgt lab ous kis los h0_depth h0_function mem h0_pages glo val h0_valueTop ffu fre fba fla h0_frames lat lhe h0_labelTop h0_steps h0_there rsl h0_resultLength h0_reason h0_place arg h0_argumentCount h0_code rf rf_backtrace rf_detailMessage rf_cause rf_stackTrace rf_depth rf_suppressedExceptions rf_reason rf_place)) [0, 1] rfl
    have hDc := hD.sb (wq := (wz_301 h0 rf tap h0_taped h0_length h0_kind h0_from h0_to h0_word h0_numeral h0_globalNames_r h0_globalPlaces_r h0_globalTypes_r h0_globalValues_r h0_globalCount h0_funs_r h0_funCount h0_open h0_signs h0_levels_r h0_now h0_known_r h0_knownCount h0_loops mad h0_madeLength mag h0_smalls_r h0_greats_r h0_module_r h0_spare_r h0_m h0_cursor h0_limit blk stk h0_top hgt lab ous kis los h0_depth h0_function mem h0_pages glo val h0_valueTop ffu fre fba fla h0_frames lat lhe h0_labelTop h0_steps h0_there rsl h0_resultLength h0_reason h0_place arg h0_argumentCount h0_code rf rf_backtrace rf_detailMessage rf_cause rf_stackTrace rf_depth rf_suppressedExceptions rf_reason rf_place)) [0, 1] (by decide) rfl
    have hKc := hK.sb (tyq := []) [] rfl
    have hFc := va_free (wc := (wz_301 h0 rf tap h0_taped h0_length h0_kind h0_from h0_to h0_word h0_numeral h0_globalNames_r h0_globalPlaces_r h0_globalTypes_r h0_globalValues_r h0_globalCount h0_funs_r h0_funCount h0_open h0_signs h0_levels_r h0_now h0_known_r h0_knownCount h0_loops mad h0_madeLength mag h0_smalls_r h0_greats_r h0_module_r h0_spare_r h0_m h0_cursor h0_limit blk stk h0_top hgt lab ous kis los h0_depth h0_function mem h0_pages glo val h0_valueTop ffu fre fba fla h0_frames lat lhe h0_labelTop h0_steps h0_there rsl h0_resultLength h0_reason h0_place arg h0_argumentCount h0_code rf rf_backtrace rf_detailMessage rf_cause rf_stackTrace rf_depth rf_suppressedExceptions rf_reason rf_place)) hD hS hA [0, 1] rfl
    refine tr_callv (tz_runV (As := [.int 1]) (rest := []) ⟨hx, hb, hml, hown, hts⟩ (c_MD_few l hlt dC dI H.size h0 rf tap h0_globalNames_r h0_globalPlaces_r h0_globalTypes_r h0_globalValues_r h0_funs_r h0_levels_r h0_known_r mad mag h0_smalls_r h0_greats_r h0_module_r h0_spare_r blk stk hgt lab ous kis los mem glo val ffu fre fba fla lat lhe rsl arg h0_taped h0_length h0_kind h0_from h0_to h0_word h0_numeral h0_globalCount h0_funCount h0_open h0_signs h0_now h0_knownCount h0_loops h0_madeLength h0_m h0_cursor h0_limit h0_top h0_depth h0_function h0_pages h0_valueTop h0_frames h0_labelTop h0_steps h0_there h0_resultLength h0_reason h0_place h0_argumentCount h0_code rf_backtrace rf_detailMessage rf_cause rf_stackTrace rf_depth rf_suppressedExceptions rf_reason rf_place (b_h0_from) 1 (Or.inr rfl)) (cwV 1 hts (gV kM_MD_159 kV_MD_few kS_MD_few kI_MD kC_MD_few) rfl rfl rfl (by decide +kernel) ⟨Nat.le_of_ble_eq_true rfl, Nat.le_of_ble_eq_true rfl⟩) ⟨fun a U g mk z => by obtain ⟨z0, z1, zP, zK, zD, zS⟩ := z; exact ⟨z0, z1, zP, va_K.moved (u := U) (U := U.calling g mk a) (Vm.Alike.refl U.vm) zK, zD, sw_nest.same (s := U) (U := U.calling g mk a) rfl zS⟩, va_recv hKc hPc (ci := 11) (q0 := 0) rfl rfl, fun U hU hW => ⟨rfl, by rw [hU], va_P.he hU.symm hPc, va_K.moved hW.alike hKc, hDc.weaken (fun _ _ _ _ => trivial), hSW.warm hW⟩⟩ rfl rfl hl.1 rfl (lv_room (Nat.le_of_ble_eq_true rfl)) d_MD_deeper_15 ⟨Nat.le_of_ble_eq_true rfl, Nat.le_of_ble_eq_true rfl⟩) hS (fun q _ h => hFc q h) hFc (fun u t H1 locs ht hvm hw hB hz1 hk1 hS => ?_) (fun xx u t H1 locs ht hvm hw hXX hB hz1 hk1 hS => ?_)
    rotate_left
    · skip
      obtain ⟨hxa, hXX⟩ := hXX
      obtain ⟨n7, n8⟩ := u
      try dsimp only at hw
      have tq9 := hw
      exact absurd tq9 (by decide)
    obtain ⟨n9, n10⟩ := u
    try dsimp only at hw
    have xr6 := hw
    try clear hw
    obtain ⟨hP1, hK1, hD1⟩ := hB
    replace hP1 := va_P.he ht hP1
    obtain ⟨hP, hD⟩ := va_join (wr := []) (w1 := (wz_301 h0 rf tap h0_taped h0_length h0_kind h0_from h0_to h0_word h0_numeral h0_globalNames_r h0_globalPlaces_r h0_globalTypes_r h0_globalValues_r h0_globalCount h0_funs_r h0_funCount h0_open h0_signs h0_levels_r h0_now h0_known_r h0_knownCount h0_loops mad h0_madeLength mag h0_smalls_r h0_greats_r h0_module_r h0_spare_r h0_m h0_cursor h0_limit blk stk h0_top hgt lab ous kis los h0_depth h0_function mem h0_pages glo val h0_valueTop ffu fre fba fla h0_frames lat lhe h0_labelTop h0_steps h0_there rsl h0_resultLength h0_reason h0_place arg h0_argumentCount h0_code rf rf_backtrace rf_detailMessage rf_cause rf_stackTrace rf_depth rf_suppressedExceptions n10 n9)) hP hD [0, 1] [] rfl rfl (by decide) (by decide) hk1 hFc hP1 hD1
    clear hPc hDc hKc hFc hz1 hk1 hP1 hK1 hD1
    rename Heap => H
    have hP : va_P (dC, dI) cls2 (wz_301 h0 rf tap h0_taped h0_length h0_kind h0_from h0_to h0_word h0_numeral h0_globalNames_r h0_globalPlaces_r h0_globalTypes_r h0_globalValues_r h0_globalCount h0_funs_r h0_funCount h0_open h0_signs h0_levels_r h0_now h0_known_r h0_knownCount h0_loops mad h0_madeLength mag h0_smalls_r h0_greats_r h0_module_r h0_spare_r h0_m h0_cursor h0_limit blk stk h0_top hgt lab ous kis los h0_depth h0_function mem h0_pages glo val h0_valueTop ffu fre fba fla h0_frames lat lhe h0_labelTop h0_steps h0_there rsl h0_resultLength h0_reason h0_place arg h0_argumentCount h0_code rf rf_backtrace rf_detailMessage rf_cause rf_stackTrace rf_depth rf_suppressedExceptions n10 n9) H := hP
    have hD : va_D A (wz_301 h0 rf tap h0_taped h0_length h0_kind h0_from h0_to h0_word h0_numeral h0_globalNames_r h0_globalPlaces_r h0_globalTypes_r h0_globalValues_r h0_globalCount h0_funs_r h0_funCount h0_open h0_signs h0_levels_r h0_now h0_known_r h0_knownCount h0_loops mad h0_madeLength mag h0_smalls_r h0_greats_r h0_module_r h0_spare_r h0_m h0_cursor h0_limit blk stk h0_top hgt lab ous kis los h0_depth h0_function mem h0_pages glo val h0_valueTop ffu fre fba fla h0_frames lat lhe h0_labelTop h0_steps h0_there rsl h0_resultLength h0_reason h0_place arg h0_argumentCount h0_code rf rf_backtrace rf_detailMessage rf_cause rf_stackTrace rf_depth rf_suppressedExceptions n10 n9) := hD
    refine lv_aload_n hx hb d_MD_deeper_18 rfl (lv_at hl 0 rfl) ?_
    refine lv_dup hx hb d_MD_deeper_19 rfl ?_
    refine va_get (D := (dC, dI)) (ci := 11) (v := .int h0_open) (C := R_MD) (T := F_MD) (N := 65) hx hb hts i_MD hown hK hP 0 rfl rfl 16 (by decide) (hts _ kF_MD_143) (fun _ h9 => h9) rfl d_MD_deeper_20 ?_
    refine lv_iconst (v := 1) hx hb d_MD_deeper_23 (by decide) ?_
    refine lv_iadd hx hb d_MD_deeper_24 ?_
    refine lv_topi (fun x11 ex11 => ?_)
    have tx11 : x11.toInt = h0_open.toInt + 1 := by have z := i32_add ex11 (by (first | (apply Int.le_antisymm <;> omega) | omega)) (by (first | (apply Int.le_antisymm <;> omega) | omega)); first | exact z | (first | (apply Int.le_antisymm <;> omega) | omega)
    refine va_put (D := (dC, dI)) (ci := 11) (v := .int x11) (ty := .int) (C := R_MD) (T := F_MD) (N := 65) hx hb hts i_MD t_MD t_MD_ok n_MD hown hK hP hD hS 0 rfl rfl 16 (by decide) (hts _ kF_MD_143) (fun _ h9 => h9) rfl (by decide +kernel) rfl rfl (Nat.le_of_ble_eq_true rfl) d_MD_deeper_25 (fun H locs hP hD hS => ?_)
    have hP9 := hP.sb (wq := (wz_301 h0 rf tap h0_taped h0_length h0_kind h0_from h0_to h0_word h0_numeral h0_globalNames_r h0_globalPlaces_r h0_globalTypes_r h0_globalValues_r h0_globalCount h0_funs_r h0_funCount x11 h0_signs h0_levels_r h0_now h0_known_r h0_knownCount h0_loops mad h0_madeLength mag h0_smalls_r h0_greats_r h0_module_r h0_spare_r h0_m h0_cursor h0_limit blk stk h0_top hgt lab ous kis los h0_depth h0_function mem h0_pages glo val h0_valueTop ffu fre fba fla h0_frames lat lhe h0_labelTop h0_steps h0_there rsl h0_resultLength h0_reason h0_place arg h0_argumentCount h0_code rf rf_backtrace rf_detailMessage rf_cause rf_stackTrace rf_depth rf_suppressedExceptions n10 n9)) [0, 1] rfl
    have hD9 := hD.sb (wq := (wz_301 h0 rf tap h0_taped h0_length h0_kind h0_from h0_to h0_word h0_numeral h0_globalNames_r h0_globalPlaces_r h0_globalTypes_r h0_globalValues_r h0_globalCount h0_funs_r h0_funCount x11 h0_signs h0_levels_r h0_now h0_known_r h0_knownCount h0_loops mad h0_madeLength mag h0_smalls_r h0_greats_r h0_module_r h0_spare_r h0_m h0_cursor h0_limit blk stk h0_top hgt lab ous kis los h0_depth h0_function mem h0_pages glo val h0_valueTop ffu fre fba fla h0_frames lat lhe h0_labelTop h0_steps h0_there rsl h0_resultLength h0_reason h0_place arg h0_argumentCount h0_code rf rf_backtrace rf_detailMessage rf_cause rf_stackTrace rf_depth rf_suppressedExceptions n10 n9)) [0, 1] (by decide) rfl
    exact tz_up (fun _ => rfl) (W.vret hx hb hr (fun t ht hW => ⟨⟨(x11, n9, n10), ⟨rfl, ⟨by (try dsimp only) <;> (first | (apply Int.le_antisymm <;> omega) | omega), ⟨by (try dsimp only) <;> (first | (apply Int.le_antisymm <;> omega) | omega), by (first | (apply Int.le_antisymm <;> omega) | omega)⟩⟩⟩, va_P.he ht.symm hP9, va_K.moved hW.alike hK, hD9⟩, hS.F ht⟩) hS.2.2 d_MD_deeper_28)
abbrev b_MD_memory1 : ByteArray := prog_15_method_50_code
def y_MD_memory1 : MethodName := ⟨R_MD, "memory", "(II)V"⟩
abbrev w_MD_memory1 : List Cond := .code y_MD_memory1 b_MD_memory1 3 none :: lw_g
theorem kC_MD_memory1 : Cond.code y_MD_memory1 b_MD_memory1 3 none ∈ lw_g := in_c12 211 rfl rfl
theorem d_MD_memory1_0 : decode b_MD_memory1 0 = .ok (.aload_n 0, 1) := bz_c42 (by decide +kernel)
theorem d_MD_memory1_1 : decode b_MD_memory1 1 = .ok (.iload_n 1, 1) := bz_c27 (by decide +kernel)
theorem d_MD_memory1_2 : decode b_MD_memory1 2 = .ok (.invokevirtual 398, 3) := bz_c182 (by decide +kernel)
theorem d_MD_memory1_5 : decode b_MD_memory1 5 = .ok (.aload_n 0, 1) := bz_c42 (by decide +kernel)
theorem d_MD_memory1_6 : decode b_MD_memory1 6 = .ok (.iload_n 2, 1) := bz_c28 (by decide +kernel)
theorem d_MD_memory1_7 : decode b_MD_memory1 7 = .ok (.invokevirtual 398, 3) := bz_c182 (by decide +kernel)
theorem d_MD_memory1_10 : decode b_MD_memory1 10 = .ok (.aload_n 0, 1) := bz_c42 (by decide +kernel)
theorem d_MD_memory1_11 : decode b_MD_memory1 11 = .ok (.iconst 0, 1) := bz_c3 (by decide +kernel)
theorem d_MD_memory1_12 : decode b_MD_memory1 12 = .ok (.invokevirtual 398, 3) := bz_c182 (by decide +kernel)
theorem d_MD_memory1_15 : decode b_MD_memory1 15 = .ok (.return_, 1) := bz_c177 (by decide +kernel)
abbrev at_MD_memory1 (dC : Nat → ClassId) (dI : Nat → Nat → Nat) (h0 rf tap h0_globalNames_r h0_globalPlaces_r h0_globalTypes_r h0_globalValues_r h0_funs_r h0_levels_r h0_known_r mad mag h0_smalls_r h0_greats_r h0_module_r h0_spare_r blk stk hgt lab ous kis los mem glo val ffu fre fba fla lat lhe rsl arg : Nat) (cmad : ClassId) (h0_taped : Int32) (h0_length : Int32) (h0_kind : Int32) (h0_from : Int32) (h0_to : Int32) (h0_word : Value) (h0_numeral : Int64) (h0_globalCount : Int32) (h0_funCount : Int32) (h0_open : Int32) (h0_signs : Int32) (h0_now : Value) (h0_knownCount : Int32) (h0_loops : Int32) (h0_m : Value) (h0_cursor : Int32) (h0_limit : Int32) (h0_top : Int32) (h0_depth : Int32) (h0_function : Int32) (h0_pages : Int32) (h0_valueTop : Int32) (h0_frames : Int32) (h0_labelTop : Int32) (h0_steps : Int32) (h0_there : Int32) (h0_resultLength : Int32) (h0_reason : Int32) (h0_place : Int32) (h0_argumentCount : Int32) (h0_code : Int32) (A : Nat → Prop) (u : (Nat → Int32) × Int32) (t : State) : Prop := match u with | (gmad, h0_madeLength) => va_P (dC, dI) cls2 (wz_311 h0 rf tap h0_taped h0_length h0_kind h0_from h0_to h0_word h0_numeral h0_globalNames_r h0_globalPlaces_r h0_globalTypes_r h0_globalValues_r h0_globalCount h0_funs_r h0_funCount h0_open h0_signs h0_levels_r h0_now h0_known_r h0_knownCount h0_loops mad h0_madeLength mag h0_smalls_r h0_greats_r h0_module_r h0_spare_r h0_m h0_cursor h0_limit blk stk h0_top hgt lab ous kis los h0_depth h0_function mem h0_pages glo val h0_valueTop ffu fre fba fla h0_frames lat lhe h0_labelTop h0_steps h0_there rsl h0_resultLength h0_reason h0_place arg h0_argumentCount h0_code mad cmad gmad) t.heap ∧ va_K (dC, dI) cls2 [(cmad, .byte)] t ∧ va_D A (wz_311 h0 rf tap h0_taped h0_length h0_kind h0_from h0_to h0_word h0_numeral h0_globalNames_r h0_globalPlaces_r h0_globalTypes_r h0_globalValues_r h0_globalCount h0_funs_r h0_funCount h0_open h0_signs h0_levels_r h0_now h0_known_r h0_knownCount h0_loops mad h0_madeLength mag h0_smalls_r h0_greats_r h0_module_r h0_spare_r h0_m h0_cursor h0_limit blk stk h0_top hgt lab ous kis los h0_depth h0_function mem h0_pages glo val h0_valueTop ffu fre fba fla h0_frames lat lhe h0_labelTop h0_steps h0_there rsl h0_resultLength h0_reason h0_place arg h0_argumentCount h0_code mad cmad gmad)
set_option maxHeartbeats 4000000 in
set_option maxRecDepth 100000 in
theorem c_MD_memory1 (l : Launch) (dC : Nat → ClassId) (dI : Nat → Nat → Nat) (sz : Nat) (h0 rf tap h0_globalNames_r h0_globalPlaces_r h0_globalTypes_r h0_globalValues_r h0_funs_r h0_levels_r h0_known_r mad mag h0_smalls_r h0_greats_r h0_module_r h0_spare_r blk stk hgt lab ous kis los mem glo val ffu fre fba fla lat lhe rsl arg : Nat) (cmad : ClassId) (h0_taped : Int32) (h0_length : Int32) (h0_kind : Int32) (h0_from : Int32) (h0_to : Int32) (h0_word : Value) (h0_numeral : Int64) (h0_globalCount : Int32) (h0_funCount : Int32) (h0_open : Int32) (h0_signs : Int32) (h0_now : Value) (h0_knownCount : Int32) (h0_loops : Int32) (h0_madeLength : Int32) (h0_m : Value) (h0_cursor : Int32) (h0_limit : Int32) (h0_top : Int32) (h0_depth : Int32) (h0_function : Int32) (h0_pages : Int32) (h0_valueTop : Int32) (h0_frames : Int32) (h0_labelTop : Int32) (h0_steps : Int32) (h0_there : Int32) (h0_resultLength : Int32) (h0_reason : Int32) (h0_place : Int32) (h0_argumentCount : Int32) (h0_code : Int32) (gmad : Nat → Int32)  (b_h0_madeLength : 0 ≤ h0_madeLength.toInt ∧ h0_madeLength.toInt ≤ 32768) (p0 : Int32) (p1 : Int32)  (hm : h0_madeLength.toInt + 3 ≤ 32768) : Met l y_MD_memory1 w_MD_memory1 ({ frames := 1, cells := 0, slots := 0, locals := 21 }) (va_Pc [.ref h0, .int p0, .int p1] (fun U => U.heap.size = sz ∧ va_P (dC, dI) cls2 (wz_311 h0 rf tap h0_taped h0_length h0_kind h0_from h0_to h0_word h0_numeral h0_globalNames_r h0_globalPlaces_r h0_globalTypes_r h0_globalValues_r h0_globalCount h0_funs_r h0_funCount h0_open h0_signs h0_levels_r h0_now h0_known_r h0_knownCount h0_loops mad h0_madeLength mag h0_smalls_r h0_greats_r h0_module_r h0_spare_r h0_m h0_cursor h0_limit blk stk h0_top hgt lab ous kis los h0_depth h0_function mem h0_pages glo val h0_valueTop ffu fre fba fla h0_frames lat lhe h0_labelTop h0_steps h0_there rsl h0_resultLength h0_reason h0_place arg h0_argumentCount h0_code mad cmad gmad) U.heap ∧ va_K (dC, dI) cls2 [(cmad, .byte)] U ∧ va_D (fun _ => True) (wz_311 h0 rf tap h0_taped h0_length h0_kind h0_from h0_to h0_word h0_numeral h0_globalNames_r h0_globalPlaces_r h0_globalTypes_r h0_globalValues_r h0_globalCount h0_funs_r h0_funCount h0_open h0_signs h0_levels_r h0_now h0_known_r h0_knownCount h0_loops mad h0_madeLength mag h0_smalls_r h0_greats_r h0_module_r h0_spare_r h0_m h0_cursor h0_limit blk stk h0_top hgt lab ous kis los h0_depth h0_function mem h0_pages glo val h0_valueTop ffu fre fba fla h0_frames lat lhe h0_labelTop h0_steps h0_there rsl h0_resultLength h0_reason h0_place arg h0_argumentCount h0_code mad cmad gmad) ∧ sw_nest U)) (va_Qv (fun (u : (Nat → Int32) × Int32) => match u with | (gmad2, h0_madeLength2) => (0 ≤ h0_madeLength2.toInt ∧ h0_madeLength2.toInt ≤ 32768) ∧ (h0_madeLength2.toInt = h0_madeLength.toInt + 3 ∧ bl gmad2 h0_madeLength2.toNatClampNeg = bl gmad h0_madeLength.toNatClampNeg ++ [bn p0, bn p1, 0])) (at_MD_memory1 dC dI h0 rf tap h0_globalNames_r h0_globalPlaces_r h0_globalTypes_r h0_globalValues_r h0_funs_r h0_levels_r h0_known_r mad mag h0_smalls_r h0_greats_r h0_module_r h0_spare_r blk stk hgt lab ous kis los mem glo val ffu fre fba fla lat lhe rsl arg cmad h0_taped h0_length h0_kind h0_from h0_to h0_word h0_numeral h0_globalCount h0_funCount h0_open h0_signs h0_now h0_knownCount h0_loops h0_m h0_cursor h0_limit h0_top h0_depth h0_function h0_pages h0_valueTop h0_frames h0_labelTop h0_steps h0_there h0_resultLength h0_reason h0_place h0_argumentCount h0_code (va_A (wz_311 h0 rf tap h0_taped h0_length h0_kind h0_from h0_to h0_word h0_numeral h0_globalNames_r h0_globalPlaces_r h0_globalTypes_r h0_globalValues_r h0_globalCount h0_funs_r h0_funCount h0_open h0_signs h0_levels_r h0_now h0_known_r h0_knownCount h0_loops mad h0_madeLength mag h0_smalls_r h0_greats_r h0_module_r h0_spare_r h0_m h0_cursor h0_limit blk stk h0_top hgt lab ous kis los h0_depth h0_function mem h0_pages glo val h0_valueTop ffu fre fba fla h0_frames lat lhe h0_labelTop h0_steps h0_there rsl h0_resultLength h0_reason h0_place arg h0_argumentCount h0_code mad cmad gmad) sz)) (va_A (wz_311 h0 rf tap h0_taped h0_length h0_kind h0_from h0_to h0_word h0_numeral h0_globalNames_r h0_globalPlaces_r h0_globalTypes_r h0_globalValues_r h0_globalCount h0_funs_r h0_funCount h0_open h0_signs h0_levels_r h0_now h0_known_r h0_knownCount h0_loops mad h0_madeLength mag h0_smalls_r h0_greats_r h0_module_r h0_spare_r h0_m h0_cursor h0_limit blk stk h0_top hgt lab ous kis los h0_depth h0_function mem h0_pages glo val h0_valueTop ffu fre fba fla h0_frames lat lhe h0_labelTop h0_steps h0_there rsl h0_resultLength h0_reason h0_place arg h0_argumentCount h0_code mad cmad gmad) sz)) 0 0 (va_A (wz_311 h0 rf tap h0_taped h0_length h0_kind h0_from h0_to h0_word h0_numeral h0_globalNames_r h0_globalPlaces_r h0_globalTypes_r h0_globalValues_r h0_globalCount h0_funs_r h0_funCount h0_open h0_signs h0_levels_r h0_now h0_known_r h0_knownCount h0_loops mad h0_madeLength mag h0_smalls_r h0_greats_r h0_module_r h0_spare_r h0_m h0_cursor h0_limit blk stk h0_top hgt lab ous kis los h0_depth h0_function mem h0_pages glo val h0_valueTop ffu fre fba fla h0_frames lat lhe h0_labelTop h0_steps h0_there rsl h0_resultLength h0_reason h0_place arg h0_argumentCount h0_code mad cmad gmad) sz) := by
  refine Met.ofW (cc := b_MD_memory1) (maxL := 3) (ret := none) (by decide) rfl ?_
  intro p e s m args below meth c s₁ B hml hv
  obtain ⟨rfl, hsz, hP, hK, hD0, hSW⟩ := hv
  have hx := B.exec
  have hb := B.bytes
  have hr := B.returns
  have hts0 := atoms_spec (ws := w_MD_memory1) B.pre
  have hts : ∀ w ∈ lw_g, w.before _ s = true := fun w h => hts0 w (List.mem_cons_of_mem _ h)
  have hown : s.vm.findClass R_MD = some m.cls := findClass_of_methodNamed B.named
  have hlocks := B.notSynchronized
  clear hts0
  subst hsz
  have hD := hD0.self (sz := s.heap.size)
  generalize hAe : va_A (wz_311 h0 rf tap h0_taped h0_length h0_kind h0_from h0_to h0_word h0_numeral h0_globalNames_r h0_globalPlaces_r h0_globalTypes_r h0_globalValues_r h0_globalCount h0_funs_r h0_funCount h0_open h0_signs h0_levels_r h0_now h0_known_r h0_knownCount h0_loops mad h0_madeLength mag h0_smalls_r h0_greats_r h0_module_r h0_spare_r h0_m h0_cursor h0_limit blk stk h0_top hgt lab ous kis los h0_depth h0_function mem h0_pages glo val h0_valueTop ffu fre fba fla h0_frames lat lhe h0_labelTop h0_steps h0_there rsl h0_resultLength h0_reason h0_place arg h0_argumentCount h0_code mad cmad gmad) s.heap.size = A at hD ⊢
  have hA : ∀ q : Nat, s.heap.size ≤ q → A q := fun q h => by rw [← hAe]; exact Or.inr h
  clear hAe
  have hP : va_P (dC, dI) cls2 (wz_311 h0 rf tap h0_taped h0_length h0_kind h0_from h0_to h0_word h0_numeral h0_globalNames_r h0_globalPlaces_r h0_globalTypes_r h0_globalValues_r h0_globalCount h0_funs_r h0_funCount h0_open h0_signs h0_levels_r h0_now h0_known_r h0_knownCount h0_loops mad h0_madeLength mag h0_smalls_r h0_greats_r h0_module_r h0_spare_r h0_m h0_cursor h0_limit blk stk h0_top hgt lab ous kis los h0_depth h0_function mem h0_pages glo val h0_valueTop ffu fre fba fla h0_frames lat lhe h0_labelTop h0_steps h0_there rsl h0_resultLength h0_reason h0_place arg h0_argumentCount h0_code mad cmad gmad) s.heap := hP
  have hl := lv_entry ([.ref h0, .int p0, .int p1]) (n := 3) (Nat.le_of_ble_eq_true rfl)
  rw [lg_entry_eq]
  generalize (lg_sl ([.ref h0, .int p0, .int p1]) ++ List.replicate (3 - (lg_sl ([.ref h0, .int p0, .int p1])).length) Slot.unset).toArray = ls at hl ⊢
  have hl : lv_has ls 3 [(0, .ref h0), (1, .int p0), (2, .int p1)] := hl
  have k0 : (0 : Int32).toInt = 0 := by decide
  refine w_gen (A := A) hP (fun H locs hP hS => ?_)
  have lo_p0 := i32_lo p0
  have hi_p0 := i32_hi p0
  have lo_p1 := i32_lo p1
  have hi_p1 := i32_hi p1
  refine lv_aload_n hx hb d_MD_memory1_0 rfl (lv_at hl 0 rfl) ?_
  refine lv_iload_n hx hb d_MD_memory1_1 rfl (lv_at hl 1 rfl) ?_
  have hPc := hP.sb (wq := (wz_311 h0 rf tap h0_taped h0_length h0_kind h0_from h0_to h0_word h0_numeral h0_globalNames_r h0_globalPlaces_r h0_globalTypes_r h0_globalValues_r h0_globalCount h0_funs_r h0_funCount h0_open h0_signs h0_levels_r h0_now h0_known_r h0_knownCount h0_loops mad h0_madeLength mag h0_smalls_r h0_greats_r h0_module_r h0_spare_r h0_m h0_cursor h0_limit blk stk h0_top hgt lab ous kis los h0_depth h0_function mem h0_pages glo val h0_valueTop ffu fre fba fla h0_frames lat lhe h0_labelTop h0_steps h0_there rsl h0_resultLength h0_reason h0_place arg h0_argumentCount h0_code mad cmad gmad)) [0, 1] rfl
  have hDc := hD.sb (wq := (wz_311 h0 rf tap h0_taped h0_length h0_kind h0_from h0_to h0_word h0_numeral h0_globalNames_r h0_globalPlaces_r h0_globalTypes_r h0_globalValues_r h0_globalCount h0_funs_r h0_funCount h0_open h0_signs h0_levels_r h0_now h0_known_r h0_knownCount h0_loops mad h0_madeLength mag h0_smalls_r h0_greats_r h0_module_r h0_spare_r h0_m h0_cursor h0_limit blk stk h0_top hgt lab ous kis los h0_depth h0_function mem h0_pages glo val h0_valueTop ffu fre fba fla h0_frames lat lhe h0_labelTop h0_steps h0_there rsl h0_resultLength h0_reason h0_place arg h0_argumentCount h0_code mad cmad gmad)) [0, 1] (by decide) rfl
  have hKc := hK.sb (tyq := [(cmad, .byte)]) [0] rfl
  have hFc := va_free (wc := (wz_311 h0 rf tap h0_taped h0_length h0_kind h0_from h0_to h0_word h0_numeral h0_globalNames_r h0_globalPlaces_r h0_globalTypes_r h0_globalValues_r h0_globalCount h0_funs_r h0_funCount h0_open h0_signs h0_levels_r h0_now h0_known_r h0_knownCount h0_loops mad h0_madeLength mag h0_smalls_r h0_greats_r h0_module_r h0_spare_r h0_m h0_cursor h0_limit blk stk h0_top hgt lab ous kis los h0_depth h0_function mem h0_pages glo val h0_valueTop ffu fre fba fla h0_frames lat lhe h0_labelTop h0_steps h0_there rsl h0_resultLength h0_reason h0_place arg h0_argumentCount h0_code mad cmad gmad)) hD hS hA [0, 1] rfl
  refine va_callv (va_runV (As := [.int p0]) (rest := []) ⟨hx, hb, hml, hown, hts⟩ (c_MD_put l dC dI H.size h0 rf tap h0_globalNames_r h0_globalPlaces_r h0_globalTypes_r h0_globalValues_r h0_funs_r h0_levels_r h0_known_r mad mag h0_smalls_r h0_greats_r h0_module_r h0_spare_r blk stk hgt lab ous kis los mem glo val ffu fre fba fla lat lhe rsl arg cmad h0_taped h0_length h0_kind h0_from h0_to h0_word h0_numeral h0_globalCount h0_funCount h0_open h0_signs h0_now h0_knownCount h0_loops h0_madeLength h0_m h0_cursor h0_limit h0_top h0_depth h0_function h0_pages h0_valueTop h0_frames h0_labelTop h0_steps h0_there h0_resultLength h0_reason h0_place h0_argumentCount h0_code gmad (b_h0_madeLength) p0 (by (first | (apply Int.le_antisymm <;> omega) | omega))) (cwV 1 hts (gV kM_MD_398 kV_MD_put kS_MD_put kI_MD kC_MD_put) rfl rfl rfl (by decide +kernel) ⟨Nat.le_of_ble_eq_true rfl, Nat.le_of_ble_eq_true rfl⟩) ⟨fun a U g mk z => by obtain ⟨z0, z1, zP, zK, zD, zS⟩ := z; exact ⟨z0, z1, zP, va_K.moved (u := U) (U := U.calling g mk a) (Vm.Alike.refl U.vm) zK, zD, sw_nest.same (s := U) (U := U.calling g mk a) rfl zS⟩, va_recv hKc hPc (ci := 11) (q0 := 0) rfl rfl, fun U hU hW => ⟨rfl, by rw [hU], va_P.he hU.symm hPc, va_K.moved hW.alike hKc, hDc.weaken (fun _ _ _ _ => trivial), hSW.warm hW⟩⟩ rfl rfl hl.1 rfl (lv_room (Nat.le_of_ble_eq_true rfl)) d_MD_memory1_2 ⟨(Nat.zero_le _), (Nat.zero_le _)⟩) hS (fun q _ h => hFc q h) hFc (fun u t H1 locs ht hvm hw hB hz1 hk1 hS => ?_)
  obtain ⟨n2, n3⟩ := u
  try dsimp only at hw
  obtain ⟨bn3, xr1⟩ := hw
  try clear hw
  obtain ⟨a1, a2, a3⟩ := xr1
  replace a3 : bx _ := a3
  obtain ⟨hP1, hK1, hD1⟩ := hB
  replace hP1 := va_P.he ht hP1
  obtain ⟨hP, hD⟩ := va_join (wr := []) (w1 := (wz_311 h0 rf tap h0_taped h0_length h0_kind h0_from h0_to h0_word h0_numeral h0_globalNames_r h0_globalPlaces_r h0_globalTypes_r h0_globalValues_r h0_globalCount h0_funs_r h0_funCount h0_open h0_signs h0_levels_r h0_now h0_known_r h0_knownCount h0_loops mad n3 mag h0_smalls_r h0_greats_r h0_module_r h0_spare_r h0_m h0_cursor h0_limit blk stk h0_top hgt lab ous kis los h0_depth h0_function mem h0_pages glo val h0_valueTop ffu fre fba fla h0_frames lat lhe h0_labelTop h0_steps h0_there rsl h0_resultLength h0_reason h0_place arg h0_argumentCount h0_code mad cmad n2)) hP hD [0, 1] [] rfl rfl (by decide) (by decide) hk1 hFc hP1 hD1
  clear hPc hDc hKc hFc hz1 hk1 hP1 hK1 hD1
  rename Heap => H
  have hP : va_P (dC, dI) cls2 (wz_311 h0 rf tap h0_taped h0_length h0_kind h0_from h0_to h0_word h0_numeral h0_globalNames_r h0_globalPlaces_r h0_globalTypes_r h0_globalValues_r h0_globalCount h0_funs_r h0_funCount h0_open h0_signs h0_levels_r h0_now h0_known_r h0_knownCount h0_loops mad n3 mag h0_smalls_r h0_greats_r h0_module_r h0_spare_r h0_m h0_cursor h0_limit blk stk h0_top hgt lab ous kis los h0_depth h0_function mem h0_pages glo val h0_valueTop ffu fre fba fla h0_frames lat lhe h0_labelTop h0_steps h0_there rsl h0_resultLength h0_reason h0_place arg h0_argumentCount h0_code mad cmad n2) H := hP
  have hD : va_D A (wz_311 h0 rf tap h0_taped h0_length h0_kind h0_from h0_to h0_word h0_numeral h0_globalNames_r h0_globalPlaces_r h0_globalTypes_r h0_globalValues_r h0_globalCount h0_funs_r h0_funCount h0_open h0_signs h0_levels_r h0_now h0_known_r h0_knownCount h0_loops mad n3 mag h0_smalls_r h0_greats_r h0_module_r h0_spare_r h0_m h0_cursor h0_limit blk stk h0_top hgt lab ous kis los h0_depth h0_function mem h0_pages glo val h0_valueTop ffu fre fba fla h0_frames lat lhe h0_labelTop h0_steps h0_there rsl h0_resultLength h0_reason h0_place arg h0_argumentCount h0_code mad cmad n2) := hD
  refine lv_aload_n hx hb d_MD_memory1_5 rfl (lv_at hl 0 rfl) ?_
  refine lv_iload_n hx hb d_MD_memory1_6 rfl (lv_at hl 2 rfl) ?_
  have hPc := hP.sb (wq := (wz_311 h0 rf tap h0_taped h0_length h0_kind h0_from h0_to h0_word h0_numeral h0_globalNames_r h0_globalPlaces_r h0_globalTypes_r h0_globalValues_r h0_globalCount h0_funs_r h0_funCount h0_open h0_signs h0_levels_r h0_now h0_known_r h0_knownCount h0_loops mad n3 mag h0_smalls_r h0_greats_r h0_module_r h0_spare_r h0_m h0_cursor h0_limit blk stk h0_top hgt lab ous kis los h0_depth h0_function mem h0_pages glo val h0_valueTop ffu fre fba fla h0_frames lat lhe h0_labelTop h0_steps h0_there rsl h0_resultLength h0_reason h0_place arg h0_argumentCount h0_code mad cmad n2)) [0, 1] rfl
  have hDc := hD.sb (wq := (wz_311 h0 rf tap h0_taped h0_length h0_kind h0_from h0_to h0_word h0_numeral h0_globalNames_r h0_globalPlaces_r h0_globalTypes_r h0_globalValues_r h0_globalCount h0_funs_r h0_funCount h0_open h0_signs h0_levels_r h0_now h0_known_r h0_knownCount h0_loops mad n3 mag h0_smalls_r h0_greats_r h0_module_r h0_spare_r h0_m h0_cursor h0_limit blk stk h0_top hgt lab ous kis los h0_depth h0_function mem h0_pages glo val h0_valueTop ffu fre fba fla h0_frames lat lhe h0_labelTop h0_steps h0_there rsl h0_resultLength h0_reason h0_place arg h0_argumentCount h0_code mad cmad n2)) [0, 1] (by decide) rfl
  have hKc := hK.sb (tyq := [(cmad, .byte)]) [0] rfl
  have hFc := va_free (wc := (wz_311 h0 rf tap h0_taped h0_length h0_kind h0_from h0_to h0_word h0_numeral h0_globalNames_r h0_globalPlaces_r h0_globalTypes_r h0_globalValues_r h0_globalCount h0_funs_r h0_funCount h0_open h0_signs h0_levels_r h0_now h0_known_r h0_knownCount h0_loops mad n3 mag h0_smalls_r h0_greats_r h0_module_r h0_spare_r h0_m h0_cursor h0_limit blk stk h0_top hgt lab ous kis los h0_depth h0_function mem h0_pages glo val h0_valueTop ffu fre fba fla h0_frames lat lhe h0_labelTop h0_steps h0_there rsl h0_resultLength h0_reason h0_place arg h0_argumentCount h0_code mad cmad n2)) hD hS hA [0, 1] rfl
  refine va_callv (va_runV (As := [.int p1]) (rest := []) ⟨hx, hb, hml, hown, hts⟩ (c_MD_put l dC dI H.size h0 rf tap h0_globalNames_r h0_globalPlaces_r h0_globalTypes_r h0_globalValues_r h0_funs_r h0_levels_r h0_known_r mad mag h0_smalls_r h0_greats_r h0_module_r h0_spare_r blk stk hgt lab ous kis los mem glo val ffu fre fba fla lat lhe rsl arg cmad h0_taped h0_length h0_kind h0_from h0_to h0_word h0_numeral h0_globalCount h0_funCount h0_open h0_signs h0_now h0_knownCount h0_loops n3 h0_m h0_cursor h0_limit h0_top h0_depth h0_function h0_pages h0_valueTop h0_frames h0_labelTop h0_steps h0_there h0_resultLength h0_reason h0_place h0_argumentCount h0_code n2 (bn3) p1 (by (first | (apply Int.le_antisymm <;> omega) | omega))) (cwV 1 hts (gV kM_MD_398 kV_MD_put kS_MD_put kI_MD kC_MD_put) rfl rfl rfl (by decide +kernel) ⟨Nat.le_of_ble_eq_true rfl, Nat.le_of_ble_eq_true rfl⟩) ⟨fun a U g mk z => by obtain ⟨z0, z1, zP, zK, zD, zS⟩ := z; exact ⟨z0, z1, zP, va_K.moved (u := U) (U := U.calling g mk a) (Vm.Alike.refl U.vm) zK, zD, sw_nest.same (s := U) (U := U.calling g mk a) rfl zS⟩, va_recv hKc hPc (ci := 11) (q0 := 0) rfl rfl, fun U hU hW => ⟨rfl, by rw [hU], va_P.he hU.symm hPc, va_K.moved hW.alike hKc, hDc.weaken (fun _ _ _ _ => trivial), hSW.warm hW⟩⟩ rfl rfl hl.1 rfl (lv_room (Nat.le_of_ble_eq_true rfl)) d_MD_memory1_7 ⟨(Nat.zero_le _), (Nat.zero_le _)⟩) hS (fun q _ h => hFc q h) hFc (fun u t H1 locs ht hvm hw hB hz1 hk1 hS => ?_)
  obtain ⟨n5, n6⟩ := u
  try dsimp only at hw
  obtain ⟨bn6, xr4⟩ := hw
  try clear hw
  obtain ⟨b1, b2, b3⟩ := xr4
  replace b3 : bx _ := b3
  obtain ⟨hP1, hK1, hD1⟩ := hB
  replace hP1 := va_P.he ht hP1
  obtain ⟨hP, hD⟩ := va_join (wr := []) (w1 := (wz_311 h0 rf tap h0_taped h0_length h0_kind h0_from h0_to h0_word h0_numeral h0_globalNames_r h0_globalPlaces_r h0_globalTypes_r h0_globalValues_r h0_globalCount h0_funs_r h0_funCount h0_open h0_signs h0_levels_r h0_now h0_known_r h0_knownCount h0_loops mad n6 mag h0_smalls_r h0_greats_r h0_module_r h0_spare_r h0_m h0_cursor h0_limit blk stk h0_top hgt lab ous kis los h0_depth h0_function mem h0_pages glo val h0_valueTop ffu fre fba fla h0_frames lat lhe h0_labelTop h0_steps h0_there rsl h0_resultLength h0_reason h0_place arg h0_argumentCount h0_code mad cmad n5)) hP hD [0, 1] [] rfl rfl (by decide) (by decide) hk1 hFc hP1 hD1
  clear hPc hDc hKc hFc hz1 hk1 hP1 hK1 hD1
  rename Heap => H
  have hP : va_P (dC, dI) cls2 (wz_311 h0 rf tap h0_taped h0_length h0_kind h0_from h0_to h0_word h0_numeral h0_globalNames_r h0_globalPlaces_r h0_globalTypes_r h0_globalValues_r h0_globalCount h0_funs_r h0_funCount h0_open h0_signs h0_levels_r h0_now h0_known_r h0_knownCount h0_loops mad n6 mag h0_smalls_r h0_greats_r h0_module_r h0_spare_r h0_m h0_cursor h0_limit blk stk h0_top hgt lab ous kis los h0_depth h0_function mem h0_pages glo val h0_valueTop ffu fre fba fla h0_frames lat lhe h0_labelTop h0_steps h0_there rsl h0_resultLength h0_reason h0_place arg h0_argumentCount h0_code mad cmad n5) H := hP
  have hD : va_D A (wz_311 h0 rf tap h0_taped h0_length h0_kind h0_from h0_to h0_word h0_numeral h0_globalNames_r h0_globalPlaces_r h0_globalTypes_r h0_globalValues_r h0_globalCount h0_funs_r h0_funCount h0_open h0_signs h0_levels_r h0_now h0_known_r h0_knownCount h0_loops mad n6 mag h0_smalls_r h0_greats_r h0_module_r h0_spare_r h0_m h0_cursor h0_limit blk stk h0_top hgt lab ous kis los h0_depth h0_function mem h0_pages glo val h0_valueTop ffu fre fba fla h0_frames lat lhe h0_labelTop h0_steps h0_there rsl h0_resultLength h0_reason h0_place arg h0_argumentCount h0_code mad cmad n5) := hD
  refine lv_aload_n hx hb d_MD_memory1_10 rfl (lv_at hl 0 rfl) ?_
  refine lv_iconst (v := 0) hx hb d_MD_memory1_11 (by decide) ?_
  have hPc := hP.sb (wq := (wz_311 h0 rf tap h0_taped h0_length h0_kind h0_from h0_to h0_word h0_numeral h0_globalNames_r h0_globalPlaces_r h0_globalTypes_r h0_globalValues_r h0_globalCount h0_funs_r h0_funCount h0_open h0_signs h0_levels_r h0_now h0_known_r h0_knownCount h0_loops mad n6 mag h0_smalls_r h0_greats_r h0_module_r h0_spare_r h0_m h0_cursor h0_limit blk stk h0_top hgt lab ous kis los h0_depth h0_function mem h0_pages glo val h0_valueTop ffu fre fba fla h0_frames lat lhe h0_labelTop h0_steps h0_there rsl h0_resultLength h0_reason h0_place arg h0_argumentCount h0_code mad cmad n5)) [0, 1] rfl
  have hDc := hD.sb (wq := (wz_311 h0 rf tap h0_taped h0_length h0_kind h0_from h0_to h0_word h0_numeral h0_globalNames_r h0_globalPlaces_r h0_globalTypes_r h0_globalValues_r h0_globalCount h0_funs_r h0_funCount h0_open h0_signs h0_levels_r h0_now h0_known_r h0_knownCount h0_loops mad n6 mag h0_smalls_r h0_greats_r h0_module_r h0_spare_r h0_m h0_cursor h0_limit blk stk h0_top hgt lab ous kis los h0_depth h0_function mem h0_pages glo val h0_valueTop ffu fre fba fla h0_frames lat lhe h0_labelTop h0_steps h0_there rsl h0_resultLength h0_reason h0_place arg h0_argumentCount h0_code mad cmad n5)) [0, 1] (by decide) rfl
  have hKc := hK.sb (tyq := [(cmad, .byte)]) [0] rfl
  have hFc := va_free (wc := (wz_311 h0 rf tap h0_taped h0_length h0_kind h0_from h0_to h0_word h0_numeral h0_globalNames_r h0_globalPlaces_r h0_globalTypes_r h0_globalValues_r h0_globalCount h0_funs_r h0_funCount h0_open h0_signs h0_levels_r h0_now h0_known_r h0_knownCount h0_loops mad n6 mag h0_smalls_r h0_greats_r h0_module_r h0_spare_r h0_m h0_cursor h0_limit blk stk h0_top hgt lab ous kis los h0_depth h0_function mem h0_pages glo val h0_valueTop ffu fre fba fla h0_frames lat lhe h0_labelTop h0_steps h0_there rsl h0_resultLength h0_reason h0_place arg h0_argumentCount h0_code mad cmad n5)) hD hS hA [0, 1] rfl
  refine va_callv (va_runV (As := [.int 0]) (rest := []) ⟨hx, hb, hml, hown, hts⟩ (c_MD_put l dC dI H.size h0 rf tap h0_globalNames_r h0_globalPlaces_r h0_globalTypes_r h0_globalValues_r h0_funs_r h0_levels_r h0_known_r mad mag h0_smalls_r h0_greats_r h0_module_r h0_spare_r blk stk hgt lab ous kis los mem glo val ffu fre fba fla lat lhe rsl arg cmad h0_taped h0_length h0_kind h0_from h0_to h0_word h0_numeral h0_globalCount h0_funCount h0_open h0_signs h0_now h0_knownCount h0_loops n6 h0_m h0_cursor h0_limit h0_top h0_depth h0_function h0_pages h0_valueTop h0_frames h0_labelTop h0_steps h0_there h0_resultLength h0_reason h0_place h0_argumentCount h0_code n5 (bn6) 0 (by (first | (apply Int.le_antisymm <;> omega) | omega))) (cwV 1 hts (gV kM_MD_398 kV_MD_put kS_MD_put kI_MD kC_MD_put) rfl rfl rfl (by decide +kernel) ⟨Nat.le_of_ble_eq_true rfl, Nat.le_of_ble_eq_true rfl⟩) ⟨fun a U g mk z => by obtain ⟨z0, z1, zP, zK, zD, zS⟩ := z; exact ⟨z0, z1, zP, va_K.moved (u := U) (U := U.calling g mk a) (Vm.Alike.refl U.vm) zK, zD, sw_nest.same (s := U) (U := U.calling g mk a) rfl zS⟩, va_recv hKc hPc (ci := 11) (q0 := 0) rfl rfl, fun U hU hW => ⟨rfl, by rw [hU], va_P.he hU.symm hPc, va_K.moved hW.alike hKc, hDc.weaken (fun _ _ _ _ => trivial), hSW.warm hW⟩⟩ rfl rfl hl.1 rfl (lv_room (Nat.le_of_ble_eq_true rfl)) d_MD_memory1_12 ⟨(Nat.zero_le _), (Nat.zero_le _)⟩) hS (fun q _ h => hFc q h) hFc (fun u t H1 locs ht hvm hw hB hz1 hk1 hS => ?_)
  obtain ⟨n8, n9⟩ := u
  try dsimp only at hw
  obtain ⟨bn9, xr7⟩ := hw
  try clear hw
  obtain ⟨c1, c2, c3⟩ := xr7
  replace c3 : bx _ := c3
  obtain ⟨hP1, hK1, hD1⟩ := hB
  replace hP1 := va_P.he ht hP1
  obtain ⟨hP, hD⟩ := va_join (wr := []) (w1 := (wz_311 h0 rf tap h0_taped h0_length h0_kind h0_from h0_to h0_word h0_numeral h0_globalNames_r h0_globalPlaces_r h0_globalTypes_r h0_globalValues_r h0_globalCount h0_funs_r h0_funCount h0_open h0_signs h0_levels_r h0_now h0_known_r h0_knownCount h0_loops mad n9 mag h0_smalls_r h0_greats_r h0_module_r h0_spare_r h0_m h0_cursor h0_limit blk stk h0_top hgt lab ous kis los h0_depth h0_function mem h0_pages glo val h0_valueTop ffu fre fba fla h0_frames lat lhe h0_labelTop h0_steps h0_there rsl h0_resultLength h0_reason h0_place arg h0_argumentCount h0_code mad cmad n8)) hP hD [0, 1] [] rfl rfl (by decide) (by decide) hk1 hFc hP1 hD1
  clear hPc hDc hKc hFc hz1 hk1 hP1 hK1 hD1
  rename Heap => H
  have hP : va_P (dC, dI) cls2 (wz_311 h0 rf tap h0_taped h0_length h0_kind h0_from h0_to h0_word h0_numeral h0_globalNames_r h0_globalPlaces_r h0_globalTypes_r h0_globalValues_r h0_globalCount h0_funs_r h0_funCount h0_open h0_signs h0_levels_r h0_now h0_known_r h0_knownCount h0_loops mad n9 mag h0_smalls_r h0_greats_r h0_module_r h0_spare_r h0_m h0_cursor h0_limit blk stk h0_top hgt lab ous kis los h0_depth h0_function mem h0_pages glo val h0_valueTop ffu fre fba fla h0_frames lat lhe h0_labelTop h0_steps h0_there rsl h0_resultLength h0_reason h0_place arg h0_argumentCount h0_code mad cmad n8) H := hP
  have hD : va_D A (wz_311 h0 rf tap h0_taped h0_length h0_kind h0_from h0_to h0_word h0_numeral h0_globalNames_r h0_globalPlaces_r h0_globalTypes_r h0_globalValues_r h0_globalCount h0_funs_r h0_funCount h0_open h0_signs h0_levels_r h0_now h0_known_r h0_knownCount h0_loops mad n9 mag h0_smalls_r h0_greats_r h0_module_r h0_spare_r h0_m h0_cursor h0_limit blk stk h0_top hgt lab ous kis los h0_depth h0_function mem h0_pages glo val h0_valueTop ffu fre fba fla h0_frames lat lhe h0_labelTop h0_steps h0_there rsl h0_resultLength h0_reason h0_place arg h0_argumentCount h0_code mad cmad n8) := hD
  have hP9 := hP.sb (wq := (wz_311 h0 rf tap h0_taped h0_length h0_kind h0_from h0_to h0_word h0_numeral h0_globalNames_r h0_globalPlaces_r h0_globalTypes_r h0_globalValues_r h0_globalCount h0_funs_r h0_funCount h0_open h0_signs h0_levels_r h0_now h0_known_r h0_knownCount h0_loops mad n9 mag h0_smalls_r h0_greats_r h0_module_r h0_spare_r h0_m h0_cursor h0_limit blk stk h0_top hgt lab ous kis los h0_depth h0_function mem h0_pages glo val h0_valueTop ffu fre fba fla h0_frames lat lhe h0_labelTop h0_steps h0_there rsl h0_resultLength h0_reason h0_place arg h0_argumentCount h0_code mad cmad n8)) [0, 1] rfl
  have hD9 := hD.sb (wq := (wz_311 h0 rf tap h0_taped h0_length h0_kind h0_from h0_to h0_word h0_numeral h0_globalNames_r h0_globalPlaces_r h0_globalTypes_r h0_globalValues_r h0_globalCount h0_funs_r h0_funCount h0_open h0_signs h0_levels_r h0_now h0_known_r h0_knownCount h0_loops mad n9 mag h0_smalls_r h0_greats_r h0_module_r h0_spare_r h0_m h0_cursor h0_limit blk stk h0_top hgt lab ous kis los h0_depth h0_function mem h0_pages glo val h0_valueTop ffu fre fba fla h0_frames lat lhe h0_labelTop h0_steps h0_there rsl h0_resultLength h0_reason h0_place arg h0_argumentCount h0_code mad cmad n8)) [0, 1] (by decide) rfl
  exact W.vret hx hb hr (fun t ht hW => ⟨⟨(n8, n9), rfl, ⟨bn9, ⟨by (try dsimp only) <;> (first | (apply Int.le_antisymm <;> omega) | omega), by rw [c2, b2, a2, List.append_assoc, List.append_assoc]; rfl⟩⟩, va_P.he ht.symm hP9, va_K.moved hW.alike hK, hD9⟩, hS.F ht⟩) hS.2.2 d_MD_memory1_15
end q_m22
section q_m23
/-! the reference: number -/
/-- ten to the k-th -/
def tn (k : Int) : Int := (10 : Int) ^ k.toNat
theorem tn_0 : tn 0 = 1 := rfl
theorem tn_p (k : Int) : 0 < tn k := Int.pow_pos (by (first | (apply Int.le_antisymm <;> omega) | omega))
theorem tn_s {k k2 : Int} (h : 0 ≤ k) (e : k2 = k + 1) : tn k2 = 10 * tn k := by
  subst e
  unfold tn
  rw [show (k + 1).toNat = k.toNat + 1 from by (first | (apply Int.le_antisymm <;> omega) | omega), Int.pow_succ, Int.mul_comm]
theorem or_b1 {a x : Int32} (e : x = a ||| 1) (h : a.toInt = 0 ∨ a.toInt = 1) : x.toInt = 1 := by
  subst e
  rcases h with h | h
  · rw [show a = 0 from Int32.toInt_inj.mp h]; decide
  · rw [show a = 1 from Int32.toInt_inj.mp h]; decide
theorem or_b0 {a x : Int32} (e : x = a ||| 0) (h : a.toInt = 0 ∨ a.toInt = 1) : x.toInt = a.toInt := by
  subst e
  rcases h with h | h
  · rw [show a = 0 from Int32.toInt_inj.mp h]; decide
  · rw [show a = 1 from Int32.toInt_inj.mp h]; decide
abbrev b_MD_number : ByteArray := prog_15_method_6_code
def y_MD_number : MethodName := ⟨R_MD, "number", "()V"⟩
abbrev w_MD_number : List Cond := .code y_MD_number b_MD_number 3 none :: lw_g
theorem kC_MD_number : Cond.code y_MD_number b_MD_number 3 none ∈ lw_g := in_c11 12 rfl rfl
theorem d_MD_number_0 : decode b_MD_number 0 = .ok (.aload_n 0, 1) := bz_c42 (by decide +kernel)
theorem d_MD_number_1 : decode b_MD_number 1 = .ok (.lconst 0, 1) := bz_c9 (by decide +kernel)
theorem d_MD_number_2 : decode b_MD_number 2 = .ok (.putfield 82, 3) := bz_c181 (by decide +kernel)
theorem d_MD_number_5 : decode b_MD_number 5 = .ok (.iconst 0, 1) := bz_c3 (by decide +kernel)
theorem d_MD_number_6 : decode b_MD_number 6 = .ok (.istore_n 1, 1) := bz_c60 (by decide +kernel)
theorem d_MD_number_7 : decode b_MD_number 7 = .ok (.aload_n 0, 1) := bz_c42 (by decide +kernel)
theorem d_MD_number_8 : decode b_MD_number 8 = .ok (.aload_n 0, 1) := bz_c42 (by decide +kernel)
theorem d_MD_number_9 : decode b_MD_number 9 = .ok (.getfield 23, 3) := bz_c180 (by decide +kernel)
theorem d_MD_number_12 : decode b_MD_number 12 = .ok (.invokevirtual 26, 3) := bz_c182 (by decide +kernel)
theorem d_MD_number_15 : decode b_MD_number 15 = .ok (.invokestatic 46, 3) := bz_c184 (by decide +kernel)
theorem d_MD_number_18 : decode b_MD_number 18 = .ok (.ifCond .eq 73, 3) := bz_c153 (by decide +kernel)
theorem d_MD_number_21 : decode b_MD_number 21 = .ok (.aload_n 0, 1) := bz_c42 (by decide +kernel)
theorem d_MD_number_22 : decode b_MD_number 22 = .ok (.aload_n 0, 1) := bz_c42 (by decide +kernel)
theorem d_MD_number_23 : decode b_MD_number 23 = .ok (.getfield 23, 3) := bz_c180 (by decide +kernel)
theorem d_MD_number_26 : decode b_MD_number 26 = .ok (.invokevirtual 26, 3) := bz_c182 (by decide +kernel)
theorem d_MD_number_29 : decode b_MD_number 29 = .ok (.bipush 48, 2) := bz_c16 (by decide +kernel)
theorem d_MD_number_31 : decode b_MD_number 31 = .ok (.isub, 1) := bz_c100 (by decide +kernel)
theorem d_MD_number_32 : decode b_MD_number 32 = .ok (.istore_n 2, 1) := bz_c61 (by decide +kernel)
theorem d_MD_number_33 : decode b_MD_number 33 = .ok (.iload_n 1, 1) := bz_c27 (by decide +kernel)
theorem d_MD_number_34 : decode b_MD_number 34 = .ok (.aload_n 0, 1) := bz_c42 (by decide +kernel)
theorem d_MD_number_35 : decode b_MD_number 35 = .ok (.getfield 82, 3) := bz_c180 (by decide +kernel)
theorem d_MD_number_38 : decode b_MD_number 38 = .ok (.ldc2_w 88, 3) := bz_c20 (by decide +kernel)
theorem d_MD_number_41 : decode b_MD_number 41 = .ok (.iload_n 2, 1) := bz_c28 (by decide +kernel)
theorem d_MD_number_42 : decode b_MD_number 42 = .ok (.i2l, 1) := bz_c133 (by decide +kernel)
theorem d_MD_number_43 : decode b_MD_number 43 = .ok (.lsub, 1) := by decide +kernel
theorem d_MD_number_44 : decode b_MD_number 44 = .ok (.ldc2_w 90, 3) := bz_c20 (by decide +kernel)
theorem d_MD_number_47 : decode b_MD_number 47 = .ok (.ldiv, 1) := by decide +kernel
theorem d_MD_number_48 : decode b_MD_number 48 = .ok (.lcmp, 1) := bz_c148 (by decide +kernel)
theorem d_MD_number_49 : decode b_MD_number 49 = .ok (.ifCond .le 7, 3) := bz_c158 (by decide +kernel)
theorem d_MD_number_52 : decode b_MD_number 52 = .ok (.iconst 1, 1) := bz_c4 (by decide +kernel)
theorem d_MD_number_53 : decode b_MD_number 53 = .ok (.goto 4, 3) := bz_c167 (by decide +kernel)
theorem d_MD_number_56 : decode b_MD_number 56 = .ok (.iconst 0, 1) := bz_c3 (by decide +kernel)
theorem d_MD_number_57 : decode b_MD_number 57 = .ok (.ior, 1) := by decide +kernel
theorem d_MD_number_58 : decode b_MD_number 58 = .ok (.istore_n 1, 1) := bz_c60 (by decide +kernel)
theorem d_MD_number_59 : decode b_MD_number 59 = .ok (.iload_n 1, 1) := bz_c27 (by decide +kernel)
theorem d_MD_number_60 : decode b_MD_number 60 = .ok (.ifCond .ne 18, 3) := bz_c154 (by decide +kernel)
theorem d_MD_number_63 : decode b_MD_number 63 = .ok (.aload_n 0, 1) := bz_c42 (by decide +kernel)
theorem d_MD_number_64 : decode b_MD_number 64 = .ok (.ldc2_w 90, 3) := bz_c20 (by decide +kernel)
theorem d_MD_number_67 : decode b_MD_number 67 = .ok (.aload_n 0, 1) := bz_c42 (by decide +kernel)
theorem d_MD_number_68 : decode b_MD_number 68 = .ok (.getfield 82, 3) := bz_c180 (by decide +kernel)
theorem d_MD_number_71 : decode b_MD_number 71 = .ok (.lmul, 1) := by decide +kernel
theorem d_MD_number_72 : decode b_MD_number 72 = .ok (.iload_n 2, 1) := bz_c28 (by decide +kernel)
theorem d_MD_number_73 : decode b_MD_number 73 = .ok (.i2l, 1) := bz_c133 (by decide +kernel)
theorem d_MD_number_74 : decode b_MD_number 74 = .ok (.ladd, 1) := bz_c97 (by decide +kernel)
theorem d_MD_number_75 : decode b_MD_number 75 = .ok (.putfield 82, 3) := bz_c181 (by decide +kernel)
theorem d_MD_number_78 : decode b_MD_number 78 = .ok (.aload_n 0, 1) := bz_c42 (by decide +kernel)
theorem d_MD_number_79 : decode b_MD_number 79 = .ok (.dup, 1) := bz_c89 (by decide +kernel)
theorem d_MD_number_80 : decode b_MD_number 80 = .ok (.getfield 23, 3) := bz_c180 (by decide +kernel)
theorem d_MD_number_83 : decode b_MD_number 83 = .ok (.iconst 1, 1) := bz_c4 (by decide +kernel)
theorem d_MD_number_84 : decode b_MD_number 84 = .ok (.iadd, 1) := bz_c96 (by decide +kernel)
theorem d_MD_number_85 : decode b_MD_number 85 = .ok (.putfield 23, 3) := bz_c181 (by decide +kernel)
theorem d_MD_number_88 : decode b_MD_number 88 = .ok (.goto (-81), 3) := bz_c167 (by decide +kernel)
theorem d_MD_number_91 : decode b_MD_number 91 = .ok (.aload_n 0, 1) := bz_c42 (by decide +kernel)
theorem d_MD_number_92 : decode b_MD_number 92 = .ok (.aload_n 0, 1) := bz_c42 (by decide +kernel)
theorem d_MD_number_93 : decode b_MD_number 93 = .ok (.getfield 23, 3) := bz_c180 (by decide +kernel)
theorem d_MD_number_96 : decode b_MD_number 96 = .ok (.invokevirtual 26, 3) := bz_c182 (by decide +kernel)
theorem d_MD_number_99 : decode b_MD_number 99 = .ok (.bipush 76, 2) := bz_c16 (by decide +kernel)
theorem d_MD_number_101 : decode b_MD_number 101 = .ok (.if_icmp .ne 7, 3) := bz_c160 (by decide +kernel)
theorem d_MD_number_104 : decode b_MD_number 104 = .ok (.iconst 1, 1) := bz_c4 (by decide +kernel)
theorem d_MD_number_105 : decode b_MD_number 105 = .ok (.goto 4, 3) := bz_c167 (by decide +kernel)
theorem d_MD_number_108 : decode b_MD_number 108 = .ok (.iconst 0, 1) := bz_c3 (by decide +kernel)
theorem d_MD_number_109 : decode b_MD_number 109 = .ok (.istore_n 2, 1) := bz_c61 (by decide +kernel)
theorem d_MD_number_110 : decode b_MD_number 110 = .ok (.iload_n 2, 1) := bz_c28 (by decide +kernel)
theorem d_MD_number_111 : decode b_MD_number 111 = .ok (.ifCond .eq 13, 3) := bz_c153 (by decide +kernel)
theorem d_MD_number_114 : decode b_MD_number 114 = .ok (.aload_n 0, 1) := bz_c42 (by decide +kernel)
theorem d_MD_number_115 : decode b_MD_number 115 = .ok (.dup, 1) := bz_c89 (by decide +kernel)
theorem d_MD_number_116 : decode b_MD_number 116 = .ok (.getfield 23, 3) := bz_c180 (by decide +kernel)
theorem d_MD_number_119 : decode b_MD_number 119 = .ok (.iconst 1, 1) := bz_c4 (by decide +kernel)
theorem d_MD_number_120 : decode b_MD_number 120 = .ok (.iadd, 1) := bz_c96 (by decide +kernel)
theorem d_MD_number_121 : decode b_MD_number 121 = .ok (.putfield 23, 3) := bz_c181 (by decide +kernel)
theorem d_MD_number_124 : decode b_MD_number 124 = .ok (.aload_n 0, 1) := bz_c42 (by decide +kernel)
theorem d_MD_number_125 : decode b_MD_number 125 = .ok (.iload_n 1, 1) := bz_c27 (by decide +kernel)
theorem d_MD_number_126 : decode b_MD_number 126 = .ok (.ifCond .ne 18, 3) := bz_c154 (by decide +kernel)
theorem d_MD_number_129 : decode b_MD_number 129 = .ok (.iload_n 2, 1) := bz_c28 (by decide +kernel)
theorem d_MD_number_130 : decode b_MD_number 130 = .ok (.ifCond .ne 19, 3) := bz_c154 (by decide +kernel)
theorem d_MD_number_133 : decode b_MD_number 133 = .ok (.aload_n 0, 1) := bz_c42 (by decide +kernel)
theorem d_MD_number_134 : decode b_MD_number 134 = .ok (.getfield 82, 3) := bz_c180 (by decide +kernel)
theorem d_MD_number_137 : decode b_MD_number 137 = .ok (.ldc2_w 94, 3) := bz_c20 (by decide +kernel)
theorem d_MD_number_140 : decode b_MD_number 140 = .ok (.lcmp, 1) := bz_c148 (by decide +kernel)
theorem d_MD_number_141 : decode b_MD_number 141 = .ok (.ifCond .le 8, 3) := bz_c158 (by decide +kernel)
theorem d_MD_number_144 : decode b_MD_number 144 = .ok (.bipush 6, 2) := bz_c16 (by decide +kernel)
theorem d_MD_number_146 : decode b_MD_number 146 = .ok (.goto 12, 3) := bz_c167 (by decide +kernel)
theorem d_MD_number_149 : decode b_MD_number 149 = .ok (.iload_n 2, 1) := bz_c28 (by decide +kernel)
theorem d_MD_number_150 : decode b_MD_number 150 = .ok (.ifCond .eq 7, 3) := bz_c153 (by decide +kernel)
theorem d_MD_number_153 : decode b_MD_number 153 = .ok (.iconst 4, 1) := bz_c7 (by decide +kernel)
theorem d_MD_number_154 : decode b_MD_number 154 = .ok (.goto 4, 3) := bz_c167 (by decide +kernel)
theorem d_MD_number_157 : decode b_MD_number 157 = .ok (.iconst 3, 1) := bz_c6 (by decide +kernel)
theorem d_MD_number_158 : decode b_MD_number 158 = .ok (.putfield 33, 3) := bz_c181 (by decide +kernel)
theorem d_MD_number_161 : decode b_MD_number 161 = .ok (.return_, 1) := bz_c177 (by decide +kernel)
theorem kM_MD_26 : Cond.methodLink R_MD 26 y_MD_at ∈ lw_g := in_c9 209 rfl rfl
theorem kV_MD_at : Cond.instanceMethod y_MD_at ∈ lw_g := in_c9 211 rfl rfl
theorem kS_MD_at : Cond.selects R_MD y_MD_at y_MD_at ∈ lw_g := in_s 121 (by decide +kernel) rfl
theorem kM_MD_46 : Cond.methodLink R_MD 46 y_MD_digit ∈ lw_g := in_c10 6 rfl rfl
theorem kT_MD_digit : Cond.static y_MD_digit ∈ lw_g := in_c10 7 rfl rfl
theorem kF_MD_82 : Cond.fieldLink R_MD 82 "WaferForgeModel" "numeral" "J" ∈ lw_g := in_c8 229 rfl rfl
theorem kF_MD_23 : Cond.fieldLink R_MD 23 "WaferForgeModel" "to" "I" ∈ lw_g := in_c8 227 rfl rfl
theorem kL_MD_88 : Cond.constantLong R_MD 88 (9223372036854775807) ∈ lw_g := in_c11 13 rfl rfl
theorem kL_MD_90 : Cond.constantLong R_MD 90 (10) ∈ lw_g := in_c11 14 rfl rfl
abbrev at_MD_number (dC : Nat → ClassId) (dI : Nat → Nat → Nat) (h0 rf tap h0_globalNames_r h0_globalPlaces_r h0_globalTypes_r h0_globalValues_r h0_funs_r h0_levels_r h0_known_r mad mag h0_smalls_r h0_greats_r h0_module_r h0_spare_r blk stk hgt lab ous kis los mem glo val ffu fre fba fla lat lhe rsl arg : Nat) (ctap : ClassId) (h0_taped : Int32) (h0_length : Int32) (h0_from : Int32) (h0_word : Value) (h0_globalCount : Int32) (h0_funCount : Int32) (h0_open : Int32) (h0_signs : Int32) (h0_now : Value) (h0_knownCount : Int32) (h0_loops : Int32) (h0_madeLength : Int32) (h0_m : Value) (h0_cursor : Int32) (h0_limit : Int32) (h0_top : Int32) (h0_depth : Int32) (h0_function : Int32) (h0_pages : Int32) (h0_valueTop : Int32) (h0_frames : Int32) (h0_labelTop : Int32) (h0_steps : Int32) (h0_there : Int32) (h0_resultLength : Int32) (h0_reason : Int32) (h0_place : Int32) (h0_argumentCount : Int32) (h0_code : Int32) (gtap : Nat → Int32) (A : Nat → Prop) (u : Int32 × Int64 × Int32) (t : State) : Prop := match u with | (h0_kind, h0_numeral, h0_to) => va_P (dC, dI) cls2 (wz_307 h0 rf tap h0_taped h0_length h0_kind h0_from h0_to h0_word h0_numeral h0_globalNames_r h0_globalPlaces_r h0_globalTypes_r h0_globalValues_r h0_globalCount h0_funs_r h0_funCount h0_open h0_signs h0_levels_r h0_now h0_known_r h0_knownCount h0_loops mad h0_madeLength mag h0_smalls_r h0_greats_r h0_module_r h0_spare_r h0_m h0_cursor h0_limit blk stk h0_top hgt lab ous kis los h0_depth h0_function mem h0_pages glo val h0_valueTop ffu fre fba fla h0_frames lat lhe h0_labelTop h0_steps h0_there rsl h0_resultLength h0_reason h0_place arg h0_argumentCount h0_code tap ctap gtap) t.heap ∧ va_K (dC, dI) cls2 [(ctap, .byte)] t ∧ va_D A (wz_307 h0 rf tap h0_taped h0_length h0_kind h0_from h0_to h0_word h0_numeral h0_globalNames_r h0_globalPlaces_r h0_globalTypes_r h0_globalValues_r h0_globalCount h0_funs_r h0_funCount h0_open h0_signs h0_levels_r h0_now h0_known_r h0_knownCount h0_loops mad h0_madeLength mag h0_smalls_r h0_greats_r h0_module_r h0_spare_r h0_m h0_cursor h0_limit blk stk h0_top hgt lab ous kis los h0_depth h0_function mem h0_pages glo val h0_valueTop ffu fre fba fla h0_frames lat lhe h0_labelTop h0_steps h0_there rsl h0_resultLength h0_reason h0_place arg h0_argumentCount h0_code tap ctap gtap)
set_option maxHeartbeats 4000000 in
set_option maxRecDepth 100000 in
theorem c_MD_number (l : Launch) (dC : Nat → ClassId) (dI : Nat → Nat → Nat) (sz : Nat) (h0 rf tap h0_globalNames_r h0_globalPlaces_r h0_globalTypes_r h0_globalValues_r h0_funs_r h0_levels_r h0_known_r mad mag h0_smalls_r h0_greats_r h0_module_r h0_spare_r blk stk hgt lab ous kis los mem glo val ffu fre fba fla lat lhe rsl arg : Nat) (ctap : ClassId) (h0_taped : Int32) (h0_length : Int32) (h0_kind : Int32) (h0_from : Int32) (h0_to : Int32) (h0_word : Value) (h0_numeral : Int64) (h0_globalCount : Int32) (h0_funCount : Int32) (h0_open : Int32) (h0_signs : Int32) (h0_now : Value) (h0_knownCount : Int32) (h0_loops : Int32) (h0_madeLength : Int32) (h0_m : Value) (h0_cursor : Int32) (h0_limit : Int32) (h0_top : Int32) (h0_depth : Int32) (h0_function : Int32) (h0_pages : Int32) (h0_valueTop : Int32) (h0_frames : Int32) (h0_labelTop : Int32) (h0_steps : Int32) (h0_there : Int32) (h0_resultLength : Int32) (h0_reason : Int32) (h0_place : Int32) (h0_argumentCount : Int32) (h0_code : Int32) (gtap : Nat → Int32)  (b_h0_length : 0 ≤ h0_length.toInt ∧ h0_length.toInt ≤ 2000) (b_h0_to : 0 ≤ h0_to.toInt ∧ h0_to.toInt ≤ 2000)   (hdg : h0_to.toInt < h0_length.toInt ∧ 48 ≤ bn (gtap h0_to.toNatClampNeg) ∧ bn (gtap h0_to.toNatClampNeg) ≤ 57) : Met l y_MD_number w_MD_number ({ frames := 1, cells := 0, slots := 0, locals := 21 }) (va_Pc [.ref h0] (fun U => U.heap.size = sz ∧ va_P (dC, dI) cls2 (wz_307 h0 rf tap h0_taped h0_length h0_kind h0_from h0_to h0_word h0_numeral h0_globalNames_r h0_globalPlaces_r h0_globalTypes_r h0_globalValues_r h0_globalCount h0_funs_r h0_funCount h0_open h0_signs h0_levels_r h0_now h0_known_r h0_knownCount h0_loops mad h0_madeLength mag h0_smalls_r h0_greats_r h0_module_r h0_spare_r h0_m h0_cursor h0_limit blk stk h0_top hgt lab ous kis los h0_depth h0_function mem h0_pages glo val h0_valueTop ffu fre fba fla h0_frames lat lhe h0_labelTop h0_steps h0_there rsl h0_resultLength h0_reason h0_place arg h0_argumentCount h0_code tap ctap gtap) U.heap ∧ va_K (dC, dI) cls2 [(ctap, .byte)] U ∧ va_D (fun _ => True) (wz_307 h0 rf tap h0_taped h0_length h0_kind h0_from h0_to h0_word h0_numeral h0_globalNames_r h0_globalPlaces_r h0_globalTypes_r h0_globalValues_r h0_globalCount h0_funs_r h0_funCount h0_open h0_signs h0_levels_r h0_now h0_known_r h0_knownCount h0_loops mad h0_madeLength mag h0_smalls_r h0_greats_r h0_module_r h0_spare_r h0_m h0_cursor h0_limit blk stk h0_top hgt lab ous kis los h0_depth h0_function mem h0_pages glo val h0_valueTop ffu fre fba fla h0_frames lat lhe h0_labelTop h0_steps h0_there rsl h0_resultLength h0_reason h0_place arg h0_argumentCount h0_code tap ctap gtap) ∧ sw_nest U)) (va_Qv (fun (u : Int32 × Int64 × Int32) => match u with | (h0_kind2, h0_numeral2, h0_to2) => (0 ≤ h0_to2.toInt ∧ h0_to2.toInt ≤ 2000) ∧ (h0_to.toInt < h0_to2.toInt ∧ h0_to2.toInt ≤ h0_length.toInt ∧ (h0_kind2.toInt = 3 ∨ h0_kind2.toInt = 4 ∨ h0_kind2.toInt = 6) ∧ 0 ≤ h0_numeral2.toInt ∧ h0_numeral2.toInt < tn (h0_to2.toInt - h0_to.toInt) ∧ (h0_kind2.toInt = 3 → h0_numeral2.toInt ≤ 2147483647))) (at_MD_number dC dI h0 rf tap h0_globalNames_r h0_globalPlaces_r h0_globalTypes_r h0_globalValues_r h0_funs_r h0_levels_r h0_known_r mad mag h0_smalls_r h0_greats_r h0_module_r h0_spare_r blk stk hgt lab ous kis los mem glo val ffu fre fba fla lat lhe rsl arg ctap h0_taped h0_length h0_from h0_word h0_globalCount h0_funCount h0_open h0_signs h0_now h0_knownCount h0_loops h0_madeLength h0_m h0_cursor h0_limit h0_top h0_depth h0_function h0_pages h0_valueTop h0_frames h0_labelTop h0_steps h0_there h0_resultLength h0_reason h0_place h0_argumentCount h0_code gtap (va_A (wz_307 h0 rf tap h0_taped h0_length h0_kind h0_from h0_to h0_word h0_numeral h0_globalNames_r h0_globalPlaces_r h0_globalTypes_r h0_globalValues_r h0_globalCount h0_funs_r h0_funCount h0_open h0_signs h0_levels_r h0_now h0_known_r h0_knownCount h0_loops mad h0_madeLength mag h0_smalls_r h0_greats_r h0_module_r h0_spare_r h0_m h0_cursor h0_limit blk stk h0_top hgt lab ous kis los h0_depth h0_function mem h0_pages glo val h0_valueTop ffu fre fba fla h0_frames lat lhe h0_labelTop h0_steps h0_there rsl h0_resultLength h0_reason h0_place arg h0_argumentCount h0_code tap ctap gtap) sz)) (va_A (wz_307 h0 rf tap h0_taped h0_length h0_kind h0_from h0_to h0_word h0_numeral h0_globalNames_r h0_globalPlaces_r h0_globalTypes_r h0_globalValues_r h0_globalCount h0_funs_r h0_funCount h0_open h0_signs h0_levels_r h0_now h0_known_r h0_knownCount h0_loops mad h0_madeLength mag h0_smalls_r h0_greats_r h0_module_r h0_spare_r h0_m h0_cursor h0_limit blk stk h0_top hgt lab ous kis los h0_depth h0_function mem h0_pages glo val h0_valueTop ffu fre fba fla h0_frames lat lhe h0_labelTop h0_steps h0_there rsl h0_resultLength h0_reason h0_place arg h0_argumentCount h0_code tap ctap gtap) sz)) 0 0 (va_A (wz_307 h0 rf tap h0_taped h0_length h0_kind h0_from h0_to h0_word h0_numeral h0_globalNames_r h0_globalPlaces_r h0_globalTypes_r h0_globalValues_r h0_globalCount h0_funs_r h0_funCount h0_open h0_signs h0_levels_r h0_now h0_known_r h0_knownCount h0_loops mad h0_madeLength mag h0_smalls_r h0_greats_r h0_module_r h0_spare_r h0_m h0_cursor h0_limit blk stk h0_top hgt lab ous kis los h0_depth h0_function mem h0_pages glo val h0_valueTop ffu fre fba fla h0_frames lat lhe h0_labelTop h0_steps h0_there rsl h0_resultLength h0_reason h0_place arg h0_argumentCount h0_code tap ctap gtap) sz) := by
  refine Met.ofW (cc := b_MD_number) (maxL := 3) (ret := none) (by decide) rfl ?_
  intro p e s m args below meth c s₁ B hml hv
  obtain ⟨rfl, hsz, hP, hK, hD0, hSW⟩ := hv
  have hx := B.exec
  have hb := B.bytes
  have hr := B.returns
  have hts0 := atoms_spec (ws := w_MD_number) B.pre
  have hts : ∀ w ∈ lw_g, w.before _ s = true := fun w h => hts0 w (List.mem_cons_of_mem _ h)
  have hown : s.vm.findClass R_MD = some m.cls := findClass_of_methodNamed B.named
  have hlocks := B.notSynchronized
  clear hts0
  subst hsz
  have hD := hD0.self (sz := s.heap.size)
  generalize hAe : va_A (wz_307 h0 rf tap h0_taped h0_length h0_kind h0_from h0_to h0_word h0_numeral h0_globalNames_r h0_globalPlaces_r h0_globalTypes_r h0_globalValues_r h0_globalCount h0_funs_r h0_funCount h0_open h0_signs h0_levels_r h0_now h0_known_r h0_knownCount h0_loops mad h0_madeLength mag h0_smalls_r h0_greats_r h0_module_r h0_spare_r h0_m h0_cursor h0_limit blk stk h0_top hgt lab ous kis los h0_depth h0_function mem h0_pages glo val h0_valueTop ffu fre fba fla h0_frames lat lhe h0_labelTop h0_steps h0_there rsl h0_resultLength h0_reason h0_place arg h0_argumentCount h0_code tap ctap gtap) s.heap.size = A at hD ⊢
  have hA : ∀ q : Nat, s.heap.size ≤ q → A q := fun q h => by rw [← hAe]; exact Or.inr h
  clear hAe
  have hP : va_P (dC, dI) cls2 (wz_307 h0 rf tap h0_taped h0_length h0_kind h0_from h0_to h0_word h0_numeral h0_globalNames_r h0_globalPlaces_r h0_globalTypes_r h0_globalValues_r h0_globalCount h0_funs_r h0_funCount h0_open h0_signs h0_levels_r h0_now h0_known_r h0_knownCount h0_loops mad h0_madeLength mag h0_smalls_r h0_greats_r h0_module_r h0_spare_r h0_m h0_cursor h0_limit blk stk h0_top hgt lab ous kis los h0_depth h0_function mem h0_pages glo val h0_valueTop ffu fre fba fla h0_frames lat lhe h0_labelTop h0_steps h0_there rsl h0_resultLength h0_reason h0_place arg h0_argumentCount h0_code tap ctap gtap) s.heap := hP
  have hl := lv_entry ([.ref h0]) (n := 3) (Nat.le_of_ble_eq_true rfl)
  rw [lg_entry_eq]
  generalize (lg_sl ([.ref h0]) ++ List.replicate (3 - (lg_sl ([.ref h0])).length) Slot.unset).toArray = ls at hl ⊢
  have hl : lv_has ls 3 [(0, .ref h0)] := hl
  have k0 : (0 : Int32).toInt = 0 := by decide
  refine w_gen (A := A) hP (fun H locs hP hS => ?_)
  have k1 : (1 : Int32).toInt = 1 := by decide
  have k3 : (3 : Int32).toInt = 3 := by decide
  have k4 : (4 : Int32).toInt = 4 := by decide
  have k6 : (6 : Int32).toInt = 6 := by decide
  have k48 : (48 : Int32).toInt = 48 := by decide
  have k76 : (76 : Int32).toInt = 76 := by decide
  have zt := i32_clamp (x := h0_to) (by (first | (apply Int.le_antisymm <;> omega) | omega))
  refine lv_aload_n hx hb d_MD_number_0 rfl (lv_at hl 0 rfl) ?_
  refine lv_lconst (v := 0) hx hb d_MD_number_1 (by decide) ?_
  have kl0 : (0 : Int64).toInt = 0 := by decide
  refine va_put (D := (dC, dI)) (ci := 11) (v := .long 0) (ty := .long) (C := R_MD) (T := F_MD) (N := 65) hx hb hts i_MD t_MD t_MD_ok n_MD hown hK hP hD hS 0 rfl rfl 8 (by decide) (hts _ kF_MD_82) (fun _ h9 => h9) rfl (by decide +kernel) rfl rfl (Nat.le_of_ble_eq_true rfl) d_MD_number_2 (fun H locs hP hD hS => ?_)
  refine lv_iconst (v := 0) hx hb d_MD_number_5 (by decide) ?_
  refine lv_istore_n (lv' := [(1, .int 0), (0, .ref h0)]) hx hb d_MD_number_6 rfl hl (by decide) rfl (fun ls hl => ?_)
  refine w_loop (σ := Int32 × Int64 × Int32) (fun u H locs ls => match u with | (j7_l1, j7_h0_numeral, j7_h0_to) => (j7_l1 = 0 ∨ j7_l1 = 1) ∧ (0 ≤ j7_h0_to.toInt ∧ j7_h0_to.toInt ≤ 2000) ∧ (h0_to.toInt ≤ j7_h0_to.toInt ∧ j7_h0_to.toInt ≤ h0_length.toInt) ∧ (0 ≤ j7_h0_numeral.toInt ∧ j7_h0_numeral.toInt < tn (j7_h0_to.toInt - h0_to.toInt)) ∧ va_P (dC, dI) cls2 (wz_307 h0 rf tap h0_taped h0_length h0_kind h0_from j7_h0_to h0_word j7_h0_numeral h0_globalNames_r h0_globalPlaces_r h0_globalTypes_r h0_globalValues_r h0_globalCount h0_funs_r h0_funCount h0_open h0_signs h0_levels_r h0_now h0_known_r h0_knownCount h0_loops mad h0_madeLength mag h0_smalls_r h0_greats_r h0_module_r h0_spare_r h0_m h0_cursor h0_limit blk stk h0_top hgt lab ous kis los h0_depth h0_function mem h0_pages glo val h0_valueTop ffu fre fba fla h0_frames lat lhe h0_labelTop h0_steps h0_there rsl h0_resultLength h0_reason h0_place arg h0_argumentCount h0_code tap ctap gtap) H ∧ va_D A (wz_307 h0 rf tap h0_taped h0_length h0_kind h0_from j7_h0_to h0_word j7_h0_numeral h0_globalNames_r h0_globalPlaces_r h0_globalTypes_r h0_globalValues_r h0_globalCount h0_funs_r h0_funCount h0_open h0_signs h0_levels_r h0_now h0_known_r h0_knownCount h0_loops mad h0_madeLength mag h0_smalls_r h0_greats_r h0_module_r h0_spare_r h0_m h0_cursor h0_limit blk stk h0_top hgt lab ous kis los h0_depth h0_function mem h0_pages glo val h0_valueTop ffu fre fba fla h0_frames lat lhe h0_labelTop h0_steps h0_there rsl h0_resultLength h0_reason h0_place arg h0_argumentCount h0_code tap ctap gtap) ∧ va_S A s.heap H locs ∧ lv_has ls 3 [(0, .ref h0), (1, .int j7_l1)]) (fun u => match u with | (j7_l1, j7_h0_numeral, j7_h0_to) => (h0_length.toInt - j7_h0_to.toInt).toNat) ?_ (0, 0, h0_to) ⟨Or.inl rfl, b_h0_to, by (try dsimp only) <;> (first | (apply Int.le_antisymm <;> omega) | omega), (by rw [show h0_to.toInt - h0_to.toInt = 0 from by (first | (apply Int.le_antisymm <;> omega) | omega), tn_0]; decide), hP, hD, hS, lv_sub hl [1, 0] rfl⟩
  intro N7 ih7 u H locs ls hN7 hI
  obtain ⟨j7_l1, j7_h0_numeral, j7_h0_to⟩ := u
  obtain ⟨b_j7_l1, b_j7_h0_to, v1, v2, hP, hD, hS, hl⟩ := hI
  have tj7_l1 := b01 b_j7_l1
  have hN7 : (h0_length.toInt - j7_h0_to.toInt).toNat < N7 + 1 := hN7
  refine lv_aload_n hx hb d_MD_number_7 rfl (lv_at hl 0 rfl) ?_
  refine lv_aload_n hx hb d_MD_number_8 rfl (lv_at hl 0 rfl) ?_
  refine va_get (D := (dC, dI)) (ci := 11) (v := .int j7_h0_to) (C := R_MD) (T := F_MD) (N := 65) hx hb hts i_MD hown hK hP 0 rfl rfl 6 (by decide) (hts _ kF_MD_23) (fun _ h9 => h9) rfl d_MD_number_9 ?_
  have hPc := hP.sb (wq := (wz_307 h0 rf tap h0_taped h0_length h0_kind h0_from j7_h0_to h0_word j7_h0_numeral h0_globalNames_r h0_globalPlaces_r h0_globalTypes_r h0_globalValues_r h0_globalCount h0_funs_r h0_funCount h0_open h0_signs h0_levels_r h0_now h0_known_r h0_knownCount h0_loops mad h0_madeLength mag h0_smalls_r h0_greats_r h0_module_r h0_spare_r h0_m h0_cursor h0_limit blk stk h0_top hgt lab ous kis los h0_depth h0_function mem h0_pages glo val h0_valueTop ffu fre fba fla h0_frames lat lhe h0_labelTop h0_steps h0_there rsl h0_resultLength h0_reason h0_place arg h0_argumentCount h0_code tap ctap gtap)) [0, 1] rfl
  have hDc := hD.sb (wq := (wz_307 h0 rf tap h0_taped h0_length h0_kind h0_from j7_h0_to h0_word j7_h0_numeral h0_globalNames_r h0_globalPlaces_r h0_globalTypes_r h0_globalValues_r h0_globalCount h0_funs_r h0_funCount h0_open h0_signs h0_levels_r h0_now h0_known_r h0_knownCount h0_loops mad h0_madeLength mag h0_smalls_r h0_greats_r h0_module_r h0_spare_r h0_m h0_cursor h0_limit blk stk h0_top hgt lab ous kis los h0_depth h0_function mem h0_pages glo val h0_valueTop ffu fre fba fla h0_frames lat lhe h0_labelTop h0_steps h0_there rsl h0_resultLength h0_reason h0_place arg h0_argumentCount h0_code tap ctap gtap)) [0, 1] (by decide) rfl
  have hKc := hK.sb (tyq := [(ctap, .byte)]) [0] rfl
  have hFc := va_free (wc := (wz_307 h0 rf tap h0_taped h0_length h0_kind h0_from j7_h0_to h0_word j7_h0_numeral h0_globalNames_r h0_globalPlaces_r h0_globalTypes_r h0_globalValues_r h0_globalCount h0_funs_r h0_funCount h0_open h0_signs h0_levels_r h0_now h0_known_r h0_knownCount h0_loops mad h0_madeLength mag h0_smalls_r h0_greats_r h0_module_r h0_spare_r h0_m h0_cursor h0_limit blk stk h0_top hgt lab ous kis los h0_depth h0_function mem h0_pages glo val h0_valueTop ffu fre fba fla h0_frames lat lhe h0_labelTop h0_steps h0_there rsl h0_resultLength h0_reason h0_place arg h0_argumentCount h0_code tap ctap gtap)) hD hS hA [0, 1] rfl
  refine va_calli (va_runV (As := [.int j7_h0_to]) (rest := []) ⟨hx, hb, hml, hown, hts⟩ (c_MD_at l dC dI H.size h0 rf tap h0_globalNames_r h0_globalPlaces_r h0_globalTypes_r h0_globalValues_r h0_funs_r h0_levels_r h0_known_r mad mag h0_smalls_r h0_greats_r h0_module_r h0_spare_r blk stk hgt lab ous kis los mem glo val ffu fre fba fla lat lhe rsl arg ctap h0_taped h0_length h0_kind h0_from j7_h0_to h0_word j7_h0_numeral h0_globalCount h0_funCount h0_open h0_signs h0_now h0_knownCount h0_loops h0_madeLength h0_m h0_cursor h0_limit h0_top h0_depth h0_function h0_pages h0_valueTop h0_frames h0_labelTop h0_steps h0_there h0_resultLength h0_reason h0_place h0_argumentCount h0_code gtap (b_h0_length) j7_h0_to (by (try dsimp only) <;> (first | (apply Int.le_antisymm <;> omega) | omega))) (cwV 1 hts (gV kM_MD_26 kV_MD_at kS_MD_at kI_MD kC_MD_at) rfl rfl rfl (by decide +kernel) ⟨Nat.le_of_ble_eq_true rfl, Nat.le_of_ble_eq_true rfl⟩) ⟨fun a U g mk z => by obtain ⟨z0, z1, zP, zK, zD, zS⟩ := z; exact ⟨z0, z1, zP, va_K.moved (u := U) (U := U.calling g mk a) (Vm.Alike.refl U.vm) zK, zD, sw_nest.same (s := U) (U := U.calling g mk a) rfl zS⟩, va_recv hKc hPc (ci := 11) (q0 := 0) rfl rfl, fun U hU hW => ⟨rfl, by rw [hU], va_P.he hU.symm hPc, va_K.moved hW.alike hKc, hDc.weaken (fun _ _ _ _ => trivial), hSW.warm hW⟩⟩ rfl rfl hl.1 rfl (lv_room (Nat.le_of_ble_eq_true rfl)) d_MD_number_12 ⟨(Nat.zero_le _), (Nat.zero_le _)⟩) hS (fun q _ h => hFc q h) hFc (fun r1 u t H1 locs ht hvm hw hB hz1 hk1 hS => ?_)
  try dsimp only at hw
  have xr1 := hw
  try clear hw
  obtain ⟨a1, a2, a3, a4⟩ := xr1
  obtain ⟨hP1, hK1, hD1⟩ := hB
  replace hP1 := va_P.he ht hP1
  obtain ⟨hP, hD⟩ := va_join (wr := []) (w1 := (wz_307 h0 rf tap h0_taped h0_length h0_kind h0_from j7_h0_to h0_word j7_h0_numeral h0_globalNames_r h0_globalPlaces_r h0_globalTypes_r h0_globalValues_r h0_globalCount h0_funs_r h0_funCount h0_open h0_signs h0_levels_r h0_now h0_known_r h0_knownCount h0_loops mad h0_madeLength mag h0_smalls_r h0_greats_r h0_module_r h0_spare_r h0_m h0_cursor h0_limit blk stk h0_top hgt lab ous kis los h0_depth h0_function mem h0_pages glo val h0_valueTop ffu fre fba fla h0_frames lat lhe h0_labelTop h0_steps h0_there rsl h0_resultLength h0_reason h0_place arg h0_argumentCount h0_code tap ctap gtap)) hP hD [0, 1] [] rfl rfl (by decide) (by decide) hk1 hFc hP1 hD1
  clear hPc hDc hKc hFc hz1 hk1 hP1 hK1 hD1
  rename Heap => H
  have hP : va_P (dC, dI) cls2 (wz_307 h0 rf tap h0_taped h0_length h0_kind h0_from j7_h0_to h0_word j7_h0_numeral h0_globalNames_r h0_globalPlaces_r h0_globalTypes_r h0_globalValues_r h0_globalCount h0_funs_r h0_funCount h0_open h0_signs h0_levels_r h0_now h0_known_r h0_knownCount h0_loops mad h0_madeLength mag h0_smalls_r h0_greats_r h0_module_r h0_spare_r h0_m h0_cursor h0_limit blk stk h0_top hgt lab ous kis los h0_depth h0_function mem h0_pages glo val h0_valueTop ffu fre fba fla h0_frames lat lhe h0_labelTop h0_steps h0_there rsl h0_resultLength h0_reason h0_place arg h0_argumentCount h0_code tap ctap gtap) H := hP
  have hD : va_D A (wz_307 h0 rf tap h0_taped h0_length h0_kind h0_from j7_h0_to h0_word j7_h0_numeral h0_globalNames_r h0_globalPlaces_r h0_globalTypes_r h0_globalValues_r h0_globalCount h0_funs_r h0_funCount h0_open h0_signs h0_levels_r h0_now h0_known_r h0_knownCount h0_loops mad h0_madeLength mag h0_smalls_r h0_greats_r h0_module_r h0_spare_r h0_m h0_cursor h0_limit blk stk h0_top hgt lab ous kis los h0_depth h0_function mem h0_pages glo val h0_valueTop ffu fre fba fla h0_frames lat lhe h0_labelTop h0_steps h0_there rsl h0_resultLength h0_reason h0_place arg h0_argumentCount h0_code tap ctap gtap) := hD
  have hPc := hP.sb (wq := []) [] rfl
  have hDc := hD.sb (wq := []) [] (by decide) rfl
  have hKc := hK.sb (tyq := []) [] rfl
  have hFc := va_free (wc := []) hD hS hA [] rfl
  refine va_calli (va_runS (As := [.int r1]) (rest := []) ⟨hx, hb, hml, hown, hts⟩ (c_MD_digit l dC dI H.size r1) ⟨callB_of 1 hts (gW kC_MD_digit) rfl rfl rfl (hts _ kI_MD) (hts _ kM_MD_46) (by decide +kernel) ⟨Nat.le_of_ble_eq_true rfl, Nat.le_of_ble_eq_true rfl⟩, hts _ kT_MD_digit⟩ ⟨fun a U g mk z => by obtain ⟨z0, z1, zP, zK, zD⟩ := z; exact ⟨z0, z1, zP, va_K.moved (u := U) (U := U.calling g mk a) (Vm.Alike.refl U.vm) zK, zD⟩, fun U hU hW => ⟨rfl, by rw [hU], va_P.he hU.symm hPc, va_K.moved hW.alike hKc, hDc.weaken (fun _ _ _ _ => trivial)⟩⟩ rfl rfl hl.1 rfl (lv_room (Nat.le_of_ble_eq_true rfl)) d_MD_number_15 ⟨(Nat.zero_le _), (Nat.zero_le _)⟩) hS (fun q _ h => hFc q h) hFc (fun r2 u t H1 locs ht hvm hw hB hz1 hk1 hS => ?_)
  try dsimp only at hw
  obtain ⟨br2, xr2⟩ := hw
  try clear hw
  have tr2 := b01 br2
  obtain ⟨d1, d2⟩ := xr2
  obtain ⟨hP1, hK1, hD1⟩ := hB
  replace hP1 := va_P.he ht hP1
  obtain ⟨hP, hD⟩ := va_join (wr := (wz_307 h0 rf tap h0_taped h0_length h0_kind h0_from j7_h0_to h0_word j7_h0_numeral h0_globalNames_r h0_globalPlaces_r h0_globalTypes_r h0_globalValues_r h0_globalCount h0_funs_r h0_funCount h0_open h0_signs h0_levels_r h0_now h0_known_r h0_knownCount h0_loops mad h0_madeLength mag h0_smalls_r h0_greats_r h0_module_r h0_spare_r h0_m h0_cursor h0_limit blk stk h0_top hgt lab ous kis los h0_depth h0_function mem h0_pages glo val h0_valueTop ffu fre fba fla h0_frames lat lhe h0_labelTop h0_steps h0_there rsl h0_resultLength h0_reason h0_place arg h0_argumentCount h0_code tap ctap gtap)) (w1 := []) hP hD [] [0, 1] rfl rfl (by decide) (by decide) hk1 hFc hP1 hD1
  clear hPc hDc hKc hFc hz1 hk1 hP1 hK1 hD1
  rename Heap => H
  have hP : va_P (dC, dI) cls2 (wz_307 h0 rf tap h0_taped h0_length h0_kind h0_from j7_h0_to h0_word j7_h0_numeral h0_globalNames_r h0_globalPlaces_r h0_globalTypes_r h0_globalValues_r h0_globalCount h0_funs_r h0_funCount h0_open h0_signs h0_levels_r h0_now h0_known_r h0_knownCount h0_loops mad h0_madeLength mag h0_smalls_r h0_greats_r h0_module_r h0_spare_r h0_m h0_cursor h0_limit blk stk h0_top hgt lab ous kis los h0_depth h0_function mem h0_pages glo val h0_valueTop ffu fre fba fla h0_frames lat lhe h0_labelTop h0_steps h0_there rsl h0_resultLength h0_reason h0_place arg h0_argumentCount h0_code tap ctap gtap) H := hP
  have hD : va_D A (wz_307 h0 rf tap h0_taped h0_length h0_kind h0_from j7_h0_to h0_word j7_h0_numeral h0_globalNames_r h0_globalPlaces_r h0_globalTypes_r h0_globalValues_r h0_globalCount h0_funs_r h0_funCount h0_open h0_signs h0_levels_r h0_now h0_known_r h0_knownCount h0_loops mad h0_madeLength mag h0_smalls_r h0_greats_r h0_module_r h0_spare_r h0_m h0_cursor h0_limit blk stk h0_top hgt lab ous kis los h0_depth h0_function mem h0_pages glo val h0_valueTop ffu fre fba fla h0_frames lat lhe h0_labelTop h0_steps h0_there rsl h0_resultLength h0_reason h0_place arg h0_argumentCount h0_code tap ctap gtap) := hD
  refine lv_if_eq (tgt := 91) hx hb d_MD_number_18 (by decide) (fun c18 => ?_) (fun c18 => ?_)
  · have q18 := eqI c18
    have y91 : h0_to.toInt < j7_h0_to.toInt := by
      by_cases q : j7_h0_to.toInt = h0_to.toInt
      · have e9 := a1 (by (first | (apply Int.le_antisymm <;> omega) | omega)); rw [show j7_h0_to.toNatClampNeg = h0_to.toNatClampNeg from by have := i32_clamp (x := j7_h0_to) (by (first | (apply Int.le_antisymm <;> omega) | omega)); (first | (apply Int.le_antisymm <;> omega) | omega)] at e9; (first | (apply Int.le_antisymm <;> omega) | omega)
      · (first | (apply Int.le_antisymm <;> omega) | omega)
    have pp := tn_p (j7_h0_to.toInt - h0_to.toInt)
    refine lv_aload_n hx hb d_MD_number_91 rfl (lv_at hl 0 rfl) ?_
    refine lv_aload_n hx hb d_MD_number_92 rfl (lv_at hl 0 rfl) ?_
    refine va_get (D := (dC, dI)) (ci := 11) (v := .int j7_h0_to) (C := R_MD) (T := F_MD) (N := 65) hx hb hts i_MD hown hK hP 0 rfl rfl 6 (by decide) (hts _ kF_MD_23) (fun _ h9 => h9) rfl d_MD_number_93 ?_
    have hPc := hP.sb (wq := (wz_307 h0 rf tap h0_taped h0_length h0_kind h0_from j7_h0_to h0_word j7_h0_numeral h0_globalNames_r h0_globalPlaces_r h0_globalTypes_r h0_globalValues_r h0_globalCount h0_funs_r h0_funCount h0_open h0_signs h0_levels_r h0_now h0_known_r h0_knownCount h0_loops mad h0_madeLength mag h0_smalls_r h0_greats_r h0_module_r h0_spare_r h0_m h0_cursor h0_limit blk stk h0_top hgt lab ous kis los h0_depth h0_function mem h0_pages glo val h0_valueTop ffu fre fba fla h0_frames lat lhe h0_labelTop h0_steps h0_there rsl h0_resultLength h0_reason h0_place arg h0_argumentCount h0_code tap ctap gtap)) [0, 1] rfl
    have hDc := hD.sb (wq := (wz_307 h0 rf tap h0_taped h0_length h0_kind h0_from j7_h0_to h0_word j7_h0_numeral h0_globalNames_r h0_globalPlaces_r h0_globalTypes_r h0_globalValues_r h0_globalCount h0_funs_r h0_funCount h0_open h0_signs h0_levels_r h0_now h0_known_r h0_knownCount h0_loops mad h0_madeLength mag h0_smalls_r h0_greats_r h0_module_r h0_spare_r h0_m h0_cursor h0_limit blk stk h0_top hgt lab ous kis los h0_depth h0_function mem h0_pages glo val h0_valueTop ffu fre fba fla h0_frames lat lhe h0_labelTop h0_steps h0_there rsl h0_resultLength h0_reason h0_place arg h0_argumentCount h0_code tap ctap gtap)) [0, 1] (by decide) rfl
    have hKc := hK.sb (tyq := [(ctap, .byte)]) [0] rfl
    have hFc := va_free (wc := (wz_307 h0 rf tap h0_taped h0_length h0_kind h0_from j7_h0_to h0_word j7_h0_numeral h0_globalNames_r h0_globalPlaces_r h0_globalTypes_r h0_globalValues_r h0_globalCount h0_funs_r h0_funCount h0_open h0_signs h0_levels_r h0_now h0_known_r h0_knownCount h0_loops mad h0_madeLength mag h0_smalls_r h0_greats_r h0_module_r h0_spare_r h0_m h0_cursor h0_limit blk stk h0_top hgt lab ous kis los h0_depth h0_function mem h0_pages glo val h0_valueTop ffu fre fba fla h0_frames lat lhe h0_labelTop h0_steps h0_there rsl h0_resultLength h0_reason h0_place arg h0_argumentCount h0_code tap ctap gtap)) hD hS hA [0, 1] rfl
    refine va_calli (va_runV (As := [.int j7_h0_to]) (rest := []) ⟨hx, hb, hml, hown, hts⟩ (c_MD_at l dC dI H.size h0 rf tap h0_globalNames_r h0_globalPlaces_r h0_globalTypes_r h0_globalValues_r h0_funs_r h0_levels_r h0_known_r mad mag h0_smalls_r h0_greats_r h0_module_r h0_spare_r blk stk hgt lab ous kis los mem glo val ffu fre fba fla lat lhe rsl arg ctap h0_taped h0_length h0_kind h0_from j7_h0_to h0_word j7_h0_numeral h0_globalCount h0_funCount h0_open h0_signs h0_now h0_knownCount h0_loops h0_madeLength h0_m h0_cursor h0_limit h0_top h0_depth h0_function h0_pages h0_valueTop h0_frames h0_labelTop h0_steps h0_there h0_resultLength h0_reason h0_place h0_argumentCount h0_code gtap (b_h0_length) j7_h0_to (by (try dsimp only) <;> (first | (apply Int.le_antisymm <;> omega) | omega))) (cwV 1 hts (gV kM_MD_26 kV_MD_at kS_MD_at kI_MD kC_MD_at) rfl rfl rfl (by decide +kernel) ⟨Nat.le_of_ble_eq_true rfl, Nat.le_of_ble_eq_true rfl⟩) ⟨fun a U g mk z => by obtain ⟨z0, z1, zP, zK, zD, zS⟩ := z; exact ⟨z0, z1, zP, va_K.moved (u := U) (U := U.calling g mk a) (Vm.Alike.refl U.vm) zK, zD, sw_nest.same (s := U) (U := U.calling g mk a) rfl zS⟩, va_recv hKc hPc (ci := 11) (q0 := 0) rfl rfl, fun U hU hW => ⟨rfl, by rw [hU], va_P.he hU.symm hPc, va_K.moved hW.alike hKc, hDc.weaken (fun _ _ _ _ => trivial), hSW.warm hW⟩⟩ rfl rfl hl.1 rfl (lv_room (Nat.le_of_ble_eq_true rfl)) d_MD_number_96 ⟨(Nat.zero_le _), (Nat.zero_le _)⟩) hS (fun q _ h => hFc q h) hFc (fun r3 u t H1 locs ht hvm hw hB hz1 hk1 hS => ?_)
    try dsimp only at hw
    have xr3 := hw
    try clear hw
    obtain ⟨c1, c2, c3, c4⟩ := xr3
    obtain ⟨hP1, hK1, hD1⟩ := hB
    replace hP1 := va_P.he ht hP1
    obtain ⟨hP, hD⟩ := va_join (wr := []) (w1 := (wz_307 h0 rf tap h0_taped h0_length h0_kind h0_from j7_h0_to h0_word j7_h0_numeral h0_globalNames_r h0_globalPlaces_r h0_globalTypes_r h0_globalValues_r h0_globalCount h0_funs_r h0_funCount h0_open h0_signs h0_levels_r h0_now h0_known_r h0_knownCount h0_loops mad h0_madeLength mag h0_smalls_r h0_greats_r h0_module_r h0_spare_r h0_m h0_cursor h0_limit blk stk h0_top hgt lab ous kis los h0_depth h0_function mem h0_pages glo val h0_valueTop ffu fre fba fla h0_frames lat lhe h0_labelTop h0_steps h0_there rsl h0_resultLength h0_reason h0_place arg h0_argumentCount h0_code tap ctap gtap)) hP hD [0, 1] [] rfl rfl (by decide) (by decide) hk1 hFc hP1 hD1
    clear hPc hDc hKc hFc hz1 hk1 hP1 hK1 hD1
    rename Heap => H
    have hP : va_P (dC, dI) cls2 (wz_307 h0 rf tap h0_taped h0_length h0_kind h0_from j7_h0_to h0_word j7_h0_numeral h0_globalNames_r h0_globalPlaces_r h0_globalTypes_r h0_globalValues_r h0_globalCount h0_funs_r h0_funCount h0_open h0_signs h0_levels_r h0_now h0_known_r h0_knownCount h0_loops mad h0_madeLength mag h0_smalls_r h0_greats_r h0_module_r h0_spare_r h0_m h0_cursor h0_limit blk stk h0_top hgt lab ous kis los h0_depth h0_function mem h0_pages glo val h0_valueTop ffu fre fba fla h0_frames lat lhe h0_labelTop h0_steps h0_there rsl h0_resultLength h0_reason h0_place arg h0_argumentCount h0_code tap ctap gtap) H := hP
    have hD : va_D A (wz_307 h0 rf tap h0_taped h0_length h0_kind h0_from j7_h0_to h0_word j7_h0_numeral h0_globalNames_r h0_globalPlaces_r h0_globalTypes_r h0_globalValues_r h0_globalCount h0_funs_r h0_funCount h0_open h0_signs h0_levels_r h0_now h0_known_r h0_knownCount h0_loops mad h0_madeLength mag h0_smalls_r h0_greats_r h0_module_r h0_spare_r h0_m h0_cursor h0_limit blk stk h0_top hgt lab ous kis los h0_depth h0_function mem h0_pages glo val h0_valueTop ffu fre fba fla h0_frames lat lhe h0_labelTop h0_steps h0_there rsl h0_resultLength h0_reason h0_place arg h0_argumentCount h0_code tap ctap gtap) := hD
    refine lv_bipush (v := 76) hx hb d_MD_number_99 (by decide) ?_
    refine w_cut (pc2 := 109) (σ := Int32) (fun u H locs ls => match u with | j109_s0 => (j109_s0 = 0 ∨ j109_s0 = 1) ∧ (j109_s0.toInt = 1 → j7_h0_to.toInt < h0_length.toInt) ∧ va_P (dC, dI) cls2 (wz_307 h0 rf tap h0_taped h0_length h0_kind h0_from j7_h0_to h0_word j7_h0_numeral h0_globalNames_r h0_globalPlaces_r h0_globalTypes_r h0_globalValues_r h0_globalCount h0_funs_r h0_funCount h0_open h0_signs h0_levels_r h0_now h0_known_r h0_knownCount h0_loops mad h0_madeLength mag h0_smalls_r h0_greats_r h0_module_r h0_spare_r h0_m h0_cursor h0_limit blk stk h0_top hgt lab ous kis los h0_depth h0_function mem h0_pages glo val h0_valueTop ffu fre fba fla h0_frames lat lhe h0_labelTop h0_steps h0_there rsl h0_resultLength h0_reason h0_place arg h0_argumentCount h0_code tap ctap gtap) H ∧ va_D A (wz_307 h0 rf tap h0_taped h0_length h0_kind h0_from j7_h0_to h0_word j7_h0_numeral h0_globalNames_r h0_globalPlaces_r h0_globalTypes_r h0_globalValues_r h0_globalCount h0_funs_r h0_funCount h0_open h0_signs h0_levels_r h0_now h0_known_r h0_knownCount h0_loops mad h0_madeLength mag h0_smalls_r h0_greats_r h0_module_r h0_spare_r h0_m h0_cursor h0_limit blk stk h0_top hgt lab ous kis los h0_depth h0_function mem h0_pages glo val h0_valueTop ffu fre fba fla h0_frames lat lhe h0_labelTop h0_steps h0_there rsl h0_resultLength h0_reason h0_place arg h0_argumentCount h0_code tap ctap gtap) ∧ va_S A s.heap H locs ∧ lv_has ls 3 [(0, .ref h0), (1, .int j7_l1)]) (fun u => match u with | j109_s0 => [.int j109_s0]) ?_ (fun jn109 => ?_)
    · intro u H locs ls hI
      obtain ⟨j109_s0, rfl⟩ : ∃ z, z = u := ⟨_, rfl⟩
      obtain ⟨b_j109_s0, y109, hP, hD, hS, hl⟩ := hI
      have tj109_s0 := b01 b_j109_s0
      refine lv_istore_n (lv' := [(2, .int j109_s0), (0, .ref h0), (1, .int j7_l1)]) hx hb d_MD_number_109 rfl hl (by decide) rfl (fun ls hl => ?_)
      refine lv_iload_n hx hb d_MD_number_110 rfl (lv_at hl 0 rfl) ?_
      refine w_cut (pc2 := 124) (σ := Int32) (fun u H locs ls => match u with | j124_h0_to => (0 ≤ j124_h0_to.toInt ∧ j124_h0_to.toInt ≤ 2000) ∧ (h0_to.toInt < j124_h0_to.toInt ∧ j124_h0_to.toInt ≤ h0_length.toInt) ∧ (j7_h0_numeral.toInt < tn (j124_h0_to.toInt - h0_to.toInt)) ∧ va_P (dC, dI) cls2 (wz_307 h0 rf tap h0_taped h0_length h0_kind h0_from j124_h0_to h0_word j7_h0_numeral h0_globalNames_r h0_globalPlaces_r h0_globalTypes_r h0_globalValues_r h0_globalCount h0_funs_r h0_funCount h0_open h0_signs h0_levels_r h0_now h0_known_r h0_knownCount h0_loops mad h0_madeLength mag h0_smalls_r h0_greats_r h0_module_r h0_spare_r h0_m h0_cursor h0_limit blk stk h0_top hgt lab ous kis los h0_depth h0_function mem h0_pages glo val h0_valueTop ffu fre fba fla h0_frames lat lhe h0_labelTop h0_steps h0_there rsl h0_resultLength h0_reason h0_place arg h0_argumentCount h0_code tap ctap gtap) H ∧ va_D A (wz_307 h0 rf tap h0_taped h0_length h0_kind h0_from j124_h0_to h0_word j7_h0_numeral h0_globalNames_r h0_globalPlaces_r h0_globalTypes_r h0_globalValues_r h0_globalCount h0_funs_r h0_funCount h0_open h0_signs h0_levels_r h0_now h0_known_r h0_knownCount h0_loops mad h0_madeLength mag h0_smalls_r h0_greats_r h0_module_r h0_spare_r h0_m h0_cursor h0_limit blk stk h0_top hgt lab ous kis los h0_depth h0_function mem h0_pages glo val h0_valueTop ffu fre fba fla h0_frames lat lhe h0_labelTop h0_steps h0_there rsl h0_resultLength h0_reason h0_place arg h0_argumentCount h0_code tap ctap gtap) ∧ va_S A s.heap H locs ∧ lv_has ls 3 [(0, .ref h0), (1, .int j7_l1), (2, .int j109_s0)]) (fun u => match u with | j124_h0_to => []) ?_ (fun jn124 => ?_)
      · intro u H locs ls hI
        obtain ⟨j124_h0_to, rfl⟩ : ∃ z, z = u := ⟨_, rfl⟩
        obtain ⟨b_j124_h0_to, y124, y125, hP, hD, hS, hl⟩ := hI
        refine lv_aload_n hx hb d_MD_number_124 rfl (lv_at hl 0 rfl) ?_
        refine lv_iload_n hx hb d_MD_number_125 rfl (lv_at hl 1 rfl) ?_
        refine w_cut (pc2 := 144) (σ := Unit) (fun u H locs ls => match u with | _ => va_P (dC, dI) cls2 (wz_307 h0 rf tap h0_taped h0_length h0_kind h0_from j124_h0_to h0_word j7_h0_numeral h0_globalNames_r h0_globalPlaces_r h0_globalTypes_r h0_globalValues_r h0_globalCount h0_funs_r h0_funCount h0_open h0_signs h0_levels_r h0_now h0_known_r h0_knownCount h0_loops mad h0_madeLength mag h0_smalls_r h0_greats_r h0_module_r h0_spare_r h0_m h0_cursor h0_limit blk stk h0_top hgt lab ous kis los h0_depth h0_function mem h0_pages glo val h0_valueTop ffu fre fba fla h0_frames lat lhe h0_labelTop h0_steps h0_there rsl h0_resultLength h0_reason h0_place arg h0_argumentCount h0_code tap ctap gtap) H ∧ va_D A (wz_307 h0 rf tap h0_taped h0_length h0_kind h0_from j124_h0_to h0_word j7_h0_numeral h0_globalNames_r h0_globalPlaces_r h0_globalTypes_r h0_globalValues_r h0_globalCount h0_funs_r h0_funCount h0_open h0_signs h0_levels_r h0_now h0_known_r h0_knownCount h0_loops mad h0_madeLength mag h0_smalls_r h0_greats_r h0_module_r h0_spare_r h0_m h0_cursor h0_limit blk stk h0_top hgt lab ous kis los h0_depth h0_function mem h0_pages glo val h0_valueTop ffu fre fba fla h0_frames lat lhe h0_labelTop h0_steps h0_there rsl h0_resultLength h0_reason h0_place arg h0_argumentCount h0_code tap ctap gtap) ∧ va_S A s.heap H locs ∧ lv_has ls 3 []) (fun u => match u with | _ => [.ref h0]) ?_ (fun jn144 => ?_)
        · intro u H locs ls hI
          obtain ⟨hP, hD, hS, hl⟩ := hI
          refine lv_bipush (v := 6) hx hb d_MD_number_144 (by decide) ?_
          refine lv_goto (tgt := 158) hx hb d_MD_number_146 (by decide) ?_
          refine va_put (D := (dC, dI)) (ci := 11) (v := .int 6) (ty := .int) (C := R_MD) (T := F_MD) (N := 65) hx hb hts i_MD t_MD t_MD_ok n_MD hown hK hP hD hS 0 rfl rfl 4 (by decide) (hts _ kF_MD_33) (fun _ h9 => h9) rfl (by decide +kernel) rfl rfl (Nat.le_of_ble_eq_true rfl) d_MD_number_158 (fun H locs hP hD hS => ?_)
          have hP9 := hP.sb (wq := (wz_307 h0 rf tap h0_taped h0_length 6 h0_from j124_h0_to h0_word j7_h0_numeral h0_globalNames_r h0_globalPlaces_r h0_globalTypes_r h0_globalValues_r h0_globalCount h0_funs_r h0_funCount h0_open h0_signs h0_levels_r h0_now h0_known_r h0_knownCount h0_loops mad h0_madeLength mag h0_smalls_r h0_greats_r h0_module_r h0_spare_r h0_m h0_cursor h0_limit blk stk h0_top hgt lab ous kis los h0_depth h0_function mem h0_pages glo val h0_valueTop ffu fre fba fla h0_frames lat lhe h0_labelTop h0_steps h0_there rsl h0_resultLength h0_reason h0_place arg h0_argumentCount h0_code tap ctap gtap)) [0, 1] rfl
          have hD9 := hD.sb (wq := (wz_307 h0 rf tap h0_taped h0_length 6 h0_from j124_h0_to h0_word j7_h0_numeral h0_globalNames_r h0_globalPlaces_r h0_globalTypes_r h0_globalValues_r h0_globalCount h0_funs_r h0_funCount h0_open h0_signs h0_levels_r h0_now h0_known_r h0_knownCount h0_loops mad h0_madeLength mag h0_smalls_r h0_greats_r h0_module_r h0_spare_r h0_m h0_cursor h0_limit blk stk h0_top hgt lab ous kis los h0_depth h0_function mem h0_pages glo val h0_valueTop ffu fre fba fla h0_frames lat lhe h0_labelTop h0_steps h0_there rsl h0_resultLength h0_reason h0_place arg h0_argumentCount h0_code tap ctap gtap)) [0, 1] (by decide) rfl
          exact W.vret hx hb hr (fun t ht hW => ⟨⟨(6, j7_h0_numeral, j124_h0_to), rfl, ⟨b_j124_h0_to, ⟨y124.1, y124.2, by decide, v2.1, y125, by first | (intro _; (first | (apply Int.le_antisymm <;> omega) | omega)) | (intro z; exact absurd z (by decide))⟩⟩, va_P.he ht.symm hP9, va_K.moved hW.alike hK, hD9⟩, hS.F ht⟩) hS.2.2 d_MD_number_161
        · skip
          refine lv_if_ne (tgt := 144) hx hb d_MD_number_126 (by decide) (fun c126 => ?_) (fun c126 => ?_)
          · have q126 := neI c126
            exact jn144 () _ _ _ ⟨hP, hD, hS, lv_sub hl [] rfl⟩
          · have q126 := eqI c126
            refine lv_iload_n hx hb d_MD_number_129 rfl (lv_at hl 2 rfl) ?_
            refine lv_if_ne (tgt := 149) hx hb d_MD_number_130 (by decide) (fun c130 => ?_) (fun c130 => ?_)
            · have q130 := neI c130
              refine lv_iload_n hx hb d_MD_number_149 rfl (lv_at hl 2 rfl) ?_
              refine lv_if_eq (tgt := 157) hx hb d_MD_number_150 (by decide) (fun c150 => ?_) (fun c150 => ?_)
              · have q150 := eqI c150
                refine lv_iconst (v := 3) hx hb d_MD_number_157 (by decide) ?_
                refine va_put (D := (dC, dI)) (ci := 11) (v := .int 3) (ty := .int) (C := R_MD) (T := F_MD) (N := 65) hx hb hts i_MD t_MD t_MD_ok n_MD hown hK hP hD hS 0 rfl rfl 4 (by decide) (hts _ kF_MD_33) (fun _ h9 => h9) rfl (by decide +kernel) rfl rfl (Nat.le_of_ble_eq_true rfl) d_MD_number_158 (fun H locs hP hD hS => ?_)
                have hP9 := hP.sb (wq := (wz_307 h0 rf tap h0_taped h0_length 3 h0_from j124_h0_to h0_word j7_h0_numeral h0_globalNames_r h0_globalPlaces_r h0_globalTypes_r h0_globalValues_r h0_globalCount h0_funs_r h0_funCount h0_open h0_signs h0_levels_r h0_now h0_known_r h0_knownCount h0_loops mad h0_madeLength mag h0_smalls_r h0_greats_r h0_module_r h0_spare_r h0_m h0_cursor h0_limit blk stk h0_top hgt lab ous kis los h0_depth h0_function mem h0_pages glo val h0_valueTop ffu fre fba fla h0_frames lat lhe h0_labelTop h0_steps h0_there rsl h0_resultLength h0_reason h0_place arg h0_argumentCount h0_code tap ctap gtap)) [0, 1] rfl
                have hD9 := hD.sb (wq := (wz_307 h0 rf tap h0_taped h0_length 3 h0_from j124_h0_to h0_word j7_h0_numeral h0_globalNames_r h0_globalPlaces_r h0_globalTypes_r h0_globalValues_r h0_globalCount h0_funs_r h0_funCount h0_open h0_signs h0_levels_r h0_now h0_known_r h0_knownCount h0_loops mad h0_madeLength mag h0_smalls_r h0_greats_r h0_module_r h0_spare_r h0_m h0_cursor h0_limit blk stk h0_top hgt lab ous kis los h0_depth h0_function mem h0_pages glo val h0_valueTop ffu fre fba fla h0_frames lat lhe h0_labelTop h0_steps h0_there rsl h0_resultLength h0_reason h0_place arg h0_argumentCount h0_code tap ctap gtap)) [0, 1] (by decide) rfl
                exact W.vret hx hb hr (fun t ht hW => ⟨⟨(3, j7_h0_numeral, j124_h0_to), rfl, ⟨b_j124_h0_to, ⟨y124.1, y124.2, by decide, v2.1, y125, by first | (intro _; (first | (apply Int.le_antisymm <;> omega) | omega)) | (intro z; exact absurd z (by decide))⟩⟩, va_P.he ht.symm hP9, va_K.moved hW.alike hK, hD9⟩, hS.F ht⟩) hS.2.2 d_MD_number_161
              · have q150 := neI c150
                refine lv_iconst (v := 4) hx hb d_MD_number_153 (by decide) ?_
                refine lv_goto (tgt := 158) hx hb d_MD_number_154 (by decide) ?_
                refine va_put (D := (dC, dI)) (ci := 11) (v := .int 4) (ty := .int) (C := R_MD) (T := F_MD) (N := 65) hx hb hts i_MD t_MD t_MD_ok n_MD hown hK hP hD hS 0 rfl rfl 4 (by decide) (hts _ kF_MD_33) (fun _ h9 => h9) rfl (by decide +kernel) rfl rfl (Nat.le_of_ble_eq_true rfl) d_MD_number_158 (fun H locs hP hD hS => ?_)
                have hP9 := hP.sb (wq := (wz_307 h0 rf tap h0_taped h0_length 4 h0_from j124_h0_to h0_word j7_h0_numeral h0_globalNames_r h0_globalPlaces_r h0_globalTypes_r h0_globalValues_r h0_globalCount h0_funs_r h0_funCount h0_open h0_signs h0_levels_r h0_now h0_known_r h0_knownCount h0_loops mad h0_madeLength mag h0_smalls_r h0_greats_r h0_module_r h0_spare_r h0_m h0_cursor h0_limit blk stk h0_top hgt lab ous kis los h0_depth h0_function mem h0_pages glo val h0_valueTop ffu fre fba fla h0_frames lat lhe h0_labelTop h0_steps h0_there rsl h0_resultLength h0_reason h0_place arg h0_argumentCount h0_code tap ctap gtap)) [0, 1] rfl
                have hD9 := hD.sb (wq := (wz_307 h0 rf tap h0_taped h0_length 4 h0_from j124_h0_to h0_word j7_h0_numeral h0_globalNames_r h0_globalPlaces_r h0_globalTypes_r h0_globalValues_r h0_globalCount h0_funs_r h0_funCount h0_open h0_signs h0_levels_r h0_now h0_known_r h0_knownCount h0_loops mad h0_madeLength mag h0_smalls_r h0_greats_r h0_module_r h0_spare_r h0_m h0_cursor h0_limit blk stk h0_top hgt lab ous kis los h0_depth h0_function mem h0_pages glo val h0_valueTop ffu fre fba fla h0_frames lat lhe h0_labelTop h0_steps h0_there rsl h0_resultLength h0_reason h0_place arg h0_argumentCount h0_code tap ctap gtap)) [0, 1] (by decide) rfl
                exact W.vret hx hb hr (fun t ht hW => ⟨⟨(4, j7_h0_numeral, j124_h0_to), rfl, ⟨b_j124_h0_to, ⟨y124.1, y124.2, by decide, v2.1, y125, by first | (intro _; (first | (apply Int.le_antisymm <;> omega) | omega)) | (intro z; exact absurd z (by decide))⟩⟩, va_P.he ht.symm hP9, va_K.moved hW.alike hK, hD9⟩, hS.F ht⟩) hS.2.2 d_MD_number_161
            · have q130 := eqI c130
              refine lv_aload_n hx hb d_MD_number_133 rfl (lv_at hl 0 rfl) ?_
              refine va_get (D := (dC, dI)) (ci := 11) (v := .long j7_h0_numeral) (C := R_MD) (T := F_MD) (N := 65) hx hb hts i_MD hown hK hP 0 rfl rfl 8 (by decide) (hts _ kF_MD_82) (fun _ h9 => h9) rfl d_MD_number_134 ?_
              refine lv_ldc2 hx hb hown (hts _ kL_MD_94) d_MD_number_137 ?_
              refine lv_topl (fun x4 ex4 => ?_)
              have tx4 : x4.toInt = 2147483647 := by rw [ex4]; decide
              refine W.lcmp hx hb d_MD_number_140 ?_
              refine lv_topi (fun x5 ex5 => ?_)
              have tx5 := lgc ex5
              refine lv_if_le (tgt := 149) hx hb d_MD_number_141 (by decide) (fun c141 => ?_) (fun c141 => ?_)
              · have q141 := leI c141
                refine lv_iload_n hx hb d_MD_number_149 rfl (lv_at hl 2 rfl) ?_
                refine lv_if_eq (tgt := 157) hx hb d_MD_number_150 (by decide) (fun c150 => ?_) (fun c150 => ?_)
                · have q150 := eqI c150
                  refine lv_iconst (v := 3) hx hb d_MD_number_157 (by decide) ?_
                  refine va_put (D := (dC, dI)) (ci := 11) (v := .int 3) (ty := .int) (C := R_MD) (T := F_MD) (N := 65) hx hb hts i_MD t_MD t_MD_ok n_MD hown hK hP hD hS 0 rfl rfl 4 (by decide) (hts _ kF_MD_33) (fun _ h9 => h9) rfl (by decide +kernel) rfl rfl (Nat.le_of_ble_eq_true rfl) d_MD_number_158 (fun H locs hP hD hS => ?_)
                  have hP9 := hP.sb (wq := (wz_307 h0 rf tap h0_taped h0_length 3 h0_from j124_h0_to h0_word j7_h0_numeral h0_globalNames_r h0_globalPlaces_r h0_globalTypes_r h0_globalValues_r h0_globalCount h0_funs_r h0_funCount h0_open h0_signs h0_levels_r h0_now h0_known_r h0_knownCount h0_loops mad h0_madeLength mag h0_smalls_r h0_greats_r h0_module_r h0_spare_r h0_m h0_cursor h0_limit blk stk h0_top hgt lab ous kis los h0_depth h0_function mem h0_pages glo val h0_valueTop ffu fre fba fla h0_frames lat lhe h0_labelTop h0_steps h0_there rsl h0_resultLength h0_reason h0_place arg h0_argumentCount h0_code tap ctap gtap)) [0, 1] rfl
                  have hD9 := hD.sb (wq := (wz_307 h0 rf tap h0_taped h0_length 3 h0_from j124_h0_to h0_word j7_h0_numeral h0_globalNames_r h0_globalPlaces_r h0_globalTypes_r h0_globalValues_r h0_globalCount h0_funs_r h0_funCount h0_open h0_signs h0_levels_r h0_now h0_known_r h0_knownCount h0_loops mad h0_madeLength mag h0_smalls_r h0_greats_r h0_module_r h0_spare_r h0_m h0_cursor h0_limit blk stk h0_top hgt lab ous kis los h0_depth h0_function mem h0_pages glo val h0_valueTop ffu fre fba fla h0_frames lat lhe h0_labelTop h0_steps h0_there rsl h0_resultLength h0_reason h0_place arg h0_argumentCount h0_code tap ctap gtap)) [0, 1] (by decide) rfl
                  exact W.vret hx hb hr (fun t ht hW => ⟨⟨(3, j7_h0_numeral, j124_h0_to), rfl, ⟨b_j124_h0_to, ⟨y124.1, y124.2, by decide, v2.1, y125, by first | (intro _; (first | (apply Int.le_antisymm <;> omega) | omega)) | (intro z; exact absurd z (by decide))⟩⟩, va_P.he ht.symm hP9, va_K.moved hW.alike hK, hD9⟩, hS.F ht⟩) hS.2.2 d_MD_number_161
                · have q150 := neI c150
                  refine lv_iconst (v := 4) hx hb d_MD_number_153 (by decide) ?_
                  refine lv_goto (tgt := 158) hx hb d_MD_number_154 (by decide) ?_
                  refine va_put (D := (dC, dI)) (ci := 11) (v := .int 4) (ty := .int) (C := R_MD) (T := F_MD) (N := 65) hx hb hts i_MD t_MD t_MD_ok n_MD hown hK hP hD hS 0 rfl rfl 4 (by decide) (hts _ kF_MD_33) (fun _ h9 => h9) rfl (by decide +kernel) rfl rfl (Nat.le_of_ble_eq_true rfl) d_MD_number_158 (fun H locs hP hD hS => ?_)
                  have hP9 := hP.sb (wq := (wz_307 h0 rf tap h0_taped h0_length 4 h0_from j124_h0_to h0_word j7_h0_numeral h0_globalNames_r h0_globalPlaces_r h0_globalTypes_r h0_globalValues_r h0_globalCount h0_funs_r h0_funCount h0_open h0_signs h0_levels_r h0_now h0_known_r h0_knownCount h0_loops mad h0_madeLength mag h0_smalls_r h0_greats_r h0_module_r h0_spare_r h0_m h0_cursor h0_limit blk stk h0_top hgt lab ous kis los h0_depth h0_function mem h0_pages glo val h0_valueTop ffu fre fba fla h0_frames lat lhe h0_labelTop h0_steps h0_there rsl h0_resultLength h0_reason h0_place arg h0_argumentCount h0_code tap ctap gtap)) [0, 1] rfl
                  have hD9 := hD.sb (wq := (wz_307 h0 rf tap h0_taped h0_length 4 h0_from j124_h0_to h0_word j7_h0_numeral h0_globalNames_r h0_globalPlaces_r h0_globalTypes_r h0_globalValues_r h0_globalCount h0_funs_r h0_funCount h0_open h0_signs h0_levels_r h0_now h0_known_r h0_knownCount h0_loops mad h0_madeLength mag h0_smalls_r h0_greats_r h0_module_r h0_spare_r h0_m h0_cursor h0_limit blk stk h0_top hgt lab ous kis los h0_depth h0_function mem h0_pages glo val h0_valueTop ffu fre fba fla h0_frames lat lhe h0_labelTop h0_steps h0_there rsl h0_resultLength h0_reason h0_place arg h0_argumentCount h0_code tap ctap gtap)) [0, 1] (by decide) rfl
                  exact W.vret hx hb hr (fun t ht hW => ⟨⟨(4, j7_h0_numeral, j124_h0_to), rfl, ⟨b_j124_h0_to, ⟨y124.1, y124.2, by decide, v2.1, y125, by first | (intro _; (first | (apply Int.le_antisymm <;> omega) | omega)) | (intro z; exact absurd z (by decide))⟩⟩, va_P.he ht.symm hP9, va_K.moved hW.alike hK, hD9⟩, hS.F ht⟩) hS.2.2 d_MD_number_161
              · have q141 := nleI c141
                exact jn144 () _ _ _ ⟨hP, hD, hS, lv_sub hl [] rfl⟩
      · skip
        refine lv_if_eq (tgt := 124) hx hb d_MD_number_111 (by decide) (fun c111 => ?_) (fun c111 => ?_)
        · have q111 := eqI c111
          exact jn124 j7_h0_to _ _ _ ⟨b_j7_h0_to, by (try dsimp only) <;> (first | (apply Int.le_antisymm <;> omega) | omega), (by first | exact v2.2 | (rw [tn_s (k := j7_h0_to.toInt - h0_to.toInt) (by (first | (apply Int.le_antisymm <;> omega) | omega)) (by (first | (apply Int.le_antisymm <;> omega) | omega))]; (first | (apply Int.le_antisymm <;> omega) | omega))), hP, hD, hS, lv_sub hl [1, 2, 0] rfl⟩
        · have q111 := neI c111
          refine lv_aload_n hx hb d_MD_number_114 rfl (lv_at hl 1 rfl) ?_
          refine lv_dup hx hb d_MD_number_115 rfl ?_
          refine va_get (D := (dC, dI)) (ci := 11) (v := .int j7_h0_to) (C := R_MD) (T := F_MD) (N := 65) hx hb hts i_MD hown hK hP 0 rfl rfl 6 (by decide) (hts _ kF_MD_23) (fun _ h9 => h9) rfl d_MD_number_116 ?_
          refine lv_iconst (v := 1) hx hb d_MD_number_119 (by decide) ?_
          refine lv_iadd hx hb d_MD_number_120 ?_
          refine lv_topi (fun x6 ex6 => ?_)
          have tx6 : x6.toInt = j7_h0_to.toInt + 1 := by have z := i32_add ex6 (by (first | (apply Int.le_antisymm <;> omega) | omega)) (by (first | (apply Int.le_antisymm <;> omega) | omega)); first | exact z | (first | (apply Int.le_antisymm <;> omega) | omega)
          refine va_put (D := (dC, dI)) (ci := 11) (v := .int x6) (ty := .int) (C := R_MD) (T := F_MD) (N := 65) hx hb hts i_MD t_MD t_MD_ok n_MD hown hK hP hD hS 0 rfl rfl 6 (by decide) (hts _ kF_MD_23) (fun _ h9 => h9) rfl (by decide +kernel) rfl rfl (Nat.le_of_ble_eq_true rfl) d_MD_number_121 (fun H locs hP hD hS => ?_)
          exact jn124 x6 _ _ _ ⟨by (try dsimp only) <;> (first | (apply Int.le_antisymm <;> omega) | omega), by (try dsimp only) <;> (first | (apply Int.le_antisymm <;> omega) | omega), (by first | exact v2.2 | (rw [tn_s (k := j7_h0_to.toInt - h0_to.toInt) (by (first | (apply Int.le_antisymm <;> omega) | omega)) (by (first | (apply Int.le_antisymm <;> omega) | omega))]; (first | (apply Int.le_antisymm <;> omega) | omega))), hP, hD, hS, lv_sub hl [1, 2, 0] rfl⟩
    · skip
      refine lv_icmp_ne (tgt := 108) hx hb d_MD_number_101 (by decide) (fun c101 => ?_) (fun c101 => ?_)
      · have q101 := neI c101
        refine lv_iconst (v := 0) hx hb d_MD_number_108 (by decide) ?_
        exact jn109 0 _ _ _ ⟨Or.inl rfl, by (try dsimp only) <;> (first | (apply Int.le_antisymm <;> omega) | omega), hP, hD, hS, lv_sub hl [0, 1] rfl⟩
      · have q101 := eqI c101
        refine lv_iconst (v := 1) hx hb d_MD_number_104 (by decide) ?_
        refine lv_goto (tgt := 109) hx hb d_MD_number_105 (by decide) ?_
        exact jn109 1 _ _ _ ⟨Or.inr rfl, by (try dsimp only) <;> (first | (apply Int.le_antisymm <;> omega) | omega), hP, hD, hS, lv_sub hl [0, 1] rfl⟩
  · have q18 := neI c18
    have pp := tn_p (j7_h0_to.toInt - h0_to.toInt)
    refine lv_aload_n hx hb d_MD_number_21 rfl (lv_at hl 0 rfl) ?_
    refine lv_aload_n hx hb d_MD_number_22 rfl (lv_at hl 0 rfl) ?_
    refine va_get (D := (dC, dI)) (ci := 11) (v := .int j7_h0_to) (C := R_MD) (T := F_MD) (N := 65) hx hb hts i_MD hown hK hP 0 rfl rfl 6 (by decide) (hts _ kF_MD_23) (fun _ h9 => h9) rfl d_MD_number_23 ?_
    have hPc := hP.sb (wq := (wz_307 h0 rf tap h0_taped h0_length h0_kind h0_from j7_h0_to h0_word j7_h0_numeral h0_globalNames_r h0_globalPlaces_r h0_globalTypes_r h0_globalValues_r h0_globalCount h0_funs_r h0_funCount h0_open h0_signs h0_levels_r h0_now h0_known_r h0_knownCount h0_loops mad h0_madeLength mag h0_smalls_r h0_greats_r h0_module_r h0_spare_r h0_m h0_cursor h0_limit blk stk h0_top hgt lab ous kis los h0_depth h0_function mem h0_pages glo val h0_valueTop ffu fre fba fla h0_frames lat lhe h0_labelTop h0_steps h0_there rsl h0_resultLength h0_reason h0_place arg h0_argumentCount h0_code tap ctap gtap)) [0, 1] rfl
    have hDc := hD.sb (wq := (wz_307 h0 rf tap h0_taped h0_length h0_kind h0_from j7_h0_to h0_word j7_h0_numeral h0_globalNames_r h0_globalPlaces_r h0_globalTypes_r h0_globalValues_r h0_globalCount h0_funs_r h0_funCount h0_open h0_signs h0_levels_r h0_now h0_known_r h0_knownCount h0_loops mad h0_madeLength mag h0_smalls_r h0_greats_r h0_module_r h0_spare_r h0_m h0_cursor h0_limit blk stk h0_top hgt lab ous kis los h0_depth h0_function mem h0_pages glo val h0_valueTop ffu fre fba fla h0_frames lat lhe h0_labelTop h0_steps h0_there rsl h0_resultLength h0_reason h0_place arg h0_argumentCount h0_code tap ctap gtap)) [0, 1] (by decide) rfl
    have hKc := hK.sb (tyq := [(ctap, .byte)]) [0] rfl
    have hFc := va_free (wc := (wz_307 h0 rf tap h0_taped h0_length h0_kind h0_from j7_h0_to h0_word j7_h0_numeral h0_globalNames_r h0_globalPlaces_r h0_globalTypes_r h0_globalValues_r h0_globalCount h0_funs_r h0_funCount h0_open h0_signs h0_levels_r h0_now h0_known_r h0_knownCount h0_loops mad h0_madeLength mag h0_smalls_r h0_greats_r h0_module_r h0_spare_r h0_m h0_cursor h0_limit blk stk h0_top hgt lab ous kis los h0_depth h0_function mem h0_pages glo val h0_valueTop ffu fre fba fla h0_frames lat lhe h0_labelTop h0_steps h0_there rsl h0_resultLength h0_reason h0_place arg h0_argumentCount h0_code tap ctap gtap)) hD hS hA [0, 1] rfl
    refine va_calli (va_runV (As := [.int j7_h0_to]) (rest := []) ⟨hx, hb, hml, hown, hts⟩ (c_MD_at l dC dI H.size h0 rf tap h0_globalNames_r h0_globalPlaces_r h0_globalTypes_r h0_globalValues_r h0_funs_r h0_levels_r h0_known_r mad mag h0_smalls_r h0_greats_r h0_module_r h0_spare_r blk stk hgt lab ous kis los mem glo val ffu fre fba fla lat lhe rsl arg ctap h0_taped h0_length h0_kind h0_from j7_h0_to h0_word j7_h0_numeral h0_globalCount h0_funCount h0_open h0_signs h0_now h0_knownCount h0_loops h0_madeLength h0_m h0_cursor h0_limit h0_top h0_depth h0_function h0_pages h0_valueTop h0_frames h0_labelTop h0_steps h0_there h0_resultLength h0_reason h0_place h0_argumentCount h0_code gtap (b_h0_length) j7_h0_to (by (try dsimp only) <;> (first | (apply Int.le_antisymm <;> omega) | omega))) (cwV 1 hts (gV kM_MD_26 kV_MD_at kS_MD_at kI_MD kC_MD_at) rfl rfl rfl (by decide +kernel) ⟨Nat.le_of_ble_eq_true rfl, Nat.le_of_ble_eq_true rfl⟩) ⟨fun a U g mk z => by obtain ⟨z0, z1, zP, zK, zD, zS⟩ := z; exact ⟨z0, z1, zP, va_K.moved (u := U) (U := U.calling g mk a) (Vm.Alike.refl U.vm) zK, zD, sw_nest.same (s := U) (U := U.calling g mk a) rfl zS⟩, va_recv hKc hPc (ci := 11) (q0 := 0) rfl rfl, fun U hU hW => ⟨rfl, by rw [hU], va_P.he hU.symm hPc, va_K.moved hW.alike hKc, hDc.weaken (fun _ _ _ _ => trivial), hSW.warm hW⟩⟩ rfl rfl hl.1 rfl (lv_room (Nat.le_of_ble_eq_true rfl)) d_MD_number_26 ⟨(Nat.zero_le _), (Nat.zero_le _)⟩) hS (fun q _ h => hFc q h) hFc (fun r7 u t H1 locs ht hvm hw hB hz1 hk1 hS => ?_)
    try dsimp only at hw
    have xr7 := hw
    try clear hw
    obtain ⟨b1, b2, b3, b4⟩ := xr7
    obtain ⟨hP1, hK1, hD1⟩ := hB
    replace hP1 := va_P.he ht hP1
    obtain ⟨hP, hD⟩ := va_join (wr := []) (w1 := (wz_307 h0 rf tap h0_taped h0_length h0_kind h0_from j7_h0_to h0_word j7_h0_numeral h0_globalNames_r h0_globalPlaces_r h0_globalTypes_r h0_globalValues_r h0_globalCount h0_funs_r h0_funCount h0_open h0_signs h0_levels_r h0_now h0_known_r h0_knownCount h0_loops mad h0_madeLength mag h0_smalls_r h0_greats_r h0_module_r h0_spare_r h0_m h0_cursor h0_limit blk stk h0_top hgt lab ous kis los h0_depth h0_function mem h0_pages glo val h0_valueTop ffu fre fba fla h0_frames lat lhe h0_labelTop h0_steps h0_there rsl h0_resultLength h0_reason h0_place arg h0_argumentCount h0_code tap ctap gtap)) hP hD [0, 1] [] rfl rfl (by decide) (by decide) hk1 hFc hP1 hD1
    clear hPc hDc hKc hFc hz1 hk1 hP1 hK1 hD1
    rename Heap => H
    have hP : va_P (dC, dI) cls2 (wz_307 h0 rf tap h0_taped h0_length h0_kind h0_from j7_h0_to h0_word j7_h0_numeral h0_globalNames_r h0_globalPlaces_r h0_globalTypes_r h0_globalValues_r h0_globalCount h0_funs_r h0_funCount h0_open h0_signs h0_levels_r h0_now h0_known_r h0_knownCount h0_loops mad h0_madeLength mag h0_smalls_r h0_greats_r h0_module_r h0_spare_r h0_m h0_cursor h0_limit blk stk h0_top hgt lab ous kis los h0_depth h0_function mem h0_pages glo val h0_valueTop ffu fre fba fla h0_frames lat lhe h0_labelTop h0_steps h0_there rsl h0_resultLength h0_reason h0_place arg h0_argumentCount h0_code tap ctap gtap) H := hP
    have hD : va_D A (wz_307 h0 rf tap h0_taped h0_length h0_kind h0_from j7_h0_to h0_word j7_h0_numeral h0_globalNames_r h0_globalPlaces_r h0_globalTypes_r h0_globalValues_r h0_globalCount h0_funs_r h0_funCount h0_open h0_signs h0_levels_r h0_now h0_known_r h0_knownCount h0_loops mad h0_madeLength mag h0_smalls_r h0_greats_r h0_module_r h0_spare_r h0_m h0_cursor h0_limit blk stk h0_top hgt lab ous kis los h0_depth h0_function mem h0_pages glo val h0_valueTop ffu fre fba fla h0_frames lat lhe h0_labelTop h0_steps h0_there rsl h0_resultLength h0_reason h0_place arg h0_argumentCount h0_code tap ctap gtap) := hD
    refine lv_bipush (v := 48) hx hb d_MD_number_29 (by decide) ?_
    refine lv_isub hx hb d_MD_number_31 ?_
    refine lv_topi (fun x8 ex8 => ?_)
    have tx8 : x8.toInt = r7.toInt - 48 := by have z := i32_sub ex8 (by (first | (apply Int.le_antisymm <;> omega) | omega)) (by (first | (apply Int.le_antisymm <;> omega) | omega)); first | exact z | (first | (apply Int.le_antisymm <;> omega) | omega)
    refine lv_istore_n (lv' := [(2, .int x8), (0, .ref h0), (1, .int j7_l1)]) hx hb d_MD_number_32 rfl hl (by decide) rfl (fun ls hl => ?_)
    refine lv_iload_n hx hb d_MD_number_33 rfl (lv_at hl 2 rfl) ?_
    refine lv_aload_n hx hb d_MD_number_34 rfl (lv_at hl 1 rfl) ?_
    refine va_get (D := (dC, dI)) (ci := 11) (v := .long j7_h0_numeral) (C := R_MD) (T := F_MD) (N := 65) hx hb hts i_MD hown hK hP 0 rfl rfl 8 (by decide) (hts _ kF_MD_82) (fun _ h9 => h9) rfl d_MD_number_35 ?_
    refine lv_ldc2 hx hb hown (hts _ kL_MD_88) d_MD_number_38 ?_
    refine lv_topl (fun x9 ex9 => ?_)
    have tx9 : x9.toInt = 9223372036854775807 := by rw [ex9]; decide
    refine lv_iload_n hx hb d_MD_number_41 rfl (lv_at hl 0 rfl) ?_
    refine lv_i2l hx hb d_MD_number_42 rfl ?_
    refine lv_topl (fun x10 ex10 => ?_)
    have tx10 := i2l_t ex10
    refine lv_lsub hx hb d_MD_number_43 ?_
    refine lv_topl (fun x11 ex11 => ?_)
    have tx11 : x11.toInt = x9.toInt - x10.toInt := by have z := i64_sub ex11 (by (first | (apply Int.le_antisymm <;> omega) | omega)) (by (first | (apply Int.le_antisymm <;> omega) | omega)); first | exact z | (first | (apply Int.le_antisymm <;> omega) | omega)
    refine lv_ldc2 hx hb hown (hts _ kL_MD_90) d_MD_number_44 ?_
    refine lv_topl (fun x12 ex12 => ?_)
    have tx12 : x12.toInt = 10 := by rw [ex12]; decide
    refine lv_ldiv hx hb d_MD_number_47 ((nz64 (by (first | (apply Int.le_antisymm <;> omega) | omega)))) ?_
    refine lv_topl (fun x13 ex13 => ?_)
    have tx13 := i64_div10 ex13 tx12 (by (first | (apply Int.le_antisymm <;> omega) | omega))
    refine W.lcmp hx hb d_MD_number_48 ?_
    refine lv_topi (fun x14 ex14 => ?_)
    have tx14 := lgc ex14
    refine lv_if_le (tgt := 56) hx hb d_MD_number_49 (by decide) (fun c49 => ?_) (fun c49 => ?_)
    · have q49 := leI c49
      refine lv_iconst (v := 0) hx hb d_MD_number_56 (by decide) ?_
      refine lv_ior hx hb d_MD_number_57 ?_
      refine lv_topi (fun x15 ex15 => ?_)
      have tx15 := or_b0 ex15 (by (first | (apply Int.le_antisymm <;> omega) | omega))
      refine lv_istore_n (lv' := [(1, .int x15), (2, .int x8), (0, .ref h0)]) hx hb d_MD_number_58 rfl hl (by decide) rfl (fun ls hl => ?_)
      refine lv_iload_n hx hb d_MD_number_59 rfl (lv_at hl 0 rfl) ?_
      refine w_cut (pc2 := 78) (σ := Int64) (fun u H locs ls => match u with | j78_h0_numeral => (0 ≤ j78_h0_numeral.toInt ∧ j78_h0_numeral.toInt < 10 * tn (j7_h0_to.toInt - h0_to.toInt)) ∧ va_P (dC, dI) cls2 (wz_307 h0 rf tap h0_taped h0_length h0_kind h0_from j7_h0_to h0_word j78_h0_numeral h0_globalNames_r h0_globalPlaces_r h0_globalTypes_r h0_globalValues_r h0_globalCount h0_funs_r h0_funCount h0_open h0_signs h0_levels_r h0_now h0_known_r h0_knownCount h0_loops mad h0_madeLength mag h0_smalls_r h0_greats_r h0_module_r h0_spare_r h0_m h0_cursor h0_limit blk stk h0_top hgt lab ous kis los h0_depth h0_function mem h0_pages glo val h0_valueTop ffu fre fba fla h0_frames lat lhe h0_labelTop h0_steps h0_there rsl h0_resultLength h0_reason h0_place arg h0_argumentCount h0_code tap ctap gtap) H ∧ va_D A (wz_307 h0 rf tap h0_taped h0_length h0_kind h0_from j7_h0_to h0_word j78_h0_numeral h0_globalNames_r h0_globalPlaces_r h0_globalTypes_r h0_globalValues_r h0_globalCount h0_funs_r h0_funCount h0_open h0_signs h0_levels_r h0_now h0_known_r h0_knownCount h0_loops mad h0_madeLength mag h0_smalls_r h0_greats_r h0_module_r h0_spare_r h0_m h0_cursor h0_limit blk stk h0_top hgt lab ous kis los h0_depth h0_function mem h0_pages glo val h0_valueTop ffu fre fba fla h0_frames lat lhe h0_labelTop h0_steps h0_there rsl h0_resultLength h0_reason h0_place arg h0_argumentCount h0_code tap ctap gtap) ∧ va_S A s.heap H locs ∧ lv_has ls 3 [(0, .ref h0), (1, .int x15)]) (fun u => match u with | j78_h0_numeral => []) ?_ (fun jn78 => ?_)
      · intro u H locs ls hI
        obtain ⟨j78_h0_numeral, rfl⟩ : ∃ z, z = u := ⟨_, rfl⟩
        obtain ⟨y78, hP, hD, hS, hl⟩ := hI
        refine lv_aload_n hx hb d_MD_number_78 rfl (lv_at hl 0 rfl) ?_
        refine lv_dup hx hb d_MD_number_79 rfl ?_
        refine va_get (D := (dC, dI)) (ci := 11) (v := .int j7_h0_to) (C := R_MD) (T := F_MD) (N := 65) hx hb hts i_MD hown hK hP 0 rfl rfl 6 (by decide) (hts _ kF_MD_23) (fun _ h9 => h9) rfl d_MD_number_80 ?_
        refine lv_iconst (v := 1) hx hb d_MD_number_83 (by decide) ?_
        refine lv_iadd hx hb d_MD_number_84 ?_
        refine lv_topi (fun x16 ex16 => ?_)
        have tx16 : x16.toInt = j7_h0_to.toInt + 1 := by have z := i32_add ex16 (by (first | (apply Int.le_antisymm <;> omega) | omega)) (by (first | (apply Int.le_antisymm <;> omega) | omega)); first | exact z | (first | (apply Int.le_antisymm <;> omega) | omega)
        refine va_put (D := (dC, dI)) (ci := 11) (v := .int x16) (ty := .int) (C := R_MD) (T := F_MD) (N := 65) hx hb hts i_MD t_MD t_MD_ok n_MD hown hK hP hD hS 0 rfl rfl 6 (by decide) (hts _ kF_MD_23) (fun _ h9 => h9) rfl (by decide +kernel) rfl rfl (Nat.le_of_ble_eq_true rfl) d_MD_number_85 (fun H locs hP hD hS => ?_)
        refine lv_goto (tgt := 7) hx hb d_MD_number_88 (by decide) ?_
        exact ih7 (x15, j78_h0_numeral, x16) _ _ _ (by show (h0_length.toInt - x16.toInt).toNat < N7; (first | (apply Int.le_antisymm <;> omega) | omega)) ⟨b01r (by (first | (apply Int.le_antisymm <;> omega) | omega)) (by (first | (apply Int.le_antisymm <;> omega) | omega)), by (try dsimp only) <;> (first | (apply Int.le_antisymm <;> omega) | omega), by (try dsimp only) <;> (first | (apply Int.le_antisymm <;> omega) | omega), (by rw [tn_s (k := j7_h0_to.toInt - h0_to.toInt) (k2 := _) (by (first | (apply Int.le_antisymm <;> omega) | omega)) (by (first | (apply Int.le_antisymm <;> omega) | omega))]; exact y78), hP, hD, hS, lv_sub hl [0, 1] rfl⟩
      · skip
        refine lv_if_ne (tgt := 78) hx hb d_MD_number_60 (by decide) (fun c60 => ?_) (fun c60 => ?_)
        · have q60 := neI c60
          exact jn78 j7_h0_numeral _ _ _ ⟨by (try dsimp only) <;> (first | (apply Int.le_antisymm <;> omega) | omega), hP, hD, hS, lv_sub hl [2, 0] rfl⟩
        · have q60 := eqI c60
          refine lv_aload_n hx hb d_MD_number_63 rfl (lv_at hl 2 rfl) ?_
          refine lv_ldc2 hx hb hown (hts _ kL_MD_90) d_MD_number_64 ?_
          refine lv_topl (fun x17 ex17 => ?_)
          have tx17 : x17.toInt = 10 := by rw [ex17]; decide
          refine lv_aload_n hx hb d_MD_number_67 rfl (lv_at hl 2 rfl) ?_
          refine va_get (D := (dC, dI)) (ci := 11) (v := .long j7_h0_numeral) (C := R_MD) (T := F_MD) (N := 65) hx hb hts i_MD hown hK hP 0 rfl rfl 8 (by decide) (hts _ kF_MD_82) (fun _ h9 => h9) rfl d_MD_number_68 ?_
          refine lv_lmul hx hb d_MD_number_71 ?_
          refine lv_topl (fun x18 ex18 => ?_)
          have tx18 := i64_mul ex18 (by rw [tx17]; (first | (apply Int.le_antisymm <;> omega) | omega)) (by rw [tx17]; (first | (apply Int.le_antisymm <;> omega) | omega))
          rw [tx17] at tx18
          refine lv_iload_n hx hb d_MD_number_72 rfl (lv_at hl 1 rfl) ?_
          refine lv_i2l hx hb d_MD_number_73 rfl ?_
          refine lv_topl (fun x19 ex19 => ?_)
          have tx19 := i2l_t ex19
          refine lv_ladd hx hb d_MD_number_74 ?_
          refine lv_topl (fun x20 ex20 => ?_)
          have tx20 : x20.toInt = x18.toInt + x19.toInt := by have z := i64_add ex20 (by (first | (apply Int.le_antisymm <;> omega) | omega)) (by (first | (apply Int.le_antisymm <;> omega) | omega)); first | exact z | (first | (apply Int.le_antisymm <;> omega) | omega)
          refine va_put (D := (dC, dI)) (ci := 11) (v := .long x20) (ty := .long) (C := R_MD) (T := F_MD) (N := 65) hx hb hts i_MD t_MD t_MD_ok n_MD hown hK hP hD hS 0 rfl rfl 8 (by decide) (hts _ kF_MD_82) (fun _ h9 => h9) rfl (by decide +kernel) rfl rfl (Nat.le_of_ble_eq_true rfl) d_MD_number_75 (fun H locs hP hD hS => ?_)
          exact jn78 x20 _ _ _ ⟨by (try dsimp only) <;> (first | (apply Int.le_antisymm <;> omega) | omega), hP, hD, hS, lv_sub hl [2, 0] rfl⟩
    · have q49 := nleI c49
      refine lv_iconst (v := 1) hx hb d_MD_number_52 (by decide) ?_
      refine lv_goto (tgt := 57) hx hb d_MD_number_53 (by decide) ?_
      refine lv_ior hx hb d_MD_number_57 ?_
      refine lv_topi (fun x21 ex21 => ?_)
      have tx21 := or_b1 ex21 (by (first | (apply Int.le_antisymm <;> omega) | omega))
      refine lv_istore_n (lv' := [(1, .int x21), (2, .int x8), (0, .ref h0)]) hx hb d_MD_number_58 rfl hl (by decide) rfl (fun ls hl => ?_)
      refine lv_iload_n hx hb d_MD_number_59 rfl (lv_at hl 0 rfl) ?_
      refine w_cut (pc2 := 78) (σ := Int64) (fun u H locs ls => match u with | j78_h0_numeral => (0 ≤ j78_h0_numeral.toInt ∧ j78_h0_numeral.toInt < 10 * tn (j7_h0_to.toInt - h0_to.toInt)) ∧ va_P (dC, dI) cls2 (wz_307 h0 rf tap h0_taped h0_length h0_kind h0_from j7_h0_to h0_word j78_h0_numeral h0_globalNames_r h0_globalPlaces_r h0_globalTypes_r h0_globalValues_r h0_globalCount h0_funs_r h0_funCount h0_open h0_signs h0_levels_r h0_now h0_known_r h0_knownCount h0_loops mad h0_madeLength mag h0_smalls_r h0_greats_r h0_module_r h0_spare_r h0_m h0_cursor h0_limit blk stk h0_top hgt lab ous kis los h0_depth h0_function mem h0_pages glo val h0_valueTop ffu fre fba fla h0_frames lat lhe h0_labelTop h0_steps h0_there rsl h0_resultLength h0_reason h0_place arg h0_argumentCount h0_code tap ctap gtap) H ∧ va_D A (wz_307 h0 rf tap h0_taped h0_length h0_kind h0_from j7_h0_to h0_word j78_h0_numeral h0_globalNames_r h0_globalPlaces_r h0_globalTypes_r h0_globalValues_r h0_globalCount h0_funs_r h0_funCount h0_open h0_signs h0_levels_r h0_now h0_known_r h0_knownCount h0_loops mad h0_madeLength mag h0_smalls_r h0_greats_r h0_module_r h0_spare_r h0_m h0_cursor h0_limit blk stk h0_top hgt lab ous kis los h0_depth h0_function mem h0_pages glo val h0_valueTop ffu fre fba fla h0_frames lat lhe h0_labelTop h0_steps h0_there rsl h0_resultLength h0_reason h0_place arg h0_argumentCount h0_code tap ctap gtap) ∧ va_S A s.heap H locs ∧ lv_has ls 3 [(0, .ref h0), (1, .int x21)]) (fun u => match u with | j78_h0_numeral => []) ?_ (fun jn78 => ?_)
      · intro u H locs ls hI
        obtain ⟨j78_h0_numeral, rfl⟩ : ∃ z, z = u := ⟨_, rfl⟩
        obtain ⟨y78, hP, hD, hS, hl⟩ := hI
        refine lv_aload_n hx hb d_MD_number_78 rfl (lv_at hl 0 rfl) ?_
        refine lv_dup hx hb d_MD_number_79 rfl ?_
        refine va_get (D := (dC, dI)) (ci := 11) (v := .int j7_h0_to) (C := R_MD) (T := F_MD) (N := 65) hx hb hts i_MD hown hK hP 0 rfl rfl 6 (by decide) (hts _ kF_MD_23) (fun _ h9 => h9) rfl d_MD_number_80 ?_
        refine lv_iconst (v := 1) hx hb d_MD_number_83 (by decide) ?_
        refine lv_iadd hx hb d_MD_number_84 ?_
        refine lv_topi (fun x22 ex22 => ?_)
        have tx22 : x22.toInt = j7_h0_to.toInt + 1 := by have z := i32_add ex22 (by (first | (apply Int.le_antisymm <;> omega) | omega)) (by (first | (apply Int.le_antisymm <;> omega) | omega)); first | exact z | (first | (apply Int.le_antisymm <;> omega) | omega)
        refine va_put (D := (dC, dI)) (ci := 11) (v := .int x22) (ty := .int) (C := R_MD) (T := F_MD) (N := 65) hx hb hts i_MD t_MD t_MD_ok n_MD hown hK hP hD hS 0 rfl rfl 6 (by decide) (hts _ kF_MD_23) (fun _ h9 => h9) rfl (by decide +kernel) rfl rfl (Nat.le_of_ble_eq_true rfl) d_MD_number_85 (fun H locs hP hD hS => ?_)
        refine lv_goto (tgt := 7) hx hb d_MD_number_88 (by decide) ?_
        exact ih7 (x21, j78_h0_numeral, x22) _ _ _ (by show (h0_length.toInt - x22.toInt).toNat < N7; (first | (apply Int.le_antisymm <;> omega) | omega)) ⟨b01r (by (first | (apply Int.le_antisymm <;> omega) | omega)) (by (first | (apply Int.le_antisymm <;> omega) | omega)), by (try dsimp only) <;> (first | (apply Int.le_antisymm <;> omega) | omega), by (try dsimp only) <;> (first | (apply Int.le_antisymm <;> omega) | omega), (by rw [tn_s (k := j7_h0_to.toInt - h0_to.toInt) (k2 := _) (by (first | (apply Int.le_antisymm <;> omega) | omega)) (by (first | (apply Int.le_antisymm <;> omega) | omega))]; exact y78), hP, hD, hS, lv_sub hl [0, 1] rfl⟩
      · skip
        refine lv_if_ne (tgt := 78) hx hb d_MD_number_60 (by decide) (fun c60 => ?_) (fun c60 => absurd (eqI c60) (by (first | (apply Int.le_antisymm <;> omega) | omega)))
        have q60 := neI c60
        exact jn78 j7_h0_numeral _ _ _ ⟨by (try dsimp only) <;> (first | (apply Int.le_antisymm <;> omega) | omega), hP, hD, hS, lv_sub hl [2, 0] rfl⟩
end q_m23

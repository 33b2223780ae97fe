section q_n01
/-! the reference: is it a set; is the sign of a level -/
abbrev b_MD_isSet : ByteArray := prog_15_method_22_code
def y_MD_isSet : MethodName := ⟨R_MD, "isSet", "()Z"⟩
abbrev w_MD_isSet : List Cond := .code y_MD_isSet b_MD_isSet 5 (Option.some .boolean) :: lw_g
theorem kC_MD_isSet : Cond.code y_MD_isSet b_MD_isSet 5 (Option.some .boolean) ∈ lw_g := in_c12 20 rfl rfl
theorem d_MD_isSet_0 : decode b_MD_isSet 0 = .ok (.aload_n 0, 1) := bz_c42 (by decide +kernel)
theorem d_MD_isSet_1 : decode b_MD_isSet 1 = .ok (.getfield 30, 3) := bz_c180 (by decide +kernel)
theorem d_MD_isSet_4 : decode b_MD_isSet 4 = .ok (.istore_n 1, 1) := bz_c60 (by decide +kernel)
theorem d_MD_isSet_5 : decode b_MD_isSet 5 = .ok (.aload_n 0, 1) := bz_c42 (by decide +kernel)
theorem d_MD_isSet_6 : decode b_MD_isSet 6 = .ok (.getfield 23, 3) := bz_c180 (by decide +kernel)
theorem d_MD_isSet_9 : decode b_MD_isSet 9 = .ok (.istore_n 2, 1) := bz_c61 (by decide +kernel)
theorem d_MD_isSet_10 : decode b_MD_isSet 10 = .ok (.aload_n 0, 1) := bz_c42 (by decide +kernel)
theorem d_MD_isSet_11 : decode b_MD_isSet 11 = .ok (.getfield 57, 3) := bz_c180 (by decide +kernel)
theorem d_MD_isSet_14 : decode b_MD_isSet 14 = .ok (.astore_n 3, 1) := bz_c78 (by decide +kernel)
theorem d_MD_isSet_15 : decode b_MD_isSet 15 = .ok (.aload_n 0, 1) := bz_c42 (by decide +kernel)
theorem d_MD_isSet_16 : decode b_MD_isSet 16 = .ok (.invokevirtual 112, 3) := bz_c182 (by decide +kernel)
theorem d_MD_isSet_19 : decode b_MD_isSet 19 = .ok (.aload_n 0, 1) := bz_c42 (by decide +kernel)
theorem d_MD_isSet_20 : decode b_MD_isSet 20 = .ok (.ldc 181, 2) := bz_c18 (by decide +kernel)
theorem d_MD_isSet_22 : decode b_MD_isSet 22 = .ok (.invokevirtual 108, 3) := bz_c182 (by decide +kernel)
theorem d_MD_isSet_25 : decode b_MD_isSet 25 = .ok (.istore 4, 2) := bz_c54 (by decide +kernel)
theorem d_MD_isSet_27 : decode b_MD_isSet 27 = .ok (.aload_n 0, 1) := bz_c42 (by decide +kernel)
theorem d_MD_isSet_28 : decode b_MD_isSet 28 = .ok (.iload_n 1, 1) := bz_c27 (by decide +kernel)
theorem d_MD_isSet_29 : decode b_MD_isSet 29 = .ok (.putfield 30, 3) := bz_c181 (by decide +kernel)
theorem d_MD_isSet_32 : decode b_MD_isSet 32 = .ok (.aload_n 0, 1) := bz_c42 (by decide +kernel)
theorem d_MD_isSet_33 : decode b_MD_isSet 33 = .ok (.iload_n 2, 1) := bz_c28 (by decide +kernel)
theorem d_MD_isSet_34 : decode b_MD_isSet 34 = .ok (.putfield 23, 3) := bz_c181 (by decide +kernel)
theorem d_MD_isSet_37 : decode b_MD_isSet 37 = .ok (.aload_n 0, 1) := bz_c42 (by decide +kernel)
theorem d_MD_isSet_38 : decode b_MD_isSet 38 = .ok (.aload_n 3, 1) := bz_c45 (by decide +kernel)
theorem d_MD_isSet_39 : decode b_MD_isSet 39 = .ok (.putfield 57, 3) := bz_c181 (by decide +kernel)
theorem d_MD_isSet_42 : decode b_MD_isSet 42 = .ok (.aload_n 0, 1) := bz_c42 (by decide +kernel)
theorem d_MD_isSet_43 : decode b_MD_isSet 43 = .ok (.iconst 1, 1) := bz_c4 (by decide +kernel)
theorem d_MD_isSet_44 : decode b_MD_isSet 44 = .ok (.putfield 33, 3) := bz_c181 (by decide +kernel)
theorem d_MD_isSet_47 : decode b_MD_isSet 47 = .ok (.iload 4, 2) := bz_c21 (by decide +kernel)
theorem d_MD_isSet_49 : decode b_MD_isSet 49 = .ok (.ireturn, 1) := bz_c172 (by decide +kernel)
abbrev at_MD_isSet (dC : Nat → ClassId) (dI : Nat → Nat → Nat) (sz szl : Nat) (sa : Nat → Nat) (h0 rf tap h0_globalNames_r h0_globalPlaces_r h0_globalTypes_r h0_globalValues_r h0_funs_r h0_levels_r h0_known_r mad mag h0_smalls_r h0_greats_r h0_module_r h0_spare_r blk stk hgt lab ous kis los mem glo val ffu fre fba fla lat lhe rsl arg : Nat) (ctap cr cpn cpb : ClassId) (h0_taped : Int32) (h0_length : Int32) (h0_globalCount : Int32) (h0_funCount : Int32) (h0_open : Int32) (h0_signs : Int32) (h0_now : Value) (h0_knownCount : Int32) (h0_loops : Int32) (h0_madeLength : Int32) (h0_m : Value) (h0_cursor : Int32) (h0_limit : Int32) (h0_top : Int32) (h0_depth : Int32) (h0_function : Int32) (h0_pages : Int32) (h0_valueTop : Int32) (h0_frames : Int32) (h0_labelTop : Int32) (h0_steps : Int32) (h0_there : Int32) (h0_resultLength : Int32) (h0_reason : Int32) (h0_place : Int32) (h0_argumentCount : Int32) (h0_code : Int32) (gtap : Nat → Int32) (A : Nat → Prop) (u : (List Nat) × Int32 × Int32 × Int64 × Int32 × Nat × Nat × (Nat → va_E) × Value) (t : State) : Prop := match u with | (LP, h0_from, h0_kind, h0_numeral, h0_to, kcz, knz, fP, h0_word) => va_P (dC, dI) cls2 (((wz_307 h0 rf tap h0_taped h0_length h0_kind h0_from h0_to h0_word h0_numeral h0_globalNames_r h0_globalPlaces_r h0_globalTypes_r h0_globalValues_r h0_globalCount h0_funs_r h0_funCount h0_open h0_signs h0_levels_r h0_now h0_known_r h0_knownCount h0_loops mad h0_madeLength mag h0_smalls_r h0_greats_r h0_module_r h0_spare_r h0_m h0_cursor h0_limit blk stk h0_top hgt lab ous kis los h0_depth h0_function mem h0_pages glo val h0_valueTop ffu fre fba fla h0_frames lat lhe h0_labelTop h0_steps h0_there rsl h0_resultLength h0_reason h0_place arg h0_argumentCount h0_code tap ctap gtap) : va_W) ++ va_pl LP fP) t.heap ∧ va_K (dC, dI) cls2 [(ctap, .byte), (cr, .int), (cpn, .object "WaferForgeModel$N"), (cpb, .byte)] t ∧ va_D A (((wz_307 h0 rf tap h0_taped h0_length h0_kind h0_from h0_to h0_word h0_numeral h0_globalNames_r h0_globalPlaces_r h0_globalTypes_r h0_globalValues_r h0_globalCount h0_funs_r h0_funCount h0_open h0_signs h0_levels_r h0_now h0_known_r h0_knownCount h0_loops mad h0_madeLength mag h0_smalls_r h0_greats_r h0_module_r h0_spare_r h0_m h0_cursor h0_limit blk stk h0_top hgt lab ous kis los h0_depth h0_function mem h0_pages glo val h0_valueTop ffu fre fba fla h0_frames lat lhe h0_labelTop h0_steps h0_there rsl h0_resultLength h0_reason h0_place arg h0_argumentCount h0_code tap ctap gtap) : va_W) ++ va_pl LP fP) ∧ t.heap.size ≤ sz + kcz ∧ hsl t.heap ≤ szl + knz
set_option maxHeartbeats 4000000 in
set_option maxRecDepth 100000 in
theorem c_MD_isSet (l : Launch) (hlt : l.stackTraces = false) (dC : Nat → ClassId) (dI : Nat → Nat → Nat) (sz : Nat) (szl : Nat) (sa : Nat → Nat) (h0 rf tap h0_globalNames_r h0_globalPlaces_r h0_globalTypes_r h0_globalValues_r h0_funs_r h0_levels_r h0_known_r mad mag h0_smalls_r h0_greats_r h0_module_r h0_spare_r blk stk hgt lab ous kis los mem glo val ffu fre fba fla lat lhe rsl arg : Nat) (ctap cr cpn cpb : ClassId) (h0_taped : Int32) (h0_length : Int32) (h0_kind : Int32) (h0_from : Int32) (h0_to : Int32) (h0_word : Value) (h0_numeral : Int64) (h0_globalCount : Int32) (h0_funCount : Int32) (h0_open : Int32) (h0_signs : Int32) (h0_now : Value) (h0_knownCount : Int32) (h0_loops : Int32) (h0_madeLength : Int32) (h0_m : Value) (h0_cursor : Int32) (h0_limit : Int32) (h0_top : Int32) (h0_depth : Int32) (h0_function : Int32) (h0_pages : Int32) (h0_valueTop : Int32) (h0_frames : Int32) (h0_labelTop : Int32) (h0_steps : Int32) (h0_there : Int32) (h0_resultLength : Int32) (h0_reason : Int32) (h0_place : Int32) (h0_argumentCount : Int32) (h0_code : Int32) (gtap : Nat → Int32) (LP : List Nat) (fP : Nat → va_E)  (b_h0_length : 0 ≤ h0_length.toInt ∧ h0_length.toInt ≤ 2000) (b_h0_from : 0 ≤ h0_from.toInt ∧ h0_from.toInt ≤ 2000) (b_h0_to : 0 ≤ h0_to.toInt ∧ h0_to.toInt ≤ 2000)   (hlx : bx (lx9 gtap h0_length.toInt h0_kind.toInt h0_from.toInt h0_to.toInt h0_numeral.toInt)) (hlw : bx (lw9 LP fP cpb h0_word h0_kind.toInt)) (hk1 : h0_kind.toInt = 1) : Met l y_MD_isSet w_MD_isSet ({ frames := 7, cells := 8 * (h0_length.toInt - h0_to.toInt).toNat + 4, slots := 80 * (h0_length.toInt - h0_to.toInt).toNat + 120, locals := 174 }) (va_Pc [.ref h0] (fun U => U.heap.size = sz ∧ va_P (dC, dI) cls2 (((wz_307 h0 rf tap h0_taped h0_length h0_kind h0_from h0_to h0_word h0_numeral h0_globalNames_r h0_globalPlaces_r h0_globalTypes_r h0_globalValues_r h0_globalCount h0_funs_r h0_funCount h0_open h0_signs h0_levels_r h0_now h0_known_r h0_knownCount h0_loops mad h0_madeLength mag h0_smalls_r h0_greats_r h0_module_r h0_spare_r h0_m h0_cursor h0_limit blk stk h0_top hgt lab ous kis los h0_depth h0_function mem h0_pages glo val h0_valueTop ffu fre fba fla h0_frames lat lhe h0_labelTop h0_steps h0_there rsl h0_resultLength h0_reason h0_place arg h0_argumentCount h0_code tap ctap gtap) : va_W) ++ va_pl LP fP) U.heap ∧ va_K (dC, dI) cls2 [(ctap, .byte), (cr, .int), (cpn, .object "WaferForgeModel$N"), (cpb, .byte)] U ∧ va_D (fun _ => True) (((wz_307 h0 rf tap h0_taped h0_length h0_kind h0_from h0_to h0_word h0_numeral h0_globalNames_r h0_globalPlaces_r h0_globalTypes_r h0_globalValues_r h0_globalCount h0_funs_r h0_funCount h0_open h0_signs h0_levels_r h0_now h0_known_r h0_knownCount h0_loops mad h0_madeLength mag h0_smalls_r h0_greats_r h0_module_r h0_spare_r h0_m h0_cursor h0_limit blk stk h0_top hgt lab ous kis los h0_depth h0_function mem h0_pages glo val h0_valueTop ffu fre fba fla h0_frames lat lhe h0_labelTop h0_steps h0_there rsl h0_resultLength h0_reason h0_place arg h0_argumentCount h0_code tap ctap gtap) : va_W) ++ va_pl LP fP) ∧ sm sa (va_A (((wz_307 h0 rf tap h0_taped h0_length h0_kind h0_from h0_to h0_word h0_numeral h0_globalNames_r h0_globalPlaces_r h0_globalTypes_r h0_globalValues_r h0_globalCount h0_funs_r h0_funCount h0_open h0_signs h0_levels_r h0_now h0_known_r h0_knownCount h0_loops mad h0_madeLength mag h0_smalls_r h0_greats_r h0_module_r h0_spare_r h0_m h0_cursor h0_limit blk stk h0_top hgt lab ous kis los h0_depth h0_function mem h0_pages glo val h0_valueTop ffu fre fba fla h0_frames lat lhe h0_labelTop h0_steps h0_there rsl h0_resultLength h0_reason h0_place arg h0_argumentCount h0_code tap ctap gtap) : va_W) ++ va_pl LP fP) sz) U U.heap ∧ hsl U.heap = szl)) (va_Qi (fun (r : Int32) (u : (List Nat) × Int32 × Int32 × Int64 × Int32 × Nat × Nat × (Nat → va_E) × Value) => match u with | (LP2, h0_from2, h0_kind2, h0_numeral2, h0_to2, kcz2, knz2, fP2, h0_word2) => (r = 0 ∨ r = 1) ∧ (0 ≤ h0_from2.toInt ∧ h0_from2.toInt ≤ 2000) ∧ (0 ≤ h0_to2.toInt ∧ h0_to2.toInt ≤ 2000) ∧ (h0_from2 = h0_from ∧ h0_to2 = h0_to ∧ h0_word2 = h0_word ∧ h0_kind2.toInt = 1 ∧ pex LP fP LP2 fP2 ∧ ∃ f9 t9 : Int, tk9 gtap h0_length.toInt h0_to.toInt f9 t9 ∧ h0_to.toInt ≤ f9 ∧ f9 ≤ t9 ∧ t9 ≤ h0_length.toInt ∧ ((kcz2 = 0 ∧ knz2 = 0) ∨ ((f9 < h0_length.toInt ∧ lt9 (bn (gtap f9.toNat) : Int)) ∧ (kcz2 : Int) ≤ 8 * (t9 - f9) ∧ (knz2 : Int) ≤ 80 * (t9 - f9))))) (at_MD_isSet dC dI sz szl sa h0 rf tap h0_globalNames_r h0_globalPlaces_r h0_globalTypes_r h0_globalValues_r h0_funs_r h0_levels_r h0_known_r mad mag h0_smalls_r h0_greats_r h0_module_r h0_spare_r blk stk hgt lab ous kis los mem glo val ffu fre fba fla lat lhe rsl arg ctap cr cpn cpb h0_taped h0_length h0_globalCount h0_funCount h0_open h0_signs h0_now h0_knownCount h0_loops h0_madeLength h0_m h0_cursor h0_limit h0_top h0_depth h0_function h0_pages h0_valueTop h0_frames h0_labelTop h0_steps h0_there h0_resultLength h0_reason h0_place h0_argumentCount h0_code gtap (va_A (((wz_307 h0 rf tap h0_taped h0_length h0_kind h0_from h0_to h0_word h0_numeral h0_globalNames_r h0_globalPlaces_r h0_globalTypes_r h0_globalValues_r h0_globalCount h0_funs_r h0_funCount h0_open h0_signs h0_levels_r h0_now h0_known_r h0_knownCount h0_loops mad h0_madeLength mag h0_smalls_r h0_greats_r h0_module_r h0_spare_r h0_m h0_cursor h0_limit blk stk h0_top hgt lab ous kis los h0_depth h0_function mem h0_pages glo val h0_valueTop ffu fre fba fla h0_frames lat lhe h0_labelTop h0_steps h0_there rsl h0_resultLength h0_reason h0_place arg h0_argumentCount h0_code tap ctap gtap) : va_W) ++ va_pl LP fP) sz)) (va_A (((wz_307 h0 rf tap h0_taped h0_length h0_kind h0_from h0_to h0_word h0_numeral h0_globalNames_r h0_globalPlaces_r h0_globalTypes_r h0_globalValues_r h0_globalCount h0_funs_r h0_funCount h0_open h0_signs h0_levels_r h0_now h0_known_r h0_knownCount h0_loops mad h0_madeLength mag h0_smalls_r h0_greats_r h0_module_r h0_spare_r h0_m h0_cursor h0_limit blk stk h0_top hgt lab ous kis los h0_depth h0_function mem h0_pages glo val h0_valueTop ffu fre fba fla h0_frames lat lhe h0_labelTop h0_steps h0_there rsl h0_resultLength h0_reason h0_place arg h0_argumentCount h0_code tap ctap gtap) : va_W) ++ va_pl LP fP) sz)) (8 * (h0_length.toInt - h0_to.toInt).toNat + 4) (80 * (h0_length.toInt - h0_to.toInt).toNat + 120) (va_A (((wz_307 h0 rf tap h0_taped h0_length h0_kind h0_from h0_to h0_word h0_numeral h0_globalNames_r h0_globalPlaces_r h0_globalTypes_r h0_globalValues_r h0_globalCount h0_funs_r h0_funCount h0_open h0_signs h0_levels_r h0_now h0_known_r h0_knownCount h0_loops mad h0_madeLength mag h0_smalls_r h0_greats_r h0_module_r h0_spare_r h0_m h0_cursor h0_limit blk stk h0_top hgt lab ous kis los h0_depth h0_function mem h0_pages glo val h0_valueTop ffu fre fba fla h0_frames lat lhe h0_labelTop h0_steps h0_there rsl h0_resultLength h0_reason h0_place arg h0_argumentCount h0_code tap ctap gtap) : va_W) ++ va_pl LP fP) sz) := by
  refine Met.ofW (cc := b_MD_isSet) (maxL := 5) (ret := (Option.some .boolean)) (by decide) rfl ?_
  intro p e s m args below meth c s₁ B hml hv
  obtain ⟨rfl, hsz, hP, hK, hD0, hSW, hszl⟩ := hv
  have hx := B.exec
  have hb := B.bytes
  have hr := B.returns
  have hts0 := atoms_spec (ws := w_MD_isSet) B.pre
  have hts : ∀ w ∈ lw_g, w.before _ s = true := fun w h => hts0 w (List.mem_cons_of_mem _ h)
  have hown : s.vm.findClass R_MD = some m.cls := findClass_of_methodNamed B.named
  have hlocks := B.notSynchronized
  clear hts0
  subst hsz
  subst hszl
  have hD := hD0.self (sz := s.heap.size)
  generalize hAe : va_A (((wz_307 h0 rf tap h0_taped h0_length h0_kind h0_from h0_to h0_word h0_numeral h0_globalNames_r h0_globalPlaces_r h0_globalTypes_r h0_globalValues_r h0_globalCount h0_funs_r h0_funCount h0_open h0_signs h0_levels_r h0_now h0_known_r h0_knownCount h0_loops mad h0_madeLength mag h0_smalls_r h0_greats_r h0_module_r h0_spare_r h0_m h0_cursor h0_limit blk stk h0_top hgt lab ous kis los h0_depth h0_function mem h0_pages glo val h0_valueTop ffu fre fba fla h0_frames lat lhe h0_labelTop h0_steps h0_there rsl h0_resultLength h0_reason h0_place arg h0_argumentCount h0_code tap ctap gtap) : va_W) ++ va_pl LP fP) s.heap.size = A at hD hSW ⊢
  have hA : ∀ q : Nat, s.heap.size ≤ q → A q := fun q h => by rw [← hAe]; exact Or.inr h
  clear hAe
  have hP : va_P (dC, dI) cls2 (((wz_307 h0 rf tap h0_taped h0_length h0_kind h0_from h0_to h0_word h0_numeral h0_globalNames_r h0_globalPlaces_r h0_globalTypes_r h0_globalValues_r h0_globalCount h0_funs_r h0_funCount h0_open h0_signs h0_levels_r h0_now h0_known_r h0_knownCount h0_loops mad h0_madeLength mag h0_smalls_r h0_greats_r h0_module_r h0_spare_r h0_m h0_cursor h0_limit blk stk h0_top hgt lab ous kis los h0_depth h0_function mem h0_pages glo val h0_valueTop ffu fre fba fla h0_frames lat lhe h0_labelTop h0_steps h0_there rsl h0_resultLength h0_reason h0_place arg h0_argumentCount h0_code tap ctap gtap) : va_W) ++ va_pl LP fP) s.heap := hP
  have hl := lv_entry ([.ref h0]) (n := 5) (Nat.le_of_ble_eq_true rfl)
  rw [lg_entry_eq]
  generalize (lg_sl ([.ref h0]) ++ List.replicate (5 - (lg_sl ([.ref h0])).length) Slot.unset).toArray = ls at hl ⊢
  have hl : lv_has ls 5 [(0, .ref h0)] := hl
  have k0 : (0 : Int32).toInt = 0 := by decide
  refine w_gen (A := A) hP (fun H locs hP hS => ?_)
  have k1 : (1 : Int32).toInt = 1 := by decide
  have hnd := vq_nd hD
  obtain ⟨gw, hgw⟩ := wd_gw hlw.out
  replace hgw : bx _ := hgw
  obtain ⟨l1_, l2_, l3_, l4_, l5_, l6_, l7_, l8_, -, -, -⟩ := hlx.out
  refine lv_aload_n hx hb d_MD_isSet_0 rfl (lv_at hl 0 rfl) ?_
  refine va_get (D := (dC, dI)) (ci := 11) (v := .int h0_from) (C := R_MD) (T := F_MD) (N := 65) hx hb hts i_MD hown hK hP 0 rfl rfl 5 (by decide) (hts _ kF_MD_30) (fun _ h9 => h9) rfl d_MD_isSet_1 ?_
  refine lv_istore_n (lv' := [(1, .int h0_from), (0, .ref h0)]) hx hb d_MD_isSet_4 rfl hl (by decide) rfl (fun ls hl => ?_)
  refine lv_aload_n hx hb d_MD_isSet_5 rfl (lv_at hl 1 rfl) ?_
  refine va_get (D := (dC, dI)) (ci := 11) (v := .int h0_to) (C := R_MD) (T := F_MD) (N := 65) hx hb hts i_MD hown hK hP 0 rfl rfl 6 (by decide) (hts _ kF_MD_23) (fun _ h9 => h9) rfl d_MD_isSet_6 ?_
  refine lv_istore_n (lv' := [(2, .int h0_to), (1, .int h0_from), (0, .ref h0)]) hx hb d_MD_isSet_9 rfl hl (by decide) rfl (fun ls hl => ?_)
  refine lv_aload_n hx hb d_MD_isSet_10 rfl (lv_at hl 2 rfl) ?_
  obtain ⟨po_w, gw9, ew, hstr, hns, h20, -⟩ := hlw.out (Or.inl (by (first | (apply Int.le_antisymm <;> omega) | omega)))
  rw [ew] at hP hD
  replace hstr : bx _ := hstr
  have hP : va_P (dC, dI) cls2 (((wz_501 h0 rf tap h0_taped h0_length h0_kind h0_from h0_to po_w h0_numeral h0_globalNames_r h0_globalPlaces_r h0_globalTypes_r h0_globalValues_r h0_globalCount h0_funs_r h0_funCount h0_open h0_signs h0_levels_r h0_now h0_known_r h0_knownCount h0_loops mad h0_madeLength mag h0_smalls_r h0_greats_r h0_module_r h0_spare_r h0_m h0_cursor h0_limit blk stk h0_top hgt lab ous kis los h0_depth h0_function mem h0_pages glo val h0_valueTop ffu fre fba fla h0_frames lat lhe h0_labelTop h0_steps h0_there rsl h0_resultLength h0_reason h0_place arg h0_argumentCount h0_code tap ctap gtap) : va_W) ++ va_pl LP fP) H := hP
  have hD : va_D A (((wz_501 h0 rf tap h0_taped h0_length h0_kind h0_from h0_to po_w h0_numeral h0_globalNames_r h0_globalPlaces_r h0_globalTypes_r h0_globalValues_r h0_globalCount h0_funs_r h0_funCount h0_open h0_signs h0_levels_r h0_now h0_known_r h0_knownCount h0_loops mad h0_madeLength mag h0_smalls_r h0_greats_r h0_module_r h0_spare_r h0_m h0_cursor h0_limit blk stk h0_top hgt lab ous kis los h0_depth h0_function mem h0_pages glo val h0_valueTop ffu fre fba fla h0_frames lat lhe h0_labelTop h0_steps h0_there rsl h0_resultLength h0_reason h0_place arg h0_argumentCount h0_code tap ctap gtap) : va_W) ++ va_pl LP fP) := hD
  refine va_get (D := (dC, dI)) (ci := 11) (v := .ref po_w) (C := R_MD) (T := F_MD) (N := 65) hx hb hts i_MD hown hK hP 0 rfl rfl 7 (by decide) (hts _ kF_MD_57) (fun _ h9 => h9) rfl d_MD_isSet_11 ?_
  refine lv_astore_n (lv' := [(3, .ref po_w), (2, .int h0_to), (1, .int h0_from), (0, .ref h0)]) hx hb d_MD_isSet_14 rfl hl (by decide) rfl (fun ls hl => ?_)
  refine lv_aload_n hx hb d_MD_isSet_15 rfl (lv_at hl 3 rfl) ?_
  refine w_known (fun hzc hzs => ?_)
  have hPc := hP.part (cx := (wz_501 h0 rf tap h0_taped h0_length h0_kind h0_from h0_to po_w h0_numeral h0_globalNames_r h0_globalPlaces_r h0_globalTypes_r h0_globalValues_r h0_globalCount h0_funs_r h0_funCount h0_open h0_signs h0_levels_r h0_now h0_known_r h0_knownCount h0_loops mad h0_madeLength mag h0_smalls_r h0_greats_r h0_module_r h0_spare_r h0_m h0_cursor h0_limit blk stk h0_top hgt lab ous kis los h0_depth h0_function mem h0_pages glo val h0_valueTop ffu fre fba fla h0_frames lat lhe h0_labelTop h0_steps h0_there rsl h0_resultLength h0_reason h0_place arg h0_argumentCount h0_code tap ctap gtap)) [0, 1] rfl
  have hDc := hD.part (cx := (wz_501 h0 rf tap h0_taped h0_length h0_kind h0_from h0_to po_w h0_numeral h0_globalNames_r h0_globalPlaces_r h0_globalTypes_r h0_globalValues_r h0_globalCount h0_funs_r h0_funCount h0_open h0_signs h0_levels_r h0_now h0_known_r h0_knownCount h0_loops mad h0_madeLength mag h0_smalls_r h0_greats_r h0_module_r h0_spare_r h0_m h0_cursor h0_limit blk stk h0_top hgt lab ous kis los h0_depth h0_function mem h0_pages glo val h0_valueTop ffu fre fba fla h0_frames lat lhe h0_labelTop h0_steps h0_there rsl h0_resultLength h0_reason h0_place arg h0_argumentCount h0_code tap ctap gtap)) [0, 1] (by decide) rfl
  have hKc := hK.sb (tyq := [(ctap, .byte), (cr, .int), (cpn, .object "WaferForgeModel$N"), (cpb, .byte)]) [0, 1, 2, 3] rfl
  have hFc := va_freeP (cx := (wz_501 h0 rf tap h0_taped h0_length h0_kind h0_from h0_to po_w h0_numeral h0_globalNames_r h0_globalPlaces_r h0_globalTypes_r h0_globalValues_r h0_globalCount h0_funs_r h0_funCount h0_open h0_signs h0_levels_r h0_now h0_known_r h0_knownCount h0_loops mad h0_madeLength mag h0_smalls_r h0_greats_r h0_module_r h0_spare_r h0_m h0_cursor h0_limit blk stk h0_top hgt lab ous kis los h0_depth h0_function mem h0_pages glo val h0_valueTop ffu fre fba fla h0_frames lat lhe h0_labelTop h0_steps h0_there rsl h0_resultLength h0_reason h0_place arg h0_argumentCount h0_code tap ctap gtap)) hD hS hA [0, 1] rfl
  refine va_callv (va_runV (As := []) (rest := []) ⟨hx, hb, hml, hown, hts⟩ (c_MD_next l hlt dC dI H.size (hsl H) sa h0 rf tap h0_globalNames_r h0_globalPlaces_r h0_globalTypes_r h0_globalValues_r h0_funs_r h0_levels_r h0_known_r mad mag h0_smalls_r h0_greats_r h0_module_r h0_spare_r blk stk hgt lab ous kis los mem glo val ffu fre fba fla lat lhe rsl arg ctap cr cpn cpb h0_taped h0_length h0_kind h0_from h0_to (.ref po_w) h0_numeral h0_globalCount h0_funCount h0_open h0_signs h0_now h0_knownCount h0_loops h0_madeLength h0_m h0_cursor h0_limit h0_top h0_depth h0_function h0_pages h0_valueTop h0_frames h0_labelTop h0_steps h0_there h0_resultLength h0_reason h0_place h0_argumentCount h0_code gtap LP fP (b_h0_length) (b_h0_from) (b_h0_to) (by (first | (apply Int.le_antisymm <;> omega) | omega))) (cwV 0 hts (gV kM_MD_112 kV_MD_next kS_MD_next kI_MD kC_MD_next) rfl rfl rfl (by decide +kernel) ⟨Nat.le_of_ble_eq_true rfl, Nat.le_of_ble_eq_true rfl⟩) ⟨fun a U g mk z => by obtain ⟨z0, z1, zP, zK, zD, zS, zZ⟩ := z; exact ⟨z0, z1, zP, va_K.moved (u := U) (U := U.calling g mk a) (Vm.Alike.refl U.vm) zK, zD, sm.same (u := U) (U := U.calling g mk a) rfl zS, zZ⟩, va_recv hKc hPc (ci := 11) (q0 := 0) rfl rfl, fun U hU hW => ⟨rfl, by rw [hU], va_P.he hU.symm hPc, va_K.moved hW.alike hKc, hDc.weaken (fun _ _ _ _ => trivial), hSW.call hS hFc hW hU, by rw [hU]⟩⟩ rfl rfl hl.1 rfl (lv_room (Nat.le_of_ble_eq_true rfl)) d_MD_isSet_16 ⟨by dsimp only [headSpec]; (first | (apply Int.le_antisymm <;> omega) | omega), by dsimp only [headSpec]; (first | (apply Int.le_antisymm <;> omega) | omega)⟩) hS (fun q _ h => hFc q h) hFc (fun u t H1 locs ht hvm hw hB hz1 hk1 hS => ?_)
  obtain ⟨n2, n3, n4, n5, n6, n7, n8, n9, n10⟩ := u
  try dsimp only at hw
  obtain ⟨bn3, bn6, xr1⟩ := hw
  try clear hw
  have y15 := xr1
  have yn := nx_of (W0 := .ref po_w) ⟨y15.1, y15.2.1, y15.2.2.1, y15.2.2.2.1⟩
  obtain ⟨gw, hgw⟩ := wd_gw yn.2.2.2.1
  replace hgw : bx _ := hgw
  have ym := nxt_f yn
  obtain ⟨-, -, -, -, e1_, e2_, e3_, e4_, e5_, -, e7_, e8_⟩ := ym
  have ya : bx _ := y15.2.2.2.1
  have yb : bx _ := y15.2.2.2.2
  have yc : bx _ := y15.1.2.2.1
  clear y15 yn
  clear xr1
  obtain ⟨hP1, hK1, hD1, hZc, hZs⟩ := hB
  rw [ht] at hP1 hZc hZs
  obtain ⟨kc11, ekc11⟩ : ∃ z : Nat, z = 0 + n7 := ⟨_, rfl⟩
  obtain ⟨kn12, ekn12⟩ : ∃ z : Nat, z = 0 + n8 := ⟨_, rfl⟩
  refine w_refund (c2 := kc11) (n2 := kn12) (by (first | (apply Int.le_antisymm <;> omega) | omega)) (by (first | (apply Int.le_antisymm <;> omega) | omega)) ?_
  clear hzc hzs hZc hZs
  obtain ⟨hP, hD⟩ := va_joinP (wr := []) (rx := (wz_307 h0 rf tap h0_taped h0_length n4 n3 n6 n10 n5 h0_globalNames_r h0_globalPlaces_r h0_globalTypes_r h0_globalValues_r h0_globalCount h0_funs_r h0_funCount h0_open h0_signs h0_levels_r h0_now h0_known_r h0_knownCount h0_loops mad h0_madeLength mag h0_smalls_r h0_greats_r h0_module_r h0_spare_r h0_m h0_cursor h0_limit blk stk h0_top hgt lab ous kis los h0_depth h0_function mem h0_pages glo val h0_valueTop ffu fre fba fla h0_frames lat lhe h0_labelTop h0_steps h0_there rsl h0_resultLength h0_reason h0_place arg h0_argumentCount h0_code tap ctap gtap)) hP hD [0, 1] [] rfl rfl (by decide) (by decide) hk1 hFc hP1 hD1
  clear hPc hDc hKc hFc hz1 hk1 hP1 hK1 hD1
  rename Heap => H
  have hP : va_P (dC, dI) cls2 (((wz_307 h0 rf tap h0_taped h0_length n4 n3 n6 n10 n5 h0_globalNames_r h0_globalPlaces_r h0_globalTypes_r h0_globalValues_r h0_globalCount h0_funs_r h0_funCount h0_open h0_signs h0_levels_r h0_now h0_known_r h0_knownCount h0_loops mad h0_madeLength mag h0_smalls_r h0_greats_r h0_module_r h0_spare_r h0_m h0_cursor h0_limit blk stk h0_top hgt lab ous kis los h0_depth h0_function mem h0_pages glo val h0_valueTop ffu fre fba fla h0_frames lat lhe h0_labelTop h0_steps h0_there rsl h0_resultLength h0_reason h0_place arg h0_argumentCount h0_code tap ctap gtap) : va_W) ++ va_pl n2 n9) H := hP
  have hD : va_D A (((wz_307 h0 rf tap h0_taped h0_length n4 n3 n6 n10 n5 h0_globalNames_r h0_globalPlaces_r h0_globalTypes_r h0_globalValues_r h0_globalCount h0_funs_r h0_funCount h0_open h0_signs h0_levels_r h0_now h0_known_r h0_knownCount h0_loops mad h0_madeLength mag h0_smalls_r h0_greats_r h0_module_r h0_spare_r h0_m h0_cursor h0_limit blk stk h0_top hgt lab ous kis los h0_depth h0_function mem h0_pages glo val h0_valueTop ffu fre fba fla h0_frames lat lhe h0_labelTop h0_steps h0_there rsl h0_resultLength h0_reason h0_place arg h0_argumentCount h0_code tap ctap gtap) : va_W) ++ va_pl n2 n9) := hD
  refine lv_aload_n hx hb d_MD_isSet_19 rfl (lv_at hl 3 rfl) ?_
  refine va_ldcS hx hb hown (hSW.lr 13 rfl) d_MD_isSet_20 ?_
  have hPc := hP.part (cx := (wz_307 h0 rf tap h0_taped h0_length n4 n3 n6 n10 n5 h0_globalNames_r h0_globalPlaces_r h0_globalTypes_r h0_globalValues_r h0_globalCount h0_funs_r h0_funCount h0_open h0_signs h0_levels_r h0_now h0_known_r h0_knownCount h0_loops mad h0_madeLength mag h0_smalls_r h0_greats_r h0_module_r h0_spare_r h0_m h0_cursor h0_limit blk stk h0_top hgt lab ous kis los h0_depth h0_function mem h0_pages glo val h0_valueTop ffu fre fba fla h0_frames lat lhe h0_labelTop h0_steps h0_there rsl h0_resultLength h0_reason h0_place arg h0_argumentCount h0_code tap ctap gtap)) [0, 1] rfl
  have hDc := hD.part (cx := (wz_307 h0 rf tap h0_taped h0_length n4 n3 n6 n10 n5 h0_globalNames_r h0_globalPlaces_r h0_globalTypes_r h0_globalValues_r h0_globalCount h0_funs_r h0_funCount h0_open h0_signs h0_levels_r h0_now h0_known_r h0_knownCount h0_loops mad h0_madeLength mag h0_smalls_r h0_greats_r h0_module_r h0_spare_r h0_m h0_cursor h0_limit blk stk h0_top hgt lab ous kis los h0_depth h0_function mem h0_pages glo val h0_valueTop ffu fre fba fla h0_frames lat lhe h0_labelTop h0_steps h0_there rsl h0_resultLength h0_reason h0_place arg h0_argumentCount h0_code tap ctap gtap)) [0, 1] (by decide) rfl
  have hKc := hK.sb (tyq := [(ctap, .byte), (cr, .int), (cpn, .object "WaferForgeModel$N"), (cpb, .byte)]) [0, 1, 2, 3] rfl
  have hFc := va_freeP (cx := (wz_307 h0 rf tap h0_taped h0_length n4 n3 n6 n10 n5 h0_globalNames_r h0_globalPlaces_r h0_globalTypes_r h0_globalValues_r h0_globalCount h0_funs_r h0_funCount h0_open h0_signs h0_levels_r h0_now h0_known_r h0_knownCount h0_loops mad h0_madeLength mag h0_smalls_r h0_greats_r h0_module_r h0_spare_r h0_m h0_cursor h0_limit blk stk h0_top hgt lab ous kis los h0_depth h0_function mem h0_pages glo val h0_valueTop ffu fre fba fla h0_frames lat lhe h0_labelTop h0_steps h0_there rsl h0_resultLength h0_reason h0_place arg h0_argumentCount h0_code tap ctap gtap)) hD hS hA [0, 1] rfl
  refine va_calli (va_runV (As := [.ref (sa 413)]) (rest := []) ⟨hx, hb, hml, hown, hts⟩ (c_MD_is l hlt dC dI H.size sa ((sa 413)) ((sa 513)) ((litB.getD 13 [])) h0 rf tap h0_globalNames_r h0_globalPlaces_r h0_globalTypes_r h0_globalValues_r h0_funs_r h0_levels_r h0_known_r mad mag h0_smalls_r h0_greats_r h0_module_r h0_spare_r blk stk hgt lab ous kis los mem glo val ffu fre fba fla lat lhe rsl arg ctap cr cpn cpb h0_taped h0_length n4 n3 n6 n10 n5 h0_globalCount h0_funCount h0_open h0_signs h0_now h0_knownCount h0_loops h0_madeLength h0_m h0_cursor h0_limit h0_top h0_depth h0_function h0_pages h0_valueTop h0_frames h0_labelTop h0_steps h0_there h0_resultLength h0_reason h0_place h0_argumentCount h0_code gtap n2 n9 gw (b_h0_length) (bn3) (bn6) (by decide) ((fun q => by obtain ⟨w, e, h, -⟩ := hgw.out q; exact ⟨w, e, h⟩))) (cwV 1 hts (gV kM_MD_108 kV_MD_is kS_MD_is kI_MD kC_MD_is) rfl rfl rfl (by decide +kernel) ⟨Nat.le_of_ble_eq_true rfl, Nat.le_of_ble_eq_true rfl⟩) ⟨fun a U g mk z => by obtain ⟨z0, z1, zP, zK, zD, zS, zR0⟩ := z; exact ⟨z0, z1, zP, va_K.moved (u := U) (U := U.calling g mk a) (Vm.Alike.refl U.vm) zK, zD, sm.same (u := U) (U := U.calling g mk a) rfl zS, zR0.moved (u := U) (U := U.calling g mk a) (Vm.Alike.refl U.vm)⟩, va_recv hKc hPc (ci := 11) (q0 := 0) rfl rfl, fun U hU hW => ⟨rfl, by rw [hU], va_P.he hU.symm hPc, va_K.moved hW.alike hKc, hDc.weaken (fun _ _ _ _ => trivial), hSW.call hS hFc hW hU, ((hSW.ls 13 (by decide))).call hS hFc hW hU⟩⟩ rfl rfl hl.1 rfl (lv_room (Nat.le_of_ble_eq_true rfl)) d_MD_isSet_22 ⟨by dsimp only [headSpec]; (first | (apply Int.le_antisymm <;> omega) | omega), by dsimp only [headSpec]; (first | (apply Int.le_antisymm <;> omega) | omega)⟩) hS (fun q _ h => hFc q h) hFc (fun r13 u t H1 locs ht hvm hw hB hz1 hk1 hS => ?_)
  try dsimp only at hw
  obtain ⟨br13, xr13⟩ := hw
  try clear hw
  have tr13 := b01 br13
  clear xr13
  obtain ⟨hP1, hK1, hD1⟩ := hB
  replace hP1 := va_P.he ht hP1
  obtain ⟨hP, hD⟩ := va_joinP (wr := []) (rx := (wz_307 h0 rf tap h0_taped h0_length n4 n3 n6 n10 n5 h0_globalNames_r h0_globalPlaces_r h0_globalTypes_r h0_globalValues_r h0_globalCount h0_funs_r h0_funCount h0_open h0_signs h0_levels_r h0_now h0_known_r h0_knownCount h0_loops mad h0_madeLength mag h0_smalls_r h0_greats_r h0_module_r h0_spare_r h0_m h0_cursor h0_limit blk stk h0_top hgt lab ous kis los h0_depth h0_function mem h0_pages glo val h0_valueTop ffu fre fba fla h0_frames lat lhe h0_labelTop h0_steps h0_there rsl h0_resultLength h0_reason h0_place arg h0_argumentCount h0_code tap ctap gtap)) hP hD [0, 1] [] rfl rfl (by decide) (by decide) hk1 hFc hP1 hD1
  clear hPc hDc hKc hFc hz1 hk1 hP1 hK1 hD1
  rename Heap => H
  have hP : va_P (dC, dI) cls2 (((wz_307 h0 rf tap h0_taped h0_length n4 n3 n6 n10 n5 h0_globalNames_r h0_globalPlaces_r h0_globalTypes_r h0_globalValues_r h0_globalCount h0_funs_r h0_funCount h0_open h0_signs h0_levels_r h0_now h0_known_r h0_knownCount h0_loops mad h0_madeLength mag h0_smalls_r h0_greats_r h0_module_r h0_spare_r h0_m h0_cursor h0_limit blk stk h0_top hgt lab ous kis los h0_depth h0_function mem h0_pages glo val h0_valueTop ffu fre fba fla h0_frames lat lhe h0_labelTop h0_steps h0_there rsl h0_resultLength h0_reason h0_place arg h0_argumentCount h0_code tap ctap gtap) : va_W) ++ va_pl n2 n9) H := hP
  have hD : va_D A (((wz_307 h0 rf tap h0_taped h0_length n4 n3 n6 n10 n5 h0_globalNames_r h0_globalPlaces_r h0_globalTypes_r h0_globalValues_r h0_globalCount h0_funs_r h0_funCount h0_open h0_signs h0_levels_r h0_now h0_known_r h0_knownCount h0_loops mad h0_madeLength mag h0_smalls_r h0_greats_r h0_module_r h0_spare_r h0_m h0_cursor h0_limit blk stk h0_top hgt lab ous kis los h0_depth h0_function mem h0_pages glo val h0_valueTop ffu fre fba fla h0_frames lat lhe h0_labelTop h0_steps h0_there rsl h0_resultLength h0_reason h0_place arg h0_argumentCount h0_code tap ctap gtap) : va_W) ++ va_pl n2 n9) := hD
  refine lv_istore (lv' := [(4, .int r13), (3, .ref po_w), (2, .int h0_to), (1, .int h0_from), (0, .ref h0)]) hx hb d_MD_isSet_25 hl (by decide) rfl (fun ls hl => ?_)
  refine lv_aload_n hx hb d_MD_isSet_27 rfl (lv_at hl 4 rfl) ?_
  refine lv_iload_n hx hb d_MD_isSet_28 rfl (lv_at hl 3 rfl) ?_
  refine va_put (D := (dC, dI)) (ci := 11) (v := .int h0_from) (ty := .int) (C := R_MD) (T := F_MD) (N := 65) hx hb hts i_MD t_MD t_MD_ok n_MD hown hK hP hD hS 0 rfl rfl 5 (by decide) (hts _ kF_MD_30) (fun _ h9 => h9) rfl (by decide +kernel) rfl rfl (Nat.le_of_ble_eq_true rfl) d_MD_isSet_29 (fun H locs hP hD hS => ?_)
  refine lv_aload_n hx hb d_MD_isSet_32 rfl (lv_at hl 4 rfl) ?_
  refine lv_iload_n hx hb d_MD_isSet_33 rfl (lv_at hl 2 rfl) ?_
  refine va_put (D := (dC, dI)) (ci := 11) (v := .int h0_to) (ty := .int) (C := R_MD) (T := F_MD) (N := 65) hx hb hts i_MD t_MD t_MD_ok n_MD hown hK hP hD hS 0 rfl rfl 6 (by decide) (hts _ kF_MD_23) (fun _ h9 => h9) rfl (by decide +kernel) rfl rfl (Nat.le_of_ble_eq_true rfl) d_MD_isSet_34 (fun H locs hP hD hS => ?_)
  refine lv_aload_n hx hb d_MD_isSet_37 rfl (lv_at hl 4 rfl) ?_
  refine lv_aload_n hx hb d_MD_isSet_38 rfl (lv_at hl 1 rfl) ?_
  refine va_put (D := (dC, dI)) (ci := 11) (v := .ref po_w) (ty := .object "java/lang/String") (C := R_MD) (T := F_MD) (N := 65) hx hb hts i_MD t_MD t_MD_ok n_MD hown hK hP hD hS 0 rfl rfl 7 (by decide) (hts _ kF_MD_57) (fun _ h9 => h9) rfl (by decide +kernel) rfl rfl (Nat.le_of_ble_eq_true rfl) d_MD_isSet_39 (fun H locs hP hD hS => ?_)
  refine lv_aload_n hx hb d_MD_isSet_42 rfl (lv_at hl 4 rfl) ?_
  refine lv_iconst (v := 1) hx hb d_MD_isSet_43 (by decide) ?_
  refine va_put (D := (dC, dI)) (ci := 11) (v := .int 1) (ty := .int) (C := R_MD) (T := F_MD) (N := 65) hx hb hts i_MD t_MD t_MD_ok n_MD hown hK hP hD hS 0 rfl rfl 4 (by decide) (hts _ kF_MD_33) (fun _ h9 => h9) rfl (by decide +kernel) rfl rfl (Nat.le_of_ble_eq_true rfl) d_MD_isSet_44 (fun H locs hP hD hS => ?_)
  refine lv_iload hx hb d_MD_isSet_47 (lv_at hl 0 rfl) ?_
  have hP : va_P (dC, dI) cls2 (((wz_501 h0 rf tap h0_taped h0_length 1 h0_from h0_to po_w n5 h0_globalNames_r h0_globalPlaces_r h0_globalTypes_r h0_globalValues_r h0_globalCount h0_funs_r h0_funCount h0_open h0_signs h0_levels_r h0_now h0_known_r h0_knownCount h0_loops mad h0_madeLength mag h0_smalls_r h0_greats_r h0_module_r h0_spare_r h0_m h0_cursor h0_limit blk stk h0_top hgt lab ous kis los h0_depth h0_function mem h0_pages glo val h0_valueTop ffu fre fba fla h0_frames lat lhe h0_labelTop h0_steps h0_there rsl h0_resultLength h0_reason h0_place arg h0_argumentCount h0_code tap ctap gtap) : va_W) ++ va_pl n2 n9) H := hP
  have hD : va_D A (((wz_501 h0 rf tap h0_taped h0_length 1 h0_from h0_to po_w n5 h0_globalNames_r h0_globalPlaces_r h0_globalTypes_r h0_globalValues_r h0_globalCount h0_funs_r h0_funCount h0_open h0_signs h0_levels_r h0_now h0_known_r h0_knownCount h0_loops mad h0_madeLength mag h0_smalls_r h0_greats_r h0_module_r h0_spare_r h0_m h0_cursor h0_limit blk stk h0_top hgt lab ous kis los h0_depth h0_function mem h0_pages glo val h0_valueTop ffu fre fba fla h0_frames lat lhe h0_labelTop h0_steps h0_there rsl h0_resultLength h0_reason h0_place arg h0_argumentCount h0_code tap ctap gtap) : va_W) ++ va_pl n2 n9) := hD
  have hP9 := hP.part (cx := (wz_501 h0 rf tap h0_taped h0_length 1 h0_from h0_to po_w n5 h0_globalNames_r h0_globalPlaces_r h0_globalTypes_r h0_globalValues_r h0_globalCount h0_funs_r h0_funCount h0_open h0_signs h0_levels_r h0_now h0_known_r h0_knownCount h0_loops mad h0_madeLength mag h0_smalls_r h0_greats_r h0_module_r h0_spare_r h0_m h0_cursor h0_limit blk stk h0_top hgt lab ous kis los h0_depth h0_function mem h0_pages glo val h0_valueTop ffu fre fba fla h0_frames lat lhe h0_labelTop h0_steps h0_there rsl h0_resultLength h0_reason h0_place arg h0_argumentCount h0_code tap ctap gtap)) [0, 1] rfl
  have hD9 := hD.part (cx := (wz_501 h0 rf tap h0_taped h0_length 1 h0_from h0_to po_w n5 h0_globalNames_r h0_globalPlaces_r h0_globalTypes_r h0_globalValues_r h0_globalCount h0_funs_r h0_funCount h0_open h0_signs h0_levels_r h0_now h0_known_r h0_knownCount h0_loops mad h0_madeLength mag h0_smalls_r h0_greats_r h0_module_r h0_spare_r h0_m h0_cursor h0_limit blk stk h0_top hgt lab ous kis los h0_depth h0_function mem h0_pages glo val h0_valueTop ffu fre fba fla h0_frames lat lhe h0_labelTop h0_steps h0_there rsl h0_resultLength h0_reason h0_place arg h0_argumentCount h0_code tap ctap gtap)) [0, 1] (by decide) rfl
  refine w_known (fun hzc hzs => ?_)
  refine W.widen (k := 8 * (h0_length.toInt - h0_to.toInt).toNat + 4) (n := 80 * (h0_length.toInt - h0_to.toInt).toNat + 120) (by (first | (apply Int.le_antisymm <;> omega) | omega)) (by (first | (apply Int.le_antisymm <;> omega) | omega)) ?_
  exact W.zret (v := r13) hx hb hr (zn01 (br13)) (fun t ht hW => ⟨⟨r13, (n2, h0_from, 1, n5, h0_to, kc11 + 0, kn12 + 0, n9, .ref po_w), rfl, ⟨br13, b_h0_from, b_h0_to, ⟨rfl, rfl, ew.symm, by decide, yc.out, _, _, ya.out, e1_, e2_, e3_, by (try dsimp only); rcases yb.out with q | q; (exact Or.inl ⟨by have := q.1; (first | (apply Int.le_antisymm <;> omega) | omega), by have := q.2; (first | (apply Int.le_antisymm <;> omega) | omega)⟩); (exact Or.inr ⟨q, by (first | (apply Int.le_antisymm <;> omega) | omega), by (first | (apply Int.le_antisymm <;> omega) | omega)⟩)⟩⟩, va_P.he ht.symm hP9, va_K.moved hW.alike hK, hD9, by rw [ht]; exact hzc, by rw [ht]; exact hzs⟩, hS.F ht⟩) hS.2.2 d_MD_isSet_49
end q_n01
section q_n02
/-! the reference: is it a sign of this level -/
theorem lv_len : ∀ k : Fin 7, 3 ≤ (litB.getD k.val []).length ∧ (litB.getD k.val []).length ≤ 18 ∧ (litB.getD k.val []).getD ((litB.getD k.val []).length - 1) 0 = 32 := by decide +kernel
/-- the sign stands in the level's text -/
def lvm9 (g : Nat → Int32) (fr t : Int) (k : Nat) : Prop := ∃ i : Nat, bn ((litB.getD k []).getD i 0) = 32 ∧ (∀ j : Nat, (j : Int) < t - fr → bn ((litB.getD k []).getD (i + 1 + j) 0) = bn (g (fr.toNat + j))) ∧ bn ((litB.getD k []).getD (i + 1 + (t - fr).toNat) 0) = 32 ∧ i < 18
theorem lvm_no {g : Nat → Int32} {fr t : Int} {k : Nat} (h : lvm9 g fr t k) (hk : 2 ≤ k ∧ k < 7) (ht : t - fr = 2) : ¬ (bn (g fr.toNat) = 124 ∧ bn (g (fr.toNat + 1)) = 124) ∧ ¬ (bn (g fr.toNat) = 38 ∧ bn (g (fr.toNat + 1)) = 38) := by
  have d : ∀ (k : Fin 7) (i : Fin 18), 2 ≤ k.val → ¬ (bn ((litB.getD k.val []).getD i.val 0) = 32 ∧ bn ((litB.getD k.val []).getD (i.val + 1) 0) = 124 ∧ bn ((litB.getD k.val []).getD (i.val + 1 + 1) 0) = 124 ∧ bn ((litB.getD k.val []).getD (i.val + 1 + 2) 0) = 32) ∧ ¬ (bn ((litB.getD k.val []).getD i.val 0) = 32 ∧ bn ((litB.getD k.val []).getD (i.val + 1) 0) = 38 ∧ bn ((litB.getD k.val []).getD (i.val + 1 + 1) 0) = 38 ∧ bn ((litB.getD k.val []).getD (i.val + 1 + 2) 0) = 32) := by decide +kernel
  obtain ⟨i, h1, h2, h3, h4⟩ := h
  have e0 := h2 0 (by (first | (apply Int.le_antisymm <;> omega) | omega))
  have e1 := h2 1 (by (first | (apply Int.le_antisymm <;> omega) | omega))
  rw [ht] at h3
  have z := d ⟨k, hk.2⟩ ⟨i, h4⟩ hk.1
  dsimp only at z
  refine ⟨fun q => z.1 ⟨h1, ?_, ?_, h3⟩, fun q => z.2 ⟨h1, ?_, ?_, h3⟩⟩
  · exact e0.trans q.1
  · exact e1.trans q.2
  · exact e0.trans q.1
  · exact e1.trans q.2
abbrev b_MD_isOf : ByteArray := prog_15_method_24_code
def y_MD_isOf : MethodName := ⟨R_MD, "isOf", "(I)Z"⟩
abbrev w_MD_isOf : List Cond := .code y_MD_isOf b_MD_isOf 5 (Option.some .boolean) :: lw_g
theorem kC_MD_isOf : Cond.code y_MD_isOf b_MD_isOf 5 (Option.some .boolean) ∈ lw_g := in_c12 10 rfl rfl
theorem d_MD_isOf_0 : decode b_MD_isOf 0 = .ok (.aload_n 0, 1) := bz_c42 (by decide +kernel)
theorem d_MD_isOf_1 : decode b_MD_isOf 1 = .ok (.getfield 33, 3) := bz_c180 (by decide +kernel)
theorem d_MD_isOf_4 : decode b_MD_isOf 4 = .ok (.iconst 5, 1) := bz_c8 (by decide +kernel)
theorem d_MD_isOf_5 : decode b_MD_isOf 5 = .ok (.if_icmp .eq 5, 3) := bz_c159 (by decide +kernel)
theorem d_MD_isOf_8 : decode b_MD_isOf 8 = .ok (.iconst 0, 1) := bz_c3 (by decide +kernel)
theorem d_MD_isOf_9 : decode b_MD_isOf 9 = .ok (.ireturn, 1) := bz_c172 (by decide +kernel)
theorem d_MD_isOf_10 : decode b_MD_isOf 10 = .ok (.aload_n 0, 1) := bz_c42 (by decide +kernel)
theorem d_MD_isOf_11 : decode b_MD_isOf 11 = .ok (.getfield 278, 3) := bz_c180 (by decide +kernel)
theorem d_MD_isOf_14 : decode b_MD_isOf 14 = .ok (.iload_n 1, 1) := bz_c27 (by decide +kernel)
theorem d_MD_isOf_15 : decode b_MD_isOf 15 = .ok (.aaload, 1) := bz_c50 (by decide +kernel)
theorem d_MD_isOf_16 : decode b_MD_isOf 16 = .ok (.astore_n 2, 1) := bz_c77 (by decide +kernel)
theorem d_MD_isOf_17 : decode b_MD_isOf 17 = .ok (.iconst 0, 1) := bz_c3 (by decide +kernel)
theorem d_MD_isOf_18 : decode b_MD_isOf 18 = .ok (.istore_n 3, 1) := bz_c62 (by decide +kernel)
theorem d_MD_isOf_19 : decode b_MD_isOf 19 = .ok (.iload_n 3, 1) := bz_c29 (by decide +kernel)
theorem d_MD_isOf_20 : decode b_MD_isOf 20 = .ok (.iconst 1, 1) := bz_c4 (by decide +kernel)
theorem d_MD_isOf_21 : decode b_MD_isOf 21 = .ok (.iadd, 1) := bz_c96 (by decide +kernel)
theorem d_MD_isOf_22 : decode b_MD_isOf 22 = .ok (.aload_n 2, 1) := bz_c44 (by decide +kernel)
theorem d_MD_isOf_23 : decode b_MD_isOf 23 = .ok (.invokevirtual 72, 3) := bz_c182 (by decide +kernel)
theorem d_MD_isOf_26 : decode b_MD_isOf 26 = .ok (.if_icmp .ge 113, 3) := bz_c162 (by decide +kernel)
theorem d_MD_isOf_29 : decode b_MD_isOf 29 = .ok (.aload_n 2, 1) := bz_c44 (by decide +kernel)
theorem d_MD_isOf_30 : decode b_MD_isOf 30 = .ok (.iload_n 3, 1) := bz_c29 (by decide +kernel)
theorem d_MD_isOf_31 : decode b_MD_isOf 31 = .ok (.invokevirtual 104, 3) := bz_c182 (by decide +kernel)
theorem d_MD_isOf_34 : decode b_MD_isOf 34 = .ok (.bipush 32, 2) := bz_c16 (by decide +kernel)
theorem d_MD_isOf_36 : decode b_MD_isOf 36 = .ok (.if_icmp .eq 6, 3) := bz_c159 (by decide +kernel)
theorem d_MD_isOf_39 : decode b_MD_isOf 39 = .ok (.goto 94, 3) := bz_c167 (by decide +kernel)
theorem d_MD_isOf_42 : decode b_MD_isOf 42 = .ok (.iconst 0, 1) := bz_c3 (by decide +kernel)
theorem d_MD_isOf_43 : decode b_MD_isOf 43 = .ok (.istore 4, 2) := bz_c54 (by decide +kernel)
theorem d_MD_isOf_45 : decode b_MD_isOf 45 = .ok (.iload 4, 2) := bz_c21 (by decide +kernel)
theorem d_MD_isOf_47 : decode b_MD_isOf 47 = .ok (.aload_n 0, 1) := bz_c42 (by decide +kernel)
theorem d_MD_isOf_48 : decode b_MD_isOf 48 = .ok (.getfield 23, 3) := bz_c180 (by decide +kernel)
theorem d_MD_isOf_51 : decode b_MD_isOf 51 = .ok (.aload_n 0, 1) := bz_c42 (by decide +kernel)
theorem d_MD_isOf_52 : decode b_MD_isOf 52 = .ok (.getfield 30, 3) := bz_c180 (by decide +kernel)
theorem d_MD_isOf_55 : decode b_MD_isOf 55 = .ok (.isub, 1) := bz_c100 (by decide +kernel)
theorem d_MD_isOf_56 : decode b_MD_isOf 56 = .ok (.if_icmp .ge 46, 3) := bz_c162 (by decide +kernel)
theorem d_MD_isOf_59 : decode b_MD_isOf 59 = .ok (.iload_n 3, 1) := bz_c29 (by decide +kernel)
theorem d_MD_isOf_60 : decode b_MD_isOf 60 = .ok (.iconst 1, 1) := bz_c4 (by decide +kernel)
theorem d_MD_isOf_61 : decode b_MD_isOf 61 = .ok (.iadd, 1) := bz_c96 (by decide +kernel)
theorem d_MD_isOf_62 : decode b_MD_isOf 62 = .ok (.iload 4, 2) := bz_c21 (by decide +kernel)
theorem d_MD_isOf_64 : decode b_MD_isOf 64 = .ok (.iadd, 1) := bz_c96 (by decide +kernel)
theorem d_MD_isOf_65 : decode b_MD_isOf 65 = .ok (.aload_n 2, 1) := bz_c44 (by decide +kernel)
theorem d_MD_isOf_66 : decode b_MD_isOf 66 = .ok (.invokevirtual 72, 3) := bz_c182 (by decide +kernel)
theorem d_MD_isOf_69 : decode b_MD_isOf 69 = .ok (.if_icmp .ge 33, 3) := bz_c162 (by decide +kernel)
theorem d_MD_isOf_72 : decode b_MD_isOf 72 = .ok (.aload_n 2, 1) := bz_c44 (by decide +kernel)
theorem d_MD_isOf_73 : decode b_MD_isOf 73 = .ok (.iload_n 3, 1) := bz_c29 (by decide +kernel)
theorem d_MD_isOf_74 : decode b_MD_isOf 74 = .ok (.iconst 1, 1) := bz_c4 (by decide +kernel)
theorem d_MD_isOf_75 : decode b_MD_isOf 75 = .ok (.iadd, 1) := bz_c96 (by decide +kernel)
theorem d_MD_isOf_76 : decode b_MD_isOf 76 = .ok (.iload 4, 2) := bz_c21 (by decide +kernel)
theorem d_MD_isOf_78 : decode b_MD_isOf 78 = .ok (.iadd, 1) := bz_c96 (by decide +kernel)
theorem d_MD_isOf_79 : decode b_MD_isOf 79 = .ok (.invokevirtual 104, 3) := bz_c182 (by decide +kernel)
theorem d_MD_isOf_82 : decode b_MD_isOf 82 = .ok (.aload_n 0, 1) := bz_c42 (by decide +kernel)
theorem d_MD_isOf_83 : decode b_MD_isOf 83 = .ok (.aload_n 0, 1) := bz_c42 (by decide +kernel)
theorem d_MD_isOf_84 : decode b_MD_isOf 84 = .ok (.getfield 30, 3) := bz_c180 (by decide +kernel)
theorem d_MD_isOf_87 : decode b_MD_isOf 87 = .ok (.iload 4, 2) := bz_c21 (by decide +kernel)
theorem d_MD_isOf_89 : decode b_MD_isOf 89 = .ok (.iadd, 1) := bz_c96 (by decide +kernel)
theorem d_MD_isOf_90 : decode b_MD_isOf 90 = .ok (.invokevirtual 26, 3) := bz_c182 (by decide +kernel)
theorem d_MD_isOf_93 : decode b_MD_isOf 93 = .ok (.if_icmp .ne 9, 3) := bz_c160 (by decide +kernel)
theorem d_MD_isOf_96 : decode b_MD_isOf 96 = .ok (.iinc 4 1, 3) := by decide +kernel
theorem d_MD_isOf_99 : decode b_MD_isOf 99 = .ok (.goto (-54), 3) := bz_c167 (by decide +kernel)
theorem d_MD_isOf_102 : decode b_MD_isOf 102 = .ok (.iload 4, 2) := bz_c21 (by decide +kernel)
theorem d_MD_isOf_104 : decode b_MD_isOf 104 = .ok (.aload_n 0, 1) := bz_c42 (by decide +kernel)
theorem d_MD_isOf_105 : decode b_MD_isOf 105 = .ok (.getfield 23, 3) := bz_c180 (by decide +kernel)
theorem d_MD_isOf_108 : decode b_MD_isOf 108 = .ok (.aload_n 0, 1) := bz_c42 (by decide +kernel)
theorem d_MD_isOf_109 : decode b_MD_isOf 109 = .ok (.getfield 30, 3) := bz_c180 (by decide +kernel)
theorem d_MD_isOf_112 : decode b_MD_isOf 112 = .ok (.isub, 1) := bz_c100 (by decide +kernel)
theorem d_MD_isOf_113 : decode b_MD_isOf 113 = .ok (.if_icmp .ne 20, 3) := bz_c160 (by decide +kernel)
theorem d_MD_isOf_116 : decode b_MD_isOf 116 = .ok (.aload_n 2, 1) := bz_c44 (by decide +kernel)
theorem d_MD_isOf_117 : decode b_MD_isOf 117 = .ok (.iload_n 3, 1) := bz_c29 (by decide +kernel)
theorem d_MD_isOf_118 : decode b_MD_isOf 118 = .ok (.iconst 1, 1) := bz_c4 (by decide +kernel)
theorem d_MD_isOf_119 : decode b_MD_isOf 119 = .ok (.iadd, 1) := bz_c96 (by decide +kernel)
theorem d_MD_isOf_120 : decode b_MD_isOf 120 = .ok (.iload 4, 2) := bz_c21 (by decide +kernel)
theorem d_MD_isOf_122 : decode b_MD_isOf 122 = .ok (.iadd, 1) := bz_c96 (by decide +kernel)
theorem d_MD_isOf_123 : decode b_MD_isOf 123 = .ok (.invokevirtual 104, 3) := bz_c182 (by decide +kernel)
theorem d_MD_isOf_126 : decode b_MD_isOf 126 = .ok (.bipush 32, 2) := bz_c16 (by decide +kernel)
theorem d_MD_isOf_128 : decode b_MD_isOf 128 = .ok (.if_icmp .ne 5, 3) := bz_c160 (by decide +kernel)
theorem d_MD_isOf_131 : decode b_MD_isOf 131 = .ok (.iconst 1, 1) := bz_c4 (by decide +kernel)
theorem d_MD_isOf_132 : decode b_MD_isOf 132 = .ok (.ireturn, 1) := bz_c172 (by decide +kernel)
theorem d_MD_isOf_133 : decode b_MD_isOf 133 = .ok (.iinc 3 1, 3) := by decide +kernel
theorem d_MD_isOf_136 : decode b_MD_isOf 136 = .ok (.goto (-117), 3) := bz_c167 (by decide +kernel)
theorem d_MD_isOf_139 : decode b_MD_isOf 139 = .ok (.iconst 0, 1) := bz_c3 (by decide +kernel)
theorem d_MD_isOf_140 : decode b_MD_isOf 140 = .ok (.ireturn, 1) := bz_c172 (by decide +kernel)
theorem kF_MD_278 : Cond.fieldLink R_MD 278 "WaferForgeModel" "levels" "[Ljava/lang/String;" ∈ lw_g := in_c8 239 rfl rfl
abbrev at_MD_isOf (dC : Nat → ClassId) (dI : Nat → Nat → Nat) (sa : Nat → Nat) (h0 rf tap h0_globalNames_r h0_globalPlaces_r h0_globalTypes_r h0_globalValues_r h0_funs_r lev h0_known_r mad mag h0_smalls_r h0_greats_r h0_module_r h0_spare_r blk stk hgt lab ous kis los mem glo val ffu fre fba fla lat lhe rsl arg : Nat) (ctap clev : ClassId) (h0_taped : Int32) (h0_length : Int32) (h0_kind : Int32) (h0_from : Int32) (h0_to : Int32) (h0_word : Value) (h0_numeral : Int64) (h0_globalCount : Int32) (h0_funCount : Int32) (h0_open : Int32) (h0_signs : Int32) (h0_now : Value) (h0_knownCount : Int32) (h0_loops : Int32) (h0_madeLength : Int32) (h0_m : Value) (h0_cursor : Int32) (h0_limit : Int32) (h0_top : Int32) (h0_depth : Int32) (h0_function : Int32) (h0_pages : Int32) (h0_valueTop : Int32) (h0_frames : Int32) (h0_labelTop : Int32) (h0_steps : Int32) (h0_there : Int32) (h0_resultLength : Int32) (h0_reason : Int32) (h0_place : Int32) (h0_argumentCount : Int32) (h0_code : Int32) (gtap : Nat → Int32) (glev : Nat → Option Nat) (A : Nat → Prop) (u : Unit) (t : State) : Prop := match u with | _ => va_P (dC, dI) cls2 (wz_517 h0 rf tap h0_taped h0_length h0_kind h0_from h0_to h0_word h0_numeral h0_globalNames_r h0_globalPlaces_r h0_globalTypes_r h0_globalValues_r h0_globalCount h0_funs_r h0_funCount h0_open h0_signs lev h0_now h0_known_r h0_knownCount h0_loops mad h0_madeLength mag h0_smalls_r h0_greats_r h0_module_r h0_spare_r h0_m h0_cursor h0_limit blk stk h0_top hgt lab ous kis los h0_depth h0_function mem h0_pages glo val h0_valueTop ffu fre fba fla h0_frames lat lhe h0_labelTop h0_steps h0_there rsl h0_resultLength h0_reason h0_place arg h0_argumentCount h0_code tap ctap gtap lev clev glev) t.heap ∧ va_K (dC, dI) cls2 [(ctap, .byte), (clev, .object "java/lang/String")] t ∧ va_D A (wz_517 h0 rf tap h0_taped h0_length h0_kind h0_from h0_to h0_word h0_numeral h0_globalNames_r h0_globalPlaces_r h0_globalTypes_r h0_globalValues_r h0_globalCount h0_funs_r h0_funCount h0_open h0_signs lev h0_now h0_known_r h0_knownCount h0_loops mad h0_madeLength mag h0_smalls_r h0_greats_r h0_module_r h0_spare_r h0_m h0_cursor h0_limit blk stk h0_top hgt lab ous kis los h0_depth h0_function mem h0_pages glo val h0_valueTop ffu fre fba fla h0_frames lat lhe h0_labelTop h0_steps h0_there rsl h0_resultLength h0_reason h0_place arg h0_argumentCount h0_code tap ctap gtap lev clev glev)
set_option maxHeartbeats 4000000 in
set_option maxRecDepth 100000 in
theorem c_MD_isOf (l : Launch) (hlt : l.stackTraces = false) (dC : Nat → ClassId) (dI : Nat → Nat → Nat) (sz : Nat) (sa : Nat → Nat) (h0 rf tap h0_globalNames_r h0_globalPlaces_r h0_globalTypes_r h0_globalValues_r h0_funs_r lev h0_known_r mad mag h0_smalls_r h0_greats_r h0_module_r h0_spare_r blk stk hgt lab ous kis los mem glo val ffu fre fba fla lat lhe rsl arg : Nat) (ctap clev : ClassId) (h0_taped : Int32) (h0_length : Int32) (h0_kind : Int32) (h0_from : Int32) (h0_to : Int32) (h0_word : Value) (h0_numeral : Int64) (h0_globalCount : Int32) (h0_funCount : Int32) (h0_open : Int32) (h0_signs : Int32) (h0_now : Value) (h0_knownCount : Int32) (h0_loops : Int32) (h0_madeLength : Int32) (h0_m : Value) (h0_cursor : Int32) (h0_limit : Int32) (h0_top : Int32) (h0_depth : Int32) (h0_function : Int32) (h0_pages : Int32) (h0_valueTop : Int32) (h0_frames : Int32) (h0_labelTop : Int32) (h0_steps : Int32) (h0_there : Int32) (h0_resultLength : Int32) (h0_reason : Int32) (h0_place : Int32) (h0_argumentCount : Int32) (h0_code : Int32) (gtap : Nat → Int32) (glev : Nat → Option Nat) (gn : Int)  (b_h0_length : 0 ≤ h0_length.toInt ∧ h0_length.toInt ≤ 2000) (b_h0_from : 0 ≤ h0_from.toInt ∧ h0_from.toInt ≤ 2000) (b_h0_to : 0 ≤ h0_to.toInt ∧ h0_to.toInt ≤ 2000) (p1 : Int32) (ba0 : 0 ≤ p1.toInt ∧ p1.toInt ≤ 6) (hlx : bx (lx9 gtap h0_length.toInt h0_kind.toInt h0_from.toInt h0_to.toInt gn)) (hlev : bx (∀ j : Nat, j < 7 → glev j = some (sa (400 + j)))) : Met l y_MD_isOf w_MD_isOf ({ frames := 4, cells := 0, slots := 0, locals := 85 }) (va_Pc [.ref h0, .int p1] (fun U => U.heap.size = sz ∧ va_P (dC, dI) cls2 (wz_517 h0 rf tap h0_taped h0_length h0_kind h0_from h0_to h0_word h0_numeral h0_globalNames_r h0_globalPlaces_r h0_globalTypes_r h0_globalValues_r h0_globalCount h0_funs_r h0_funCount h0_open h0_signs lev h0_now h0_known_r h0_knownCount h0_loops mad h0_madeLength mag h0_smalls_r h0_greats_r h0_module_r h0_spare_r h0_m h0_cursor h0_limit blk stk h0_top hgt lab ous kis los h0_depth h0_function mem h0_pages glo val h0_valueTop ffu fre fba fla h0_frames lat lhe h0_labelTop h0_steps h0_there rsl h0_resultLength h0_reason h0_place arg h0_argumentCount h0_code tap ctap gtap lev clev glev) U.heap ∧ va_K (dC, dI) cls2 [(ctap, .byte), (clev, .object "java/lang/String")] U ∧ va_D (fun _ => True) (wz_517 h0 rf tap h0_taped h0_length h0_kind h0_from h0_to h0_word h0_numeral h0_globalNames_r h0_globalPlaces_r h0_globalTypes_r h0_globalValues_r h0_globalCount h0_funs_r h0_funCount h0_open h0_signs lev h0_now h0_known_r h0_knownCount h0_loops mad h0_madeLength mag h0_smalls_r h0_greats_r h0_module_r h0_spare_r h0_m h0_cursor h0_limit blk stk h0_top hgt lab ous kis los h0_depth h0_function mem h0_pages glo val h0_valueTop ffu fre fba fla h0_frames lat lhe h0_labelTop h0_steps h0_there rsl h0_resultLength h0_reason h0_place arg h0_argumentCount h0_code tap ctap gtap lev clev glev) ∧ sm sa (va_A (wz_517 h0 rf tap h0_taped h0_length h0_kind h0_from h0_to h0_word h0_numeral h0_globalNames_r h0_globalPlaces_r h0_globalTypes_r h0_globalValues_r h0_globalCount h0_funs_r h0_funCount h0_open h0_signs lev h0_now h0_known_r h0_knownCount h0_loops mad h0_madeLength mag h0_smalls_r h0_greats_r h0_module_r h0_spare_r h0_m h0_cursor h0_limit blk stk h0_top hgt lab ous kis los h0_depth h0_function mem h0_pages glo val h0_valueTop ffu fre fba fla h0_frames lat lhe h0_labelTop h0_steps h0_there rsl h0_resultLength h0_reason h0_place arg h0_argumentCount h0_code tap ctap gtap lev clev glev) sz) U U.heap)) (va_Qi (fun (r : Int32) (u : Unit) => match u with | _ => (r = 0 ∨ r = 1) ∧ ((r.toInt = 1 ∧ h0_kind.toInt = 5 ∧ lvm9 gtap h0_from.toInt h0_to.toInt p1.toNatClampNeg) ∨ r.toInt = 0)) (at_MD_isOf dC dI sa h0 rf tap h0_globalNames_r h0_globalPlaces_r h0_globalTypes_r h0_globalValues_r h0_funs_r lev h0_known_r mad mag h0_smalls_r h0_greats_r h0_module_r h0_spare_r blk stk hgt lab ous kis los mem glo val ffu fre fba fla lat lhe rsl arg ctap clev h0_taped h0_length h0_kind h0_from h0_to h0_word h0_numeral h0_globalCount h0_funCount h0_open h0_signs h0_now h0_knownCount h0_loops h0_madeLength h0_m h0_cursor h0_limit h0_top h0_depth h0_function h0_pages h0_valueTop h0_frames h0_labelTop h0_steps h0_there h0_resultLength h0_reason h0_place h0_argumentCount h0_code gtap glev (va_A (wz_517 h0 rf tap h0_taped h0_length h0_kind h0_from h0_to h0_word h0_numeral h0_globalNames_r h0_globalPlaces_r h0_globalTypes_r h0_globalValues_r h0_globalCount h0_funs_r h0_funCount h0_open h0_signs lev h0_now h0_known_r h0_knownCount h0_loops mad h0_madeLength mag h0_smalls_r h0_greats_r h0_module_r h0_spare_r h0_m h0_cursor h0_limit blk stk h0_top hgt lab ous kis los h0_depth h0_function mem h0_pages glo val h0_valueTop ffu fre fba fla h0_frames lat lhe h0_labelTop h0_steps h0_there rsl h0_resultLength h0_reason h0_place arg h0_argumentCount h0_code tap ctap gtap lev clev glev) sz)) (va_A (wz_517 h0 rf tap h0_taped h0_length h0_kind h0_from h0_to h0_word h0_numeral h0_globalNames_r h0_globalPlaces_r h0_globalTypes_r h0_globalValues_r h0_globalCount h0_funs_r h0_funCount h0_open h0_signs lev h0_now h0_known_r h0_knownCount h0_loops mad h0_madeLength mag h0_smalls_r h0_greats_r h0_module_r h0_spare_r h0_m h0_cursor h0_limit blk stk h0_top hgt lab ous kis los h0_depth h0_function mem h0_pages glo val h0_valueTop ffu fre fba fla h0_frames lat lhe h0_labelTop h0_steps h0_there rsl h0_resultLength h0_reason h0_place arg h0_argumentCount h0_code tap ctap gtap lev clev glev) sz)) 0 0 (va_A (wz_517 h0 rf tap h0_taped h0_length h0_kind h0_from h0_to h0_word h0_numeral h0_globalNames_r h0_globalPlaces_r h0_globalTypes_r h0_globalValues_r h0_globalCount h0_funs_r h0_funCount h0_open h0_signs lev h0_now h0_known_r h0_knownCount h0_loops mad h0_madeLength mag h0_smalls_r h0_greats_r h0_module_r h0_spare_r h0_m h0_cursor h0_limit blk stk h0_top hgt lab ous kis los h0_depth h0_function mem h0_pages glo val h0_valueTop ffu fre fba fla h0_frames lat lhe h0_labelTop h0_steps h0_there rsl h0_resultLength h0_reason h0_place arg h0_argumentCount h0_code tap ctap gtap lev clev glev) sz) := by
  refine Met.ofW (cc := b_MD_isOf) (maxL := 5) (ret := (Option.some .boolean)) (by decide) rfl ?_
  intro p e s m args below meth c s₁ B hml hv
  obtain ⟨rfl, hsz, hP, hK, hD0, hSW⟩ := hv
  have hx := B.exec
  have hb := B.bytes
  have hr := B.returns
  have hts0 := atoms_spec (ws := w_MD_isOf) B.pre
  have hts : ∀ w ∈ lw_g, w.before _ s = true := fun w h => hts0 w (List.mem_cons_of_mem _ h)
  have hown : s.vm.findClass R_MD = some m.cls := findClass_of_methodNamed B.named
  have hlocks := B.notSynchronized
  clear hts0
  subst hsz
  have hD := hD0.self (sz := s.heap.size)
  generalize hAe : va_A (wz_517 h0 rf tap h0_taped h0_length h0_kind h0_from h0_to h0_word h0_numeral h0_globalNames_r h0_globalPlaces_r h0_globalTypes_r h0_globalValues_r h0_globalCount h0_funs_r h0_funCount h0_open h0_signs lev h0_now h0_known_r h0_knownCount h0_loops mad h0_madeLength mag h0_smalls_r h0_greats_r h0_module_r h0_spare_r h0_m h0_cursor h0_limit blk stk h0_top hgt lab ous kis los h0_depth h0_function mem h0_pages glo val h0_valueTop ffu fre fba fla h0_frames lat lhe h0_labelTop h0_steps h0_there rsl h0_resultLength h0_reason h0_place arg h0_argumentCount h0_code tap ctap gtap lev clev glev) s.heap.size = A at hD hSW ⊢
  have hA : ∀ q : Nat, s.heap.size ≤ q → A q := fun q h => by rw [← hAe]; exact Or.inr h
  clear hAe
  have hP : va_P (dC, dI) cls2 (wz_517 h0 rf tap h0_taped h0_length h0_kind h0_from h0_to h0_word h0_numeral h0_globalNames_r h0_globalPlaces_r h0_globalTypes_r h0_globalValues_r h0_globalCount h0_funs_r h0_funCount h0_open h0_signs lev h0_now h0_known_r h0_knownCount h0_loops mad h0_madeLength mag h0_smalls_r h0_greats_r h0_module_r h0_spare_r h0_m h0_cursor h0_limit blk stk h0_top hgt lab ous kis los h0_depth h0_function mem h0_pages glo val h0_valueTop ffu fre fba fla h0_frames lat lhe h0_labelTop h0_steps h0_there rsl h0_resultLength h0_reason h0_place arg h0_argumentCount h0_code tap ctap gtap lev clev glev) s.heap := hP
  have hl := lv_entry ([.ref h0, .int p1]) (n := 5) (Nat.le_of_ble_eq_true rfl)
  rw [lg_entry_eq]
  generalize (lg_sl ([.ref h0, .int p1]) ++ List.replicate (5 - (lg_sl ([.ref h0, .int p1])).length) Slot.unset).toArray = ls at hl ⊢
  have hl : lv_has ls 5 [(0, .ref h0), (1, .int p1)] := hl
  have k0 : (0 : Int32).toInt = 0 := by decide
  refine w_gen (A := A) hP (fun H locs hP hS => ?_)
  have k1 : (1 : Int32).toInt = 1 := by decide
  have k5 : (5 : Int32).toInt = 5 := by decide
  have k32 : (32 : Int32).toInt = 32 := by decide
  have lo_p1 := i32_lo p1
  have hi_p1 := i32_hi p1
  obtain ⟨l1_, l2_, l3_, l4_, l5_, l6_, l7_, l8_, -, -, l9_⟩ := hlx.out
  replace l9_ : bx _ := l9_
  refine lv_aload_n hx hb d_MD_isOf_0 rfl (lv_at hl 0 rfl) ?_
  refine va_get (D := (dC, dI)) (ci := 11) (v := .int h0_kind) (C := R_MD) (T := F_MD) (N := 65) hx hb hts i_MD hown hK hP 0 rfl rfl 4 (by decide) (hts _ kF_MD_33) (fun _ h9 => h9) rfl d_MD_isOf_1 ?_
  refine lv_iconst (v := 5) hx hb d_MD_isOf_4 (by decide) ?_
  refine lv_icmp_eq (tgt := 10) hx hb d_MD_isOf_5 (by decide) (fun c5 => ?_) (fun c5 => ?_)
  · have q5 := eqI c5
    refine lv_aload_n hx hb d_MD_isOf_10 rfl (lv_at hl 0 rfl) ?_
    refine va_get (D := (dC, dI)) (ci := 11) (v := .ref lev) (C := R_MD) (T := F_MD) (N := 65) hx hb hts i_MD hown hK hP 0 rfl rfl 18 (by decide) (hts _ kF_MD_278) (fun _ h9 => h9) rfl d_MD_isOf_11 ?_
    refine lv_iload_n hx hb d_MD_isOf_14 rfl (lv_at hl 1 rfl) ?_
    have zl1 := i32_clamp (x := p1) (by (first | (apply Int.le_antisymm <;> omega) | omega))
    obtain ⟨zl2, zl3, zl4⟩ := lv_len ⟨p1.toNatClampNeg, by (first | (apply Int.le_antisymm <;> omega) | omega)⟩
    dsimp only at zl2 zl3 zl4
    have g15 : vp_in p1 7 := vp_in_iff.mpr ⟨by (first | (apply Int.le_antisymm <;> omega) | omega), by (first | (apply Int.le_antisymm <;> omega) | omega)⟩
    refine vq_aldo hx hb hK hP 2 1 rfl rfl g15 (y := (sa (400 + p1.toNatClampNeg))) (hlev.out _ (by (first | (apply Int.le_antisymm <;> omega) | omega))) d_MD_isOf_15 ?_
    refine lv_astore_n (lv' := [(2, .ref (sa (400 + p1.toNatClampNeg))), (0, .ref h0), (1, .int p1)]) hx hb d_MD_isOf_16 rfl hl (by decide) rfl (fun ls hl => ?_)
    refine lv_iconst (v := 0) hx hb d_MD_isOf_17 (by decide) ?_
    refine lv_istore_n (lv' := [(3, .int 0), (2, .ref (sa (400 + p1.toNatClampNeg))), (0, .ref h0), (1, .int p1)]) hx hb d_MD_isOf_18 rfl hl (by decide) rfl (fun ls hl => ?_)
    refine w_loop (σ := Int32) (fun u H locs ls => match u with | j19_l3 => (0 ≤ j19_l3.toInt ∧ j19_l3.toInt ≤ 20) ∧ (j19_l3.toInt ≤ ((litB.getD p1.toNatClampNeg []).length : Int)) ∧ va_P (dC, dI) cls2 (wz_517 h0 rf tap h0_taped h0_length h0_kind h0_from h0_to h0_word h0_numeral h0_globalNames_r h0_globalPlaces_r h0_globalTypes_r h0_globalValues_r h0_globalCount h0_funs_r h0_funCount h0_open h0_signs lev h0_now h0_known_r h0_knownCount h0_loops mad h0_madeLength mag h0_smalls_r h0_greats_r h0_module_r h0_spare_r h0_m h0_cursor h0_limit blk stk h0_top hgt lab ous kis los h0_depth h0_function mem h0_pages glo val h0_valueTop ffu fre fba fla h0_frames lat lhe h0_labelTop h0_steps h0_there rsl h0_resultLength h0_reason h0_place arg h0_argumentCount h0_code tap ctap gtap lev clev glev) H ∧ va_D A (wz_517 h0 rf tap h0_taped h0_length h0_kind h0_from h0_to h0_word h0_numeral h0_globalNames_r h0_globalPlaces_r h0_globalTypes_r h0_globalValues_r h0_globalCount h0_funs_r h0_funCount h0_open h0_signs lev h0_now h0_known_r h0_knownCount h0_loops mad h0_madeLength mag h0_smalls_r h0_greats_r h0_module_r h0_spare_r h0_m h0_cursor h0_limit blk stk h0_top hgt lab ous kis los h0_depth h0_function mem h0_pages glo val h0_valueTop ffu fre fba fla h0_frames lat lhe h0_labelTop h0_steps h0_there rsl h0_resultLength h0_reason h0_place arg h0_argumentCount h0_code tap ctap gtap lev clev glev) ∧ va_S A s.heap H locs ∧ lv_has ls 5 [(0, .ref h0), (2, .ref (sa (400 + p1.toNatClampNeg))), (3, .int j19_l3)]) (fun u => match u with | j19_l3 => (((litB.getD p1.toNatClampNeg []).length : Int) - j19_l3.toInt).toNat) ?_ 0 ⟨by (try dsimp only) <;> (first | (apply Int.le_antisymm <;> omega) | omega), by (try dsimp only) <;> (first | (apply Int.le_antisymm <;> omega) | omega), hP, hD, hS, lv_sub hl [2, 1, 0] rfl⟩
    intro N19 ih19 u H locs ls hN19 hI
    obtain ⟨j19_l3, rfl⟩ : ∃ z, z = u := ⟨_, rfl⟩
    obtain ⟨b_j19_l3, u1, hP, hD, hS, hl⟩ := hI
    have hN19 : (((litB.getD p1.toNatClampNeg []).length : Int) - j19_l3.toInt).toNat < N19 + 1 := hN19
    refine lv_iload_n hx hb d_MD_isOf_19 rfl (lv_at hl 2 rfl) ?_
    refine lv_iconst (v := 1) hx hb d_MD_isOf_20 (by decide) ?_
    refine lv_iadd hx hb d_MD_isOf_21 ?_
    refine lv_topi (fun x1 ex1 => ?_)
    have tx1 : x1.toInt = j19_l3.toInt + 1 := by have z := i32_add ex1 (by (first | (apply Int.le_antisymm <;> omega) | omega)) (by (first | (apply Int.le_antisymm <;> omega) | omega)); first | exact z | (first | (apply Int.le_antisymm <;> omega) | omega)
    refine lv_aload_n hx hb d_MD_isOf_22 rfl (lv_at hl 1 rfl) ?_
    have hPc := @vp_nil
    have hDc := hD.sb (wq := []) [] (by decide) rfl
    have hKc := (k2_of hK).sb (tyq := []) [] rfl
    have hFc := va_free (wc := []) hD hS hA [] rfl
    refine va_calli (va_runV (As := []) (rest := [.int x1]) ⟨hx, hb, hml, hown, hts⟩ (c_JS_length l dC dI H.size sa ((sa (400 + p1.toNatClampNeg))) ((sa (500 + p1.toNatClampNeg))) ((litB.getD p1.toNatClampNeg [])) (by (first | (apply Int.le_antisymm <;> omega) | omega))) (cwV 0 hts (gV kM_MD_72 kV_JS_length kS_JS_length kI_JS kC_JS_length) rfl rfl rfl (by decide +kernel) ⟨Nat.le_of_ble_eq_true rfl, Nat.le_of_ble_eq_true rfl⟩) ⟨fun a U g mk z => by obtain ⟨z0, z1, zP, zK, zD, zS, zR0⟩ := z; exact ⟨z0, z1, zP, va_K.moved (u := U) (U := U.calling g mk a) (Vm.Alike.refl U.vm) zK, zD, sw.same (u := U) (U := U.calling g mk a) rfl zS, zR0.moved (u := U) (U := U.calling g mk a) (Vm.Alike.refl U.vm)⟩, so_recv ((hSW.ls p1.toNatClampNeg (by (first | (apply Int.le_antisymm <;> omega) | omega))).1) hS, fun U hU hW => ⟨rfl, by rw [hU], va_P.he hU.symm hPc, va_K.moved hW.alike hKc, hDc.weaken (fun _ _ _ _ => trivial), hSW.1.call hS hFc hW hU, ((hSW.ls p1.toNatClampNeg (by (first | (apply Int.le_antisymm <;> omega) | omega)))).call hS hFc hW hU⟩⟩ rfl rfl hl.1 rfl (lv_room (Nat.le_of_ble_eq_true rfl)) d_MD_isOf_23 ⟨(Nat.zero_le _), (Nat.zero_le _)⟩) hS (fun q _ h => hFc q h) hFc (fun r2 u t H1 locs ht hvm hw hB hz1 hk1 hS => ?_)
    try dsimp only at hw
    have xr2 := hw
    try clear hw
    have tr2 := xr2
    obtain ⟨hP1, hK1, hD1⟩ := hB
    replace hP1 := va_P.he ht hP1
    replace hP1 := @vp_nil (dC, dI) cls2 H1
    obtain ⟨hP, hD⟩ := va_join (wr := (wz_517 h0 rf tap h0_taped h0_length h0_kind h0_from h0_to h0_word h0_numeral h0_globalNames_r h0_globalPlaces_r h0_globalTypes_r h0_globalValues_r h0_globalCount h0_funs_r h0_funCount h0_open h0_signs lev h0_now h0_known_r h0_knownCount h0_loops mad h0_madeLength mag h0_smalls_r h0_greats_r h0_module_r h0_spare_r h0_m h0_cursor h0_limit blk stk h0_top hgt lab ous kis los h0_depth h0_function mem h0_pages glo val h0_valueTop ffu fre fba fla h0_frames lat lhe h0_labelTop h0_steps h0_there rsl h0_resultLength h0_reason h0_place arg h0_argumentCount h0_code tap ctap gtap lev clev glev)) (w1 := []) hP hD [] [0, 1, 2] rfl rfl (by decide) (by decide) hk1 hFc hP1 hD1
    clear hPc hDc hKc hFc hz1 hk1 hP1 hK1 hD1
    rename Heap => H
    have hP : va_P (dC, dI) cls2 (wz_517 h0 rf tap h0_taped h0_length h0_kind h0_from h0_to h0_word h0_numeral h0_globalNames_r h0_globalPlaces_r h0_globalTypes_r h0_globalValues_r h0_globalCount h0_funs_r h0_funCount h0_open h0_signs lev h0_now h0_known_r h0_knownCount h0_loops mad h0_madeLength mag h0_smalls_r h0_greats_r h0_module_r h0_spare_r h0_m h0_cursor h0_limit blk stk h0_top hgt lab ous kis los h0_depth h0_function mem h0_pages glo val h0_valueTop ffu fre fba fla h0_frames lat lhe h0_labelTop h0_steps h0_there rsl h0_resultLength h0_reason h0_place arg h0_argumentCount h0_code tap ctap gtap lev clev glev) H := hP
    have hD : va_D A (wz_517 h0 rf tap h0_taped h0_length h0_kind h0_from h0_to h0_word h0_numeral h0_globalNames_r h0_globalPlaces_r h0_globalTypes_r h0_globalValues_r h0_globalCount h0_funs_r h0_funCount h0_open h0_signs lev h0_now h0_known_r h0_knownCount h0_loops mad h0_madeLength mag h0_smalls_r h0_greats_r h0_module_r h0_spare_r h0_m h0_cursor h0_limit blk stk h0_top hgt lab ous kis los h0_depth h0_function mem h0_pages glo val h0_valueTop ffu fre fba fla h0_frames lat lhe h0_labelTop h0_steps h0_there rsl h0_resultLength h0_reason h0_place arg h0_argumentCount h0_code tap ctap gtap lev clev glev) := hD
    refine lv_icmp_ge (tgt := 139) hx hb d_MD_isOf_26 (by decide) (fun c26 => ?_) (fun c26 => ?_)
    · have q26 := leI c26
      refine lv_iconst (v := 0) hx hb d_MD_isOf_139 (by decide) ?_
      have hP9 := hP.sb (wq := (wz_517 h0 rf tap h0_taped h0_length h0_kind h0_from h0_to h0_word h0_numeral h0_globalNames_r h0_globalPlaces_r h0_globalTypes_r h0_globalValues_r h0_globalCount h0_funs_r h0_funCount h0_open h0_signs lev h0_now h0_known_r h0_knownCount h0_loops mad h0_madeLength mag h0_smalls_r h0_greats_r h0_module_r h0_spare_r h0_m h0_cursor h0_limit blk stk h0_top hgt lab ous kis los h0_depth h0_function mem h0_pages glo val h0_valueTop ffu fre fba fla h0_frames lat lhe h0_labelTop h0_steps h0_there rsl h0_resultLength h0_reason h0_place arg h0_argumentCount h0_code tap ctap gtap lev clev glev)) [0, 1, 2] rfl
      have hD9 := hD.sb (wq := (wz_517 h0 rf tap h0_taped h0_length h0_kind h0_from h0_to h0_word h0_numeral h0_globalNames_r h0_globalPlaces_r h0_globalTypes_r h0_globalValues_r h0_globalCount h0_funs_r h0_funCount h0_open h0_signs lev h0_now h0_known_r h0_knownCount h0_loops mad h0_madeLength mag h0_smalls_r h0_greats_r h0_module_r h0_spare_r h0_m h0_cursor h0_limit blk stk h0_top hgt lab ous kis los h0_depth h0_function mem h0_pages glo val h0_valueTop ffu fre fba fla h0_frames lat lhe h0_labelTop h0_steps h0_there rsl h0_resultLength h0_reason h0_place arg h0_argumentCount h0_code tap ctap gtap lev clev glev)) [0, 1, 2] (by decide) rfl
      exact W.zret (v := 0) hx hb hr (zn01 (Or.inl rfl)) (fun t ht hW => ⟨⟨0, (), rfl, ⟨Or.inl rfl, Or.inr (by decide)⟩, va_P.he ht.symm hP9, va_K.moved hW.alike hK, hD9⟩, hS.F ht⟩) hS.2.2 d_MD_isOf_140
    · have q26 := nleI c26
      refine lv_aload_n hx hb d_MD_isOf_29 rfl (lv_at hl 1 rfl) ?_
      refine lv_iload_n hx hb d_MD_isOf_30 rfl (lv_at hl 2 rfl) ?_
      have hPc := @vp_nil
      have hDc := hD.sb (wq := []) [] (by decide) rfl
      have hKc := (k2_of hK).sb (tyq := []) [] rfl
      have hFc := va_free (wc := []) hD hS hA [] rfl
      refine va_calli (va_runV (As := [.int j19_l3]) (rest := []) ⟨hx, hb, hml, hown, hts⟩ (c_JS_charAt l dC dI H.size sa ((sa (400 + p1.toNatClampNeg))) ((sa (500 + p1.toNatClampNeg))) ((litB.getD p1.toNatClampNeg [])) j19_l3 (by (first | (apply Int.le_antisymm <;> omega) | omega)) (by (first | (apply Int.le_antisymm <;> omega) | omega))) (cwV 1 hts (gV kM_MD_104 kV_JS_charAt kS_JS_charAt kI_JS kC_JS_charAt) rfl rfl rfl (by decide +kernel) ⟨Nat.le_of_ble_eq_true rfl, Nat.le_of_ble_eq_true rfl⟩) ⟨fun a U g mk z => by obtain ⟨z0, z1, zP, zK, zD, zS, zR0⟩ := z; exact ⟨z0, z1, zP, va_K.moved (u := U) (U := U.calling g mk a) (Vm.Alike.refl U.vm) zK, zD, sw.same (u := U) (U := U.calling g mk a) rfl zS, zR0.moved (u := U) (U := U.calling g mk a) (Vm.Alike.refl U.vm)⟩, so_recv ((hSW.ls p1.toNatClampNeg (by (first | (apply Int.le_antisymm <;> omega) | omega))).1) hS, fun U hU hW => ⟨rfl, by rw [hU], va_P.he hU.symm hPc, va_K.moved hW.alike hKc, hDc.weaken (fun _ _ _ _ => trivial), hSW.1.call hS hFc hW hU, ((hSW.ls p1.toNatClampNeg (by (first | (apply Int.le_antisymm <;> omega) | omega)))).call hS hFc hW hU⟩⟩ rfl rfl hl.1 rfl (lv_room (Nat.le_of_ble_eq_true rfl)) d_MD_isOf_31 ⟨(Nat.zero_le _), (Nat.zero_le _)⟩) hS (fun q _ h => hFc q h) hFc (fun r3 u t H1 locs ht hvm hw hB hz1 hk1 hS => ?_)
      try dsimp only at hw
      have xr3 := hw
      try clear hw
      have z31 := and255 ((litB.getD p1.toNatClampNeg []).getD j19_l3.toNatClampNeg 0)
      rw [← xr3] at z31
      clear xr3
      obtain ⟨hP1, hK1, hD1⟩ := hB
      replace hP1 := va_P.he ht hP1
      replace hP1 := @vp_nil (dC, dI) cls2 H1
      obtain ⟨hP, hD⟩ := va_join (wr := (wz_517 h0 rf tap h0_taped h0_length h0_kind h0_from h0_to h0_word h0_numeral h0_globalNames_r h0_globalPlaces_r h0_globalTypes_r h0_globalValues_r h0_globalCount h0_funs_r h0_funCount h0_open h0_signs lev h0_now h0_known_r h0_knownCount h0_loops mad h0_madeLength mag h0_smalls_r h0_greats_r h0_module_r h0_spare_r h0_m h0_cursor h0_limit blk stk h0_top hgt lab ous kis los h0_depth h0_function mem h0_pages glo val h0_valueTop ffu fre fba fla h0_frames lat lhe h0_labelTop h0_steps h0_there rsl h0_resultLength h0_reason h0_place arg h0_argumentCount h0_code tap ctap gtap lev clev glev)) (w1 := []) hP hD [] [0, 1, 2] rfl rfl (by decide) (by decide) hk1 hFc hP1 hD1
      clear hPc hDc hKc hFc hz1 hk1 hP1 hK1 hD1
      rename Heap => H
      have hP : va_P (dC, dI) cls2 (wz_517 h0 rf tap h0_taped h0_length h0_kind h0_from h0_to h0_word h0_numeral h0_globalNames_r h0_globalPlaces_r h0_globalTypes_r h0_globalValues_r h0_globalCount h0_funs_r h0_funCount h0_open h0_signs lev h0_now h0_known_r h0_knownCount h0_loops mad h0_madeLength mag h0_smalls_r h0_greats_r h0_module_r h0_spare_r h0_m h0_cursor h0_limit blk stk h0_top hgt lab ous kis los h0_depth h0_function mem h0_pages glo val h0_valueTop ffu fre fba fla h0_frames lat lhe h0_labelTop h0_steps h0_there rsl h0_resultLength h0_reason h0_place arg h0_argumentCount h0_code tap ctap gtap lev clev glev) H := hP
      have hD : va_D A (wz_517 h0 rf tap h0_taped h0_length h0_kind h0_from h0_to h0_word h0_numeral h0_globalNames_r h0_globalPlaces_r h0_globalTypes_r h0_globalValues_r h0_globalCount h0_funs_r h0_funCount h0_open h0_signs lev h0_now h0_known_r h0_knownCount h0_loops mad h0_madeLength mag h0_smalls_r h0_greats_r h0_module_r h0_spare_r h0_m h0_cursor h0_limit blk stk h0_top hgt lab ous kis los h0_depth h0_function mem h0_pages glo val h0_valueTop ffu fre fba fla h0_frames lat lhe h0_labelTop h0_steps h0_there rsl h0_resultLength h0_reason h0_place arg h0_argumentCount h0_code tap ctap gtap lev clev glev) := hD
      refine lv_bipush (v := 32) hx hb d_MD_isOf_34 (by decide) ?_
      refine w_cut (pc2 := 133) (σ := Unit) (fun u H locs ls => match u with | _ => va_P (dC, dI) cls2 (wz_517 h0 rf tap h0_taped h0_length h0_kind h0_from h0_to h0_word h0_numeral h0_globalNames_r h0_globalPlaces_r h0_globalTypes_r h0_globalValues_r h0_globalCount h0_funs_r h0_funCount h0_open h0_signs lev h0_now h0_known_r h0_knownCount h0_loops mad h0_madeLength mag h0_smalls_r h0_greats_r h0_module_r h0_spare_r h0_m h0_cursor h0_limit blk stk h0_top hgt lab ous kis los h0_depth h0_function mem h0_pages glo val h0_valueTop ffu fre fba fla h0_frames lat lhe h0_labelTop h0_steps h0_there rsl h0_resultLength h0_reason h0_place arg h0_argumentCount h0_code tap ctap gtap lev clev glev) H ∧ va_D A (wz_517 h0 rf tap h0_taped h0_length h0_kind h0_from h0_to h0_word h0_numeral h0_globalNames_r h0_globalPlaces_r h0_globalTypes_r h0_globalValues_r h0_globalCount h0_funs_r h0_funCount h0_open h0_signs lev h0_now h0_known_r h0_knownCount h0_loops mad h0_madeLength mag h0_smalls_r h0_greats_r h0_module_r h0_spare_r h0_m h0_cursor h0_limit blk stk h0_top hgt lab ous kis los h0_depth h0_function mem h0_pages glo val h0_valueTop ffu fre fba fla h0_frames lat lhe h0_labelTop h0_steps h0_there rsl h0_resultLength h0_reason h0_place arg h0_argumentCount h0_code tap ctap gtap lev clev glev) ∧ va_S A s.heap H locs ∧ lv_has ls 5 [(0, .ref h0), (2, .ref (sa (400 + p1.toNatClampNeg))), (3, .int j19_l3)]) (fun u => match u with | _ => []) ?_ (fun jn133 => ?_)
      · intro u H locs ls hI
        obtain ⟨hP, hD, hS, hl⟩ := hI
        obtain ⟨x4, ex4⟩ : ∃ z : Int32, z = j19_l3 + 1 := ⟨_, rfl⟩
        have tx4 : x4.toInt = j19_l3.toInt + 1 := by have z := i32_add ex4 (by (first | (apply Int.le_antisymm <;> omega) | omega)) (by (first | (apply Int.le_antisymm <;> omega) | omega)); first | exact z | (first | (apply Int.le_antisymm <;> omega) | omega)
        refine lv_iinc (v := x4) (lv' := [(3, .int x4), (0, .ref h0), (2, .ref (sa (400 + p1.toNatClampNeg)))]) hx hb d_MD_isOf_133 hl (k := 2) rfl (by rw [ex4]; rfl) (by decide) rfl (fun ls hl => ?_)
        refine lv_goto (tgt := 19) hx hb d_MD_isOf_136 (by decide) ?_
        exact ih19 x4 _ _ _ (by show (((litB.getD p1.toNatClampNeg []).length : Int) - x4.toInt).toNat < N19; (first | (apply Int.le_antisymm <;> omega) | omega)) ⟨by (try dsimp only) <;> (first | (apply Int.le_antisymm <;> omega) | omega), by (try dsimp only) <;> (first | (apply Int.le_antisymm <;> omega) | omega), hP, hD, hS, lv_sub hl [1, 2, 0] rfl⟩
      · skip
        refine lv_icmp_eq (tgt := 42) hx hb d_MD_isOf_36 (by decide) (fun c36 => ?_) (fun c36 => ?_)
        · have q36 := eqI c36
          refine lv_iconst (v := 0) hx hb d_MD_isOf_42 (by decide) ?_
          refine lv_istore (lv' := [(4, .int 0), (0, .ref h0), (2, .ref (sa (400 + p1.toNatClampNeg))), (3, .int j19_l3)]) hx hb d_MD_isOf_43 hl (by decide) rfl (fun ls hl => ?_)
          refine w_loop (σ := Int32) (fun u H locs ls => match u with | j45_l4 => (0 ≤ j45_l4.toInt ∧ j45_l4.toInt ≤ 2000) ∧ (j45_l4.toInt ≤ h0_to.toInt - h0_from.toInt ∧ j19_l3.toInt + 1 + j45_l4.toInt ≤ ((litB.getD p1.toNatClampNeg []).length : Int)) ∧ (bx (∀ j : Nat, (j : Int) < j45_l4.toInt → bn ((litB.getD p1.toNatClampNeg []).getD (j19_l3.toNatClampNeg + 1 + j) 0) = bn (gtap (h0_from.toInt.toNat + j)))) ∧ va_P (dC, dI) cls2 (wz_517 h0 rf tap h0_taped h0_length h0_kind h0_from h0_to h0_word h0_numeral h0_globalNames_r h0_globalPlaces_r h0_globalTypes_r h0_globalValues_r h0_globalCount h0_funs_r h0_funCount h0_open h0_signs lev h0_now h0_known_r h0_knownCount h0_loops mad h0_madeLength mag h0_smalls_r h0_greats_r h0_module_r h0_spare_r h0_m h0_cursor h0_limit blk stk h0_top hgt lab ous kis los h0_depth h0_function mem h0_pages glo val h0_valueTop ffu fre fba fla h0_frames lat lhe h0_labelTop h0_steps h0_there rsl h0_resultLength h0_reason h0_place arg h0_argumentCount h0_code tap ctap gtap lev clev glev) H ∧ va_D A (wz_517 h0 rf tap h0_taped h0_length h0_kind h0_from h0_to h0_word h0_numeral h0_globalNames_r h0_globalPlaces_r h0_globalTypes_r h0_globalValues_r h0_globalCount h0_funs_r h0_funCount h0_open h0_signs lev h0_now h0_known_r h0_knownCount h0_loops mad h0_madeLength mag h0_smalls_r h0_greats_r h0_module_r h0_spare_r h0_m h0_cursor h0_limit blk stk h0_top hgt lab ous kis los h0_depth h0_function mem h0_pages glo val h0_valueTop ffu fre fba fla h0_frames lat lhe h0_labelTop h0_steps h0_there rsl h0_resultLength h0_reason h0_place arg h0_argumentCount h0_code tap ctap gtap lev clev glev) ∧ va_S A s.heap H locs ∧ lv_has ls 5 [(0, .ref h0), (2, .ref (sa (400 + p1.toNatClampNeg))), (3, .int j19_l3), (4, .int j45_l4)]) (fun u => match u with | j45_l4 => (h0_to.toInt - h0_from.toInt - j45_l4.toInt).toNat) ?_ 0 ⟨by (try dsimp only) <;> (first | (apply Int.le_antisymm <;> omega) | omega), by (try dsimp only) <;> (first | (apply Int.le_antisymm <;> omega) | omega), (fun j hj => absurd hj (by rw [k0]; (first | (apply Int.le_antisymm <;> omega) | omega))), hP, hD, hS, lv_sub hl [1, 2, 3, 0] rfl⟩
          intro N45 ih45 u H locs ls hN45 hI
          obtain ⟨j45_l4, rfl⟩ : ∃ z, z = u := ⟨_, rfl⟩
          obtain ⟨b_j45_l4, v1, v2, hP, hD, hS, hl⟩ := hI
          have hN45 : (h0_to.toInt - h0_from.toInt - j45_l4.toInt).toNat < N45 + 1 := hN45
          refine lv_iload hx hb d_MD_isOf_45 (lv_at hl 3 rfl) ?_
          refine lv_aload_n hx hb d_MD_isOf_47 rfl (lv_at hl 0 rfl) ?_
          refine va_get (D := (dC, dI)) (ci := 11) (v := .int h0_to) (C := R_MD) (T := F_MD) (N := 65) hx hb hts i_MD hown hK hP 0 rfl rfl 6 (by decide) (hts _ kF_MD_23) (fun _ h9 => h9) rfl d_MD_isOf_48 ?_
          refine lv_aload_n hx hb d_MD_isOf_51 rfl (lv_at hl 0 rfl) ?_
          refine va_get (D := (dC, dI)) (ci := 11) (v := .int h0_from) (C := R_MD) (T := F_MD) (N := 65) hx hb hts i_MD hown hK hP 0 rfl rfl 5 (by decide) (hts _ kF_MD_30) (fun _ h9 => h9) rfl d_MD_isOf_52 ?_
          refine lv_isub hx hb d_MD_isOf_55 ?_
          refine lv_topi (fun x5 ex5 => ?_)
          have tx5 : x5.toInt = h0_to.toInt - h0_from.toInt := by have z := i32_sub ex5 (by (first | (apply Int.le_antisymm <;> omega) | omega)) (by (first | (apply Int.le_antisymm <;> omega) | omega)); first | exact z | (first | (apply Int.le_antisymm <;> omega) | omega)
          refine w_cut (pc2 := 102) (σ := Unit) (fun u H locs ls => match u with | _ => va_P (dC, dI) cls2 (wz_517 h0 rf tap h0_taped h0_length h0_kind h0_from h0_to h0_word h0_numeral h0_globalNames_r h0_globalPlaces_r h0_globalTypes_r h0_globalValues_r h0_globalCount h0_funs_r h0_funCount h0_open h0_signs lev h0_now h0_known_r h0_knownCount h0_loops mad h0_madeLength mag h0_smalls_r h0_greats_r h0_module_r h0_spare_r h0_m h0_cursor h0_limit blk stk h0_top hgt lab ous kis los h0_depth h0_function mem h0_pages glo val h0_valueTop ffu fre fba fla h0_frames lat lhe h0_labelTop h0_steps h0_there rsl h0_resultLength h0_reason h0_place arg h0_argumentCount h0_code tap ctap gtap lev clev glev) H ∧ va_D A (wz_517 h0 rf tap h0_taped h0_length h0_kind h0_from h0_to h0_word h0_numeral h0_globalNames_r h0_globalPlaces_r h0_globalTypes_r h0_globalValues_r h0_globalCount h0_funs_r h0_funCount h0_open h0_signs lev h0_now h0_known_r h0_knownCount h0_loops mad h0_madeLength mag h0_smalls_r h0_greats_r h0_module_r h0_spare_r h0_m h0_cursor h0_limit blk stk h0_top hgt lab ous kis los h0_depth h0_function mem h0_pages glo val h0_valueTop ffu fre fba fla h0_frames lat lhe h0_labelTop h0_steps h0_there rsl h0_resultLength h0_reason h0_place arg h0_argumentCount h0_code tap ctap gtap lev clev glev) ∧ va_S A s.heap H locs ∧ lv_has ls 5 [(0, .ref h0), (2, .ref (sa (400 + p1.toNatClampNeg))), (3, .int j19_l3), (4, .int j45_l4)]) (fun u => match u with | _ => []) ?_ (fun jn102 => ?_)
          · intro u H locs ls hI
            obtain ⟨hP, hD, hS, hl⟩ := hI
            refine lv_iload hx hb d_MD_isOf_102 (lv_at hl 3 rfl) ?_
            refine lv_aload_n hx hb d_MD_isOf_104 rfl (lv_at hl 0 rfl) ?_
            refine va_get (D := (dC, dI)) (ci := 11) (v := .int h0_to) (C := R_MD) (T := F_MD) (N := 65) hx hb hts i_MD hown hK hP 0 rfl rfl 6 (by decide) (hts _ kF_MD_23) (fun _ h9 => h9) rfl d_MD_isOf_105 ?_
            refine lv_aload_n hx hb d_MD_isOf_108 rfl (lv_at hl 0 rfl) ?_
            refine va_get (D := (dC, dI)) (ci := 11) (v := .int h0_from) (C := R_MD) (T := F_MD) (N := 65) hx hb hts i_MD hown hK hP 0 rfl rfl 5 (by decide) (hts _ kF_MD_30) (fun _ h9 => h9) rfl d_MD_isOf_109 ?_
            refine lv_isub hx hb d_MD_isOf_112 ?_
            refine lv_topi (fun x6 ex6 => ?_)
            have tx6 : x6.toInt = h0_to.toInt - h0_from.toInt := by have z := i32_sub ex6 (by (first | (apply Int.le_antisymm <;> omega) | omega)) (by (first | (apply Int.le_antisymm <;> omega) | omega)); first | exact z | (first | (apply Int.le_antisymm <;> omega) | omega)
            refine lv_icmp_ne (tgt := 133) hx hb d_MD_isOf_113 (by decide) (fun c113 => ?_) (fun c113 => ?_)
            · have q113 := neI c113
              exact jn133 () _ _ _ ⟨hP, hD, hS, lv_sub hl [0, 1, 2] rfl⟩
            · have q113 := eqI c113
              have y7 : j19_l3.toInt + 1 + j45_l4.toInt < ((litB.getD p1.toNatClampNeg []).length : Int) := by
                by_cases q : j19_l3.toInt + 1 + j45_l4.toInt = ((litB.getD p1.toNatClampNeg []).length : Int)
                · exfalso
                  have y1 := i32_clamp (x := j45_l4) (by (first | (apply Int.le_antisymm <;> omega) | omega))
                  have y5 := i32_clamp (x := j19_l3) (by (first | (apply Int.le_antisymm <;> omega) | omega))
                  have e9 := v2.out (j45_l4.toNatClampNeg - 1) (by (first | (apply Int.le_antisymm <;> omega) | omega))
                  rw [show j19_l3.toNatClampNeg + 1 + (j45_l4.toNatClampNeg - 1) = (litB.getD p1.toNatClampNeg []).length - 1 from by (first | (apply Int.le_antisymm <;> omega) | omega), zl4, show bn (32 : Int32) = 32 from by decide] at e9
                  exact l9_.out (by (first | (apply Int.le_antisymm <;> omega) | omega)) (h0_from.toInt.toNat + (j45_l4.toNatClampNeg - 1)) (by (first | (apply Int.le_antisymm <;> omega) | omega)) (by (first | (apply Int.le_antisymm <;> omega) | omega)) (by (first | (apply Int.le_antisymm <;> omega) | omega))
                · (first | (apply Int.le_antisymm <;> omega) | omega)
              refine lv_aload_n hx hb d_MD_isOf_116 rfl (lv_at hl 1 rfl) ?_
              refine lv_iload_n hx hb d_MD_isOf_117 rfl (lv_at hl 2 rfl) ?_
              refine lv_iconst (v := 1) hx hb d_MD_isOf_118 (by decide) ?_
              refine lv_iadd hx hb d_MD_isOf_119 ?_
              refine lv_topi (fun x7 ex7 => ?_)
              have tx7 : x7.toInt = j19_l3.toInt + 1 := by have z := i32_add ex7 (by (first | (apply Int.le_antisymm <;> omega) | omega)) (by (first | (apply Int.le_antisymm <;> omega) | omega)); first | exact z | (first | (apply Int.le_antisymm <;> omega) | omega)
              refine lv_iload hx hb d_MD_isOf_120 (lv_at hl 3 rfl) ?_
              refine lv_iadd hx hb d_MD_isOf_122 ?_
              refine lv_topi (fun x8 ex8 => ?_)
              have tx8 : x8.toInt = x7.toInt + j45_l4.toInt := by have z := i32_add ex8 (by (first | (apply Int.le_antisymm <;> omega) | omega)) (by (first | (apply Int.le_antisymm <;> omega) | omega)); first | exact z | (first | (apply Int.le_antisymm <;> omega) | omega)
              have hPc := @vp_nil
              have hDc := hD.sb (wq := []) [] (by decide) rfl
              have hKc := (k2_of hK).sb (tyq := []) [] rfl
              have hFc := va_free (wc := []) hD hS hA [] rfl
              refine va_calli (va_runV (As := [.int x8]) (rest := []) ⟨hx, hb, hml, hown, hts⟩ (c_JS_charAt l dC dI H.size sa ((sa (400 + p1.toNatClampNeg))) ((sa (500 + p1.toNatClampNeg))) ((litB.getD p1.toNatClampNeg [])) x8 (by (first | (apply Int.le_antisymm <;> omega) | omega)) (by (first | (apply Int.le_antisymm <;> omega) | omega))) (cwV 1 hts (gV kM_MD_104 kV_JS_charAt kS_JS_charAt kI_JS kC_JS_charAt) rfl rfl rfl (by decide +kernel) ⟨Nat.le_of_ble_eq_true rfl, Nat.le_of_ble_eq_true rfl⟩) ⟨fun a U g mk z => by obtain ⟨z0, z1, zP, zK, zD, zS, zR0⟩ := z; exact ⟨z0, z1, zP, va_K.moved (u := U) (U := U.calling g mk a) (Vm.Alike.refl U.vm) zK, zD, sw.same (u := U) (U := U.calling g mk a) rfl zS, zR0.moved (u := U) (U := U.calling g mk a) (Vm.Alike.refl U.vm)⟩, so_recv ((hSW.ls p1.toNatClampNeg (by (first | (apply Int.le_antisymm <;> omega) | omega))).1) hS, fun U hU hW => ⟨rfl, by rw [hU], va_P.he hU.symm hPc, va_K.moved hW.alike hKc, hDc.weaken (fun _ _ _ _ => trivial), hSW.1.call hS hFc hW hU, ((hSW.ls p1.toNatClampNeg (by (first | (apply Int.le_antisymm <;> omega) | omega)))).call hS hFc hW hU⟩⟩ rfl rfl hl.1 rfl (lv_room (Nat.le_of_ble_eq_true rfl)) d_MD_isOf_123 ⟨(Nat.zero_le _), (Nat.zero_le _)⟩) hS (fun q _ h => hFc q h) hFc (fun r9 u t H1 locs ht hvm hw hB hz1 hk1 hS => ?_)
              try dsimp only at hw
              have xr9 := hw
              try clear hw
              have z123 := and255 ((litB.getD p1.toNatClampNeg []).getD x8.toNatClampNeg 0)
              rw [← xr9] at z123
              clear xr9
              obtain ⟨hP1, hK1, hD1⟩ := hB
              replace hP1 := va_P.he ht hP1
              replace hP1 := @vp_nil (dC, dI) cls2 H1
              obtain ⟨hP, hD⟩ := va_join (wr := (wz_517 h0 rf tap h0_taped h0_length h0_kind h0_from h0_to h0_word h0_numeral h0_globalNames_r h0_globalPlaces_r h0_globalTypes_r h0_globalValues_r h0_globalCount h0_funs_r h0_funCount h0_open h0_signs lev h0_now h0_known_r h0_knownCount h0_loops mad h0_madeLength mag h0_smalls_r h0_greats_r h0_module_r h0_spare_r h0_m h0_cursor h0_limit blk stk h0_top hgt lab ous kis los h0_depth h0_function mem h0_pages glo val h0_valueTop ffu fre fba fla h0_frames lat lhe h0_labelTop h0_steps h0_there rsl h0_resultLength h0_reason h0_place arg h0_argumentCount h0_code tap ctap gtap lev clev glev)) (w1 := []) hP hD [] [0, 1, 2] rfl rfl (by decide) (by decide) hk1 hFc hP1 hD1
              clear hPc hDc hKc hFc hz1 hk1 hP1 hK1 hD1
              rename Heap => H
              have hP : va_P (dC, dI) cls2 (wz_517 h0 rf tap h0_taped h0_length h0_kind h0_from h0_to h0_word h0_numeral h0_globalNames_r h0_globalPlaces_r h0_globalTypes_r h0_globalValues_r h0_globalCount h0_funs_r h0_funCount h0_open h0_signs lev h0_now h0_known_r h0_knownCount h0_loops mad h0_madeLength mag h0_smalls_r h0_greats_r h0_module_r h0_spare_r h0_m h0_cursor h0_limit blk stk h0_top hgt lab ous kis los h0_depth h0_function mem h0_pages glo val h0_valueTop ffu fre fba fla h0_frames lat lhe h0_labelTop h0_steps h0_there rsl h0_resultLength h0_reason h0_place arg h0_argumentCount h0_code tap ctap gtap lev clev glev) H := hP
              have hD : va_D A (wz_517 h0 rf tap h0_taped h0_length h0_kind h0_from h0_to h0_word h0_numeral h0_globalNames_r h0_globalPlaces_r h0_globalTypes_r h0_globalValues_r h0_globalCount h0_funs_r h0_funCount h0_open h0_signs lev h0_now h0_known_r h0_knownCount h0_loops mad h0_madeLength mag h0_smalls_r h0_greats_r h0_module_r h0_spare_r h0_m h0_cursor h0_limit blk stk h0_top hgt lab ous kis los h0_depth h0_function mem h0_pages glo val h0_valueTop ffu fre fba fla h0_frames lat lhe h0_labelTop h0_steps h0_there rsl h0_resultLength h0_reason h0_place arg h0_argumentCount h0_code tap ctap gtap lev clev glev) := hD
              refine lv_bipush (v := 32) hx hb d_MD_isOf_126 (by decide) ?_
              refine lv_icmp_ne (tgt := 133) hx hb d_MD_isOf_128 (by decide) (fun c128 => ?_) (fun c128 => ?_)
              · have q128 := neI c128
                exact jn133 () _ _ _ ⟨hP, hD, hS, lv_sub hl [0, 1, 2] rfl⟩
              · have q128 := eqI c128
                refine lv_iconst (v := 1) hx hb d_MD_isOf_131 (by decide) ?_
                have hP9 := hP.sb (wq := (wz_517 h0 rf tap h0_taped h0_length h0_kind h0_from h0_to h0_word h0_numeral h0_globalNames_r h0_globalPlaces_r h0_globalTypes_r h0_globalValues_r h0_globalCount h0_funs_r h0_funCount h0_open h0_signs lev h0_now h0_known_r h0_knownCount h0_loops mad h0_madeLength mag h0_smalls_r h0_greats_r h0_module_r h0_spare_r h0_m h0_cursor h0_limit blk stk h0_top hgt lab ous kis los h0_depth h0_function mem h0_pages glo val h0_valueTop ffu fre fba fla h0_frames lat lhe h0_labelTop h0_steps h0_there rsl h0_resultLength h0_reason h0_place arg h0_argumentCount h0_code tap ctap gtap lev clev glev)) [0, 1, 2] rfl
                have hD9 := hD.sb (wq := (wz_517 h0 rf tap h0_taped h0_length h0_kind h0_from h0_to h0_word h0_numeral h0_globalNames_r h0_globalPlaces_r h0_globalTypes_r h0_globalValues_r h0_globalCount h0_funs_r h0_funCount h0_open h0_signs lev h0_now h0_known_r h0_knownCount h0_loops mad h0_madeLength mag h0_smalls_r h0_greats_r h0_module_r h0_spare_r h0_m h0_cursor h0_limit blk stk h0_top hgt lab ous kis los h0_depth h0_function mem h0_pages glo val h0_valueTop ffu fre fba fla h0_frames lat lhe h0_labelTop h0_steps h0_there rsl h0_resultLength h0_reason h0_place arg h0_argumentCount h0_code tap ctap gtap lev clev glev)) [0, 1, 2] (by decide) rfl
                exact W.zret (v := 1) hx hb hr (zn01 (Or.inr rfl)) (fun t ht hW => ⟨⟨1, (), rfl, ⟨Or.inr rfl, Or.inl ⟨by decide, by (first | (apply Int.le_antisymm <;> omega) | omega), j19_l3.toNatClampNeg, by rw [show j19_l3.toNatClampNeg = j19_l3.toNatClampNeg from rfl]; (first | (apply Int.le_antisymm <;> omega) | omega), fun j hj => v2.out j (by (first | (apply Int.le_antisymm <;> omega) | omega)), (by have y3 := i32_clamp (x := x8) (by (first | (apply Int.le_antisymm <;> omega) | omega)); have y5 := i32_clamp (x := j19_l3) (by (first | (apply Int.le_antisymm <;> omega) | omega)); rw [show j19_l3.toNatClampNeg + 1 + (h0_to.toInt - h0_from.toInt).toNat = x8.toNatClampNeg from by (first | (apply Int.le_antisymm <;> omega) | omega)]; (first | (apply Int.le_antisymm <;> omega) | omega)), by have y5 := i32_clamp (x := j19_l3) (by (first | (apply Int.le_antisymm <;> omega) | omega)); (first | (apply Int.le_antisymm <;> omega) | omega)⟩⟩, va_P.he ht.symm hP9, va_K.moved hW.alike hK, hD9⟩, hS.F ht⟩) hS.2.2 d_MD_isOf_132
          · skip
            refine lv_icmp_ge (tgt := 102) hx hb d_MD_isOf_56 (by decide) (fun c56 => ?_) (fun c56 => ?_)
            · have q56 := leI c56
              exact jn102 () _ _ _ ⟨hP, hD, hS, lv_sub hl [0, 1, 2, 3] rfl⟩
            · have q56 := nleI c56
              refine lv_iload_n hx hb d_MD_isOf_59 rfl (lv_at hl 2 rfl) ?_
              refine lv_iconst (v := 1) hx hb d_MD_isOf_60 (by decide) ?_
              refine lv_iadd hx hb d_MD_isOf_61 ?_
              refine lv_topi (fun x10 ex10 => ?_)
              have tx10 : x10.toInt = j19_l3.toInt + 1 := by have z := i32_add ex10 (by (first | (apply Int.le_antisymm <;> omega) | omega)) (by (first | (apply Int.le_antisymm <;> omega) | omega)); first | exact z | (first | (apply Int.le_antisymm <;> omega) | omega)
              refine lv_iload hx hb d_MD_isOf_62 (lv_at hl 3 rfl) ?_
              refine lv_iadd hx hb d_MD_isOf_64 ?_
              refine lv_topi (fun x11 ex11 => ?_)
              have tx11 : x11.toInt = x10.toInt + j45_l4.toInt := by have z := i32_add ex11 (by (first | (apply Int.le_antisymm <;> omega) | omega)) (by (first | (apply Int.le_antisymm <;> omega) | omega)); first | exact z | (first | (apply Int.le_antisymm <;> omega) | omega)
              refine lv_aload_n hx hb d_MD_isOf_65 rfl (lv_at hl 1 rfl) ?_
              have hPc := @vp_nil
              have hDc := hD.sb (wq := []) [] (by decide) rfl
              have hKc := (k2_of hK).sb (tyq := []) [] rfl
              have hFc := va_free (wc := []) hD hS hA [] rfl
              refine va_calli (va_runV (As := []) (rest := [.int x11]) ⟨hx, hb, hml, hown, hts⟩ (c_JS_length l dC dI H.size sa ((sa (400 + p1.toNatClampNeg))) ((sa (500 + p1.toNatClampNeg))) ((litB.getD p1.toNatClampNeg [])) (by (first | (apply Int.le_antisymm <;> omega) | omega))) (cwV 0 hts (gV kM_MD_72 kV_JS_length kS_JS_length kI_JS kC_JS_length) rfl rfl rfl (by decide +kernel) ⟨Nat.le_of_ble_eq_true rfl, Nat.le_of_ble_eq_true rfl⟩) ⟨fun a U g mk z => by obtain ⟨z0, z1, zP, zK, zD, zS, zR0⟩ := z; exact ⟨z0, z1, zP, va_K.moved (u := U) (U := U.calling g mk a) (Vm.Alike.refl U.vm) zK, zD, sw.same (u := U) (U := U.calling g mk a) rfl zS, zR0.moved (u := U) (U := U.calling g mk a) (Vm.Alike.refl U.vm)⟩, so_recv ((hSW.ls p1.toNatClampNeg (by (first | (apply Int.le_antisymm <;> omega) | omega))).1) hS, fun U hU hW => ⟨rfl, by rw [hU], va_P.he hU.symm hPc, va_K.moved hW.alike hKc, hDc.weaken (fun _ _ _ _ => trivial), hSW.1.call hS hFc hW hU, ((hSW.ls p1.toNatClampNeg (by (first | (apply Int.le_antisymm <;> omega) | omega)))).call hS hFc hW hU⟩⟩ rfl rfl hl.1 rfl (lv_room (Nat.le_of_ble_eq_true rfl)) d_MD_isOf_66 ⟨(Nat.zero_le _), (Nat.zero_le _)⟩) hS (fun q _ h => hFc q h) hFc (fun r12 u t H1 locs ht hvm hw hB hz1 hk1 hS => ?_)
              try dsimp only at hw
              have xr12 := hw
              try clear hw
              have tr12 := xr12
              obtain ⟨hP1, hK1, hD1⟩ := hB
              replace hP1 := va_P.he ht hP1
              replace hP1 := @vp_nil (dC, dI) cls2 H1
              obtain ⟨hP, hD⟩ := va_join (wr := (wz_517 h0 rf tap h0_taped h0_length h0_kind h0_from h0_to h0_word h0_numeral h0_globalNames_r h0_globalPlaces_r h0_globalTypes_r h0_globalValues_r h0_globalCount h0_funs_r h0_funCount h0_open h0_signs lev h0_now h0_known_r h0_knownCount h0_loops mad h0_madeLength mag h0_smalls_r h0_greats_r h0_module_r h0_spare_r h0_m h0_cursor h0_limit blk stk h0_top hgt lab ous kis los h0_depth h0_function mem h0_pages glo val h0_valueTop ffu fre fba fla h0_frames lat lhe h0_labelTop h0_steps h0_there rsl h0_resultLength h0_reason h0_place arg h0_argumentCount h0_code tap ctap gtap lev clev glev)) (w1 := []) hP hD [] [0, 1, 2] rfl rfl (by decide) (by decide) hk1 hFc hP1 hD1
              clear hPc hDc hKc hFc hz1 hk1 hP1 hK1 hD1
              rename Heap => H
              have hP : va_P (dC, dI) cls2 (wz_517 h0 rf tap h0_taped h0_length h0_kind h0_from h0_to h0_word h0_numeral h0_globalNames_r h0_globalPlaces_r h0_globalTypes_r h0_globalValues_r h0_globalCount h0_funs_r h0_funCount h0_open h0_signs lev h0_now h0_known_r h0_knownCount h0_loops mad h0_madeLength mag h0_smalls_r h0_greats_r h0_module_r h0_spare_r h0_m h0_cursor h0_limit blk stk h0_top hgt lab ous kis los h0_depth h0_function mem h0_pages glo val h0_valueTop ffu fre fba fla h0_frames lat lhe h0_labelTop h0_steps h0_there rsl h0_resultLength h0_reason h0_place arg h0_argumentCount h0_code tap ctap gtap lev clev glev) H := hP
              have hD : va_D A (wz_517 h0 rf tap h0_taped h0_length h0_kind h0_from h0_to h0_word h0_numeral h0_globalNames_r h0_globalPlaces_r h0_globalTypes_r h0_globalValues_r h0_globalCount h0_funs_r h0_funCount h0_open h0_signs lev h0_now h0_known_r h0_knownCount h0_loops mad h0_madeLength mag h0_smalls_r h0_greats_r h0_module_r h0_spare_r h0_m h0_cursor h0_limit blk stk h0_top hgt lab ous kis los h0_depth h0_function mem h0_pages glo val h0_valueTop ffu fre fba fla h0_frames lat lhe h0_labelTop h0_steps h0_there rsl h0_resultLength h0_reason h0_place arg h0_argumentCount h0_code tap ctap gtap lev clev glev) := hD
              refine lv_icmp_ge (tgt := 102) hx hb d_MD_isOf_69 (by decide) (fun c69 => ?_) (fun c69 => ?_)
              · have q69 := leI c69
                exact jn102 () _ _ _ ⟨hP, hD, hS, lv_sub hl [0, 1, 2, 3] rfl⟩
              · have q69 := nleI c69
                refine lv_aload_n hx hb d_MD_isOf_72 rfl (lv_at hl 1 rfl) ?_
                refine lv_iload_n hx hb d_MD_isOf_73 rfl (lv_at hl 2 rfl) ?_
                refine lv_iconst (v := 1) hx hb d_MD_isOf_74 (by decide) ?_
                refine lv_iadd hx hb d_MD_isOf_75 ?_
                refine lv_topi (fun x13 ex13 => ?_)
                have tx13 : x13.toInt = j19_l3.toInt + 1 := by have z := i32_add ex13 (by (first | (apply Int.le_antisymm <;> omega) | omega)) (by (first | (apply Int.le_antisymm <;> omega) | omega)); first | exact z | (first | (apply Int.le_antisymm <;> omega) | omega)
                refine lv_iload hx hb d_MD_isOf_76 (lv_at hl 3 rfl) ?_
                refine lv_iadd hx hb d_MD_isOf_78 ?_
                refine lv_topi (fun x14 ex14 => ?_)
                have tx14 : x14.toInt = x13.toInt + j45_l4.toInt := by have z := i32_add ex14 (by (first | (apply Int.le_antisymm <;> omega) | omega)) (by (first | (apply Int.le_antisymm <;> omega) | omega)); first | exact z | (first | (apply Int.le_antisymm <;> omega) | omega)
                have hPc := @vp_nil
                have hDc := hD.sb (wq := []) [] (by decide) rfl
                have hKc := (k2_of hK).sb (tyq := []) [] rfl
                have hFc := va_free (wc := []) hD hS hA [] rfl
                refine va_calli (va_runV (As := [.int x14]) (rest := []) ⟨hx, hb, hml, hown, hts⟩ (c_JS_charAt l dC dI H.size sa ((sa (400 + p1.toNatClampNeg))) ((sa (500 + p1.toNatClampNeg))) ((litB.getD p1.toNatClampNeg [])) x14 (by (first | (apply Int.le_antisymm <;> omega) | omega)) (by (first | (apply Int.le_antisymm <;> omega) | omega))) (cwV 1 hts (gV kM_MD_104 kV_JS_charAt kS_JS_charAt kI_JS kC_JS_charAt) rfl rfl rfl (by decide +kernel) ⟨Nat.le_of_ble_eq_true rfl, Nat.le_of_ble_eq_true rfl⟩) ⟨fun a U g mk z => by obtain ⟨z0, z1, zP, zK, zD, zS, zR0⟩ := z; exact ⟨z0, z1, zP, va_K.moved (u := U) (U := U.calling g mk a) (Vm.Alike.refl U.vm) zK, zD, sw.same (u := U) (U := U.calling g mk a) rfl zS, zR0.moved (u := U) (U := U.calling g mk a) (Vm.Alike.refl U.vm)⟩, so_recv ((hSW.ls p1.toNatClampNeg (by (first | (apply Int.le_antisymm <;> omega) | omega))).1) hS, fun U hU hW => ⟨rfl, by rw [hU], va_P.he hU.symm hPc, va_K.moved hW.alike hKc, hDc.weaken (fun _ _ _ _ => trivial), hSW.1.call hS hFc hW hU, ((hSW.ls p1.toNatClampNeg (by (first | (apply Int.le_antisymm <;> omega) | omega)))).call hS hFc hW hU⟩⟩ rfl rfl hl.1 rfl (lv_room (Nat.le_of_ble_eq_true rfl)) d_MD_isOf_79 ⟨(Nat.zero_le _), (Nat.zero_le _)⟩) hS (fun q _ h => hFc q h) hFc (fun r15 u t H1 locs ht hvm hw hB hz1 hk1 hS => ?_)
                try dsimp only at hw
                have xr15 := hw
                try clear hw
                have z79 := and255 ((litB.getD p1.toNatClampNeg []).getD x14.toNatClampNeg 0)
                rw [← xr15] at z79
                clear xr15
                obtain ⟨hP1, hK1, hD1⟩ := hB
                replace hP1 := va_P.he ht hP1
                replace hP1 := @vp_nil (dC, dI) cls2 H1
                obtain ⟨hP, hD⟩ := va_join (wr := (wz_517 h0 rf tap h0_taped h0_length h0_kind h0_from h0_to h0_word h0_numeral h0_globalNames_r h0_globalPlaces_r h0_globalTypes_r h0_globalValues_r h0_globalCount h0_funs_r h0_funCount h0_open h0_signs lev h0_now h0_known_r h0_knownCount h0_loops mad h0_madeLength mag h0_smalls_r h0_greats_r h0_module_r h0_spare_r h0_m h0_cursor h0_limit blk stk h0_top hgt lab ous kis los h0_depth h0_function mem h0_pages glo val h0_valueTop ffu fre fba fla h0_frames lat lhe h0_labelTop h0_steps h0_there rsl h0_resultLength h0_reason h0_place arg h0_argumentCount h0_code tap ctap gtap lev clev glev)) (w1 := []) hP hD [] [0, 1, 2] rfl rfl (by decide) (by decide) hk1 hFc hP1 hD1
                clear hPc hDc hKc hFc hz1 hk1 hP1 hK1 hD1
                rename Heap => H
                have hP : va_P (dC, dI) cls2 (wz_517 h0 rf tap h0_taped h0_length h0_kind h0_from h0_to h0_word h0_numeral h0_globalNames_r h0_globalPlaces_r h0_globalTypes_r h0_globalValues_r h0_globalCount h0_funs_r h0_funCount h0_open h0_signs lev h0_now h0_known_r h0_knownCount h0_loops mad h0_madeLength mag h0_smalls_r h0_greats_r h0_module_r h0_spare_r h0_m h0_cursor h0_limit blk stk h0_top hgt lab ous kis los h0_depth h0_function mem h0_pages glo val h0_valueTop ffu fre fba fla h0_frames lat lhe h0_labelTop h0_steps h0_there rsl h0_resultLength h0_reason h0_place arg h0_argumentCount h0_code tap ctap gtap lev clev glev) H := hP
                have hD : va_D A (wz_517 h0 rf tap h0_taped h0_length h0_kind h0_from h0_to h0_word h0_numeral h0_globalNames_r h0_globalPlaces_r h0_globalTypes_r h0_globalValues_r h0_globalCount h0_funs_r h0_funCount h0_open h0_signs lev h0_now h0_known_r h0_knownCount h0_loops mad h0_madeLength mag h0_smalls_r h0_greats_r h0_module_r h0_spare_r h0_m h0_cursor h0_limit blk stk h0_top hgt lab ous kis los h0_depth h0_function mem h0_pages glo val h0_valueTop ffu fre fba fla h0_frames lat lhe h0_labelTop h0_steps h0_there rsl h0_resultLength h0_reason h0_place arg h0_argumentCount h0_code tap ctap gtap lev clev glev) := hD
                refine lv_aload_n hx hb d_MD_isOf_82 rfl (lv_at hl 0 rfl) ?_
                refine lv_aload_n hx hb d_MD_isOf_83 rfl (lv_at hl 0 rfl) ?_
                refine va_get (D := (dC, dI)) (ci := 11) (v := .int h0_from) (C := R_MD) (T := F_MD) (N := 65) hx hb hts i_MD hown hK hP 0 rfl rfl 5 (by decide) (hts _ kF_MD_30) (fun _ h9 => h9) rfl d_MD_isOf_84 ?_
                refine lv_iload hx hb d_MD_isOf_87 (lv_at hl 3 rfl) ?_
                refine lv_iadd hx hb d_MD_isOf_89 ?_
                refine lv_topi (fun x16 ex16 => ?_)
                have tx16 : x16.toInt = h0_from.toInt + j45_l4.toInt := by have z := i32_add ex16 (by (first | (apply Int.le_antisymm <;> omega) | omega)) (by (first | (apply Int.le_antisymm <;> omega) | omega)); first | exact z | (first | (apply Int.le_antisymm <;> omega) | omega)
                have hPc := hP.sb (wq := (wz_307 h0 rf tap h0_taped h0_length h0_kind h0_from h0_to h0_word h0_numeral h0_globalNames_r h0_globalPlaces_r h0_globalTypes_r h0_globalValues_r h0_globalCount h0_funs_r h0_funCount h0_open h0_signs lev h0_now h0_known_r h0_knownCount h0_loops mad h0_madeLength mag h0_smalls_r h0_greats_r h0_module_r h0_spare_r h0_m h0_cursor h0_limit blk stk h0_top hgt lab ous kis los h0_depth h0_function mem h0_pages glo val h0_valueTop ffu fre fba fla h0_frames lat lhe h0_labelTop h0_steps h0_there rsl h0_resultLength h0_reason h0_place arg h0_argumentCount h0_code tap ctap gtap)) [0, 1] rfl
                have hDc := hD.sb (wq := (wz_307 h0 rf tap h0_taped h0_length h0_kind h0_from h0_to h0_word h0_numeral h0_globalNames_r h0_globalPlaces_r h0_globalTypes_r h0_globalValues_r h0_globalCount h0_funs_r h0_funCount h0_open h0_signs lev h0_now h0_known_r h0_knownCount h0_loops mad h0_madeLength mag h0_smalls_r h0_greats_r h0_module_r h0_spare_r h0_m h0_cursor h0_limit blk stk h0_top hgt lab ous kis los h0_depth h0_function mem h0_pages glo val h0_valueTop ffu fre fba fla h0_frames lat lhe h0_labelTop h0_steps h0_there rsl h0_resultLength h0_reason h0_place arg h0_argumentCount h0_code tap ctap gtap)) [0, 1] (by decide) rfl
                have hKc := hK.sb (tyq := [(ctap, .byte)]) [0] rfl
                have hFc := va_free (wc := (wz_307 h0 rf tap h0_taped h0_length h0_kind h0_from h0_to h0_word h0_numeral h0_globalNames_r h0_globalPlaces_r h0_globalTypes_r h0_globalValues_r h0_globalCount h0_funs_r h0_funCount h0_open h0_signs lev h0_now h0_known_r h0_knownCount h0_loops mad h0_madeLength mag h0_smalls_r h0_greats_r h0_module_r h0_spare_r h0_m h0_cursor h0_limit blk stk h0_top hgt lab ous kis los h0_depth h0_function mem h0_pages glo val h0_valueTop ffu fre fba fla h0_frames lat lhe h0_labelTop h0_steps h0_there rsl h0_resultLength h0_reason h0_place arg h0_argumentCount h0_code tap ctap gtap)) hD hS hA [0, 1] rfl
                refine va_calli (va_runV (As := [.int x16]) (rest := [.int r15]) ⟨hx, hb, hml, hown, hts⟩ (c_MD_at l dC dI H.size h0 rf tap h0_globalNames_r h0_globalPlaces_r h0_globalTypes_r h0_globalValues_r h0_funs_r lev h0_known_r mad mag h0_smalls_r h0_greats_r h0_module_r h0_spare_r blk stk hgt lab ous kis los mem glo val ffu fre fba fla lat lhe rsl arg ctap h0_taped h0_length h0_kind h0_from h0_to h0_word h0_numeral h0_globalCount h0_funCount h0_open h0_signs h0_now h0_knownCount h0_loops h0_madeLength h0_m h0_cursor h0_limit h0_top h0_depth h0_function h0_pages h0_valueTop h0_frames h0_labelTop h0_steps h0_there h0_resultLength h0_reason h0_place h0_argumentCount h0_code gtap (b_h0_length) x16 (by (try dsimp only) <;> (first | (apply Int.le_antisymm <;> omega) | omega))) (cwV 1 hts (gV kM_MD_26 kV_MD_at kS_MD_at kI_MD kC_MD_at) rfl rfl rfl (by decide +kernel) ⟨Nat.le_of_ble_eq_true rfl, Nat.le_of_ble_eq_true rfl⟩) ⟨fun a U g mk z => by obtain ⟨z0, z1, zP, zK, zD, zS⟩ := z; exact ⟨z0, z1, zP, va_K.moved (u := U) (U := U.calling g mk a) (Vm.Alike.refl U.vm) zK, zD, sw_nest.same (s := U) (U := U.calling g mk a) rfl zS⟩, va_recv hKc hPc (ci := 11) (q0 := 0) rfl rfl, fun U hU hW => ⟨rfl, by rw [hU], va_P.he hU.symm hPc, va_K.moved hW.alike hKc, hDc.weaken (fun _ _ _ _ => trivial), hSW.nest.warm hW⟩⟩ rfl rfl hl.1 rfl (lv_room (Nat.le_of_ble_eq_true rfl)) d_MD_isOf_90 ⟨(Nat.zero_le _), (Nat.zero_le _)⟩) hS (fun q _ h => hFc q h) hFc (fun r17 u t H1 locs ht hvm hw hB hz1 hk1 hS => ?_)
                try dsimp only at hw
                have xr17 := hw
                try clear hw
                obtain ⟨a1, a2, a3, a4⟩ := xr17
                obtain ⟨hP1, hK1, hD1⟩ := hB
                replace hP1 := va_P.he ht hP1
                obtain ⟨hP, hD⟩ := va_join (wr := [(lev, .inl (clev, 7, .inr (.inr (.inr (.inr glev)))))]) (w1 := (wz_307 h0 rf tap h0_taped h0_length h0_kind h0_from h0_to h0_word h0_numeral h0_globalNames_r h0_globalPlaces_r h0_globalTypes_r h0_globalValues_r h0_globalCount h0_funs_r h0_funCount h0_open h0_signs lev h0_now h0_known_r h0_knownCount h0_loops mad h0_madeLength mag h0_smalls_r h0_greats_r h0_module_r h0_spare_r h0_m h0_cursor h0_limit blk stk h0_top hgt lab ous kis los h0_depth h0_function mem h0_pages glo val h0_valueTop ffu fre fba fla h0_frames lat lhe h0_labelTop h0_steps h0_there rsl h0_resultLength h0_reason h0_place arg h0_argumentCount h0_code tap ctap gtap)) hP hD [0, 1] [2] rfl rfl (by decide) (by decide) hk1 hFc hP1 hD1
                clear hPc hDc hKc hFc hz1 hk1 hP1 hK1 hD1
                rename Heap => H
                have hP : va_P (dC, dI) cls2 [(lev, .inl (clev, 7, .inr (.inr (.inr (.inr glev))))), (h0, .inr (11, (.ref rf :: .ref tap :: .int h0_taped :: .int h0_length :: .int h0_kind :: .int h0_from :: .int h0_to :: h0_word :: .long h0_numeral :: .ref h0_globalNames_r :: .ref h0_globalPlaces_r :: .ref h0_globalTypes_r :: .ref h0_globalValues_r :: .int h0_globalCount :: .ref h0_funs_r :: .int h0_funCount :: .int h0_open :: .int h0_signs :: .ref lev :: h0_now :: .ref h0_known_r :: .int h0_knownCount :: .int h0_loops :: .ref mad :: .int h0_madeLength :: .ref mag :: .ref h0_smalls_r :: .ref h0_greats_r :: .ref h0_module_r :: .ref h0_spare_r :: h0_m :: .int h0_cursor :: .int h0_limit :: [ .ref blk, .ref stk, .int h0_top, .ref hgt, .ref lab, .ref ous, .ref kis, .ref los, .int h0_depth, .int h0_function, .ref mem, .int h0_pages, .ref glo, .ref val, .int h0_valueTop, .ref ffu, .ref fre, .ref fba, .ref fla, .int h0_frames, .ref lat, .ref lhe, .int h0_labelTop, .int h0_steps, .int h0_there, .ref rsl, .int h0_resultLength, .int h0_reason, .int h0_place, .ref arg, .int h0_argumentCount, .int h0_code]))), (tap, .inl (ctap, 2000, .inl gtap))] H := hP
                have hD : va_D A [(lev, .inl (clev, 7, .inr (.inr (.inr (.inr glev))))), (h0, .inr (11, (.ref rf :: .ref tap :: .int h0_taped :: .int h0_length :: .int h0_kind :: .int h0_from :: .int h0_to :: h0_word :: .long h0_numeral :: .ref h0_globalNames_r :: .ref h0_globalPlaces_r :: .ref h0_globalTypes_r :: .ref h0_globalValues_r :: .int h0_globalCount :: .ref h0_funs_r :: .int h0_funCount :: .int h0_open :: .int h0_signs :: .ref lev :: h0_now :: .ref h0_known_r :: .int h0_knownCount :: .int h0_loops :: .ref mad :: .int h0_madeLength :: .ref mag :: .ref h0_smalls_r :: .ref h0_greats_r :: .ref h0_module_r :: .ref h0_spare_r :: h0_m :: .int h0_cursor :: .int h0_limit :: [ .ref blk, .ref stk, .int h0_top, .ref hgt, .ref lab, .ref ous, .ref kis, .ref los, .int h0_depth, .int h0_function, .ref mem, .int h0_pages, .ref glo, .ref val, .int h0_valueTop, .ref ffu, .ref fre, .ref fba, .ref fla, .int h0_frames, .ref lat, .ref lhe, .int h0_labelTop, .int h0_steps, .int h0_there, .ref rsl, .int h0_resultLength, .int h0_reason, .int h0_place, .ref arg, .int h0_argumentCount, .int h0_code]))), (tap, .inl (ctap, 2000, .inl gtap))] := hD
                refine lv_icmp_ne (tgt := 102) hx hb d_MD_isOf_93 (by decide) (fun c93 => ?_) (fun c93 => ?_)
                · have q93 := neI c93
                  exact jn102 () _ _ _ ⟨hP.sub [1, 2, 0] rfl, hD.sub [1, 2, 0] (by decide) rfl, hS, lv_sub hl [0, 1, 2, 3] rfl⟩
                · have q93 := eqI c93
                  obtain ⟨x18, ex18⟩ : ∃ z : Int32, z = j45_l4 + 1 := ⟨_, rfl⟩
                  have tx18 : x18.toInt = j45_l4.toInt + 1 := by have z := i32_add ex18 (by (first | (apply Int.le_antisymm <;> omega) | omega)) (by (first | (apply Int.le_antisymm <;> omega) | omega)); first | exact z | (first | (apply Int.le_antisymm <;> omega) | omega)
                  refine lv_iinc (v := x18) (lv' := [(4, .int x18), (0, .ref h0), (2, .ref (sa (400 + p1.toNatClampNeg))), (3, .int j19_l3)]) hx hb d_MD_isOf_96 hl (k := 3) rfl (by rw [ex18]; rfl) (by decide) rfl (fun ls hl => ?_)
                  refine lv_goto (tgt := 45) hx hb d_MD_isOf_99 (by decide) ?_
                  exact ih45 x18 _ _ _ (by show (h0_to.toInt - h0_from.toInt - x18.toInt).toNat < N45; (first | (apply Int.le_antisymm <;> omega) | omega)) ⟨by (try dsimp only) <;> (first | (apply Int.le_antisymm <;> omega) | omega), by (try dsimp only) <;> (first | (apply Int.le_antisymm <;> omega) | omega), (fun j hj => by by_cases q : (j : Int) < j45_l4.toInt; (exact v2.out j q); (have y1 := i32_clamp (x := j45_l4) (by (first | (apply Int.le_antisymm <;> omega) | omega)); have y2 := i32_clamp (x := h0_from) (by (first | (apply Int.le_antisymm <;> omega) | omega)); have y3 := i32_clamp (x := x14) (by (first | (apply Int.le_antisymm <;> omega) | omega)); have y4 := i32_clamp (x := x16) (by (first | (apply Int.le_antisymm <;> omega) | omega)); have y5 := i32_clamp (x := j19_l3) (by (first | (apply Int.le_antisymm <;> omega) | omega)); have e9 := a1 (by (first | (apply Int.le_antisymm <;> omega) | omega)); rw [show j19_l3.toNatClampNeg + 1 + j = x14.toNatClampNeg from by (first | (apply Int.le_antisymm <;> omega) | omega), show h0_from.toInt.toNat + j = x16.toNatClampNeg from by (first | (apply Int.le_antisymm <;> omega) | omega)]; (first | (apply Int.le_antisymm <;> omega) | omega))), hP.sub [1, 2, 0] rfl, hD.sub [1, 2, 0] (by decide) rfl, hS, lv_sub hl [1, 2, 3, 0] rfl⟩
        · have q36 := neI c36
          refine lv_goto (tgt := 133) hx hb d_MD_isOf_39 (by decide) ?_
          exact jn133 () _ _ _ ⟨hP, hD, hS, lv_sub hl [0, 1, 2] rfl⟩
  · have q5 := neI c5
    refine lv_iconst (v := 0) hx hb d_MD_isOf_8 (by decide) ?_
    have hP9 := hP.sb (wq := (wz_517 h0 rf tap h0_taped h0_length h0_kind h0_from h0_to h0_word h0_numeral h0_globalNames_r h0_globalPlaces_r h0_globalTypes_r h0_globalValues_r h0_globalCount h0_funs_r h0_funCount h0_open h0_signs lev h0_now h0_known_r h0_knownCount h0_loops mad h0_madeLength mag h0_smalls_r h0_greats_r h0_module_r h0_spare_r h0_m h0_cursor h0_limit blk stk h0_top hgt lab ous kis los h0_depth h0_function mem h0_pages glo val h0_valueTop ffu fre fba fla h0_frames lat lhe h0_labelTop h0_steps h0_there rsl h0_resultLength h0_reason h0_place arg h0_argumentCount h0_code tap ctap gtap lev clev glev)) [0, 1, 2] rfl
    have hD9 := hD.sb (wq := (wz_517 h0 rf tap h0_taped h0_length h0_kind h0_from h0_to h0_word h0_numeral h0_globalNames_r h0_globalPlaces_r h0_globalTypes_r h0_globalValues_r h0_globalCount h0_funs_r h0_funCount h0_open h0_signs lev h0_now h0_known_r h0_knownCount h0_loops mad h0_madeLength mag h0_smalls_r h0_greats_r h0_module_r h0_spare_r h0_m h0_cursor h0_limit blk stk h0_top hgt lab ous kis los h0_depth h0_function mem h0_pages glo val h0_valueTop ffu fre fba fla h0_frames lat lhe h0_labelTop h0_steps h0_there rsl h0_resultLength h0_reason h0_place arg h0_argumentCount h0_code tap ctap gtap lev clev glev)) [0, 1, 2] (by decide) rfl
    exact W.zret (v := 0) hx hb hr (zn01 (Or.inl rfl)) (fun t ht hW => ⟨⟨0, (), rfl, ⟨Or.inl rfl, Or.inr (by decide)⟩, va_P.he ht.symm hP9, va_K.moved hW.alike hK, hD9⟩, hS.F ht⟩) hS.2.2 d_MD_isOf_9
end q_n02

section q_n16
/-! the reference: a program -/
/-- the functions that were read -/
def fns9 (cps cr cpn cpb : ClassId) (L0 L : List Nat) (f : Nat → va_E) (n : Int) (g : Nat → Option Nat) (C : Int) : Prop := ∃ (fa : Nat → Nat) (kf : Nat → Int) (Kf : Nat → Nat → Prop), (∀ j : Nat, (j : Int) < n → g j = some (fa j) ∧ 0 ≤ kf j ∧ fun9 L f cps cr cpn cpb (fa j) (kf j) (Kf j) ∧ ∀ x, Kf j x → x ∈ L ∧ x ∉ L0) ∧ (∀ (i j x : Nat), (i : Int) < n → (j : Int) < n → Kf i x → Kf j x → i = j) ∧ ksum kf n.toNat ≤ C
theorem fns_0 {cps cr cpn cpb : ClassId} {L0 L : List Nat} {f : Nat → va_E} {g : Nat → Option Nat} {C : Int} (h : 0 ≤ C) : fns9 cps cr cpn cpb L0 L f 0 g C := ⟨fun _ => 0, fun _ => 0, fun _ _ => False, fun j hj => by (first | (apply Int.le_antisymm <;> omega) | omega), fun i j x hi => by (first | (apply Int.le_antisymm <;> omega) | omega), h⟩
theorem fns_pex {cps cr cpn cpb : ClassId} {L0 L L2 : List Nat} {f f2 : Nat → va_E} {n : Int} {g : Nat → Option Nat} {C C2 : Int} (hp : pex L f L2 f2) (hC : C ≤ C2) (h : fns9 cps cr cpn cpb L0 L f n g C) : fns9 cps cr cpn cpb L0 L2 f2 n g C2 := by
  obtain ⟨fa, kf, Kf, h1, h2, h3⟩ := h
  refine ⟨fa, kf, Kf, fun j hj => ?_, h2, Int.le_trans h3 hC⟩
  obtain ⟨a, b, c, d⟩ := h1 j hj
  exact ⟨a, b, fun_pex hp c, fun x hx => ⟨(hp x (d x hx).1).1, (d x hx).2⟩⟩
theorem fns_s {cps cr cpn cpb : ClassId} {L0 L L2 : List Nat} {f f2 : Nat → va_E} {n n2 : Int} {g g2 : Nat → Option Nat} {C C2 k : Int} {m a : Nat} (hp : pex L f L2 f2) (h0 : ∀ x, x ∈ L0 → x ∈ L) (h : fns9 cps cr cpn cpb L0 L f n g C) (hm : (m : Int) = n) (hn : n2 = n + 1) (hg : g2 = va_up g m (some a)) (hf : fun9 L2 f2 cps cr cpn cpb a k (nw9 L L2)) (hk : 0 ≤ k) (hC : C + k ≤ C2) : fns9 cps cr cpn cpb L0 L2 f2 n2 g2 C2 := by
  obtain ⟨fa, kf, Kf, h1, h2, h3⟩ := h
  subst hg
  refine ⟨fun i => if i < m then fa i else a, fun i => if i < m then kf i else k, fun i => if i < m then Kf i else nw9 L L2, fun j hj => ?_, fun i j x hi hj hx hy => ?_, ?_⟩
  · by_cases q : j < m
    · obtain ⟨b, c, d, e⟩ := h1 j (by (first | (apply Int.le_antisymm <;> omega) | omega))
      dsimp only
      rw [if_pos q, if_pos q, if_pos q, va_up_ne _ _ (by (first | (apply Int.le_antisymm <;> omega) | omega))]
      exact ⟨b, c, fun_pex hp d, fun x hx => ⟨(hp x (e x hx).1).1, (e x hx).2⟩⟩
    · have e : j = m := by (first | (apply Int.le_antisymm <;> omega) | omega)
      subst e
      dsimp only
      rw [if_neg q, if_neg q, if_neg q, va_up_self]
      exact ⟨rfl, hk, hf, fun x hx => ⟨hx.1, fun z => hx.2 (h0 x z)⟩⟩
  · dsimp only at hx hy
    by_cases q : i < m
    · rw [if_pos q] at hx
      by_cases q2 : j < m
      · rw [if_pos q2] at hy
        exact h2 i j x (by (first | (apply Int.le_antisymm <;> omega) | omega)) (by (first | (apply Int.le_antisymm <;> omega) | omega)) hx hy
      · rw [if_neg q2] at hy
        exact absurd ((h1 i (by (first | (apply Int.le_antisymm <;> omega) | omega))).2.2.2 x hx).1 hy.2
    · rw [if_neg q] at hx
      by_cases q2 : j < m
      · rw [if_pos q2] at hy
        exact absurd ((h1 j (by (first | (apply Int.le_antisymm <;> omega) | omega))).2.2.2 x hy).1 hx.2
      · (first | (apply Int.le_antisymm <;> omega) | omega)
  · rw [show n2.toNat = m + 1 by (first | (apply Int.le_antisymm <;> omega) | omega)]
    show ksum _ m + (if m < m then kf m else k) ≤ C2
    rw [ksum_cg (kf := kf) (fun i hi => if_pos hi), if_neg (Nat.lt_irrefl m), show m = n.toNat by (first | (apply Int.le_antisymm <;> omega) | omega)]
    (first | (apply Int.le_antisymm <;> omega) | omega)
abbrev b_MD_program : ByteArray := prog_15_method_16_code
def y_MD_program : MethodName := ⟨R_MD, "program", "()V"⟩
abbrev w_MD_program : List Cond := .code y_MD_program b_MD_program 1 none :: lw_g
theorem kC_MD_program : Cond.code y_MD_program b_MD_program 1 none ∈ lw_g := in_c9 204 rfl rfl
theorem d_MD_program_0 : decode b_MD_program 0 = .ok (.aload_n 0, 1) := bz_c42 (by decide +kernel)
theorem d_MD_program_1 : decode b_MD_program 1 = .ok (.iconst 0, 1) := bz_c3 (by decide +kernel)
theorem d_MD_program_2 : decode b_MD_program 2 = .ok (.putfield 137, 3) := bz_c181 (by decide +kernel)
theorem d_MD_program_5 : decode b_MD_program 5 = .ok (.aload_n 0, 1) := bz_c42 (by decide +kernel)
theorem d_MD_program_6 : decode b_MD_program 6 = .ok (.iconst 0, 1) := bz_c3 (by decide +kernel)
theorem d_MD_program_7 : decode b_MD_program 7 = .ok (.putfield 140, 3) := bz_c181 (by decide +kernel)
theorem d_MD_program_10 : decode b_MD_program 10 = .ok (.aload_n 0, 1) := bz_c42 (by decide +kernel)
theorem d_MD_program_11 : decode b_MD_program 11 = .ok (.iconst 0, 1) := bz_c3 (by decide +kernel)
theorem d_MD_program_12 : decode b_MD_program 12 = .ok (.putfield 143, 3) := bz_c181 (by decide +kernel)
theorem d_MD_program_15 : decode b_MD_program 15 = .ok (.aload_n 0, 1) := bz_c42 (by decide +kernel)
theorem d_MD_program_16 : decode b_MD_program 16 = .ok (.iconst 0, 1) := bz_c3 (by decide +kernel)
theorem d_MD_program_17 : decode b_MD_program 17 = .ok (.putfield 23, 3) := bz_c181 (by decide +kernel)
theorem d_MD_program_20 : decode b_MD_program 20 = .ok (.aload_n 0, 1) := bz_c42 (by decide +kernel)
theorem d_MD_program_21 : decode b_MD_program 21 = .ok (.invokevirtual 112, 3) := bz_c182 (by decide +kernel)
theorem d_MD_program_24 : decode b_MD_program 24 = .ok (.aload_n 0, 1) := bz_c42 (by decide +kernel)
theorem d_MD_program_25 : decode b_MD_program 25 = .ok (.getfield 33, 3) := bz_c180 (by decide +kernel)
theorem d_MD_program_28 : decode b_MD_program 28 = .ok (.ifCond .ne 10, 3) := bz_c154 (by decide +kernel)
theorem d_MD_program_31 : decode b_MD_program 31 = .ok (.aload_n 0, 1) := bz_c42 (by decide +kernel)
theorem d_MD_program_32 : decode b_MD_program 32 = .ok (.getfield 140, 3) := bz_c180 (by decide +kernel)
theorem d_MD_program_35 : decode b_MD_program 35 = .ok (.ifCond .ne 32, 3) := bz_c154 (by decide +kernel)
theorem d_MD_program_38 : decode b_MD_program 38 = .ok (.aload_n 0, 1) := bz_c42 (by decide +kernel)
theorem d_MD_program_39 : decode b_MD_program 39 = .ok (.ldc 146, 2) := bz_c18 (by decide +kernel)
theorem d_MD_program_41 : decode b_MD_program 41 = .ok (.invokevirtual 119, 3) := bz_c182 (by decide +kernel)
theorem d_MD_program_44 : decode b_MD_program 44 = .ok (.ifCond .eq 10, 3) := bz_c153 (by decide +kernel)
theorem d_MD_program_47 : decode b_MD_program 47 = .ok (.aload_n 0, 1) := bz_c42 (by decide +kernel)
theorem d_MD_program_48 : decode b_MD_program 48 = .ok (.invokevirtual 148, 3) := bz_c182 (by decide +kernel)
theorem d_MD_program_51 : decode b_MD_program 51 = .ok (.goto (-27), 3) := bz_c167 (by decide +kernel)
theorem d_MD_program_54 : decode b_MD_program 54 = .ok (.aload_n 0, 1) := bz_c42 (by decide +kernel)
theorem d_MD_program_55 : decode b_MD_program 55 = .ok (.ldc 150, 2) := bz_c18 (by decide +kernel)
theorem d_MD_program_57 : decode b_MD_program 57 = .ok (.invokevirtual 152, 3) := bz_c182 (by decide +kernel)
theorem d_MD_program_60 : decode b_MD_program 60 = .ok (.aload_n 0, 1) := bz_c42 (by decide +kernel)
theorem d_MD_program_61 : decode b_MD_program 61 = .ok (.invokevirtual 156, 3) := bz_c182 (by decide +kernel)
theorem d_MD_program_64 : decode b_MD_program 64 = .ok (.goto (-40), 3) := bz_c167 (by decide +kernel)
theorem d_MD_program_67 : decode b_MD_program 67 = .ok (.return_, 1) := bz_c177 (by decide +kernel)
theorem kM_MD_148 : Cond.methodLink R_MD 148 y_MD_global0 ∈ lw_g := in_c11 85 rfl rfl
theorem kV_MD_global0 : Cond.instanceMethod y_MD_global0 ∈ lw_g := in_c11 87 rfl rfl
theorem kS_MD_global0 : Cond.selects R_MD y_MD_global0 y_MD_global0 ∈ lw_g := in_s 126 (by decide +kernel) rfl
theorem kM_MD_156 : Cond.methodLink R_MD 156 y_MD_function ∈ lw_g := in_c11 120 rfl rfl
theorem kV_MD_function : Cond.instanceMethod y_MD_function ∈ lw_g := in_c11 122 rfl rfl
theorem kS_MD_function : Cond.selects R_MD y_MD_function y_MD_function ∈ lw_g := in_s 133 (by decide +kernel) rfl
abbrev at_MD_program (dC : Nat → ClassId) (dI : Nat → Nat → Nat) (sz szl : Nat) (sa : Nat → Nat) (h0 rf tap gnm gpl gty gvl fun_ lev h0_known_r mad mag h0_smalls_r h0_greats_r h0_module_r h0_spare_r blk stk hgt lab ous kis los mem glo val ffu fre fba fla lat lhe rsl arg : Nat) (ctap clev cgnm cgpl cgty cgvl cfun_ cr cpn cpb cps : ClassId) (h0_taped : Int32) (h0_length : Int32) (h0_now : Value) (h0_knownCount : Int32) (h0_loops : Int32) (h0_madeLength : Int32) (h0_m : Value) (h0_cursor : Int32) (h0_limit : Int32) (h0_top : Int32) (h0_depth : Int32) (h0_function : Int32) (h0_pages : Int32) (h0_valueTop : Int32) (h0_frames : Int32) (h0_labelTop : Int32) (h0_steps : Int32) (h0_there : Int32) (h0_resultLength : Int32) (h0_reason : Int32) (h0_place : Int32) (h0_argumentCount : Int32) (h0_code : Int32) (rf_backtrace : Value) (rf_detailMessage : Value) (rf_cause : Value) (rf_stackTrace : Value) (rf_depth : Int32) (rf_suppressedExceptions : Value) (gtap : Nat → Int32) (glev : Nat → Option Nat) (A : Nat → Prop) (u : (List Nat) × (Nat → Option Nat) × (Nat → Option Nat) × (Nat → Int32) × (Nat → Int32) × (Nat → Int64) × Int32 × Int32 × Int32 × Int32 × Int64 × Int32 × Int32 × Int32 × Int32 × Int32 × Nat × Nat × (Nat → va_E) × Value) (t : State) : Prop := match u with | (LP, gfun_, ggnm, ggpl, ggty, ggvl, h0_from, h0_funCount, h0_globalCount, h0_kind, h0_numeral, h0_open, h0_signs, h0_to, rf_place, rf_reason, kcz, knz, fP, h0_word) => va_P (dC, dI) cls2 (((wz_582 h0 rf tap h0_taped h0_length h0_kind h0_from h0_to h0_word h0_numeral gnm gpl gty gvl h0_globalCount fun_ h0_funCount h0_open h0_signs lev h0_now h0_known_r h0_knownCount h0_loops mad h0_madeLength mag h0_smalls_r h0_greats_r h0_module_r h0_spare_r h0_m h0_cursor h0_limit blk stk h0_top hgt lab ous kis los h0_depth h0_function mem h0_pages glo val h0_valueTop ffu fre fba fla h0_frames lat lhe h0_labelTop h0_steps h0_there rsl h0_resultLength h0_reason h0_place arg h0_argumentCount h0_code rf rf_backtrace rf_detailMessage rf_cause rf_stackTrace rf_depth rf_suppressedExceptions rf_reason rf_place tap ctap gtap lev clev glev gnm cgnm ggnm gpl cgpl ggpl gty cgty ggty gvl cgvl ggvl fun_ cfun_ gfun_) : va_W) ++ va_pl LP fP) t.heap ∧ va_K (dC, dI) cls2 [(ctap, .byte), (clev, .object "java/lang/String"), (cgnm, .object "java/lang/String"), (cgpl, .int), (cgty, .int), (cgvl, .long), (cfun_, .object "WaferForgeModel$Fun"), (cr, .int), (cpn, .object "WaferForgeModel$N"), (cpb, .byte), (cps, .object "java/lang/String")] t ∧ va_D A (((wz_582 h0 rf tap h0_taped h0_length h0_kind h0_from h0_to h0_word h0_numeral gnm gpl gty gvl h0_globalCount fun_ h0_funCount h0_open h0_signs lev h0_now h0_known_r h0_knownCount h0_loops mad h0_madeLength mag h0_smalls_r h0_greats_r h0_module_r h0_spare_r h0_m h0_cursor h0_limit blk stk h0_top hgt lab ous kis los h0_depth h0_function mem h0_pages glo val h0_valueTop ffu fre fba fla h0_frames lat lhe h0_labelTop h0_steps h0_there rsl h0_resultLength h0_reason h0_place arg h0_argumentCount h0_code rf rf_backtrace rf_detailMessage rf_cause rf_stackTrace rf_depth rf_suppressedExceptions rf_reason rf_place tap ctap gtap lev clev glev gnm cgnm ggnm gpl cgpl ggpl gty cgty ggty gvl cgvl ggvl fun_ cfun_ gfun_) : va_W) ++ va_pl LP fP) ∧ t.heap.size ≤ sz + kcz ∧ hsl t.heap ≤ szl + knz
set_option maxHeartbeats 4000000 in
set_option maxRecDepth 100000 in
theorem c_MD_program (l : Launch) (hlt : l.stackTraces = false) (dC : Nat → ClassId) (dI : Nat → Nat → Nat) (sz : Nat) (szl : Nat) (sa : Nat → Nat) (h0 rf tap gnm gpl gty gvl fun_ lev h0_known_r mad mag h0_smalls_r h0_greats_r h0_module_r h0_spare_r blk stk hgt lab ous kis los mem glo val ffu fre fba fla lat lhe rsl arg : Nat) (ctap clev cgnm cgpl cgty cgvl cfun_ cr cpn cpb cps : ClassId) (h0_taped : Int32) (h0_length : Int32) (h0_kind : Int32) (h0_from : Int32) (h0_to : Int32) (h0_word : Value) (h0_numeral : Int64) (h0_globalCount : Int32) (h0_funCount : Int32) (h0_open : Int32) (h0_signs : Int32) (h0_now : Value) (h0_knownCount : Int32) (h0_loops : Int32) (h0_madeLength : Int32) (h0_m : Value) (h0_cursor : Int32) (h0_limit : Int32) (h0_top : Int32) (h0_depth : Int32) (h0_function : Int32) (h0_pages : Int32) (h0_valueTop : Int32) (h0_frames : Int32) (h0_labelTop : Int32) (h0_steps : Int32) (h0_there : Int32) (h0_resultLength : Int32) (h0_reason : Int32) (h0_place : Int32) (h0_argumentCount : Int32) (h0_code : Int32) (rf_backtrace : Value) (rf_detailMessage : Value) (rf_cause : Value) (rf_stackTrace : Value) (rf_depth : Int32) (rf_suppressedExceptions : Value) (rf_reason : Int32) (rf_place : Int32) (gtap : Nat → Int32) (glev : Nat → Option Nat) (ggnm : Nat → Option Nat) (ggpl : Nat → Int32) (ggty : Nat → Int32) (ggvl : Nat → Int64) (gfun_ : Nat → Option Nat) (LP : List Nat) (fP : Nat → va_E)  (b_h0_length : 0 ≤ h0_length.toInt ∧ h0_length.toInt ≤ 2000) (b_h0_from : 0 ≤ h0_from.toInt ∧ h0_from.toInt ≤ 2000) (b_h0_to : 0 ≤ h0_to.toInt ∧ h0_to.toInt ≤ 2000) (b_h0_globalCount : 0 ≤ h0_globalCount.toInt ∧ h0_globalCount.toInt ≤ 20) (b_h0_funCount : 0 ≤ h0_funCount.toInt ∧ h0_funCount.toInt ≤ 20) (b_h0_open : 0 ≤ h0_open.toInt ∧ h0_open.toInt ≤ 40) (b_h0_signs : 0 ≤ h0_signs.toInt ∧ h0_signs.toInt ≤ 200)   (hlev : bx (∀ j : Nat, j < 7 → glev j = some (sa (400 + j)))) : tz_Met l y_MD_program w_MD_program ({ frames := 902, cells := (32 * h0_length.toInt + 8).toNat, slots := (300 * h0_length.toInt + 260).toNat, locals := 35542 }) (va_Pc [.ref h0] (fun U => U.heap.size = sz ∧ va_P (dC, dI) cls2 (((wz_582 h0 rf tap h0_taped h0_length h0_kind h0_from h0_to h0_word h0_numeral gnm gpl gty gvl h0_globalCount fun_ h0_funCount h0_open h0_signs lev h0_now h0_known_r h0_knownCount h0_loops mad h0_madeLength mag h0_smalls_r h0_greats_r h0_module_r h0_spare_r h0_m h0_cursor h0_limit blk stk h0_top hgt lab ous kis los h0_depth h0_function mem h0_pages glo val h0_valueTop ffu fre fba fla h0_frames lat lhe h0_labelTop h0_steps h0_there rsl h0_resultLength h0_reason h0_place arg h0_argumentCount h0_code rf rf_backtrace rf_detailMessage rf_cause rf_stackTrace rf_depth rf_suppressedExceptions rf_reason rf_place tap ctap gtap lev clev glev gnm cgnm ggnm gpl cgpl ggpl gty cgty ggty gvl cgvl ggvl fun_ cfun_ gfun_) : va_W) ++ va_pl LP fP) U.heap ∧ va_K (dC, dI) cls2 [(ctap, .byte), (clev, .object "java/lang/String"), (cgnm, .object "java/lang/String"), (cgpl, .int), (cgty, .int), (cgvl, .long), (cfun_, .object "WaferForgeModel$Fun"), (cr, .int), (cpn, .object "WaferForgeModel$N"), (cpb, .byte), (cps, .object "java/lang/String")] U ∧ va_D (fun _ => True) (((wz_582 h0 rf tap h0_taped h0_length h0_kind h0_from h0_to h0_word h0_numeral gnm gpl gty gvl h0_globalCount fun_ h0_funCount h0_open h0_signs lev h0_now h0_known_r h0_knownCount h0_loops mad h0_madeLength mag h0_smalls_r h0_greats_r h0_module_r h0_spare_r h0_m h0_cursor h0_limit blk stk h0_top hgt lab ous kis los h0_depth h0_function mem h0_pages glo val h0_valueTop ffu fre fba fla h0_frames lat lhe h0_labelTop h0_steps h0_there rsl h0_resultLength h0_reason h0_place arg h0_argumentCount h0_code rf rf_backtrace rf_detailMessage rf_cause rf_stackTrace rf_depth rf_suppressedExceptions rf_reason rf_place tap ctap gtap lev clev glev gnm cgnm ggnm gpl cgpl ggpl gty cgty ggty gvl cgvl ggvl fun_ cfun_ gfun_) : va_W) ++ va_pl LP fP) ∧ sm sa (va_A (((wz_582 h0 rf tap h0_taped h0_length h0_kind h0_from h0_to h0_word h0_numeral gnm gpl gty gvl h0_globalCount fun_ h0_funCount h0_open h0_signs lev h0_now h0_known_r h0_knownCount h0_loops mad h0_madeLength mag h0_smalls_r h0_greats_r h0_module_r h0_spare_r h0_m h0_cursor h0_limit blk stk h0_top hgt lab ous kis los h0_depth h0_function mem h0_pages glo val h0_valueTop ffu fre fba fla h0_frames lat lhe h0_labelTop h0_steps h0_there rsl h0_resultLength h0_reason h0_place arg h0_argumentCount h0_code rf rf_backtrace rf_detailMessage rf_cause rf_stackTrace rf_depth rf_suppressedExceptions rf_reason rf_place tap ctap gtap lev clev glev gnm cgnm ggnm gpl cgpl ggpl gty cgty ggty gvl cgvl ggvl fun_ cfun_ gfun_) : va_W) ++ va_pl LP fP) sz) U U.heap ∧ hsl U.heap = szl)) (tq_Q (tr_v (fun (u : (List Nat) × (Nat → Option Nat) × (Nat → Option Nat) × (Nat → Int32) × (Nat → Int32) × (Nat → Int64) × Int32 × Int32 × Int32 × Int32 × Int64 × Int32 × Int32 × Int32 × Int32 × Int32 × Nat × Nat × (Nat → va_E) × Value) => match u with | (LP2, gfun_2, ggnm2, ggpl2, ggty2, ggvl2, h0_from2, h0_funCount2, h0_globalCount2, h0_kind2, h0_numeral2, h0_open2, h0_signs2, h0_to2, rf_place2, rf_reason2, kcz2, knz2, fP2, h0_word2) => (0 ≤ h0_from2.toInt ∧ h0_from2.toInt ≤ 2000) ∧ (0 ≤ h0_funCount2.toInt ∧ h0_funCount2.toInt ≤ 20) ∧ (0 ≤ h0_globalCount2.toInt ∧ h0_globalCount2.toInt ≤ 20) ∧ (0 ≤ h0_open2.toInt ∧ h0_open2.toInt ≤ 40) ∧ (0 ≤ h0_signs2.toInt ∧ h0_signs2.toInt ≤ 200) ∧ (0 ≤ h0_to2.toInt ∧ h0_to2.toInt ≤ 2000) ∧ (pex LP fP LP2 fP2 ∧ 1 ≤ h0_funCount2.toInt ∧ glb9 LP2 fP2 cpb h0_globalCount2.toInt ggnm2 ggty2 ggvl2 ∧ fns9 cps cr cpn cpb LP LP2 fP2 h0_funCount2.toInt gfun_2 (20 * h0_length.toInt - 16 * h0_funCount2.toInt) ∧ (kcz2 : Int) ≤ 24 * h0_length.toInt ∧ (knz2 : Int) ≤ 220 * h0_length.toInt)) rf "WaferForgeModel$Refused" (fun (u : (List Nat) × (Nat → Option Nat) × (Nat → Option Nat) × (Nat → Int32) × (Nat → Int32) × (Nat → Int64) × Int32 × Int32 × Int32 × Int32 × Int64 × Int32 × Int32 × Int32 × Int32 × Int32 × Nat × Nat × (Nat → va_E) × Value) => match u with | (LP2, gfun_2, ggnm2, ggpl2, ggty2, ggvl2, h0_from2, h0_funCount2, h0_globalCount2, h0_kind2, h0_numeral2, h0_open2, h0_signs2, h0_to2, rf_place2, rf_reason2, kcz2, knz2, fP2, h0_word2) => (0 ≤ h0_from2.toInt ∧ h0_from2.toInt ≤ 2000) ∧ (0 ≤ h0_funCount2.toInt ∧ h0_funCount2.toInt ≤ 20) ∧ (0 ≤ h0_globalCount2.toInt ∧ h0_globalCount2.toInt ≤ 20) ∧ (0 ≤ h0_open2.toInt ∧ h0_open2.toInt ≤ 40) ∧ (0 ≤ h0_signs2.toInt ∧ h0_signs2.toInt ≤ 200) ∧ (0 ≤ h0_to2.toInt ∧ h0_to2.toInt ≤ 2000) ∧ (pex LP fP LP2 fP2 ∧ (kcz2 : Int) ≤ 32 * h0_length.toInt + 8 ∧ (knz2 : Int) ≤ 300 * h0_length.toInt + 260))) (at_MD_program dC dI sz szl sa h0 rf tap gnm gpl gty gvl fun_ lev h0_known_r mad mag h0_smalls_r h0_greats_r h0_module_r h0_spare_r blk stk hgt lab ous kis los mem glo val ffu fre fba fla lat lhe rsl arg ctap clev cgnm cgpl cgty cgvl cfun_ cr cpn cpb cps h0_taped h0_length h0_now h0_knownCount h0_loops h0_madeLength h0_m h0_cursor h0_limit h0_top h0_depth h0_function h0_pages h0_valueTop h0_frames h0_labelTop h0_steps h0_there h0_resultLength h0_reason h0_place h0_argumentCount h0_code rf_backtrace rf_detailMessage rf_cause rf_stackTrace rf_depth rf_suppressedExceptions gtap glev (va_A (((wz_582 h0 rf tap h0_taped h0_length h0_kind h0_from h0_to h0_word h0_numeral gnm gpl gty gvl h0_globalCount fun_ h0_funCount h0_open h0_signs lev h0_now h0_known_r h0_knownCount h0_loops mad h0_madeLength mag h0_smalls_r h0_greats_r h0_module_r h0_spare_r h0_m h0_cursor h0_limit blk stk h0_top hgt lab ous kis los h0_depth h0_function mem h0_pages glo val h0_valueTop ffu fre fba fla h0_frames lat lhe h0_labelTop h0_steps h0_there rsl h0_resultLength h0_reason h0_place arg h0_argumentCount h0_code rf rf_backtrace rf_detailMessage rf_cause rf_stackTrace rf_depth rf_suppressedExceptions rf_reason rf_place tap ctap gtap lev clev glev gnm cgnm ggnm gpl cgpl ggpl gty cgty ggty gvl cgvl ggvl fun_ cfun_ gfun_) : va_W) ++ va_pl LP fP) sz)) (va_A (((wz_582 h0 rf tap h0_taped h0_length h0_kind h0_from h0_to h0_word h0_numeral gnm gpl gty gvl h0_globalCount fun_ h0_funCount h0_open h0_signs lev h0_now h0_known_r h0_knownCount h0_loops mad h0_madeLength mag h0_smalls_r h0_greats_r h0_module_r h0_spare_r h0_m h0_cursor h0_limit blk stk h0_top hgt lab ous kis los h0_depth h0_function mem h0_pages glo val h0_valueTop ffu fre fba fla h0_frames lat lhe h0_labelTop h0_steps h0_there rsl h0_resultLength h0_reason h0_place arg h0_argumentCount h0_code rf rf_backtrace rf_detailMessage rf_cause rf_stackTrace rf_depth rf_suppressedExceptions rf_reason rf_place tap ctap gtap lev clev glev gnm cgnm ggnm gpl cgpl ggpl gty cgty ggty gvl cgvl ggvl fun_ cfun_ gfun_) : va_W) ++ va_pl LP fP) sz)) (tz_k ((32 * h0_length.toInt + 8).toNat) ((300 * h0_length.toInt + 260).toNat) ((32 * h0_length.toInt + 8).toNat) ((300 * h0_length.toInt + 260).toNat)) (va_A (((wz_582 h0 rf tap h0_taped h0_length h0_kind h0_from h0_to h0_word h0_numeral gnm gpl gty gvl h0_globalCount fun_ h0_funCount h0_open h0_signs lev h0_now h0_known_r h0_knownCount h0_loops mad h0_madeLength mag h0_smalls_r h0_greats_r h0_module_r h0_spare_r h0_m h0_cursor h0_limit blk stk h0_top hgt lab ous kis los h0_depth h0_function mem h0_pages glo val h0_valueTop ffu fre fba fla h0_frames lat lhe h0_labelTop h0_steps h0_there rsl h0_resultLength h0_reason h0_place arg h0_argumentCount h0_code rf rf_backtrace rf_detailMessage rf_cause rf_stackTrace rf_depth rf_suppressedExceptions rf_reason rf_place tap ctap gtap lev clev glev gnm cgnm ggnm gpl cgpl ggpl gty cgty ggty gvl cgvl ggvl fun_ cfun_ gfun_) : va_W) ++ va_pl LP fP) sz) := by
  refine tz_ofW (cc := b_MD_program) (maxL := 1) (ret := none) (by decide) rfl ?_
  intro p e s m args below meth c s₁ B hml hno hv
  obtain ⟨rfl, hsz, hP, hK, hD0, hSW, hszl⟩ := hv
  have hx := B.exec
  have hb := B.bytes
  have hr := B.returns
  have hts0 := atoms_spec (ws := w_MD_program) B.pre
  have hts : ∀ w ∈ lw_g, w.before _ s = true := fun w h => hts0 w (List.mem_cons_of_mem _ h)
  have hown : s.vm.findClass R_MD = some m.cls := findClass_of_methodNamed B.named
  have hlocks := B.notSynchronized
  clear hts0
  subst hsz
  subst hszl
  have hD := hD0.self (sz := s.heap.size)
  generalize hAe : va_A (((wz_582 h0 rf tap h0_taped h0_length h0_kind h0_from h0_to h0_word h0_numeral gnm gpl gty gvl h0_globalCount fun_ h0_funCount h0_open h0_signs lev h0_now h0_known_r h0_knownCount h0_loops mad h0_madeLength mag h0_smalls_r h0_greats_r h0_module_r h0_spare_r h0_m h0_cursor h0_limit blk stk h0_top hgt lab ous kis los h0_depth h0_function mem h0_pages glo val h0_valueTop ffu fre fba fla h0_frames lat lhe h0_labelTop h0_steps h0_there rsl h0_resultLength h0_reason h0_place arg h0_argumentCount h0_code rf rf_backtrace rf_detailMessage rf_cause rf_stackTrace rf_depth rf_suppressedExceptions rf_reason rf_place tap ctap gtap lev clev glev gnm cgnm ggnm gpl cgpl ggpl gty cgty ggty gvl cgvl ggvl fun_ cfun_ gfun_) : va_W) ++ va_pl LP fP) s.heap.size = A at hD hSW ⊢
  have hA : ∀ q : Nat, s.heap.size ≤ q → A q := fun q h => by rw [← hAe]; exact Or.inr h
  clear hAe
  have hP : va_P (dC, dI) cls2 (((wz_582 h0 rf tap h0_taped h0_length h0_kind h0_from h0_to h0_word h0_numeral gnm gpl gty gvl h0_globalCount fun_ h0_funCount h0_open h0_signs lev h0_now h0_known_r h0_knownCount h0_loops mad h0_madeLength mag h0_smalls_r h0_greats_r h0_module_r h0_spare_r h0_m h0_cursor h0_limit blk stk h0_top hgt lab ous kis los h0_depth h0_function mem h0_pages glo val h0_valueTop ffu fre fba fla h0_frames lat lhe h0_labelTop h0_steps h0_there rsl h0_resultLength h0_reason h0_place arg h0_argumentCount h0_code rf rf_backtrace rf_detailMessage rf_cause rf_stackTrace rf_depth rf_suppressedExceptions rf_reason rf_place tap ctap gtap lev clev glev gnm cgnm ggnm gpl cgpl ggpl gty cgty ggty gvl cgvl ggvl fun_ cfun_ gfun_) : va_W) ++ va_pl LP fP) s.heap := hP
  have hl := lv_entry ([.ref h0]) (n := 1) (Nat.le_of_ble_eq_true rfl)
  rw [lg_entry_eq]
  generalize (lg_sl ([.ref h0]) ++ List.replicate (1 - (lg_sl ([.ref h0])).length) Slot.unset).toArray = ls at hl ⊢
  have hl : lv_has ls 1 [(0, .ref h0)] := hl
  have k0 : (0 : Int32).toInt = 0 := by decide
  refine w_gen (A := A) hP (fun H locs hP hS => ?_)
  have hnd := vq_nd hD
  have px : bx (pex LP fP LP fP) := pex.rfl2
  refine lv_aload_n hx hb d_MD_program_0 rfl (lv_at hl 0 rfl) ?_
  refine lv_iconst (v := 0) hx hb d_MD_program_1 (by decide) ?_
  refine va_put (D := (dC, dI)) (ci := 11) (v := .int 0) (ty := .int) (C := R_MD) (T := F_MD) (N := 65) hx hb hts i_MD t_MD t_MD_ok n_MD hown hK hP hD hS 0 rfl rfl 13 (by decide) (hts _ kF_MD_137) (fun _ h9 => h9) rfl (by decide +kernel) rfl rfl (Nat.le_of_ble_eq_true rfl) d_MD_program_2 (fun H locs hP hD hS => ?_)
  refine lv_aload_n hx hb d_MD_program_5 rfl (lv_at hl 0 rfl) ?_
  refine lv_iconst (v := 0) hx hb d_MD_program_6 (by decide) ?_
  refine va_put (D := (dC, dI)) (ci := 11) (v := .int 0) (ty := .int) (C := R_MD) (T := F_MD) (N := 65) hx hb hts i_MD t_MD t_MD_ok n_MD hown hK hP hD hS 0 rfl rfl 15 (by decide) (hts _ kF_MD_140) (fun _ h9 => h9) rfl (by decide +kernel) rfl rfl (Nat.le_of_ble_eq_true rfl) d_MD_program_7 (fun H locs hP hD hS => ?_)
  refine lv_aload_n hx hb d_MD_program_10 rfl (lv_at hl 0 rfl) ?_
  refine lv_iconst (v := 0) hx hb d_MD_program_11 (by decide) ?_
  refine va_put (D := (dC, dI)) (ci := 11) (v := .int 0) (ty := .int) (C := R_MD) (T := F_MD) (N := 65) hx hb hts i_MD t_MD t_MD_ok n_MD hown hK hP hD hS 0 rfl rfl 16 (by decide) (hts _ kF_MD_143) (fun _ h9 => h9) rfl (by decide +kernel) rfl rfl (Nat.le_of_ble_eq_true rfl) d_MD_program_12 (fun H locs hP hD hS => ?_)
  refine lv_aload_n hx hb d_MD_program_15 rfl (lv_at hl 0 rfl) ?_
  refine lv_iconst (v := 0) hx hb d_MD_program_16 (by decide) ?_
  refine va_put (D := (dC, dI)) (ci := 11) (v := .int 0) (ty := .int) (C := R_MD) (T := F_MD) (N := 65) hx hb hts i_MD t_MD t_MD_ok n_MD hown hK hP hD hS 0 rfl rfl 6 (by decide) (hts _ kF_MD_23) (fun _ h9 => h9) rfl (by decide +kernel) rfl rfl (Nat.le_of_ble_eq_true rfl) d_MD_program_17 (fun H locs hP hD hS => ?_)
  refine lv_aload_n hx hb d_MD_program_20 rfl (lv_at hl 0 rfl) ?_
  have hP : va_P (dC, dI) cls2 (((wz_582 h0 rf tap h0_taped h0_length h0_kind h0_from 0 h0_word h0_numeral gnm gpl gty gvl 0 fun_ 0 0 h0_signs lev h0_now h0_known_r h0_knownCount h0_loops mad h0_madeLength mag h0_smalls_r h0_greats_r h0_module_r h0_spare_r h0_m h0_cursor h0_limit blk stk h0_top hgt lab ous kis los h0_depth h0_function mem h0_pages glo val h0_valueTop ffu fre fba fla h0_frames lat lhe h0_labelTop h0_steps h0_there rsl h0_resultLength h0_reason h0_place arg h0_argumentCount h0_code rf rf_backtrace rf_detailMessage rf_cause rf_stackTrace rf_depth rf_suppressedExceptions rf_reason rf_place tap ctap gtap lev clev glev gnm cgnm ggnm gpl cgpl ggpl gty cgty ggty gvl cgvl ggvl fun_ cfun_ gfun_) : va_W) ++ va_pl LP fP) H := hP
  have hD : va_D A (((wz_582 h0 rf tap h0_taped h0_length h0_kind h0_from 0 h0_word h0_numeral gnm gpl gty gvl 0 fun_ 0 0 h0_signs lev h0_now h0_known_r h0_knownCount h0_loops mad h0_madeLength mag h0_smalls_r h0_greats_r h0_module_r h0_spare_r h0_m h0_cursor h0_limit blk stk h0_top hgt lab ous kis los h0_depth h0_function mem h0_pages glo val h0_valueTop ffu fre fba fla h0_frames lat lhe h0_labelTop h0_steps h0_there rsl h0_resultLength h0_reason h0_place arg h0_argumentCount h0_code rf rf_backtrace rf_detailMessage rf_cause rf_stackTrace rf_depth rf_suppressedExceptions rf_reason rf_place tap ctap gtap lev clev glev gnm cgnm ggnm gpl cgpl ggpl gty cgty ggty gvl cgvl ggvl fun_ cfun_ gfun_) : va_W) ++ va_pl LP fP) := hD
  refine w_known (fun hzc hzs => ?_)
  have hPc := hP.part (cx := (wz_307 h0 rf tap h0_taped h0_length h0_kind h0_from 0 h0_word h0_numeral gnm gpl gty gvl 0 fun_ 0 0 h0_signs lev h0_now h0_known_r h0_knownCount h0_loops mad h0_madeLength mag h0_smalls_r h0_greats_r h0_module_r h0_spare_r h0_m h0_cursor h0_limit blk stk h0_top hgt lab ous kis los h0_depth h0_function mem h0_pages glo val h0_valueTop ffu fre fba fla h0_frames lat lhe h0_labelTop h0_steps h0_there rsl h0_resultLength h0_reason h0_place arg h0_argumentCount h0_code tap ctap gtap)) [0, 2] rfl
  have hDc := hD.part (cx := (wz_307 h0 rf tap h0_taped h0_length h0_kind h0_from 0 h0_word h0_numeral gnm gpl gty gvl 0 fun_ 0 0 h0_signs lev h0_now h0_known_r h0_knownCount h0_loops mad h0_madeLength mag h0_smalls_r h0_greats_r h0_module_r h0_spare_r h0_m h0_cursor h0_limit blk stk h0_top hgt lab ous kis los h0_depth h0_function mem h0_pages glo val h0_valueTop ffu fre fba fla h0_frames lat lhe h0_labelTop h0_steps h0_there rsl h0_resultLength h0_reason h0_place arg h0_argumentCount h0_code tap ctap gtap)) [0, 2] (by decide) rfl
  have hKc := hK.sb (tyq := [(ctap, .byte), (cr, .int), (cpn, .object "WaferForgeModel$N"), (cpb, .byte)]) [0, 7, 8, 9] rfl
  have hFc := va_freeP (cx := (wz_307 h0 rf tap h0_taped h0_length h0_kind h0_from 0 h0_word h0_numeral gnm gpl gty gvl 0 fun_ 0 0 h0_signs lev h0_now h0_known_r h0_knownCount h0_loops mad h0_madeLength mag h0_smalls_r h0_greats_r h0_module_r h0_spare_r h0_m h0_cursor h0_limit blk stk h0_top hgt lab ous kis los h0_depth h0_function mem h0_pages glo val h0_valueTop ffu fre fba fla h0_frames lat lhe h0_labelTop h0_steps h0_there rsl h0_resultLength h0_reason h0_place arg h0_argumentCount h0_code tap ctap gtap)) hD hS hA [0, 2] rfl
  refine va_callv (va_runV (As := []) (rest := []) ⟨hx, hb, hml, hown, hts⟩ (c_MD_next l hlt dC dI H.size (hsl H) sa h0 rf tap gnm gpl gty gvl fun_ lev h0_known_r mad mag h0_smalls_r h0_greats_r h0_module_r h0_spare_r blk stk hgt lab ous kis los mem glo val ffu fre fba fla lat lhe rsl arg ctap cr cpn cpb h0_taped h0_length h0_kind h0_from 0 h0_word h0_numeral 0 0 0 h0_signs h0_now h0_knownCount h0_loops h0_madeLength h0_m h0_cursor h0_limit h0_top h0_depth h0_function h0_pages h0_valueTop h0_frames h0_labelTop h0_steps h0_there h0_resultLength h0_reason h0_place h0_argumentCount h0_code gtap LP fP (b_h0_length) (b_h0_from) (by (try dsimp only) <;> (first | (apply Int.le_antisymm <;> omega) | omega)) (by (first | (apply Int.le_antisymm <;> omega) | omega))) (cwV 0 hts (gV kM_MD_112 kV_MD_next kS_MD_next kI_MD kC_MD_next) rfl rfl rfl (by decide +kernel) ⟨Nat.le_of_ble_eq_true rfl, Nat.le_of_ble_eq_true rfl⟩) ⟨fun a U g mk z => by obtain ⟨z0, z1, zP, zK, zD, zS, zZ⟩ := z; exact ⟨z0, z1, zP, va_K.moved (u := U) (U := U.calling g mk a) (Vm.Alike.refl U.vm) zK, zD, sm.same (u := U) (U := U.calling g mk a) rfl zS, zZ⟩, va_recv hKc hPc (ci := 11) (q0 := 0) rfl rfl, fun U hU hW => ⟨rfl, by rw [hU], va_P.he hU.symm hPc, va_K.moved hW.alike hKc, hDc.weaken (fun _ _ _ _ => trivial), hSW.call hS hFc hW hU, by rw [hU]⟩⟩ rfl rfl hl.1 rfl (lv_room (Nat.le_of_ble_eq_true rfl)) d_MD_program_21 ⟨by dsimp only [headSpec]; (first | (apply Int.le_antisymm <;> omega) | omega), by dsimp only [headSpec]; (first | (apply Int.le_antisymm <;> omega) | omega)⟩) hS (fun q _ h => hFc q h) hFc (fun u t H1 locs ht hvm hw hB hz1 hk1 hS => ?_)
  obtain ⟨n2, n3, n4, n5, n6, n7, n8, n9, n10⟩ := u
  try dsimp only at hw
  obtain ⟨bn3, bn6, xr1⟩ := hw
  try clear hw
  have n := nx_of (W0 := h0_word) ⟨xr1.1, xr1.2.1, xr1.2.2.1, xr1.2.2.2.1⟩
  replace n : bx _ := n
  clear xr1
  obtain ⟨hP1, hK1, hD1, hZc, hZs⟩ := hB
  rw [ht] at hP1 hZc hZs
  obtain ⟨kc11, ekc11⟩ : ∃ z : Nat, z = 0 + n7 := ⟨_, rfl⟩
  obtain ⟨kn12, ekn12⟩ : ∃ z : Nat, z = 0 + n8 := ⟨_, rfl⟩
  refine w_refund (c2 := kc11) (n2 := kn12) (by (first | (apply Int.le_antisymm <;> omega) | omega)) (by (first | (apply Int.le_antisymm <;> omega) | omega)) ?_
  clear hzc hzs hZc hZs
  obtain ⟨hP, hD⟩ := va_joinP (wr := [(rf, .inr (15, [rf_backtrace, rf_detailMessage, rf_cause, rf_stackTrace, .int rf_depth, rf_suppressedExceptions, .int rf_reason, .int rf_place])), (lev, .inl (clev, 7, .inr (.inr (.inr (.inr glev))))), (gnm, .inl (cgnm, 20, .inr (.inr (.inr (.inr ggnm))))), (gpl, .inl (cgpl, 20, .inl ggpl)), (gty, .inl (cgty, 20, .inl ggty)), (gvl, .inl (cgvl, 20, .inr (.inl ggvl))), (fun_, .inl (cfun_, 20, .inr (.inr (.inr (.inr gfun_)))))]) (rx := (wz_307 h0 rf tap h0_taped h0_length n4 n3 n6 n10 n5 gnm gpl gty gvl 0 fun_ 0 0 h0_signs lev h0_now h0_known_r h0_knownCount h0_loops mad h0_madeLength mag h0_smalls_r h0_greats_r h0_module_r h0_spare_r h0_m h0_cursor h0_limit blk stk h0_top hgt lab ous kis los h0_depth h0_function mem h0_pages glo val h0_valueTop ffu fre fba fla h0_frames lat lhe h0_labelTop h0_steps h0_there rsl h0_resultLength h0_reason h0_place arg h0_argumentCount h0_code tap ctap gtap)) hP hD [0, 2] [1, 3, 4, 5, 6, 7, 8] rfl rfl (by decide) (by decide) hk1 hFc hP1 hD1
  clear hPc hDc hKc hFc hz1 hk1 hP1 hK1 hD1
  rename Heap => H
  have hP : va_P (dC, dI) cls2 (((wz_583 rf rf_backtrace rf_detailMessage rf_cause rf_stackTrace rf_depth rf_suppressedExceptions rf_reason rf_place lev clev glev gnm cgnm ggnm gpl cgpl ggpl gty cgty ggty gvl cgvl ggvl fun_ cfun_ gfun_ h0 rf tap h0_taped h0_length n4 n3 n6 n10 n5 gnm gpl gty gvl 0 fun_ 0 0 h0_signs lev h0_now h0_known_r h0_knownCount h0_loops mad h0_madeLength mag h0_smalls_r h0_greats_r h0_module_r h0_spare_r h0_m h0_cursor h0_limit blk stk h0_top hgt lab ous kis los h0_depth h0_function mem h0_pages glo val h0_valueTop ffu fre fba fla h0_frames lat lhe h0_labelTop h0_steps h0_there rsl h0_resultLength h0_reason h0_place arg h0_argumentCount h0_code tap ctap gtap) : va_W) ++ va_pl n2 n9) H := hP
  have hD : va_D A (((wz_583 rf rf_backtrace rf_detailMessage rf_cause rf_stackTrace rf_depth rf_suppressedExceptions rf_reason rf_place lev clev glev gnm cgnm ggnm gpl cgpl ggpl gty cgty ggty gvl cgvl ggvl fun_ cfun_ gfun_ h0 rf tap h0_taped h0_length n4 n3 n6 n10 n5 gnm gpl gty gvl 0 fun_ 0 0 h0_signs lev h0_now h0_known_r h0_knownCount h0_loops mad h0_madeLength mag h0_smalls_r h0_greats_r h0_module_r h0_spare_r h0_m h0_cursor h0_limit blk stk h0_top hgt lab ous kis los h0_depth h0_function mem h0_pages glo val h0_valueTop ffu fre fba fla h0_frames lat lhe h0_labelTop h0_steps h0_there rsl h0_resultLength h0_reason h0_place arg h0_argumentCount h0_code tap ctap gtap) : va_W) ++ va_pl n2 n9) := hD
  obtain ⟨hlx, hlw, pz, -, m1_, m2_, m3_, m4_, m5_, m6_, m7_, m8_⟩ := nxt_f n.out
  have px : bx (pex LP fP n2 n9) := px.out.trans pz.out
  clear pz
  have ad : 0 ≤ n3.toInt ∧ n3.toInt ≤ n6.toInt ∧ n6.toInt ≤ h0_length.toInt ∧ 0 ≤ n4.toInt ∧ n4.toInt ≤ 6 ∧ (n4.toInt ≠ 0 → n3.toInt < n6.toInt) ∧ ((kc11 : Nat) : Int) ≤ 16 * n6.toInt + 8 * n3.toInt ∧ ((kn12 : Nat) : Int) ≤ 160 * n6.toInt + 60 * n3.toInt := by refine ⟨?_, ?_, ?_, ?_, ?_, ?_, ?_, ?_⟩ <;> (first | (apply Int.le_antisymm <;> omega) | omega)
  clear m1_ m2_ m3_ m4_ m5_ m6_ m7_ m8_
  obtain ⟨gw, hgw⟩ := wd_gw hlw.out
  replace hgw : bx _ := hgw
  refine w_loopz (σ := (List Nat) × (Nat → Option Nat) × (Nat → Option Nat) × (Nat → Int32) × (Nat → Int32) × (Nat → Int64) × Int32 × Int32 × Int32 × Int32 × Int64 × Int32 × Int32 × Int32 × Int32 × Int32 × Nat × Nat × (Nat → va_E) × Value) (fun u H locs ls => match u with | (j24_PO_L, j24_fun_, j24_gnm, j24_gpl, j24_gty, j24_gvl, j24_h0_from, j24_h0_funCount, j24_h0_globalCount, j24_h0_kind, j24_h0_numeral, j24_h0_open, j24_h0_signs, j24_h0_to, j24_rf_place, j24_rf_reason, j24_C, j24_S, j24_PO, j24_h0_word) => (0 ≤ j24_h0_from.toInt ∧ j24_h0_from.toInt ≤ 2000) ∧ (0 ≤ j24_h0_funCount.toInt ∧ j24_h0_funCount.toInt ≤ 20) ∧ (0 ≤ j24_h0_globalCount.toInt ∧ j24_h0_globalCount.toInt ≤ 20) ∧ (0 ≤ j24_h0_open.toInt ∧ j24_h0_open.toInt ≤ 40) ∧ (0 ≤ j24_h0_signs.toInt ∧ j24_h0_signs.toInt ≤ 200) ∧ (0 ≤ j24_h0_to.toInt ∧ j24_h0_to.toInt ≤ 2000) ∧ (bx (lx9 gtap h0_length.toInt j24_h0_kind.toInt j24_h0_from.toInt j24_h0_to.toInt j24_h0_numeral.toInt)) ∧ (bx (lw9 j24_PO_L j24_PO cpb j24_h0_word j24_h0_kind.toInt)) ∧ (bx (pex LP fP j24_PO_L j24_PO)) ∧ (0 ≤ j24_h0_from.toInt ∧ j24_h0_from.toInt ≤ j24_h0_to.toInt ∧ j24_h0_to.toInt ≤ h0_length.toInt ∧ 0 ≤ j24_h0_kind.toInt ∧ j24_h0_kind.toInt ≤ 6 ∧ (j24_h0_kind.toInt ≠ 0 → j24_h0_from.toInt < j24_h0_to.toInt) ∧ (j24_C : Int) ≤ 16 * j24_h0_to.toInt + 8 * j24_h0_from.toInt ∧ (j24_S : Int) ≤ 160 * j24_h0_to.toInt + 60 * j24_h0_from.toInt) ∧ (bx (glb9 j24_PO_L j24_PO cpb j24_h0_globalCount.toInt j24_gnm j24_gty j24_gvl)) ∧ (bx (fns9 cps cr cpn cpb LP j24_PO_L j24_PO j24_h0_funCount.toInt j24_fun_ (20 * j24_h0_from.toInt - 16 * j24_h0_funCount.toInt))) ∧ va_P (dC, dI) cls2 (((wz_583 rf rf_backtrace rf_detailMessage rf_cause rf_stackTrace rf_depth rf_suppressedExceptions j24_rf_reason j24_rf_place lev clev glev gnm cgnm j24_gnm gpl cgpl j24_gpl gty cgty j24_gty gvl cgvl j24_gvl fun_ cfun_ j24_fun_ h0 rf tap h0_taped h0_length j24_h0_kind j24_h0_from j24_h0_to j24_h0_word j24_h0_numeral gnm gpl gty gvl j24_h0_globalCount fun_ j24_h0_funCount j24_h0_open j24_h0_signs lev h0_now h0_known_r h0_knownCount h0_loops mad h0_madeLength mag h0_smalls_r h0_greats_r h0_module_r h0_spare_r h0_m h0_cursor h0_limit blk stk h0_top hgt lab ous kis los h0_depth h0_function mem h0_pages glo val h0_valueTop ffu fre fba fla h0_frames lat lhe h0_labelTop h0_steps h0_there rsl h0_resultLength h0_reason h0_place arg h0_argumentCount h0_code tap ctap gtap) : va_W) ++ va_pl j24_PO_L j24_PO) H ∧ va_D A (((wz_583 rf rf_backtrace rf_detailMessage rf_cause rf_stackTrace rf_depth rf_suppressedExceptions j24_rf_reason j24_rf_place lev clev glev gnm cgnm j24_gnm gpl cgpl j24_gpl gty cgty j24_gty gvl cgvl j24_gvl fun_ cfun_ j24_fun_ h0 rf tap h0_taped h0_length j24_h0_kind j24_h0_from j24_h0_to j24_h0_word j24_h0_numeral gnm gpl gty gvl j24_h0_globalCount fun_ j24_h0_funCount j24_h0_open j24_h0_signs lev h0_now h0_known_r h0_knownCount h0_loops mad h0_madeLength mag h0_smalls_r h0_greats_r h0_module_r h0_spare_r h0_m h0_cursor h0_limit blk stk h0_top hgt lab ous kis los h0_depth h0_function mem h0_pages glo val h0_valueTop ffu fre fba fla h0_frames lat lhe h0_labelTop h0_steps h0_there rsl h0_resultLength h0_reason h0_place arg h0_argumentCount h0_code tap ctap gtap) : va_W) ++ va_pl j24_PO_L j24_PO) ∧ va_S A s.heap H locs ∧ lv_has ls 1 [(0, .ref h0)]) (fun u => match u with | (j24_PO_L, j24_fun_, j24_gnm, j24_gpl, j24_gty, j24_gvl, j24_h0_from, j24_h0_funCount, j24_h0_globalCount, j24_h0_kind, j24_h0_numeral, j24_h0_open, j24_h0_signs, j24_h0_to, j24_rf_place, j24_rf_reason, j24_C, j24_S, j24_PO, j24_h0_word) => []) (fun u => match u with | (j24_PO_L, j24_fun_, j24_gnm, j24_gpl, j24_gty, j24_gvl, j24_h0_from, j24_h0_funCount, j24_h0_globalCount, j24_h0_kind, j24_h0_numeral, j24_h0_open, j24_h0_signs, j24_h0_to, j24_rf_place, j24_rf_reason, j24_C, j24_S, j24_PO, j24_h0_word) => j24_C) (fun u => match u with | (j24_PO_L, j24_fun_, j24_gnm, j24_gpl, j24_gty, j24_gvl, j24_h0_from, j24_h0_funCount, j24_h0_globalCount, j24_h0_kind, j24_h0_numeral, j24_h0_open, j24_h0_signs, j24_h0_to, j24_rf_place, j24_rf_reason, j24_C, j24_S, j24_PO, j24_h0_word) => j24_S) (fun u => match u with | (j24_PO_L, j24_fun_, j24_gnm, j24_gpl, j24_gty, j24_gvl, j24_h0_from, j24_h0_funCount, j24_h0_globalCount, j24_h0_kind, j24_h0_numeral, j24_h0_open, j24_h0_signs, j24_h0_to, j24_rf_place, j24_rf_reason, j24_C, j24_S, j24_PO, j24_h0_word) => (2001 - j24_h0_from.toInt).toNat) ?_ (n2, gfun_, ggnm, ggpl, ggty, ggvl, n3, 0, 0, n4, n5, 0, h0_signs, n6, rf_place, rf_reason, kc11, kn12, n9, n10) rfl rfl rfl ⟨bn3, by (try dsimp only) <;> (first | (apply Int.le_antisymm <;> omega) | omega), by (try dsimp only) <;> (first | (apply Int.le_antisymm <;> omega) | omega), by (try dsimp only) <;> (first | (apply Int.le_antisymm <;> omega) | omega), b_h0_signs, bn6, hlx, hlw, px, by (try dsimp only) <;> (first | (apply Int.le_antisymm <;> omega) | omega), (fun j hj => absurd hj (by rw [k0]; (first | (apply Int.le_antisymm <;> omega) | omega))), (fns_0 (by (first | (apply Int.le_antisymm <;> omega) | omega))), hP, hD, hS, lv_sub hl [0] rfl⟩
  intro N24 ih24 u H locs ls hN24 hI
  obtain ⟨j24_PO_L, j24_fun_, j24_gnm, j24_gpl, j24_gty, j24_gvl, j24_h0_from, j24_h0_funCount, j24_h0_globalCount, j24_h0_kind, hq9r⟩ := u
  obtain ⟨j24_h0_numeral, j24_h0_open, j24_h0_signs, j24_h0_to, j24_rf_place, j24_rf_reason, j24_C, j24_S, j24_PO, j24_h0_word⟩ := hq9r
  obtain ⟨b_j24_h0_from, b_j24_h0_funCount, b_j24_h0_globalCount, b_j24_h0_open, b_j24_h0_signs, b_j24_h0_to, hlx, hlw, px, ad, hq9r⟩ := hI
  obtain ⟨gb_, fb_, hP, hD, hS, hl⟩ := hq9r
  dsimp only
  have hN24 : (2001 - j24_h0_from.toInt).toNat < N24 + 1 := hN24
  refine lv_aload_n hx hb d_MD_program_24 rfl (lv_at hl 0 rfl) ?_
  refine va_get (D := (dC, dI)) (ci := 11) (v := .int j24_h0_kind) (C := R_MD) (T := F_MD) (N := 65) hx hb hts i_MD hown hK hP 7 rfl rfl 4 (by decide) (hts _ kF_MD_33) (fun _ h9 => h9) rfl d_MD_program_25 ?_
  refine w_cut (pc2 := 38) (σ := Unit) (fun u H locs ls => match u with | _ => va_P (dC, dI) cls2 (((wz_583 rf rf_backtrace rf_detailMessage rf_cause rf_stackTrace rf_depth rf_suppressedExceptions j24_rf_reason j24_rf_place lev clev glev gnm cgnm j24_gnm gpl cgpl j24_gpl gty cgty j24_gty gvl cgvl j24_gvl fun_ cfun_ j24_fun_ h0 rf tap h0_taped h0_length j24_h0_kind j24_h0_from j24_h0_to j24_h0_word j24_h0_numeral gnm gpl gty gvl j24_h0_globalCount fun_ j24_h0_funCount j24_h0_open j24_h0_signs lev h0_now h0_known_r h0_knownCount h0_loops mad h0_madeLength mag h0_smalls_r h0_greats_r h0_module_r h0_spare_r h0_m h0_cursor h0_limit blk stk h0_top hgt lab ous kis los h0_depth h0_function mem h0_pages glo val h0_valueTop ffu fre fba fla h0_frames lat lhe h0_labelTop h0_steps h0_there rsl h0_resultLength h0_reason h0_place arg h0_argumentCount h0_code tap ctap gtap) : va_W) ++ va_pl j24_PO_L j24_PO) H ∧ va_D A (((wz_583 rf rf_backtrace rf_detailMessage rf_cause rf_stackTrace rf_depth rf_suppressedExceptions j24_rf_reason j24_rf_place lev clev glev gnm cgnm j24_gnm gpl cgpl j24_gpl gty cgty j24_gty gvl cgvl j24_gvl fun_ cfun_ j24_fun_ h0 rf tap h0_taped h0_length j24_h0_kind j24_h0_from j24_h0_to j24_h0_word j24_h0_numeral gnm gpl gty gvl j24_h0_globalCount fun_ j24_h0_funCount j24_h0_open j24_h0_signs lev h0_now h0_known_r h0_knownCount h0_loops mad h0_madeLength mag h0_smalls_r h0_greats_r h0_module_r h0_spare_r h0_m h0_cursor h0_limit blk stk h0_top hgt lab ous kis los h0_depth h0_function mem h0_pages glo val h0_valueTop ffu fre fba fla h0_frames lat lhe h0_labelTop h0_steps h0_there rsl h0_resultLength h0_reason h0_place arg h0_argumentCount h0_code tap ctap gtap) : va_W) ++ va_pl j24_PO_L j24_PO) ∧ va_S A s.heap H locs ∧ lv_has ls 1 [(0, .ref h0)]) (fun u => match u with | _ => []) ?_ (fun jn38 => ?_)
  · intro u H locs ls hI
    obtain ⟨hP, hD, hS, hl⟩ := hI
    obtain ⟨gw, hgw⟩ := wd_gw hlw.out
    replace hgw : bx _ := hgw
    refine lv_aload_n hx hb d_MD_program_38 rfl (lv_at hl 0 rfl) ?_
    refine va_ldcS hx hb hown (hSW.lr 9 rfl) d_MD_program_39 ?_
    refine w_known (fun hzc hzs => ?_)
    have hPc := hP.part (cx := (wz_307 h0 rf tap h0_taped h0_length j24_h0_kind j24_h0_from j24_h0_to j24_h0_word j24_h0_numeral gnm gpl gty gvl j24_h0_globalCount fun_ j24_h0_funCount j24_h0_open j24_h0_signs lev h0_now h0_known_r h0_knownCount h0_loops mad h0_madeLength mag h0_smalls_r h0_greats_r h0_module_r h0_spare_r h0_m h0_cursor h0_limit blk stk h0_top hgt lab ous kis los h0_depth h0_function mem h0_pages glo val h0_valueTop ffu fre fba fla h0_frames lat lhe h0_labelTop h0_steps h0_there rsl h0_resultLength h0_reason h0_place arg h0_argumentCount h0_code tap ctap gtap)) [7, 8] rfl
    have hDc := hD.part (cx := (wz_307 h0 rf tap h0_taped h0_length j24_h0_kind j24_h0_from j24_h0_to j24_h0_word j24_h0_numeral gnm gpl gty gvl j24_h0_globalCount fun_ j24_h0_funCount j24_h0_open j24_h0_signs lev h0_now h0_known_r h0_knownCount h0_loops mad h0_madeLength mag h0_smalls_r h0_greats_r h0_module_r h0_spare_r h0_m h0_cursor h0_limit blk stk h0_top hgt lab ous kis los h0_depth h0_function mem h0_pages glo val h0_valueTop ffu fre fba fla h0_frames lat lhe h0_labelTop h0_steps h0_there rsl h0_resultLength h0_reason h0_place arg h0_argumentCount h0_code tap ctap gtap)) [7, 8] (by decide) rfl
    have hKc := hK.sb (tyq := [(ctap, .byte), (cr, .int), (cpn, .object "WaferForgeModel$N"), (cpb, .byte)]) [0, 7, 8, 9] rfl
    have hFc := va_freeP (cx := (wz_307 h0 rf tap h0_taped h0_length j24_h0_kind j24_h0_from j24_h0_to j24_h0_word j24_h0_numeral gnm gpl gty gvl j24_h0_globalCount fun_ j24_h0_funCount j24_h0_open j24_h0_signs lev h0_now h0_known_r h0_knownCount h0_loops mad h0_madeLength mag h0_smalls_r h0_greats_r h0_module_r h0_spare_r h0_m h0_cursor h0_limit blk stk h0_top hgt lab ous kis los h0_depth h0_function mem h0_pages glo val h0_valueTop ffu fre fba fla h0_frames lat lhe h0_labelTop h0_steps h0_there rsl h0_resultLength h0_reason h0_place arg h0_argumentCount h0_code tap ctap gtap)) hD hS hA [7, 8] rfl
    refine va_calli (va_runV (As := [.ref (sa 409)]) (rest := []) ⟨hx, hb, hml, hown, hts⟩ (c_MD_take1 l hlt dC dI H.size (hsl H) sa ((sa 409)) ((sa 509)) ((litB.getD 9 [])) h0 rf tap gnm gpl gty gvl fun_ lev h0_known_r mad mag h0_smalls_r h0_greats_r h0_module_r h0_spare_r blk stk hgt lab ous kis los mem glo val ffu fre fba fla lat lhe rsl arg ctap cr cpn cpb h0_taped h0_length j24_h0_kind j24_h0_from j24_h0_to j24_h0_word j24_h0_numeral j24_h0_globalCount j24_h0_funCount j24_h0_open j24_h0_signs h0_now h0_knownCount h0_loops h0_madeLength h0_m h0_cursor h0_limit h0_top h0_depth h0_function h0_pages h0_valueTop h0_frames h0_labelTop h0_steps h0_there h0_resultLength h0_reason h0_place h0_argumentCount h0_code gtap j24_PO_L j24_PO (b_h0_length) (b_j24_h0_from) (b_j24_h0_to) (by decide) (hlx) (hlw)) (cwV 1 hts (gV kM_MD_119 kV_MD_take1 kS_MD_take1 kI_MD kC_MD_take1) rfl rfl rfl (by decide +kernel) ⟨Nat.le_of_ble_eq_true rfl, Nat.le_of_ble_eq_true rfl⟩) ⟨fun a U g mk z => by obtain ⟨z0, z1, zP, zK, zD, zS, zR0, zZ⟩ := z; exact ⟨z0, z1, zP, va_K.moved (u := U) (U := U.calling g mk a) (Vm.Alike.refl U.vm) zK, zD, sm.same (u := U) (U := U.calling g mk a) rfl zS, zR0.moved (u := U) (U := U.calling g mk a) (Vm.Alike.refl U.vm), zZ⟩, va_recv hKc hPc (ci := 11) (q0 := 0) rfl rfl, fun U hU hW => ⟨rfl, by rw [hU], va_P.he hU.symm hPc, va_K.moved hW.alike hKc, hDc.weaken (fun _ _ _ _ => trivial), hSW.call hS hFc hW hU, ((hSW.ls 9 (by decide))).call hS hFc hW hU, by rw [hU]⟩⟩ rfl rfl hl.1 rfl (lv_room (Nat.le_of_ble_eq_true rfl)) d_MD_program_41 ⟨by dsimp only [headSpec]; (first | (apply Int.le_antisymm <;> omega) | omega), by dsimp only [headSpec]; (first | (apply Int.le_antisymm <;> omega) | omega)⟩) hS (fun q _ h => hFc q h) hFc (fun r13 u t H1 locs ht hvm hw hB hz1 hk1 hS => ?_)
    obtain ⟨n14, n15, n16, n17, n18, n19, n20, n21, n22⟩ := u
    try dsimp only at hw
    obtain ⟨br13, bn15, bn18, xr13⟩ := hw
    try clear hw
    have tr13 := b01 br13
    have y41 := xr13
    replace y41 : bx _ := y41
    clear xr13
    obtain ⟨hP1, hK1, hD1, hZc, hZs⟩ := hB
    rw [ht] at hP1 hZc hZs
    obtain ⟨kc23, ekc23⟩ : ∃ z : Nat, z = j24_C + n19 := ⟨_, rfl⟩
    obtain ⟨kn24, ekn24⟩ : ∃ z : Nat, z = j24_S + n20 := ⟨_, rfl⟩
    refine w_refund (c2 := kc23) (n2 := kn24) (by (first | (apply Int.le_antisymm <;> omega) | omega)) (by (first | (apply Int.le_antisymm <;> omega) | omega)) ?_
    clear hzc hzs hZc hZs
    obtain ⟨hP, hD⟩ := va_joinP (wr := [(rf, .inr (15, [rf_backtrace, rf_detailMessage, rf_cause, rf_stackTrace, .int rf_depth, rf_suppressedExceptions, .int j24_rf_reason, .int j24_rf_place])), (lev, .inl (clev, 7, .inr (.inr (.inr (.inr glev))))), (gnm, .inl (cgnm, 20, .inr (.inr (.inr (.inr j24_gnm))))), (gpl, .inl (cgpl, 20, .inl j24_gpl)), (gty, .inl (cgty, 20, .inl j24_gty)), (gvl, .inl (cgvl, 20, .inr (.inl j24_gvl))), (fun_, .inl (cfun_, 20, .inr (.inr (.inr (.inr j24_fun_)))))]) (rx := (wz_307 h0 rf tap h0_taped h0_length n16 n15 n18 n22 n17 gnm gpl gty gvl j24_h0_globalCount fun_ j24_h0_funCount j24_h0_open j24_h0_signs lev h0_now h0_known_r h0_knownCount h0_loops mad h0_madeLength mag h0_smalls_r h0_greats_r h0_module_r h0_spare_r h0_m h0_cursor h0_limit blk stk h0_top hgt lab ous kis los h0_depth h0_function mem h0_pages glo val h0_valueTop ffu fre fba fla h0_frames lat lhe h0_labelTop h0_steps h0_there rsl h0_resultLength h0_reason h0_place arg h0_argumentCount h0_code tap ctap gtap)) hP hD [7, 8] [0, 1, 2, 3, 4, 5, 6] rfl rfl (by decide) (by decide) hk1 hFc hP1 hD1
    clear hPc hDc hKc hFc hz1 hk1 hP1 hK1 hD1
    rename Heap => H
    have hP : va_P (dC, dI) cls2 (((wz_583 rf rf_backtrace rf_detailMessage rf_cause rf_stackTrace rf_depth rf_suppressedExceptions j24_rf_reason j24_rf_place lev clev glev gnm cgnm j24_gnm gpl cgpl j24_gpl gty cgty j24_gty gvl cgvl j24_gvl fun_ cfun_ j24_fun_ h0 rf tap h0_taped h0_length n16 n15 n18 n22 n17 gnm gpl gty gvl j24_h0_globalCount fun_ j24_h0_funCount j24_h0_open j24_h0_signs lev h0_now h0_known_r h0_knownCount h0_loops mad h0_madeLength mag h0_smalls_r h0_greats_r h0_module_r h0_spare_r h0_m h0_cursor h0_limit blk stk h0_top hgt lab ous kis los h0_depth h0_function mem h0_pages glo val h0_valueTop ffu fre fba fla h0_frames lat lhe h0_labelTop h0_steps h0_there rsl h0_resultLength h0_reason h0_place arg h0_argumentCount h0_code tap ctap gtap) : va_W) ++ va_pl n14 n21) H := hP
    have hD : va_D A (((wz_583 rf rf_backtrace rf_detailMessage rf_cause rf_stackTrace rf_depth rf_suppressedExceptions j24_rf_reason j24_rf_place lev clev glev gnm cgnm j24_gnm gpl cgpl j24_gpl gty cgty j24_gty gvl cgvl j24_gvl fun_ cfun_ j24_fun_ h0 rf tap h0_taped h0_length n16 n15 n18 n22 n17 gnm gpl gty gvl j24_h0_globalCount fun_ j24_h0_funCount j24_h0_open j24_h0_signs lev h0_now h0_known_r h0_knownCount h0_loops mad h0_madeLength mag h0_smalls_r h0_greats_r h0_module_r h0_spare_r h0_m h0_cursor h0_limit blk stk h0_top hgt lab ous kis los h0_depth h0_function mem h0_pages glo val h0_valueTop ffu fre fba fla h0_frames lat lhe h0_labelTop h0_steps h0_there rsl h0_resultLength h0_reason h0_place arg h0_argumentCount h0_code tap ctap gtap) : va_W) ++ va_pl n14 n21) := hD
    refine lv_if_eq (tgt := 54) hx hb d_MD_program_44 (by decide) (fun c44 => ?_) (fun c44 => ?_)
    · have q44 := eqI c44
      obtain ⟨-, e1, e2, e3, e4, e5, e6, e7, e8, e9⟩ := y41.out.resolve_right (fun q => by have := q.1; (first | (apply Int.le_antisymm <;> omega) | omega))
      rw [e1, e2, e3, e4, e5, e6, e7] at hP hD
      clear e1 e2 e3 e4 e5 e6 e7
      have hP : va_P (dC, dI) cls2 (((wz_583 rf rf_backtrace rf_detailMessage rf_cause rf_stackTrace rf_depth rf_suppressedExceptions j24_rf_reason j24_rf_place lev clev glev gnm cgnm j24_gnm gpl cgpl j24_gpl gty cgty j24_gty gvl cgvl j24_gvl fun_ cfun_ j24_fun_ h0 rf tap h0_taped h0_length j24_h0_kind j24_h0_from j24_h0_to j24_h0_word j24_h0_numeral gnm gpl gty gvl j24_h0_globalCount fun_ j24_h0_funCount j24_h0_open j24_h0_signs lev h0_now h0_known_r h0_knownCount h0_loops mad h0_madeLength mag h0_smalls_r h0_greats_r h0_module_r h0_spare_r h0_m h0_cursor h0_limit blk stk h0_top hgt lab ous kis los h0_depth h0_function mem h0_pages glo val h0_valueTop ffu fre fba fla h0_frames lat lhe h0_labelTop h0_steps h0_there rsl h0_resultLength h0_reason h0_place arg h0_argumentCount h0_code tap ctap gtap) : va_W) ++ va_pl j24_PO_L j24_PO) H := hP
      have hD : va_D A (((wz_583 rf rf_backtrace rf_detailMessage rf_cause rf_stackTrace rf_depth rf_suppressedExceptions j24_rf_reason j24_rf_place lev clev glev gnm cgnm j24_gnm gpl cgpl j24_gpl gty cgty j24_gty gvl cgvl j24_gvl fun_ cfun_ j24_fun_ h0 rf tap h0_taped h0_length j24_h0_kind j24_h0_from j24_h0_to j24_h0_word j24_h0_numeral gnm gpl gty gvl j24_h0_globalCount fun_ j24_h0_funCount j24_h0_open j24_h0_signs lev h0_now h0_known_r h0_knownCount h0_loops mad h0_madeLength mag h0_smalls_r h0_greats_r h0_module_r h0_spare_r h0_m h0_cursor h0_limit blk stk h0_top hgt lab ous kis los h0_depth h0_function mem h0_pages glo val h0_valueTop ffu fre fba fla h0_frames lat lhe h0_labelTop h0_steps h0_there rsl h0_resultLength h0_reason h0_place arg h0_argumentCount h0_code tap ctap gtap) : va_W) ++ va_pl j24_PO_L j24_PO) := hD
      refine lv_aload_n hx hb d_MD_program_54 rfl (lv_at hl 0 rfl) ?_
      refine va_ldcS hx hb hown (hSW.lr 16 rfl) d_MD_program_55 ?_
      refine w_known (fun hzc hzs => ?_)
      have hPc := hP.part (cx := (wz_507 h0 rf tap h0_taped h0_length j24_h0_kind j24_h0_from j24_h0_to j24_h0_word j24_h0_numeral gnm gpl gty gvl j24_h0_globalCount fun_ j24_h0_funCount j24_h0_open j24_h0_signs lev h0_now h0_known_r h0_knownCount h0_loops mad h0_madeLength mag h0_smalls_r h0_greats_r h0_module_r h0_spare_r h0_m h0_cursor h0_limit blk stk h0_top hgt lab ous kis los h0_depth h0_function mem h0_pages glo val h0_valueTop ffu fre fba fla h0_frames lat lhe h0_labelTop h0_steps h0_there rsl h0_resultLength h0_reason h0_place arg h0_argumentCount h0_code rf rf_backtrace rf_detailMessage rf_cause rf_stackTrace rf_depth rf_suppressedExceptions j24_rf_reason j24_rf_place tap ctap gtap)) [7, 0, 8] rfl
      have hDc := hD.part (cx := (wz_507 h0 rf tap h0_taped h0_length j24_h0_kind j24_h0_from j24_h0_to j24_h0_word j24_h0_numeral gnm gpl gty gvl j24_h0_globalCount fun_ j24_h0_funCount j24_h0_open j24_h0_signs lev h0_now h0_known_r h0_knownCount h0_loops mad h0_madeLength mag h0_smalls_r h0_greats_r h0_module_r h0_spare_r h0_m h0_cursor h0_limit blk stk h0_top hgt lab ous kis los h0_depth h0_function mem h0_pages glo val h0_valueTop ffu fre fba fla h0_frames lat lhe h0_labelTop h0_steps h0_there rsl h0_resultLength h0_reason h0_place arg h0_argumentCount h0_code rf rf_backtrace rf_detailMessage rf_cause rf_stackTrace rf_depth rf_suppressedExceptions j24_rf_reason j24_rf_place tap ctap gtap)) [7, 0, 8] (by decide) rfl
      have hKc := hK.sb (tyq := [(ctap, .byte), (cr, .int), (cpn, .object "WaferForgeModel$N"), (cpb, .byte)]) [0, 7, 8, 9] rfl
      have hFc := va_freeP (cx := (wz_507 h0 rf tap h0_taped h0_length j24_h0_kind j24_h0_from j24_h0_to j24_h0_word j24_h0_numeral gnm gpl gty gvl j24_h0_globalCount fun_ j24_h0_funCount j24_h0_open j24_h0_signs lev h0_now h0_known_r h0_knownCount h0_loops mad h0_madeLength mag h0_smalls_r h0_greats_r h0_module_r h0_spare_r h0_m h0_cursor h0_limit blk stk h0_top hgt lab ous kis los h0_depth h0_function mem h0_pages glo val h0_valueTop ffu fre fba fla h0_frames lat lhe h0_labelTop h0_steps h0_there rsl h0_resultLength h0_reason h0_place arg h0_argumentCount h0_code rf rf_backtrace rf_detailMessage rf_cause rf_stackTrace rf_depth rf_suppressedExceptions j24_rf_reason j24_rf_place tap ctap gtap)) hD hS hA [7, 0, 8] rfl
      refine tr_callv (tz_runV (As := [.ref (sa 416)]) (rest := []) ⟨hx, hb, hml, hown, hts⟩ (c_MD_need l hlt dC dI H.size (hsl H) sa ((sa 416)) ((sa 516)) ((litB.getD 16 [])) h0 rf tap gnm gpl gty gvl fun_ lev h0_known_r mad mag h0_smalls_r h0_greats_r h0_module_r h0_spare_r blk stk hgt lab ous kis los mem glo val ffu fre fba fla lat lhe rsl arg ctap cr cpn cpb h0_taped h0_length j24_h0_kind j24_h0_from j24_h0_to j24_h0_word j24_h0_numeral j24_h0_globalCount j24_h0_funCount j24_h0_open j24_h0_signs h0_now h0_knownCount h0_loops h0_madeLength h0_m h0_cursor h0_limit h0_top h0_depth h0_function h0_pages h0_valueTop h0_frames h0_labelTop h0_steps h0_there h0_resultLength h0_reason h0_place h0_argumentCount h0_code rf_backtrace rf_detailMessage rf_cause rf_stackTrace rf_depth rf_suppressedExceptions j24_rf_reason j24_rf_place gtap j24_PO_L j24_PO (b_h0_length) (b_j24_h0_from) (b_j24_h0_to) (by decide) (hlx) (hlw)) (cwV 1 hts (gV kM_MD_152 kV_MD_need kS_MD_need kI_MD kC_MD_need) rfl rfl rfl (by decide +kernel) ⟨Nat.le_of_ble_eq_true rfl, Nat.le_of_ble_eq_true rfl⟩) ⟨fun a U g mk z => by obtain ⟨z0, z1, zP, zK, zD, zS, zR0, zZ⟩ := z; exact ⟨z0, z1, zP, va_K.moved (u := U) (U := U.calling g mk a) (Vm.Alike.refl U.vm) zK, zD, sm.same (u := U) (U := U.calling g mk a) rfl zS, zR0.moved (u := U) (U := U.calling g mk a) (Vm.Alike.refl U.vm), zZ⟩, va_recv hKc hPc (ci := 11) (q0 := 0) rfl rfl, fun U hU hW => ⟨rfl, by rw [hU], va_P.he hU.symm hPc, va_K.moved hW.alike hKc, hDc.weaken (fun _ _ _ _ => trivial), hSW.call hS hFc hW hU, ((hSW.ls 16 (by decide))).call hS hFc hW hU, by rw [hU]⟩⟩ rfl rfl hl.1 rfl (lv_room (Nat.le_of_ble_eq_true rfl)) d_MD_program_57 ⟨by dsimp only [headSpec]; (first | (apply Int.le_antisymm <;> omega) | omega), by dsimp only [headSpec]; (first | (apply Int.le_antisymm <;> omega) | omega)⟩) hS (fun q _ h => hFc q h) hFc (fun u t H1 locs ht hvm hw hB hz1 hk1 hS => ?_) (fun xx u t H1 locs ht hvm hw hXX hB hz1 hk1 hS => ?_)
      rotate_left
      · skip
        obtain ⟨hxa, hXX⟩ := hXX
        obtain ⟨n26, n27, n28, n29, n30, n31, n32, n33, n34, n35, n36⟩ := u
        try dsimp only at hw
        obtain ⟨bn27, bn30, tq9⟩ := hw
        obtain ⟨hP1, hK1, hD1, hZc, hZs⟩ := hB
        rw [ht] at hP1 hZc hZs
        obtain ⟨hP, hD⟩ := va_joinP (wr := [(lev, .inl (clev, 7, .inr (.inr (.inr (.inr glev))))), (gnm, .inl (cgnm, 20, .inr (.inr (.inr (.inr j24_gnm))))), (gpl, .inl (cgpl, 20, .inl j24_gpl)), (gty, .inl (cgty, 20, .inl j24_gty)), (gvl, .inl (cgvl, 20, .inr (.inl j24_gvl))), (fun_, .inl (cfun_, 20, .inr (.inr (.inr (.inr j24_fun_)))))]) (rx := (wz_507 h0 rf tap h0_taped h0_length n28 n27 n30 n36 n29 gnm gpl gty gvl j24_h0_globalCount fun_ j24_h0_funCount j24_h0_open j24_h0_signs lev h0_now h0_known_r h0_knownCount h0_loops mad h0_madeLength mag h0_smalls_r h0_greats_r h0_module_r h0_spare_r h0_m h0_cursor h0_limit blk stk h0_top hgt lab ous kis los h0_depth h0_function mem h0_pages glo val h0_valueTop ffu fre fba fla h0_frames lat lhe h0_labelTop h0_steps h0_there rsl h0_resultLength h0_reason h0_place arg h0_argumentCount h0_code rf rf_backtrace rf_detailMessage rf_cause rf_stackTrace rf_depth rf_suppressedExceptions n32 n31 tap ctap gtap)) hP hD [7, 0, 8] [1, 2, 3, 4, 5, 6] rfl rfl (by decide) (by decide) hk1 hFc hP1 hD1
        have hP : va_P (dC, dI) cls2 (((wz_584 lev clev glev gnm cgnm j24_gnm gpl cgpl j24_gpl gty cgty j24_gty gvl cgvl j24_gvl fun_ cfun_ j24_fun_ h0 rf tap h0_taped h0_length n28 n27 n30 n36 n29 gnm gpl gty gvl j24_h0_globalCount fun_ j24_h0_funCount j24_h0_open j24_h0_signs lev h0_now h0_known_r h0_knownCount h0_loops mad h0_madeLength mag h0_smalls_r h0_greats_r h0_module_r h0_spare_r h0_m h0_cursor h0_limit blk stk h0_top hgt lab ous kis los h0_depth h0_function mem h0_pages glo val h0_valueTop ffu fre fba fla h0_frames lat lhe h0_labelTop h0_steps h0_there rsl h0_resultLength h0_reason h0_place arg h0_argumentCount h0_code rf rf_backtrace rf_detailMessage rf_cause rf_stackTrace rf_depth rf_suppressedExceptions n32 n31 tap ctap gtap) : va_W) ++ va_pl n26 n35) H1 := hP
        have hD : va_D A (((wz_584 lev clev glev gnm cgnm j24_gnm gpl cgpl j24_gpl gty cgty j24_gty gvl cgvl j24_gvl fun_ cfun_ j24_fun_ h0 rf tap h0_taped h0_length n28 n27 n30 n36 n29 gnm gpl gty gvl j24_h0_globalCount fun_ j24_h0_funCount j24_h0_open j24_h0_signs lev h0_now h0_known_r h0_knownCount h0_loops mad h0_madeLength mag h0_smalls_r h0_greats_r h0_module_r h0_spare_r h0_m h0_cursor h0_limit blk stk h0_top hgt lab ous kis los h0_depth h0_function mem h0_pages glo val h0_valueTop ffu fre fba fla h0_frames lat lhe h0_labelTop h0_steps h0_there rsl h0_resultLength h0_reason h0_place arg h0_argumentCount h0_code rf rf_backtrace rf_detailMessage rf_cause rf_stackTrace rf_depth rf_suppressedExceptions n32 n31 tap ctap gtap) : va_W) ++ va_pl n26 n35) := hD
        refine x_refund (c2 := kc23 + n33) (n2 := kn24 + n34) (by (first | (apply Int.le_antisymm <;> omega) | omega)) (by (first | (apply Int.le_antisymm <;> omega) | omega)) ?_
        clear hzc hzs hZc hZs
        have hP9 := hP.part (cx := (wz_582 h0 rf tap h0_taped h0_length n28 n27 n30 n36 n29 gnm gpl gty gvl j24_h0_globalCount fun_ j24_h0_funCount j24_h0_open j24_h0_signs lev h0_now h0_known_r h0_knownCount h0_loops mad h0_madeLength mag h0_smalls_r h0_greats_r h0_module_r h0_spare_r h0_m h0_cursor h0_limit blk stk h0_top hgt lab ous kis los h0_depth h0_function mem h0_pages glo val h0_valueTop ffu fre fba fla h0_frames lat lhe h0_labelTop h0_steps h0_there rsl h0_resultLength h0_reason h0_place arg h0_argumentCount h0_code rf rf_backtrace rf_detailMessage rf_cause rf_stackTrace rf_depth rf_suppressedExceptions n32 n31 tap ctap gtap lev clev glev gnm cgnm j24_gnm gpl cgpl j24_gpl gty cgty j24_gty gvl cgvl j24_gvl fun_ cfun_ j24_fun_)) [6, 7, 8, 0, 1, 2, 3, 4, 5] rfl
        have hD9 := hD.part (cx := (wz_582 h0 rf tap h0_taped h0_length n28 n27 n30 n36 n29 gnm gpl gty gvl j24_h0_globalCount fun_ j24_h0_funCount j24_h0_open j24_h0_signs lev h0_now h0_known_r h0_knownCount h0_loops mad h0_madeLength mag h0_smalls_r h0_greats_r h0_module_r h0_spare_r h0_m h0_cursor h0_limit blk stk h0_top hgt lab ous kis los h0_depth h0_function mem h0_pages glo val h0_valueTop ffu fre fba fla h0_frames lat lhe h0_labelTop h0_steps h0_there rsl h0_resultLength h0_reason h0_place arg h0_argumentCount h0_code rf rf_backtrace rf_detailMessage rf_cause rf_stackTrace rf_depth rf_suppressedExceptions n32 n31 tap ctap gtap lev clev glev gnm cgnm j24_gnm gpl cgpl j24_gpl gty cgty j24_gty gvl cgvl j24_gvl fun_ cfun_ j24_fun_)) [6, 7, 8, 0, 1, 2, 3, 4, 5] (by decide) rfl
        refine x_known (fun hzc hzs => ?_)
        refine x_widen (c2 := (32 * h0_length.toInt + 8).toNat) (n2 := (300 * h0_length.toInt + 260).toNat) (by (first | (apply Int.le_antisymm <;> omega) | omega)) (by (first | (apply Int.le_antisymm <;> omega) | omega)) ?_
        exact tz_leave rfl hno hlocks (fun t ht hW => ⟨⟨(n26, j24_fun_, j24_gnm, j24_gpl, j24_gty, j24_gvl, n27, j24_h0_funCount, j24_h0_globalCount, n28, n29, j24_h0_open, j24_h0_signs, n30, n31, n32, (kc23 + n33), (kn24 + n34), n35, n36), ⟨⟨bn27, b_j24_h0_funCount, b_j24_h0_globalCount, b_j24_h0_open, b_j24_h0_signs, bn30, (by first | exact ⟨px.out, by (try dsimp only) <;> (first | (apply Int.le_antisymm <;> omega) | omega), by (try dsimp only) <;> (first | (apply Int.le_antisymm <;> omega) | omega)⟩ | exact ⟨px.out.trans tq9.1, by have h9 := tq9.2; (try dsimp only) <;> (first | (apply Int.le_antisymm <;> omega) | omega), by have h9 := tq9.2; (try dsimp only) <;> (first | (apply Int.le_antisymm <;> omega) | omega)⟩)⟩, hxa, by rw [ht]; exact hXX.moved hW.alike⟩, va_P.he ht.symm hP9, va_K.moved hW.alike hK, hD9, by rw [ht]; exact hzc, by rw [ht]; exact hzs⟩, hS.F ht⟩) hS.2.2
      obtain ⟨n37, n38, n39, n40, n41, n42, n43, n44, n45, n46, n47⟩ := u
      try dsimp only at hw
      obtain ⟨bn38, bn41, xr25⟩ := hw
      try clear hw
      obtain ⟨u2_, u3_⟩ := xr25
      replace u3_ : bx _ := u3_
      obtain ⟨hP1, hK1, hD1, hZc, hZs⟩ := hB
      rw [ht] at hP1 hZc hZs
      obtain ⟨kc48, ekc48⟩ : ∃ z : Nat, z = kc23 + n44 := ⟨_, rfl⟩
      obtain ⟨kn49, ekn49⟩ : ∃ z : Nat, z = kn24 + n45 := ⟨_, rfl⟩
      refine w_refund (c2 := kc48) (n2 := kn49) (by (first | (apply Int.le_antisymm <;> omega) | omega)) (by (first | (apply Int.le_antisymm <;> omega) | omega)) ?_
      clear hzc hzs hZc hZs
      obtain ⟨hP, hD⟩ := va_joinP (wr := [(lev, .inl (clev, 7, .inr (.inr (.inr (.inr glev))))), (gnm, .inl (cgnm, 20, .inr (.inr (.inr (.inr j24_gnm))))), (gpl, .inl (cgpl, 20, .inl j24_gpl)), (gty, .inl (cgty, 20, .inl j24_gty)), (gvl, .inl (cgvl, 20, .inr (.inl j24_gvl))), (fun_, .inl (cfun_, 20, .inr (.inr (.inr (.inr j24_fun_)))))]) (rx := (wz_507 h0 rf tap h0_taped h0_length n39 n38 n41 n47 n40 gnm gpl gty gvl j24_h0_globalCount fun_ j24_h0_funCount j24_h0_open j24_h0_signs lev h0_now h0_known_r h0_knownCount h0_loops mad h0_madeLength mag h0_smalls_r h0_greats_r h0_module_r h0_spare_r h0_m h0_cursor h0_limit blk stk h0_top hgt lab ous kis los h0_depth h0_function mem h0_pages glo val h0_valueTop ffu fre fba fla h0_frames lat lhe h0_labelTop h0_steps h0_there rsl h0_resultLength h0_reason h0_place arg h0_argumentCount h0_code rf rf_backtrace rf_detailMessage rf_cause rf_stackTrace rf_depth rf_suppressedExceptions n43 n42 tap ctap gtap)) hP hD [7, 0, 8] [1, 2, 3, 4, 5, 6] rfl rfl (by decide) (by decide) hk1 hFc hP1 hD1
      clear hPc hDc hKc hFc hz1 hk1 hP1 hK1 hD1
      rename Heap => H
      have hP : va_P (dC, dI) cls2 (((wz_584 lev clev glev gnm cgnm j24_gnm gpl cgpl j24_gpl gty cgty j24_gty gvl cgvl j24_gvl fun_ cfun_ j24_fun_ h0 rf tap h0_taped h0_length n39 n38 n41 n47 n40 gnm gpl gty gvl j24_h0_globalCount fun_ j24_h0_funCount j24_h0_open j24_h0_signs lev h0_now h0_known_r h0_knownCount h0_loops mad h0_madeLength mag h0_smalls_r h0_greats_r h0_module_r h0_spare_r h0_m h0_cursor h0_limit blk stk h0_top hgt lab ous kis los h0_depth h0_function mem h0_pages glo val h0_valueTop ffu fre fba fla h0_frames lat lhe h0_labelTop h0_steps h0_there rsl h0_resultLength h0_reason h0_place arg h0_argumentCount h0_code rf rf_backtrace rf_detailMessage rf_cause rf_stackTrace rf_depth rf_suppressedExceptions n43 n42 tap ctap gtap) : va_W) ++ va_pl n37 n46) H := hP
      have hD : va_D A (((wz_584 lev clev glev gnm cgnm j24_gnm gpl cgpl j24_gpl gty cgty j24_gty gvl cgvl j24_gvl fun_ cfun_ j24_fun_ h0 rf tap h0_taped h0_length n39 n38 n41 n47 n40 gnm gpl gty gvl j24_h0_globalCount fun_ j24_h0_funCount j24_h0_open j24_h0_signs lev h0_now h0_known_r h0_knownCount h0_loops mad h0_madeLength mag h0_smalls_r h0_greats_r h0_module_r h0_spare_r h0_m h0_cursor h0_limit blk stk h0_top hgt lab ous kis los h0_depth h0_function mem h0_pages glo val h0_valueTop ffu fre fba fla h0_frames lat lhe h0_labelTop h0_steps h0_there rsl h0_resultLength h0_reason h0_place arg h0_argumentCount h0_code rf rf_backtrace rf_detailMessage rf_cause rf_stackTrace rf_depth rf_suppressedExceptions n43 n42 tap ctap gtap) : va_W) ++ va_pl n37 n46) := hD
      obtain ⟨hlx, hlw, pz, -, m1_, m2_, m3_, m4_, m5_, m6_, m7_, m8_⟩ := nxt_f u3_.out
      have px : bx (pex LP fP n37 n46) := px.out.trans pz.out
      replace gb_ : bx (glb9 n37 n46 cpb _ _ _ _) := glb_pex pz.out gb_.out
      have fC : j24_h0_from.toInt ≤ n38.toInt := by (first | (apply Int.le_antisymm <;> omega) | omega)
      replace fb_ : bx (fns9 cps cr cpn cpb LP n37 n46 _ _ (20 * n38.toInt - 16 * j24_h0_funCount.toInt)) := fns_pex pz.out (by (first | (apply Int.le_antisymm <;> omega) | omega)) fb_.out
      clear pz
      have ad : 0 ≤ n38.toInt ∧ n38.toInt ≤ n41.toInt ∧ n41.toInt ≤ h0_length.toInt ∧ 0 ≤ n39.toInt ∧ n39.toInt ≤ 6 ∧ (n39.toInt ≠ 0 → n38.toInt < n41.toInt) ∧ ((kc48 : Nat) : Int) ≤ 16 * n41.toInt + 8 * n38.toInt ∧ ((kn49 : Nat) : Int) ≤ 160 * n41.toInt + 60 * n38.toInt := by refine ⟨?_, ?_, ?_, ?_, ?_, ?_, ?_, ?_⟩ <;> (first | (apply Int.le_antisymm <;> omega) | omega)
      clear m1_ m2_ m3_ m4_ m5_ m6_ m7_ m8_
      obtain ⟨gw, hgw⟩ := wd_gw hlw.out
      replace hgw : bx _ := hgw
      refine lv_aload_n hx hb d_MD_program_60 rfl (lv_at hl 0 rfl) ?_
      refine w_known (fun hzc hzs => ?_)
      have hPc := hP.part (cx := (wz_567 h0 rf tap h0_taped h0_length n39 n38 n41 n47 n40 gnm gpl gty gvl j24_h0_globalCount fun_ j24_h0_funCount j24_h0_open j24_h0_signs lev h0_now h0_known_r h0_knownCount h0_loops mad h0_madeLength mag h0_smalls_r h0_greats_r h0_module_r h0_spare_r h0_m h0_cursor h0_limit blk stk h0_top hgt lab ous kis los h0_depth h0_function mem h0_pages glo val h0_valueTop ffu fre fba fla h0_frames lat lhe h0_labelTop h0_steps h0_there rsl h0_resultLength h0_reason h0_place arg h0_argumentCount h0_code rf rf_backtrace rf_detailMessage rf_cause rf_stackTrace rf_depth rf_suppressedExceptions n43 n42 tap ctap gtap lev clev glev fun_ cfun_ j24_fun_)) [6, 7, 8, 0, 5] rfl
      have hDc := hD.part (cx := (wz_567 h0 rf tap h0_taped h0_length n39 n38 n41 n47 n40 gnm gpl gty gvl j24_h0_globalCount fun_ j24_h0_funCount j24_h0_open j24_h0_signs lev h0_now h0_known_r h0_knownCount h0_loops mad h0_madeLength mag h0_smalls_r h0_greats_r h0_module_r h0_spare_r h0_m h0_cursor h0_limit blk stk h0_top hgt lab ous kis los h0_depth h0_function mem h0_pages glo val h0_valueTop ffu fre fba fla h0_frames lat lhe h0_labelTop h0_steps h0_there rsl h0_resultLength h0_reason h0_place arg h0_argumentCount h0_code rf rf_backtrace rf_detailMessage rf_cause rf_stackTrace rf_depth rf_suppressedExceptions n43 n42 tap ctap gtap lev clev glev fun_ cfun_ j24_fun_)) [6, 7, 8, 0, 5] (by decide) rfl
      have hKc := hK.sb (tyq := [(ctap, .byte), (clev, .object "java/lang/String"), (cfun_, .object "WaferForgeModel$Fun"), (cr, .int), (cpn, .object "WaferForgeModel$N"), (cpb, .byte), (cps, .object "java/lang/String")]) [0, 1, 6, 7, 8, 9, 10] rfl
      have hFc := va_freeP (cx := (wz_567 h0 rf tap h0_taped h0_length n39 n38 n41 n47 n40 gnm gpl gty gvl j24_h0_globalCount fun_ j24_h0_funCount j24_h0_open j24_h0_signs lev h0_now h0_known_r h0_knownCount h0_loops mad h0_madeLength mag h0_smalls_r h0_greats_r h0_module_r h0_spare_r h0_m h0_cursor h0_limit blk stk h0_top hgt lab ous kis los h0_depth h0_function mem h0_pages glo val h0_valueTop ffu fre fba fla h0_frames lat lhe h0_labelTop h0_steps h0_there rsl h0_resultLength h0_reason h0_place arg h0_argumentCount h0_code rf rf_backtrace rf_detailMessage rf_cause rf_stackTrace rf_depth rf_suppressedExceptions n43 n42 tap ctap gtap lev clev glev fun_ cfun_ j24_fun_)) hD hS hA [6, 7, 8, 0, 5] rfl
      refine tr_callv (tz_runV (As := []) (rest := []) ⟨hx, hb, hml, hown, hts⟩ (c_MD_function l hlt dC dI H.size (hsl H) sa h0 rf tap gnm gpl gty gvl fun_ lev h0_known_r mad mag h0_smalls_r h0_greats_r h0_module_r h0_spare_r blk stk hgt lab ous kis los mem glo val ffu fre fba fla lat lhe rsl arg ctap clev cfun_ cr cpn cpb cps h0_taped h0_length n39 n38 n41 n47 n40 j24_h0_globalCount j24_h0_funCount j24_h0_open j24_h0_signs h0_now h0_knownCount h0_loops h0_madeLength h0_m h0_cursor h0_limit h0_top h0_depth h0_function h0_pages h0_valueTop h0_frames h0_labelTop h0_steps h0_there h0_resultLength h0_reason h0_place h0_argumentCount h0_code rf_backtrace rf_detailMessage rf_cause rf_stackTrace rf_depth rf_suppressedExceptions n43 n42 gtap glev j24_fun_ n37 n46 (b_h0_length) (bn38) (bn41) (b_j24_h0_funCount) (b_j24_h0_open) (b_j24_h0_signs) (hlx) (hlw) (hlev)) (cwV 0 hts (gV kM_MD_156 kV_MD_function kS_MD_function kI_MD kC_MD_function) rfl rfl rfl (by decide +kernel) ⟨Nat.le_of_ble_eq_true rfl, Nat.le_of_ble_eq_true rfl⟩) ⟨fun a U g mk z => by obtain ⟨z0, z1, zP, zK, zD, zS, zZ⟩ := z; exact ⟨z0, z1, zP, va_K.moved (u := U) (U := U.calling g mk a) (Vm.Alike.refl U.vm) zK, zD, sm.same (u := U) (U := U.calling g mk a) rfl zS, zZ⟩, va_recv hKc hPc (ci := 11) (q0 := 0) rfl rfl, fun U hU hW => ⟨rfl, by rw [hU], va_P.he hU.symm hPc, va_K.moved hW.alike hKc, hDc.weaken (fun _ _ _ _ => trivial), hSW.call hS hFc hW hU, by rw [hU]⟩⟩ rfl rfl hl.1 rfl (lv_room (Nat.le_of_ble_eq_true rfl)) d_MD_program_61 ⟨by dsimp only [headSpec]; (first | (apply Int.le_antisymm <;> omega) | omega), by dsimp only [headSpec]; (first | (apply Int.le_antisymm <;> omega) | omega)⟩) hS (fun q _ h => hFc q h) hFc (fun u t H1 locs ht hvm hw hB hz1 hk1 hS => ?_) (fun xx u t H1 locs ht hvm hw hXX hB hz1 hk1 hS => ?_)
      rotate_left
      · skip
        obtain ⟨hxa, hXX⟩ := hXX
        obtain ⟨n51, n52, n53, n54, n55, n56, n57, n58, n59, n60, n61, n62, n63, n64, n65⟩ := u
        try dsimp only at hw
        obtain ⟨bn53, bn54, bn57, bn58, bn59, tq9⟩ := hw
        obtain ⟨hP1, hK1, hD1, hZc, hZs⟩ := hB
        rw [ht] at hP1 hZc hZs
        obtain ⟨hP, hD⟩ := va_joinP (wr := (wz_561 gnm cgnm j24_gnm gpl cgpl j24_gpl gty cgty j24_gty gvl cgvl j24_gvl)) (rx := (wz_567 h0 rf tap h0_taped h0_length n55 n53 n59 n65 n56 gnm gpl gty gvl j24_h0_globalCount fun_ n54 n57 n58 lev h0_now h0_known_r h0_knownCount h0_loops mad h0_madeLength mag h0_smalls_r h0_greats_r h0_module_r h0_spare_r h0_m h0_cursor h0_limit blk stk h0_top hgt lab ous kis los h0_depth h0_function mem h0_pages glo val h0_valueTop ffu fre fba fla h0_frames lat lhe h0_labelTop h0_steps h0_there rsl h0_resultLength h0_reason h0_place arg h0_argumentCount h0_code rf rf_backtrace rf_detailMessage rf_cause rf_stackTrace rf_depth rf_suppressedExceptions n61 n60 tap ctap gtap lev clev glev fun_ cfun_ n52)) hP hD [6, 7, 8, 0, 5] [1, 2, 3, 4] rfl rfl (by decide) (by decide) hk1 hFc hP1 hD1
        have hP : va_P (dC, dI) cls2 (((wz_585 gnm cgnm j24_gnm gpl cgpl j24_gpl gty cgty j24_gty gvl cgvl j24_gvl h0 rf tap h0_taped h0_length n55 n53 n59 n65 n56 gnm gpl gty gvl j24_h0_globalCount fun_ n54 n57 n58 lev h0_now h0_known_r h0_knownCount h0_loops mad h0_madeLength mag h0_smalls_r h0_greats_r h0_module_r h0_spare_r h0_m h0_cursor h0_limit blk stk h0_top hgt lab ous kis los h0_depth h0_function mem h0_pages glo val h0_valueTop ffu fre fba fla h0_frames lat lhe h0_labelTop h0_steps h0_there rsl h0_resultLength h0_reason h0_place arg h0_argumentCount h0_code rf rf_backtrace rf_detailMessage rf_cause rf_stackTrace rf_depth rf_suppressedExceptions n61 n60 tap ctap gtap lev clev glev fun_ cfun_ n52) : va_W) ++ va_pl n51 n64) H1 := hP
        have hD : va_D A (((wz_585 gnm cgnm j24_gnm gpl cgpl j24_gpl gty cgty j24_gty gvl cgvl j24_gvl h0 rf tap h0_taped h0_length n55 n53 n59 n65 n56 gnm gpl gty gvl j24_h0_globalCount fun_ n54 n57 n58 lev h0_now h0_known_r h0_knownCount h0_loops mad h0_madeLength mag h0_smalls_r h0_greats_r h0_module_r h0_spare_r h0_m h0_cursor h0_limit blk stk h0_top hgt lab ous kis los h0_depth h0_function mem h0_pages glo val h0_valueTop ffu fre fba fla h0_frames lat lhe h0_labelTop h0_steps h0_there rsl h0_resultLength h0_reason h0_place arg h0_argumentCount h0_code rf rf_backtrace rf_detailMessage rf_cause rf_stackTrace rf_depth rf_suppressedExceptions n61 n60 tap ctap gtap lev clev glev fun_ cfun_ n52) : va_W) ++ va_pl n51 n64) := hD
        refine x_refund (c2 := kc48 + n62) (n2 := kn49 + n63) (by (first | (apply Int.le_antisymm <;> omega) | omega)) (by (first | (apply Int.le_antisymm <;> omega) | omega)) ?_
        clear hzc hzs hZc hZs
        have hP9 := hP.part (cx := (wz_582 h0 rf tap h0_taped h0_length n55 n53 n59 n65 n56 gnm gpl gty gvl j24_h0_globalCount fun_ n54 n57 n58 lev h0_now h0_known_r h0_knownCount h0_loops mad h0_madeLength mag h0_smalls_r h0_greats_r h0_module_r h0_spare_r h0_m h0_cursor h0_limit blk stk h0_top hgt lab ous kis los h0_depth h0_function mem h0_pages glo val h0_valueTop ffu fre fba fla h0_frames lat lhe h0_labelTop h0_steps h0_there rsl h0_resultLength h0_reason h0_place arg h0_argumentCount h0_code rf rf_backtrace rf_detailMessage rf_cause rf_stackTrace rf_depth rf_suppressedExceptions n61 n60 tap ctap gtap lev clev glev gnm cgnm j24_gnm gpl cgpl j24_gpl gty cgty j24_gty gvl cgvl j24_gvl fun_ cfun_ n52)) [4, 5, 6, 7, 0, 1, 2, 3, 8] rfl
        have hD9 := hD.part (cx := (wz_582 h0 rf tap h0_taped h0_length n55 n53 n59 n65 n56 gnm gpl gty gvl j24_h0_globalCount fun_ n54 n57 n58 lev h0_now h0_known_r h0_knownCount h0_loops mad h0_madeLength mag h0_smalls_r h0_greats_r h0_module_r h0_spare_r h0_m h0_cursor h0_limit blk stk h0_top hgt lab ous kis los h0_depth h0_function mem h0_pages glo val h0_valueTop ffu fre fba fla h0_frames lat lhe h0_labelTop h0_steps h0_there rsl h0_resultLength h0_reason h0_place arg h0_argumentCount h0_code rf rf_backtrace rf_detailMessage rf_cause rf_stackTrace rf_depth rf_suppressedExceptions n61 n60 tap ctap gtap lev clev glev gnm cgnm j24_gnm gpl cgpl j24_gpl gty cgty j24_gty gvl cgvl j24_gvl fun_ cfun_ n52)) [4, 5, 6, 7, 0, 1, 2, 3, 8] (by decide) rfl
        refine x_known (fun hzc hzs => ?_)
        refine x_widen (c2 := (32 * h0_length.toInt + 8).toNat) (n2 := (300 * h0_length.toInt + 260).toNat) (by (first | (apply Int.le_antisymm <;> omega) | omega)) (by (first | (apply Int.le_antisymm <;> omega) | omega)) ?_
        exact tz_leave rfl hno hlocks (fun t ht hW => ⟨⟨(n51, n52, j24_gnm, j24_gpl, j24_gty, j24_gvl, n53, n54, j24_h0_globalCount, n55, n56, n57, n58, n59, n60, n61, (kc48 + n62), (kn49 + n63), n64, n65), ⟨⟨bn53, bn54, b_j24_h0_globalCount, bn57, bn58, bn59, (by first | exact ⟨px.out, by (try dsimp only) <;> (first | (apply Int.le_antisymm <;> omega) | omega), by (try dsimp only) <;> (first | (apply Int.le_antisymm <;> omega) | omega)⟩ | exact ⟨px.out.trans tq9.1, by have h9 := tq9.2; (try dsimp only) <;> (first | (apply Int.le_antisymm <;> omega) | omega), by have h9 := tq9.2; (try dsimp only) <;> (first | (apply Int.le_antisymm <;> omega) | omega)⟩)⟩, hxa, by rw [ht]; exact hXX.moved hW.alike⟩, va_P.he ht.symm hP9, va_K.moved hW.alike hK, hD9, by rw [ht]; exact hzc, by rw [ht]; exact hzs⟩, hS.F ht⟩) hS.2.2
      obtain ⟨n66, n67, n68, n69, n70, n71, n72, n73, n74, n75, n76, n77, n78, n79, n80⟩ := u
      try dsimp only at hw
      obtain ⟨bn68, bn69, bn72, bn73, bn74, xr50⟩ := hw
      try clear hw
      obtain ⟨a1, a2, a3, af, a4, a5⟩ := xr50
      replace a5 : bx _ := a5
      obtain ⟨hP1, hK1, hD1, hZc, hZs⟩ := hB
      rw [ht] at hP1 hZc hZs
      obtain ⟨kc81, ekc81⟩ : ∃ z : Nat, z = kc48 + n77 := ⟨_, rfl⟩
      obtain ⟨kn82, ekn82⟩ : ∃ z : Nat, z = kn49 + n78 := ⟨_, rfl⟩
      refine w_refund (c2 := kc81) (n2 := kn82) (by (first | (apply Int.le_antisymm <;> omega) | omega)) (by (first | (apply Int.le_antisymm <;> omega) | omega)) ?_
      clear hzc hzs hZc hZs
      obtain ⟨hP, hD⟩ := va_joinP (wr := (wz_561 gnm cgnm j24_gnm gpl cgpl j24_gpl gty cgty j24_gty gvl cgvl j24_gvl)) (rx := (wz_567 h0 rf tap h0_taped h0_length n70 n68 n74 n80 n71 gnm gpl gty gvl j24_h0_globalCount fun_ n69 n72 n73 lev h0_now h0_known_r h0_knownCount h0_loops mad h0_madeLength mag h0_smalls_r h0_greats_r h0_module_r h0_spare_r h0_m h0_cursor h0_limit blk stk h0_top hgt lab ous kis los h0_depth h0_function mem h0_pages glo val h0_valueTop ffu fre fba fla h0_frames lat lhe h0_labelTop h0_steps h0_there rsl h0_resultLength h0_reason h0_place arg h0_argumentCount h0_code rf rf_backtrace rf_detailMessage rf_cause rf_stackTrace rf_depth rf_suppressedExceptions n76 n75 tap ctap gtap lev clev glev fun_ cfun_ n67)) hP hD [6, 7, 8, 0, 5] [1, 2, 3, 4] rfl rfl (by decide) (by decide) hk1 hFc hP1 hD1
      clear hPc hDc hKc hFc hz1 hk1 hP1 hK1 hD1
      rename Heap => H
      have hP : va_P (dC, dI) cls2 (((wz_585 gnm cgnm j24_gnm gpl cgpl j24_gpl gty cgty j24_gty gvl cgvl j24_gvl h0 rf tap h0_taped h0_length n70 n68 n74 n80 n71 gnm gpl gty gvl j24_h0_globalCount fun_ n69 n72 n73 lev h0_now h0_known_r h0_knownCount h0_loops mad h0_madeLength mag h0_smalls_r h0_greats_r h0_module_r h0_spare_r h0_m h0_cursor h0_limit blk stk h0_top hgt lab ous kis los h0_depth h0_function mem h0_pages glo val h0_valueTop ffu fre fba fla h0_frames lat lhe h0_labelTop h0_steps h0_there rsl h0_resultLength h0_reason h0_place arg h0_argumentCount h0_code rf rf_backtrace rf_detailMessage rf_cause rf_stackTrace rf_depth rf_suppressedExceptions n76 n75 tap ctap gtap lev clev glev fun_ cfun_ n67) : va_W) ++ va_pl n66 n79) H := hP
      have hD : va_D A (((wz_585 gnm cgnm j24_gnm gpl cgpl j24_gpl gty cgty j24_gty gvl cgvl j24_gvl h0 rf tap h0_taped h0_length n70 n68 n74 n80 n71 gnm gpl gty gvl j24_h0_globalCount fun_ n69 n72 n73 lev h0_now h0_known_r h0_knownCount h0_loops mad h0_madeLength mag h0_smalls_r h0_greats_r h0_module_r h0_spare_r h0_m h0_cursor h0_limit blk stk h0_top hgt lab ous kis los h0_depth h0_function mem h0_pages glo val h0_valueTop ffu fre fba fla h0_frames lat lhe h0_labelTop h0_steps h0_there rsl h0_resultLength h0_reason h0_place arg h0_argumentCount h0_code rf rf_backtrace rf_detailMessage rf_cause rf_stackTrace rf_depth rf_suppressedExceptions n76 n75 tap ctap gtap lev clev glev fun_ cfun_ n67) : va_W) ++ va_pl n66 n79) := hD
      have px0 := px
      obtain ⟨hlx, hlw, pz, -, m1_, m2_, m3_, m4_, m5_, m6_, m7_, m8_, m9_⟩ := adv_f a1
      have px : bx (pex LP fP n66 n79) := px.out.trans pz.out
      replace gb_ : bx (glb9 n66 n79 cpb _ _ _ _) := glb_pex pz.out gb_.out
      have fC : n38.toInt + 1 ≤ n68.toInt := by (first | (apply Int.le_antisymm <;> omega) | omega)
      replace fb_ : bx (fns9 cps cr cpn cpb LP n66 n79 n69.toInt n67 (20 * n68.toInt - 16 * n69.toInt)) := fns_s pz.out (fun x hx => (px0.out x hx).1) fb_.out (by have z := i32_clamp (x := j24_h0_funCount) (by (first | (apply Int.le_antisymm <;> omega) | omega)); (first | (apply Int.le_antisymm <;> omega) | omega)) (by (first | (apply Int.le_antisymm <;> omega) | omega)) a4 a5.out (by (first | (apply Int.le_antisymm <;> omega) | omega)) (by (first | (apply Int.le_antisymm <;> omega) | omega))
      clear pz
      have ad : 0 ≤ n68.toInt ∧ n68.toInt ≤ n74.toInt ∧ n74.toInt ≤ h0_length.toInt ∧ 0 ≤ n70.toInt ∧ n70.toInt ≤ 6 ∧ (n70.toInt ≠ 0 → n68.toInt < n74.toInt) ∧ ((kc81 : Nat) : Int) ≤ 16 * n74.toInt + 8 * n68.toInt ∧ ((kn82 : Nat) : Int) ≤ 160 * n74.toInt + 60 * n68.toInt := by refine ⟨?_, ?_, ?_, ?_, ?_, ?_, ?_, ?_⟩ <;> (first | (apply Int.le_antisymm <;> omega) | omega)
      clear m1_ m2_ m3_ m4_ m5_ m6_ m7_ m8_ m9_
      obtain ⟨gw, hgw⟩ := wd_gw hlw.out
      replace hgw : bx _ := hgw
      refine lv_goto (tgt := 24) hx hb d_MD_program_64 (by decide) ?_
      exact ih24 (n66, n67, j24_gnm, j24_gpl, j24_gty, j24_gvl, n68, n69, j24_h0_globalCount, n70, n71, n72, n73, n74, n75, n76, kc81, kn82, n79, n80) _ _ _ (by show (2001 - n68.toInt).toNat < N24; (first | (apply Int.le_antisymm <;> omega) | omega)) ⟨bn68, bn69, b_j24_h0_globalCount, bn72, bn73, bn74, hlx, hlw, px, by (try dsimp only) <;> (first | (apply Int.le_antisymm <;> omega) | omega), gb_, fb_, hP.part [5, 7, 0, 1, 2, 3, 8, 4, 6] rfl, hD.part [5, 7, 0, 1, 2, 3, 8, 4, 6] (by decide) rfl, hS, lv_sub hl [0] rfl⟩
    · have q44 := neI c44
      obtain ⟨-, y41f, y41n⟩ := y41.out.resolve_left (fun q => by have := q.1; (first | (apply Int.le_antisymm <;> omega) | omega))
      obtain ⟨hlx, hlw, pz, -, m1_, m2_, m3_, m4_, m5_, m6_, m7_, m8_⟩ := nxt_f y41n
      have px : bx (pex LP fP n14 n21) := px.out.trans pz.out
      replace gb_ : bx (glb9 n14 n21 cpb _ _ _ _) := glb_pex pz.out gb_.out
      have fC : j24_h0_from.toInt ≤ n15.toInt := by (first | (apply Int.le_antisymm <;> omega) | omega)
      replace fb_ : bx (fns9 cps cr cpn cpb LP n14 n21 _ _ (20 * n15.toInt - 16 * j24_h0_funCount.toInt)) := fns_pex pz.out (by (first | (apply Int.le_antisymm <;> omega) | omega)) fb_.out
      clear pz
      have ad : 0 ≤ n15.toInt ∧ n15.toInt ≤ n18.toInt ∧ n18.toInt ≤ h0_length.toInt ∧ 0 ≤ n16.toInt ∧ n16.toInt ≤ 6 ∧ (n16.toInt ≠ 0 → n15.toInt < n18.toInt) ∧ ((kc23 : Nat) : Int) ≤ 16 * n18.toInt + 8 * n15.toInt ∧ ((kn24 : Nat) : Int) ≤ 160 * n18.toInt + 60 * n15.toInt := by refine ⟨?_, ?_, ?_, ?_, ?_, ?_, ?_, ?_⟩ <;> (first | (apply Int.le_antisymm <;> omega) | omega)
      clear m1_ m2_ m3_ m4_ m5_ m6_ m7_ m8_
      obtain ⟨gw, hgw⟩ := wd_gw hlw.out
      replace hgw : bx _ := hgw
      refine lv_aload_n hx hb d_MD_program_47 rfl (lv_at hl 0 rfl) ?_
      refine w_known (fun hzc hzs => ?_)
      have hPc := hP.part (cx := (wz_559 h0 rf tap h0_taped h0_length n16 n15 n18 n22 n17 gnm gpl gty gvl j24_h0_globalCount fun_ j24_h0_funCount j24_h0_open j24_h0_signs lev h0_now h0_known_r h0_knownCount h0_loops mad h0_madeLength mag h0_smalls_r h0_greats_r h0_module_r h0_spare_r h0_m h0_cursor h0_limit blk stk h0_top hgt lab ous kis los h0_depth h0_function mem h0_pages glo val h0_valueTop ffu fre fba fla h0_frames lat lhe h0_labelTop h0_steps h0_there rsl h0_resultLength h0_reason h0_place arg h0_argumentCount h0_code rf rf_backtrace rf_detailMessage rf_cause rf_stackTrace rf_depth rf_suppressedExceptions j24_rf_reason j24_rf_place tap ctap gtap gnm cgnm j24_gnm gpl cgpl j24_gpl gty cgty j24_gty gvl cgvl j24_gvl)) [7, 0, 8, 2, 3, 4, 5] rfl
      have hDc := hD.part (cx := (wz_559 h0 rf tap h0_taped h0_length n16 n15 n18 n22 n17 gnm gpl gty gvl j24_h0_globalCount fun_ j24_h0_funCount j24_h0_open j24_h0_signs lev h0_now h0_known_r h0_knownCount h0_loops mad h0_madeLength mag h0_smalls_r h0_greats_r h0_module_r h0_spare_r h0_m h0_cursor h0_limit blk stk h0_top hgt lab ous kis los h0_depth h0_function mem h0_pages glo val h0_valueTop ffu fre fba fla h0_frames lat lhe h0_labelTop h0_steps h0_there rsl h0_resultLength h0_reason h0_place arg h0_argumentCount h0_code rf rf_backtrace rf_detailMessage rf_cause rf_stackTrace rf_depth rf_suppressedExceptions j24_rf_reason j24_rf_place tap ctap gtap gnm cgnm j24_gnm gpl cgpl j24_gpl gty cgty j24_gty gvl cgvl j24_gvl)) [7, 0, 8, 2, 3, 4, 5] (by decide) rfl
      have hKc := hK.sb (tyq := [(ctap, .byte), (cgnm, .object "java/lang/String"), (cgpl, .int), (cgty, .int), (cgvl, .long), (cr, .int), (cpn, .object "WaferForgeModel$N"), (cpb, .byte)]) [0, 2, 3, 4, 5, 7, 8, 9] rfl
      have hFc := va_freeP (cx := (wz_559 h0 rf tap h0_taped h0_length n16 n15 n18 n22 n17 gnm gpl gty gvl j24_h0_globalCount fun_ j24_h0_funCount j24_h0_open j24_h0_signs lev h0_now h0_known_r h0_knownCount h0_loops mad h0_madeLength mag h0_smalls_r h0_greats_r h0_module_r h0_spare_r h0_m h0_cursor h0_limit blk stk h0_top hgt lab ous kis los h0_depth h0_function mem h0_pages glo val h0_valueTop ffu fre fba fla h0_frames lat lhe h0_labelTop h0_steps h0_there rsl h0_resultLength h0_reason h0_place arg h0_argumentCount h0_code rf rf_backtrace rf_detailMessage rf_cause rf_stackTrace rf_depth rf_suppressedExceptions j24_rf_reason j24_rf_place tap ctap gtap gnm cgnm j24_gnm gpl cgpl j24_gpl gty cgty j24_gty gvl cgvl j24_gvl)) hD hS hA [7, 0, 8, 2, 3, 4, 5] rfl
      refine tr_callv (tz_runV (As := []) (rest := []) ⟨hx, hb, hml, hown, hts⟩ (c_MD_global0 l hlt dC dI H.size (hsl H) sa h0 rf tap gnm gpl gty gvl fun_ lev h0_known_r mad mag h0_smalls_r h0_greats_r h0_module_r h0_spare_r blk stk hgt lab ous kis los mem glo val ffu fre fba fla lat lhe rsl arg ctap cgnm cgpl cgty cgvl cr cpn cpb h0_taped h0_length n16 n15 n18 n22 n17 j24_h0_globalCount j24_h0_funCount j24_h0_open j24_h0_signs h0_now h0_knownCount h0_loops h0_madeLength h0_m h0_cursor h0_limit h0_top h0_depth h0_function h0_pages h0_valueTop h0_frames h0_labelTop h0_steps h0_there h0_resultLength h0_reason h0_place h0_argumentCount h0_code rf_backtrace rf_detailMessage rf_cause rf_stackTrace rf_depth rf_suppressedExceptions j24_rf_reason j24_rf_place gtap j24_gnm j24_gpl j24_gty j24_gvl n14 n21 (b_h0_length) (bn15) (bn18) (b_j24_h0_globalCount) (hlx) (hlw) (gb_)) (cwV 0 hts (gV kM_MD_148 kV_MD_global0 kS_MD_global0 kI_MD kC_MD_global0) rfl rfl rfl (by decide +kernel) ⟨Nat.le_of_ble_eq_true rfl, Nat.le_of_ble_eq_true rfl⟩) ⟨fun a U g mk z => by obtain ⟨z0, z1, zP, zK, zD, zS, zZ⟩ := z; exact ⟨z0, z1, zP, va_K.moved (u := U) (U := U.calling g mk a) (Vm.Alike.refl U.vm) zK, zD, sm.same (u := U) (U := U.calling g mk a) rfl zS, zZ⟩, va_recv hKc hPc (ci := 11) (q0 := 0) rfl rfl, fun U hU hW => ⟨rfl, by rw [hU], va_P.he hU.symm hPc, va_K.moved hW.alike hKc, hDc.weaken (fun _ _ _ _ => trivial), hSW.call hS hFc hW hU, by rw [hU]⟩⟩ rfl rfl hl.1 rfl (lv_room (Nat.le_of_ble_eq_true rfl)) d_MD_program_48 ⟨by dsimp only [headSpec]; (first | (apply Int.le_antisymm <;> omega) | omega), by dsimp only [headSpec]; (first | (apply Int.le_antisymm <;> omega) | omega)⟩) hS (fun q _ h => hFc q h) hFc (fun u t H1 locs ht hvm hw hB hz1 hk1 hS => ?_) (fun xx u t H1 locs ht hvm hw hXX hB hz1 hk1 hS => ?_)
      rotate_left
      · skip
        obtain ⟨hxa, hXX⟩ := hXX
        obtain ⟨n84, n85, n86, n87, n88, n89, n90, n91, n92, n93, hq9r⟩ := u
        obtain ⟨n94, n95, n96, n97, n98, n99⟩ := hq9r
        try dsimp only at hw
        obtain ⟨bn89, bn90, bn93, tq9⟩ := hw
        obtain ⟨hP1, hK1, hD1, hZc, hZs⟩ := hB
        rw [ht] at hP1 hZc hZs
        obtain ⟨hP, hD⟩ := va_joinP (wr := [(lev, .inl (clev, 7, .inr (.inr (.inr (.inr glev))))), (fun_, .inl (cfun_, 20, .inr (.inr (.inr (.inr j24_fun_)))))]) (rx := (wz_559 h0 rf tap h0_taped h0_length n91 n89 n93 n99 n92 gnm gpl gty gvl n90 fun_ j24_h0_funCount j24_h0_open j24_h0_signs lev h0_now h0_known_r h0_knownCount h0_loops mad h0_madeLength mag h0_smalls_r h0_greats_r h0_module_r h0_spare_r h0_m h0_cursor h0_limit blk stk h0_top hgt lab ous kis los h0_depth h0_function mem h0_pages glo val h0_valueTop ffu fre fba fla h0_frames lat lhe h0_labelTop h0_steps h0_there rsl h0_resultLength h0_reason h0_place arg h0_argumentCount h0_code rf rf_backtrace rf_detailMessage rf_cause rf_stackTrace rf_depth rf_suppressedExceptions n95 n94 tap ctap gtap gnm cgnm n85 gpl cgpl n86 gty cgty n87 gvl cgvl n88)) hP hD [7, 0, 8, 2, 3, 4, 5] [1, 6] rfl rfl (by decide) (by decide) hk1 hFc hP1 hD1
        have hP : va_P (dC, dI) cls2 (((wz_586 lev clev glev fun_ cfun_ j24_fun_ h0 rf tap h0_taped h0_length n91 n89 n93 n99 n92 gnm gpl gty gvl n90 fun_ j24_h0_funCount j24_h0_open j24_h0_signs lev h0_now h0_known_r h0_knownCount h0_loops mad h0_madeLength mag h0_smalls_r h0_greats_r h0_module_r h0_spare_r h0_m h0_cursor h0_limit blk stk h0_top hgt lab ous kis los h0_depth h0_function mem h0_pages glo val h0_valueTop ffu fre fba fla h0_frames lat lhe h0_labelTop h0_steps h0_there rsl h0_resultLength h0_reason h0_place arg h0_argumentCount h0_code rf rf_backtrace rf_detailMessage rf_cause rf_stackTrace rf_depth rf_suppressedExceptions n95 n94 tap ctap gtap gnm cgnm n85 gpl cgpl n86 gty cgty n87 gvl cgvl n88) : va_W) ++ va_pl n84 n98) H1 := hP
        have hD : va_D A (((wz_586 lev clev glev fun_ cfun_ j24_fun_ h0 rf tap h0_taped h0_length n91 n89 n93 n99 n92 gnm gpl gty gvl n90 fun_ j24_h0_funCount j24_h0_open j24_h0_signs lev h0_now h0_known_r h0_knownCount h0_loops mad h0_madeLength mag h0_smalls_r h0_greats_r h0_module_r h0_spare_r h0_m h0_cursor h0_limit blk stk h0_top hgt lab ous kis los h0_depth h0_function mem h0_pages glo val h0_valueTop ffu fre fba fla h0_frames lat lhe h0_labelTop h0_steps h0_there rsl h0_resultLength h0_reason h0_place arg h0_argumentCount h0_code rf rf_backtrace rf_detailMessage rf_cause rf_stackTrace rf_depth rf_suppressedExceptions n95 n94 tap ctap gtap gnm cgnm n85 gpl cgpl n86 gty cgty n87 gvl cgvl n88) : va_W) ++ va_pl n84 n98) := hD
        refine x_refund (c2 := kc23 + n96) (n2 := kn24 + n97) (by (first | (apply Int.le_antisymm <;> omega) | omega)) (by (first | (apply Int.le_antisymm <;> omega) | omega)) ?_
        clear hzc hzs hZc hZs
        have hP9 := hP.part (cx := (wz_582 h0 rf tap h0_taped h0_length n91 n89 n93 n99 n92 gnm gpl gty gvl n90 fun_ j24_h0_funCount j24_h0_open j24_h0_signs lev h0_now h0_known_r h0_knownCount h0_loops mad h0_madeLength mag h0_smalls_r h0_greats_r h0_module_r h0_spare_r h0_m h0_cursor h0_limit blk stk h0_top hgt lab ous kis los h0_depth h0_function mem h0_pages glo val h0_valueTop ffu fre fba fla h0_frames lat lhe h0_labelTop h0_steps h0_there rsl h0_resultLength h0_reason h0_place arg h0_argumentCount h0_code rf rf_backtrace rf_detailMessage rf_cause rf_stackTrace rf_depth rf_suppressedExceptions n95 n94 tap ctap gtap lev clev glev gnm cgnm n85 gpl cgpl n86 gty cgty n87 gvl cgvl n88 fun_ cfun_ j24_fun_)) [2, 3, 4, 0, 5, 6, 7, 8, 1] rfl
        have hD9 := hD.part (cx := (wz_582 h0 rf tap h0_taped h0_length n91 n89 n93 n99 n92 gnm gpl gty gvl n90 fun_ j24_h0_funCount j24_h0_open j24_h0_signs lev h0_now h0_known_r h0_knownCount h0_loops mad h0_madeLength mag h0_smalls_r h0_greats_r h0_module_r h0_spare_r h0_m h0_cursor h0_limit blk stk h0_top hgt lab ous kis los h0_depth h0_function mem h0_pages glo val h0_valueTop ffu fre fba fla h0_frames lat lhe h0_labelTop h0_steps h0_there rsl h0_resultLength h0_reason h0_place arg h0_argumentCount h0_code rf rf_backtrace rf_detailMessage rf_cause rf_stackTrace rf_depth rf_suppressedExceptions n95 n94 tap ctap gtap lev clev glev gnm cgnm n85 gpl cgpl n86 gty cgty n87 gvl cgvl n88 fun_ cfun_ j24_fun_)) [2, 3, 4, 0, 5, 6, 7, 8, 1] (by decide) rfl
        refine x_known (fun hzc hzs => ?_)
        refine x_widen (c2 := (32 * h0_length.toInt + 8).toNat) (n2 := (300 * h0_length.toInt + 260).toNat) (by (first | (apply Int.le_antisymm <;> omega) | omega)) (by (first | (apply Int.le_antisymm <;> omega) | omega)) ?_
        exact tz_leave rfl hno hlocks (fun t ht hW => ⟨⟨(n84, j24_fun_, n85, n86, n87, n88, n89, j24_h0_funCount, n90, n91, n92, j24_h0_open, j24_h0_signs, n93, n94, n95, (kc23 + n96), (kn24 + n97), n98, n99), ⟨⟨bn89, b_j24_h0_funCount, bn90, b_j24_h0_open, b_j24_h0_signs, bn93, (by first | exact ⟨px.out, by (try dsimp only) <;> (first | (apply Int.le_antisymm <;> omega) | omega), by (try dsimp only) <;> (first | (apply Int.le_antisymm <;> omega) | omega)⟩ | exact ⟨px.out.trans tq9.1, by have h9 := tq9.2; (try dsimp only) <;> (first | (apply Int.le_antisymm <;> omega) | omega), by have h9 := tq9.2; (try dsimp only) <;> (first | (apply Int.le_antisymm <;> omega) | omega)⟩)⟩, hxa, by rw [ht]; exact hXX.moved hW.alike⟩, va_P.he ht.symm hP9, va_K.moved hW.alike hK, hD9, by rw [ht]; exact hzc, by rw [ht]; exact hzs⟩, hS.F ht⟩) hS.2.2
      obtain ⟨n100, n101, n102, n103, n104, n105, n106, n107, n108, n109, hq9r⟩ := u
      obtain ⟨n110, n111, n112, n113, n114, n115⟩ := hq9r
      try dsimp only at hw
      obtain ⟨bn105, bn106, bn109, xr83⟩ := hw
      try clear hw
      obtain ⟨a1, a2, a3⟩ := xr83
      replace a3 : bx _ := a3
      obtain ⟨hP1, hK1, hD1, hZc, hZs⟩ := hB
      rw [ht] at hP1 hZc hZs
      obtain ⟨kc116, ekc116⟩ : ∃ z : Nat, z = kc23 + n112 := ⟨_, rfl⟩
      obtain ⟨kn117, ekn117⟩ : ∃ z : Nat, z = kn24 + n113 := ⟨_, rfl⟩
      refine w_refund (c2 := kc116) (n2 := kn117) (by (first | (apply Int.le_antisymm <;> omega) | omega)) (by (first | (apply Int.le_antisymm <;> omega) | omega)) ?_
      clear hzc hzs hZc hZs
      obtain ⟨hP, hD⟩ := va_joinP (wr := [(lev, .inl (clev, 7, .inr (.inr (.inr (.inr glev))))), (fun_, .inl (cfun_, 20, .inr (.inr (.inr (.inr j24_fun_)))))]) (rx := (wz_559 h0 rf tap h0_taped h0_length n107 n105 n109 n115 n108 gnm gpl gty gvl n106 fun_ j24_h0_funCount j24_h0_open j24_h0_signs lev h0_now h0_known_r h0_knownCount h0_loops mad h0_madeLength mag h0_smalls_r h0_greats_r h0_module_r h0_spare_r h0_m h0_cursor h0_limit blk stk h0_top hgt lab ous kis los h0_depth h0_function mem h0_pages glo val h0_valueTop ffu fre fba fla h0_frames lat lhe h0_labelTop h0_steps h0_there rsl h0_resultLength h0_reason h0_place arg h0_argumentCount h0_code rf rf_backtrace rf_detailMessage rf_cause rf_stackTrace rf_depth rf_suppressedExceptions n111 n110 tap ctap gtap gnm cgnm n101 gpl cgpl n102 gty cgty n103 gvl cgvl n104)) hP hD [7, 0, 8, 2, 3, 4, 5] [1, 6] rfl rfl (by decide) (by decide) hk1 hFc hP1 hD1
      clear hPc hDc hKc hFc hz1 hk1 hP1 hK1 hD1
      rename Heap => H
      have hP : va_P (dC, dI) cls2 (((wz_586 lev clev glev fun_ cfun_ j24_fun_ h0 rf tap h0_taped h0_length n107 n105 n109 n115 n108 gnm gpl gty gvl n106 fun_ j24_h0_funCount j24_h0_open j24_h0_signs lev h0_now h0_known_r h0_knownCount h0_loops mad h0_madeLength mag h0_smalls_r h0_greats_r h0_module_r h0_spare_r h0_m h0_cursor h0_limit blk stk h0_top hgt lab ous kis los h0_depth h0_function mem h0_pages glo val h0_valueTop ffu fre fba fla h0_frames lat lhe h0_labelTop h0_steps h0_there rsl h0_resultLength h0_reason h0_place arg h0_argumentCount h0_code rf rf_backtrace rf_detailMessage rf_cause rf_stackTrace rf_depth rf_suppressedExceptions n111 n110 tap ctap gtap gnm cgnm n101 gpl cgpl n102 gty cgty n103 gvl cgvl n104) : va_W) ++ va_pl n100 n114) H := hP
      have hD : va_D A (((wz_586 lev clev glev fun_ cfun_ j24_fun_ h0 rf tap h0_taped h0_length n107 n105 n109 n115 n108 gnm gpl gty gvl n106 fun_ j24_h0_funCount j24_h0_open j24_h0_signs lev h0_now h0_known_r h0_knownCount h0_loops mad h0_madeLength mag h0_smalls_r h0_greats_r h0_module_r h0_spare_r h0_m h0_cursor h0_limit blk stk h0_top hgt lab ous kis los h0_depth h0_function mem h0_pages glo val h0_valueTop ffu fre fba fla h0_frames lat lhe h0_labelTop h0_steps h0_there rsl h0_resultLength h0_reason h0_place arg h0_argumentCount h0_code rf rf_backtrace rf_detailMessage rf_cause rf_stackTrace rf_depth rf_suppressedExceptions n111 n110 tap ctap gtap gnm cgnm n101 gpl cgpl n102 gty cgty n103 gvl cgvl n104) : va_W) ++ va_pl n100 n114) := hD
      obtain ⟨hlx, hlw, pz, -, m1_, m2_, m3_, m4_, m5_, m6_, m7_, m8_, m9_⟩ := adv_f a1
      have px : bx (pex LP fP n100 n114) := px.out.trans pz.out
      have gb_ := a3
      have fC : n15.toInt + 1 ≤ n105.toInt := by (first | (apply Int.le_antisymm <;> omega) | omega)
      replace fb_ : bx (fns9 cps cr cpn cpb LP n100 n114 _ _ (20 * n105.toInt - 16 * j24_h0_funCount.toInt)) := fns_pex pz.out (by (first | (apply Int.le_antisymm <;> omega) | omega)) fb_.out
      clear pz
      have ad : 0 ≤ n105.toInt ∧ n105.toInt ≤ n109.toInt ∧ n109.toInt ≤ h0_length.toInt ∧ 0 ≤ n107.toInt ∧ n107.toInt ≤ 6 ∧ (n107.toInt ≠ 0 → n105.toInt < n109.toInt) ∧ ((kc116 : Nat) : Int) ≤ 16 * n109.toInt + 8 * n105.toInt ∧ ((kn117 : Nat) : Int) ≤ 160 * n109.toInt + 60 * n105.toInt := by refine ⟨?_, ?_, ?_, ?_, ?_, ?_, ?_, ?_⟩ <;> (first | (apply Int.le_antisymm <;> omega) | omega)
      clear m1_ m2_ m3_ m4_ m5_ m6_ m7_ m8_ m9_
      obtain ⟨gw, hgw⟩ := wd_gw hlw.out
      replace hgw : bx _ := hgw
      refine lv_goto (tgt := 24) hx hb d_MD_program_51 (by decide) ?_
      exact ih24 (n100, j24_fun_, n101, n102, n103, n104, n105, j24_h0_funCount, n106, n107, n108, j24_h0_open, j24_h0_signs, n109, n110, n111, kc116, kn117, n114, n115) _ _ _ (by show (2001 - n105.toInt).toNat < N24; (first | (apply Int.le_antisymm <;> omega) | omega)) ⟨bn105, b_j24_h0_funCount, bn106, b_j24_h0_open, b_j24_h0_signs, bn109, hlx, hlw, px, by (try dsimp only) <;> (first | (apply Int.le_antisymm <;> omega) | omega), gb_, fb_, hP.part [3, 0, 5, 6, 7, 8, 1, 2, 4] rfl, hD.part [3, 0, 5, 6, 7, 8, 1, 2, 4] (by decide) rfl, hS, lv_sub hl [0] rfl⟩
  · skip
    refine lv_if_ne (tgt := 38) hx hb d_MD_program_28 (by decide) (fun c28 => ?_) (fun c28 => ?_)
    · have q28 := neI c28
      exact jn38 () _ _ _ ⟨hP, hD, hS, lv_sub hl [0] rfl⟩
    · have q28 := eqI c28
      refine lv_aload_n hx hb d_MD_program_31 rfl (lv_at hl 0 rfl) ?_
      refine va_get (D := (dC, dI)) (ci := 11) (v := .int j24_h0_funCount) (C := R_MD) (T := F_MD) (N := 65) hx hb hts i_MD hown hK hP 7 rfl rfl 15 (by decide) (hts _ kF_MD_140) (fun _ h9 => h9) rfl d_MD_program_32 ?_
      refine lv_if_ne (tgt := 67) hx hb d_MD_program_35 (by decide) (fun c35 => ?_) (fun c35 => ?_)
      · have q35 := neI c35
        have hP9 := hP.part (cx := (wz_582 h0 rf tap h0_taped h0_length j24_h0_kind j24_h0_from j24_h0_to j24_h0_word j24_h0_numeral gnm gpl gty gvl j24_h0_globalCount fun_ j24_h0_funCount j24_h0_open j24_h0_signs lev h0_now h0_known_r h0_knownCount h0_loops mad h0_madeLength mag h0_smalls_r h0_greats_r h0_module_r h0_spare_r h0_m h0_cursor h0_limit blk stk h0_top hgt lab ous kis los h0_depth h0_function mem h0_pages glo val h0_valueTop ffu fre fba fla h0_frames lat lhe h0_labelTop h0_steps h0_there rsl h0_resultLength h0_reason h0_place arg h0_argumentCount h0_code rf rf_backtrace rf_detailMessage rf_cause rf_stackTrace rf_depth rf_suppressedExceptions j24_rf_reason j24_rf_place tap ctap gtap lev clev glev gnm cgnm j24_gnm gpl cgpl j24_gpl gty cgty j24_gty gvl cgvl j24_gvl fun_ cfun_ j24_fun_)) [7, 0, 8, 1, 2, 3, 4, 5, 6] rfl
        have hD9 := hD.part (cx := (wz_582 h0 rf tap h0_taped h0_length j24_h0_kind j24_h0_from j24_h0_to j24_h0_word j24_h0_numeral gnm gpl gty gvl j24_h0_globalCount fun_ j24_h0_funCount j24_h0_open j24_h0_signs lev h0_now h0_known_r h0_knownCount h0_loops mad h0_madeLength mag h0_smalls_r h0_greats_r h0_module_r h0_spare_r h0_m h0_cursor h0_limit blk stk h0_top hgt lab ous kis los h0_depth h0_function mem h0_pages glo val h0_valueTop ffu fre fba fla h0_frames lat lhe h0_labelTop h0_steps h0_there rsl h0_resultLength h0_reason h0_place arg h0_argumentCount h0_code rf rf_backtrace rf_detailMessage rf_cause rf_stackTrace rf_depth rf_suppressedExceptions j24_rf_reason j24_rf_place tap ctap gtap lev clev glev gnm cgnm j24_gnm gpl cgpl j24_gpl gty cgty j24_gty gvl cgvl j24_gvl fun_ cfun_ j24_fun_)) [7, 0, 8, 1, 2, 3, 4, 5, 6] (by decide) rfl
        refine w_known (fun hzc hzs => ?_)
        refine W.widen (k := (32 * h0_length.toInt + 8).toNat) (n := (300 * h0_length.toInt + 260).toNat) (by (first | (apply Int.le_antisymm <;> omega) | omega)) (by (first | (apply Int.le_antisymm <;> omega) | omega)) ?_
        exact tz_up (fun _ => rfl) (W.vret hx hb hr (fun t ht hW => ⟨⟨(j24_PO_L, j24_fun_, j24_gnm, j24_gpl, j24_gty, j24_gvl, j24_h0_from, j24_h0_funCount, j24_h0_globalCount, j24_h0_kind, j24_h0_numeral, j24_h0_open, j24_h0_signs, j24_h0_to, j24_rf_place, j24_rf_reason, j24_C, j24_S, j24_PO, j24_h0_word), ⟨rfl, ⟨b_j24_h0_from, b_j24_h0_funCount, b_j24_h0_globalCount, b_j24_h0_open, b_j24_h0_signs, b_j24_h0_to, ⟨px.out, by (try dsimp only) <;> (first | (apply Int.le_antisymm <;> omega) | omega), gb_.out, fns_pex pex.rfl2 (by (try dsimp only) <;> (first | (apply Int.le_antisymm <;> omega) | omega)) fb_.out, by (try dsimp only) <;> (first | (apply Int.le_antisymm <;> omega) | omega), by (try dsimp only) <;> (first | (apply Int.le_antisymm <;> omega) | omega)⟩⟩⟩, va_P.he ht.symm hP9, va_K.moved hW.alike hK, hD9, by rw [ht]; exact hzc, by rw [ht]; exact hzs⟩, hS.F ht⟩) hS.2.2 d_MD_program_67)
      · have q35 := eqI c35
        exact jn38 () _ _ _ ⟨hP, hD, hS, lv_sub hl [0] rfl⟩
end q_n16
section q_n17
/-! the reference: what typing changes in the pool, and what it keeps -/
section CHG
variable {L : List Nat} {f f2 f3 : Nat → va_E} {cpn cpb : ClassId} {K K2 M M2 : Nat → Prop}
theorem nP_inj {a : Nat} {op pl : Int32} {nm : Value} {v : Int64} {t : Int32} {p : Nat} {cnt ix gl op2 pl2 : Int32} {nm2 : Value} {v2 : Int64} {t2 : Int32} {p2 : Nat} {cnt2 ix2 gl2 : Int32} (h : nP f a op pl nm v t p cnt ix gl) (h2 : nP f a op2 pl2 nm2 v2 t2 p2 cnt2 ix2 gl2) : op = op2 ∧ pl = pl2 ∧ nm = nm2 ∧ v = v2 ∧ t = t2 ∧ p = p2 ∧ cnt = cnt2 ∧ ix = ix2 ∧ gl = gl2 := by
  unfold nP at h h2
  rw [h] at h2
  injection h2 with h2
  injection h2 with _ h2
  injection h2 with a1 h2
  injection h2 with a2 h2
  injection h2 with a3 h2
  injection h2 with a4 h2
  injection h2 with a5 h2
  injection h2 with a6 h2
  injection h2 with a7 h2
  injection h2 with a8 h2
  injection h2 with a9 h2
  injection a1 with a1
  injection a2 with a2
  injection a4 with a4
  injection a5 with a5
  injection a6 with a6
  injection a7 with a7
  injection a8 with a8
  injection a9 with a9
  exact ⟨a1, a2, a3, a4, a5, a6, a7, a8, a9⟩
theorem aP_inj {p n n2 : Nat} {g g2 : Nat → Option Nat} (h : aP L f cpn p n g) (h2 : aP L f cpn p n2 g2) : n = n2 ∧ g = g2 := by
  have e := h.2.symm.trans h2.2
  injection e with e
  injection e with _ e
  injection e with e1 e
  injection e with e
  injection e with e
  injection e with e
  injection e with e
  exact ⟨e1, e⟩
/-- what trees rest on is kept, but for types and places in nodes of K -/
def kp (cpn cpb : ClassId) (K : Nat → Prop) (f f2 : Nat → va_E) : Prop :=
  (∀ (a : Nat) (vs : List Value), ¬ K a → f a = .inr (13, vs) → f2 a = .inr (13, vs)) ∧
  (∀ (a : Nat) (op pl : Int32) (nm : Value) (v : Int64) (t : Int32) (p : Nat) (cnt ix gl : Int32), nP f a op pl nm v t p cnt ix gl → ∃ t2 ix2 gl2, nP f2 a op pl nm v t2 p cnt ix2 gl2) ∧
  (∀ (a : Nat) (vs : List Value), f a = .inr (16, vs) → f2 a = .inr (16, vs)) ∧
  (∀ (a : Nat) (x : vp_A), f a = .inl (cpn, x) → f2 a = .inl (cpn, x)) ∧
  (∀ (a : Nat) (x : vp_A), f a = .inl (cpb, x) → f2 a = .inl (cpb, x))
theorem kp.rfl' : kp cpn cpb K f f := ⟨fun _ _ _ h => h, fun _ _ _ _ _ _ _ _ _ _ h => ⟨_, _, _, h⟩, fun _ _ h => h, fun _ _ h => h, fun _ _ h => h⟩
theorem kp.trans (h : kp cpn cpb K f f2) (h2 : kp cpn cpb K f2 f3) : kp cpn cpb K f f3 :=
  ⟨fun a vs k e => h2.1 a vs k (h.1 a vs k e), fun a op pl nm v t p cnt ix gl e => by
    obtain ⟨t2, i2, g2, e2⟩ := h.2.1 a op pl nm v t p cnt ix gl e
    exact h2.2.1 a op pl nm v t2 p cnt i2 g2 e2, fun a vs e => h2.2.2.1 a vs (h.2.2.1 a vs e), fun a x e => h2.2.2.2.1 a x (h.2.2.2.1 a x e), fun a x e => h2.2.2.2.2 a x (h.2.2.2.2 a x e)⟩
theorem kp.mono (h : kp cpn cpb K f f2) (hk : ∀ x, K x → K2 x) : kp cpn cpb K2 f f2 := ⟨fun a vs k e => h.1 a vs (fun z => k (hk a z)) e, h.2⟩
/-- only nodes of K have changed, and only in type, index, global -/
def cgn (K : Nat → Prop) (f f2 : Nat → va_E) : Prop :=
  (∀ (a : Nat) (x : ClassId × vp_A), f a = .inl x → f2 a = .inl x) ∧
  (∀ (a ci : Nat) (vs : List Value), ci ≠ 13 → f a = .inr (ci, vs) → f2 a = .inr (ci, vs)) ∧
  (∀ (a : Nat) (vs : List Value), ¬ K a → f a = .inr (13, vs) → f2 a = .inr (13, vs)) ∧
  (∀ (a : Nat) (op pl : Int32) (nm : Value) (v : Int64) (t : Int32) (p : Nat) (cnt ix gl : Int32), nP f a op pl nm v t p cnt ix gl → ∃ t2 ix2 gl2, nP f2 a op pl nm v t2 p cnt ix2 gl2)
theorem cgn.rfl' : cgn K f f := ⟨fun _ _ h => h, fun _ _ _ _ h => h, fun _ _ _ h => h, fun _ _ _ _ _ _ _ _ _ _ h => ⟨_, _, _, h⟩⟩
theorem cgn.trans (h : cgn K f f2) (h2 : cgn K f2 f3) : cgn K f f3 :=
  ⟨fun a x e => h2.1 a x (h.1 a x e), fun a c vs k e => h2.2.1 a c vs k (h.2.1 a c vs k e), fun a vs k e => h2.2.2.1 a vs k (h.2.2.1 a vs k e), fun a op pl nm v t p cnt ix gl e => by
    obtain ⟨t2, i2, g2, e2⟩ := h.2.2.2 a op pl nm v t p cnt ix gl e
    exact h2.2.2.2 a op pl nm v t2 p cnt i2 g2 e2⟩
theorem cgn.mono (h : cgn K f f2) (hk : ∀ x, K x → K2 x) : cgn K2 f f2 := ⟨h.1, h.2.1, fun a vs k e => h.2.2.1 a vs (fun z => k (hk a z)) e, h.2.2.2⟩
theorem cgn.kp (h : cgn K f f2) : kp cpn cpb K f f2 := ⟨h.2.2.1, h.2.2.2, fun a vs e => h.2.1 a 16 vs (by decide) e, fun a x e => h.1 a _ e, fun a x e => h.1 a _ e⟩
theorem cgn.up {a : Nat} {op pl : Int32} {nm : Value} {v : Int64} {t : Int32} {p : Nat} {cnt ix gl t2 ix2 gl2 : Int32} (h : nP f a op pl nm v t p cnt ix gl) (hk : K a) : cgn K f (va_up f a (.inr (13, [.int op, .int pl, nm, .long v, .int t2, .ref p, .int cnt, .int ix2, .int gl2]))) := by
  unfold nP at h
  refine ⟨fun b x e => ?_, fun b c vs q e => ?_, fun b vs q e => ?_, fun b op1 pl1 nm1 v1 t1 p1 c1 i1 g1 e => ?_⟩
  · have n : b ≠ a := fun z => by subst z; rw [h] at e; cases e
    rw [va_up_ne _ _ n]; exact e
  · have n : b ≠ a := fun z => by subst z; rw [h] at e; injection e with e; injection e with e _; exact q e.symm
    rw [va_up_ne _ _ n]; exact e
  · have n : b ≠ a := fun z => by subst z; exact q hk
    rw [va_up_ne _ _ n]; exact e
  · by_cases n : b = a
    · subst n
      obtain ⟨r1, r2, r3, r4, r5, r6, r7, r8, r9⟩ := nP_inj e h
      subst r1 r2 r3 r4 r6 r7
      exact ⟨t2, ix2, gl2, va_up_self _ _ _⟩
    · exact ⟨t1, i1, g1, by unfold nP; rw [va_up_ne _ _ n]; exact e⟩
/-- what a statement changes: nodes of K, and cells of M that are no nodes, no texts -/
def cgs (cpn cpb : ClassId) (K M : Nat → Prop) (f f2 : Nat → va_E) : Prop := (∀ a, ¬ K a → ¬ M a → f2 a = f a) ∧ kp cpn cpb K f f2
theorem cgs.rfl' : cgs cpn cpb K M f f := ⟨fun _ _ _ => rfl, kp.rfl'⟩
theorem cgs.trans (h : cgs cpn cpb K M f f2) (h2 : cgs cpn cpb K M f2 f3) : cgs cpn cpb K M f f3 := ⟨fun a k m => (h2.1 a k m).trans (h.1 a k m), h.2.trans h2.2⟩
theorem cgs.mono (h : cgs cpn cpb K M f f2) (hk : ∀ x, K x → K2 x) (hm : ∀ x, M x → M2 x) : cgs cpn cpb K2 M2 f f2 := ⟨fun a k m => h.1 a (fun z => k (hk a z)) (fun z => m (hm a z)), h.2.mono hk⟩
theorem cgn.s (h : cgn K f f2) : cgs cpn cpb K M f f2 := by
  refine ⟨fun a k _ => ?_, h.kp⟩
  cases e : f a with
  | inl x => exact h.1 a x e
  | inr y =>
    obtain ⟨ci, vs⟩ := y
    by_cases q : ci = 13
    · subst q
      exact h.2.2.1 a vs k e
    · exact h.2.1 a ci vs q e
theorem cgs.up14 {a : Nat} {vs vs2 : List Value} (h : f a = .inr (14, vs)) (hm : M a) : cgs cpn cpb K M f (va_up f a (.inr (14, vs2))) := by
  have n : ∀ {b : Nat} {e : va_E}, f b = e → e ≠ .inr (14, vs) → va_up f a (.inr (14, vs2)) b = e := fun {b e} hb q => by
    have z : b ≠ a := fun z => q (by subst z; exact hb.symm.trans h)
    rw [va_up_ne _ _ z]; exact hb
  refine ⟨fun b _ q => va_up_ne _ _ (fun z => q (z ▸ hm)), fun b vs _ e => n e (fun q => by injection q with q; injection q with q _; exact absurd q (by decide)), fun b op pl nm v t p cnt ix gl e => ⟨t, ix, gl, n e (fun q => by injection q with q; injection q with q _; exact absurd q (by decide))⟩, fun b vs e => n e (fun q => by injection q with q; injection q with q _; exact absurd q (by decide)), fun b x e => n e (fun q => by cases q), fun b x e => n e (fun q => by cases q)⟩
theorem cgs.upA {a : Nat} {c : ClassId} {x x2 : vp_A} (h : f a = .inl (c, x)) (hm : M a) (h1 : c ≠ cpn) (h2 : c ≠ cpb) : cgs cpn cpb K M f (va_up f a (.inl (c, x2))) := by
  have n : ∀ {b : Nat} {e : va_E}, f b = e → e ≠ .inl (c, x) → va_up f a (.inl (c, x2)) b = e := fun {b e} hb q => by
    have z : b ≠ a := fun z => q (by subst z; exact hb.symm.trans h)
    rw [va_up_ne _ _ z]; exact hb
  refine ⟨fun b _ q => va_up_ne _ _ (fun z => q (z ▸ hm)), fun b vs _ e => n e (fun q => by cases q), fun b op pl nm v t p cnt ix gl e => ⟨t, ix, gl, n e (fun q => by cases q)⟩, fun b vs e => n e (fun q => by cases q), fun b x e => n e (fun q => by injection q with q; injection q with q _; exact h1 q.symm), fun b x e => n e (fun q => by injection q with q; injection q with q _; exact h2 q.symm)⟩
theorem kp.str {s : Nat} {nb : List Int32} (h : kp cpn cpb K f f2) (hs : strP L f cpb s nb) : strP L f2 cpb s nb := by
  obtain ⟨h1, v, y, z, g, h2, h3, h4, h5⟩ := hs
  exact ⟨h1, v, y, z, g, h.2.2.1 _ _ h2, h3, h.2.2.2.2 _ _ h4, h5⟩
theorem kp.nm {nm : Value} (h : kp cpn cpb K f f2) (hs : nmP L f cpb nm) : nmP L f2 cpb nm := by
  obtain ⟨s, nb, e, h1, h2⟩ := hs
  exact ⟨s, nb, e, h.str h1, h2⟩
theorem kp.aP {p n : Nat} {g : Nat → Option Nat} (h : kp cpn cpb K f f2) (ha : aP L f cpn p n g) : aP L f2 cpn p n g := ⟨ha.1, h.2.2.2.1 _ _ ha.2⟩
theorem kp.fp (h : kp cpn cpb K f f2) : ∀ (d : Nat) {a : Nat} {K1 : Nat → Prop}, fp L f cpn d a K1 → fp L f2 cpn d a K1
  | 0, _, _, hu => hu.elim
  | d + 1, a, K1, hu => by
    obtain ⟨op, pl, nm, v, t, p, n, cnt, ix, gl, hq9r⟩ := hu
    obtain ⟨g, Kf, h1, h2, h3, h4, h5, h6, h7⟩ := hq9r
    obtain ⟨t2, i2, g2, e2⟩ := h.2.1 a op pl nm v t p cnt ix gl h2
    refine ⟨op, pl, nm, v, t2, p, n, cnt, i2, g2, g, Kf, h1, e2, h.aP h3, h4, fun i hi => ?_, h6, h7⟩
    obtain ⟨y, y1, y2⟩ := h5 i hi
    exact ⟨y, y1, kp.fp h d y2⟩
/-- a tree's parts and whose they are -/
def kds (L : List Nat) (f : Nat → va_E) (cpn : ClassId) (a : Nat) (K : Nat → Prop) (cnt : Int) (g : Nat → Option Nat) (Kf : Nat → Nat → Prop) : Prop := (∀ i : Nat, (i : Int) < cnt → ∃ y e, g i = some y ∧ fp L f cpn e y (Kf i)) ∧ (∀ (i x : Nat), (i : Int) < cnt → Kf i x → K x ∧ x ≠ a) ∧ ∀ (i j x : Nat), (i : Int) < cnt → (j : Int) < cnt → Kf i x → Kf j x → i = j
theorem fp_kds {e a : Nat} {op pl : Int32} {nm : Value} {v : Int64} {t : Int32} {p n : Nat} {cnt ix gl : Int32} {g : Nat → Option Nat} (h : fp L f cpn e a K) (h1 : nP f a op pl nm v t p cnt ix gl) (h2 : aP L f cpn p n g) : K a ∧ ∃ Kf, kds L f cpn a K cnt.toInt g Kf := by
  cases e with
  | zero => exact h.elim
  | succ e =>
    obtain ⟨op', pl', nm', v', t', p', n', cnt', ix', gl', hq9r⟩ := h
    obtain ⟨g', Kf, q1, q2, q3, q4, q5, q6, q7⟩ := hq9r
    obtain ⟨-, -, -, -, -, r6, r7, -, -⟩ := nP_inj q2 h1
    subst r6 r7
    obtain ⟨-, r9⟩ := aP_inj q3 h2
    subst r9
    exact ⟨q4, Kf, fun i hi => by obtain ⟨y, y1, y2⟩ := q5 i hi; exact ⟨y, e, y1, y2⟩, q6, q7⟩
theorem kds.kp {a : Nat} {K0 : Nat → Prop} {cnt : Int} {g : Nat → Option Nat} {Kf : Nat → Nat → Prop} (h : kp cpn cpb K f f2) (hk : kds L f cpn a K0 cnt g Kf) : kds L f2 cpn a K0 cnt g Kf := ⟨fun i hi => by obtain ⟨y, e, y1, y2⟩ := hk.1 i hi; exact ⟨y, e, y1, h.fp e y2⟩, hk.2⟩
theorem uvc.kid {T T2 : Nat → Int → Nat → Prop} {op : Int32} {nm : Value} {v : Int64} {t cnt : Int32} {g : Nat → Option Nat} {c : Int} {b : Nat} (h : kp cpn cpb K f f2) (hT : ∀ (i y : Nat) (c : Int) (b : Nat), (i : Int) < cnt.toInt → g i = some y → T y c b → T2 y c b) (hu : uvc L f cpb T op nm v t cnt g c b) : uvc L f2 cpb T2 op nm v t cnt g c b := by
  rcases hu with ⟨q, h1, h2, h3⟩ | ⟨q, h1, h2⟩ | ⟨q, h1, h2, cf, kf, h3, h4⟩ | ⟨q, h1, h2, c0, k0, h3, h4, h5, h6⟩ | ⟨q, h1, c0, k0, h3, h4, h5, h6⟩ | ⟨q, h1, c0, c1, k0, k1, b1, sr, nb, h3, h4, h5, h6, h7, h8, h9, h10, h11, h12, h13⟩
  · exact Or.inl ⟨q, h1, h2, h3⟩
  · exact Or.inr (Or.inl ⟨q, h.nm h1, h2⟩)
  · exact Or.inr (Or.inr (Or.inl ⟨q, h.nm h1, h2, cf, kf, fun i hi => ⟨(h3 i hi).1, (h3 i hi).2.1, hT i _ _ _ hi (h3 i hi).1 (h3 i hi).2.2⟩, h4⟩))
  · exact Or.inr (Or.inr (Or.inr (Or.inl ⟨q, h1, h2, c0, k0, h3, hT 0 _ _ _ (by (first | (apply Int.le_antisymm <;> omega) | omega)) h3 h4, h5, h6⟩)))
  · exact Or.inr (Or.inr (Or.inr (Or.inr (Or.inl ⟨q, h1, c0, k0, h3, hT 0 _ _ _ (by (first | (apply Int.le_antisymm <;> omega) | omega)) h3 h4, h5, h6⟩))))
  · exact Or.inr (Or.inr (Or.inr (Or.inr (Or.inr ⟨q, h1, c0, c1, k0, k1, b1, sr, nb, h3, h4, hT 0 _ _ _ (by (first | (apply Int.le_antisymm <;> omega) | omega)) h3 h5, hT 1 _ _ _ (by (first | (apply Int.le_antisymm <;> omega) | omega)) h4 h6, h7, h8, h9, h10, h.str h11, h12, h13⟩))))
theorem uv_kp (h : kp cpn cpb K f f2) : ∀ (d : Nat) {e a : Nat} {c : Int} {b : Nat} {K1 : Nat → Prop}, (∀ x, K1 x → ¬ K x) → fp L f cpn e a K1 → uv L f cpn cpb d a c b → uv L f2 cpn cpb d a c b
  | 0, _, _, _, _, _, _, _, hu => hu.elim
  | d + 1, e, a, c, b, K1, hk, hf, hu => by
    obtain ⟨op, pl, nm, v, t, p, n, cnt, ix, gl, hq9r⟩ := hu
    obtain ⟨g, h1, h2, h3, h4, h5, h6⟩ := hq9r
    obtain ⟨ka, Kf, k1, k2, k3⟩ := fp_kds hf h2 h3
    refine ⟨op, pl, nm, v, t, p, n, cnt, ix, gl, g, h1, h.1 a _ (hk a ka) h2, h.aP h3, h4, h5, uvc.kid h (fun i y c b hi hy q => ?_) h6⟩
    obtain ⟨z, e1, z1, z2⟩ := k1 i hi
    rw [hy] at z1
    injection z1 with z1
    subst z1
    exact uv_kp h d (fun x hx => hk x (k2 i x hi hx).1) z2 q
section TV
variable {N N2 fc gc gg : Int} {gv tk : Nat → Int}
theorem tvc.kid {T T2 : Nat → Int32 → Int → Nat → Prop} {op : Int32} {nm : Value} {v : Int64} {t cnt ix gl : Int32} {g : Nat → Option Nat} {c : Int} {b : Nat} (h : kp cpn cpb K f f2) (hN : N ≤ N2) (hT : ∀ (i y : Nat) (t : Int32) (c : Int) (b : Nat), (i : Int) < cnt.toInt → g i = some y → T y t c b → T2 y t c b) (hu : tvc L f cpb N fc gc gv tk T op nm v t cnt ix gl g c b) : tvc L f2 cpb N2 fc gc gv tk T2 op nm v t cnt ix gl g c b := by
  rcases hu with h1 | ⟨q, h1, h2, h3⟩ | ⟨q, cf, tf, kf, h1, h2⟩ | ⟨q1, q2, q3, c0, t0, k0, q4, q5, q6, q7⟩ | ⟨q1, q2, q3, c0, t0, k0, q4, q5, q6, q7⟩ | ⟨q1, q2, q3, c0, c1, t0, t1, k0, k1, b1, sr, nb, q4, q5, q6, q7, q8, q9, q10, q11, q12, q13, q14, q15⟩
  · exact Or.inl h1
  · exact Or.inr (Or.inl ⟨q, h1, by (first | (apply Int.le_antisymm <;> omega) | omega), h3⟩)
  · refine Or.inr (Or.inr (Or.inl ⟨q, cf, tf, kf, fun i hi => ?_, ?_⟩))
    · obtain ⟨a1, a2, a3, a4⟩ := h1 i hi
      exact ⟨a1, a2, a3, hT i _ _ _ _ hi a1 a4⟩
    · rcases h2 with h2 | ⟨a1, ⟨sr, nb, a2, a3, a4⟩, a5⟩
      · exact Or.inl h2
      · exact Or.inr ⟨a1, ⟨sr, nb, a2, h.str a3, a4⟩, a5⟩
  · exact Or.inr (Or.inr (Or.inr (Or.inl ⟨q1, q2, q3, c0, t0, k0, q4, q5, hT 0 _ _ _ _ (by (first | (apply Int.le_antisymm <;> omega) | omega)) q4 q6, q7⟩)))
  · exact Or.inr (Or.inr (Or.inr (Or.inr (Or.inl ⟨q1, q2, q3, c0, t0, k0, q4, q5, hT 0 _ _ _ _ (by (first | (apply Int.le_antisymm <;> omega) | omega)) q4 q6, q7⟩))))
  · exact Or.inr (Or.inr (Or.inr (Or.inr (Or.inr ⟨q1, q2, q3, c0, c1, t0, t1, k0, k1, b1, sr, nb, q4, q5, q6, q7, hT 0 _ _ _ _ (by (first | (apply Int.le_antisymm <;> omega) | omega)) q4 q8, hT 1 _ _ _ _ (by (first | (apply Int.le_antisymm <;> omega) | omega)) q5 q9, q10, q11, q12, q13, h.str q14, q15⟩))))
theorem tv_kp (h : kp cpn cpb K f f2) (hN : N ≤ N2) : ∀ (d : Nat) {e a : Nat} {t : Int32} {c : Int} {b : Nat} {K1 : Nat → Prop}, (∀ x, K1 x → ¬ K x) → fp L f cpn e a K1 → tv L f cpn cpb N fc gc gv tk d a t c b → tv L f2 cpn cpb N2 fc gc gv tk d a t c b
  | 0, _, _, _, _, _, _, _, _, hu => hu.elim
  | d + 1, e, a, t, c, b, K1, hk, hf, hu => by
    obtain ⟨op, pl, nm, v, p, n, cnt, ix, gl, g, h1, h2, h3, h4, h6⟩ := hu
    obtain ⟨ka, Kf, k1, k2, k3⟩ := fp_kds hf h2 h3
    refine ⟨op, pl, nm, v, p, n, cnt, ix, gl, g, h1, h.1 a _ (hk a ka) h2, h.aP h3, h4, tvc.kid h hN (fun i y t c b hi hy q => ?_) h6⟩
    obtain ⟨z, e1, z1, z2⟩ := k1 i hi
    rw [hy] at z1
    injection z1 with z1
    subst z1
    exact tv_kp h hN d (fun x hx => hk x (k2 i x hi hx).1) z2 q
theorem usc.kid {V V2 T T2 : Nat → Int → Nat → Prop} {op : Int32} {nm : Value} {t cnt : Int32} {g : Nat → Option Nat} {c : Int} {b : Nat} (h : kp cpn cpb K f f2) (hV : ∀ (i y : Nat) (c : Int) (b : Nat), (i : Int) < cnt.toInt → g i = some y → V y c b → V2 y c b) (hT : ∀ (i y : Nat) (c : Int) (b : Nat), (i : Int) < cnt.toInt → g i = some y → T y c b → T2 y c b) (hu : usc L f cpb V T op nm t cnt g c b) : usc L f2 cpb V2 T2 op nm t cnt g c b := by
  rcases hu with ⟨q, cf, kf, h3, h4⟩ | ⟨q, h1, h2, h0, c0, k0, h3, h4, h5, h6⟩ | ⟨q, h1, h0, c0, k0, h3, h4, h5, h6⟩ | ⟨q, c0, k0, c1, k1, b1, h1, h2, h3, h4, h5, h6, h7, h8⟩ | ⟨q, h0, c0, k0, c1, k1, b1, h1, h2, h3, h4, h5, h6, h7, h8⟩ | ⟨q, h1, h2⟩ | ⟨q, h1⟩ | ⟨q, h1, c0, k0, h3, h4, h5, h6⟩
  · exact Or.inl ⟨q, cf, kf, fun i hi => ⟨(h3 i hi).1, (h3 i hi).2.1, hT i _ _ _ hi (h3 i hi).1 (h3 i hi).2.2⟩, h4⟩
  · exact Or.inr (Or.inl ⟨q, h1, h2, h.nm h0, c0, k0, h3, hV 0 _ _ _ (by (first | (apply Int.le_antisymm <;> omega) | omega)) h3 h4, h5, h6⟩)
  · exact Or.inr (Or.inr (Or.inl ⟨q, h1, h.nm h0, c0, k0, h3, hV 0 _ _ _ (by (first | (apply Int.le_antisymm <;> omega) | omega)) h3 h4, h5, h6⟩))
  · refine Or.inr (Or.inr (Or.inr (Or.inl ⟨q, c0, k0, c1, k1, b1, h1, hV 0 _ _ _ (by (first | (apply Int.le_antisymm <;> omega) | omega)) h1 h2, h3, h4, hT 1 _ _ _ (by (first | (apply Int.le_antisymm <;> omega) | omega)) h4 h5, h6, h7, ?_⟩)))
    rcases h8 with ⟨z1, z2⟩ | ⟨z1, y, k2, z2, z3, z4, z5⟩
    · exact Or.inl ⟨z1, z2⟩
    · exact Or.inr ⟨z1, y, k2, z2, hT 2 _ _ _ (by (first | (apply Int.le_antisymm <;> omega) | omega)) z2 z3, z4, z5⟩
  · exact Or.inr (Or.inr (Or.inr (Or.inr (Or.inl ⟨q, h0, c0, k0, c1, k1, b1, h1, hV 0 _ _ _ (by (first | (apply Int.le_antisymm <;> omega) | omega)) h1 h2, h3, h4, hT 1 _ _ _ (by (first | (apply Int.le_antisymm <;> omega) | omega)) h4 h5, h6, h7, h8⟩))))
  · exact Or.inr (Or.inr (Or.inr (Or.inr (Or.inr (Or.inl ⟨q, h1, h2⟩)))))
  · refine Or.inr (Or.inr (Or.inr (Or.inr (Or.inr (Or.inr (Or.inl ⟨q, ?_⟩))))))
    rcases h1 with ⟨z1, z2⟩ | ⟨z1, y, k2, z2, z3, z4, z5⟩
    · exact Or.inl ⟨z1, z2⟩
    · exact Or.inr ⟨z1, y, k2, z2, hV 0 _ _ _ (by (first | (apply Int.le_antisymm <;> omega) | omega)) z2 z3, z4, z5⟩
  · exact Or.inr (Or.inr (Or.inr (Or.inr (Or.inr (Or.inr (Or.inr ⟨q, h1, c0, k0, h3, hV 0 _ _ _ (by (first | (apply Int.le_antisymm <;> omega) | omega)) h3 h4, h5, h6⟩))))))
theorem us_kp (h : kp cpn cpb K f f2) : ∀ (d : Nat) {e a : Nat} {c : Int} {b : Nat} {K1 : Nat → Prop}, (∀ x, K1 x → ¬ K x) → fp L f cpn e a K1 → us L f cpn cpb d a c b → us L f2 cpn cpb d a c b
  | 0, _, _, _, _, _, _, _, hu => hu.elim
  | d + 1, e, a, c, b, K1, hk, hf, hu => by
    obtain ⟨op, pl, nm, v, t, p, n, cnt, ix, gl, hq9r⟩ := hu
    obtain ⟨g, h1, h2, h3, h4, h5, h6⟩ := hq9r
    obtain ⟨ka, Kf, k1, k2, k3⟩ := fp_kds hf h2 h3
    refine ⟨op, pl, nm, v, t, p, n, cnt, ix, gl, g, h1, h.1 a _ (hk a ka) h2, h.aP h3, h4, h5, usc.kid h (fun i y c b hi hy q => ?_) (fun i y c b hi hy q => ?_) h6⟩
    · obtain ⟨z, e1, z1, z2⟩ := k1 i hi
      rw [hy] at z1
      injection z1 with z1
      subst z1
      obtain ⟨d1, q1, q2⟩ := q
      exact ⟨d1, q1, uv_kp h d1 (fun x hx => hk x (k2 i x hi hx).1) z2 q2⟩
    · obtain ⟨z, e1, z1, z2⟩ := k1 i hi
      rw [hy] at z1
      injection z1 with z1
      subst z1
      exact us_kp h d (fun x hx => hk x (k2 i x hi hx).1) z2 q
theorem tsc.kid {V V2 : Nat → Int32 → Int → Nat → Prop} {T T2 : Bool → Nat → Int → Nat → Prop} {il : Bool} {op cnt ix gl : Int32} {g : Nat → Option Nat} {c : Int} {b : Nat} (hN : N ≤ N2) (hV : ∀ (i y : Nat) (t : Int32) (c : Int) (b : Nat), (i : Int) < cnt.toInt → g i = some y → V y t c b → V2 y t c b) (hT : ∀ (i y : Nat) (l : Bool) (c : Int) (b : Nat), (i : Int) < cnt.toInt → g i = some y → T l y c b → T2 l y c b) (h : tsc N gc gg V T il op cnt ix gl g c b) : tsc N2 gc gg V2 T2 il op cnt ix gl g c b := by
  rcases h with ⟨q, cf, kf, h1, h2⟩ | ⟨q1, q2, q3, q4, c0, t0, k0, q5, q6, q7, q8⟩ | ⟨q1, q2, c0, t0, k0, c1, k1, b1, q3, q4, q5, q6, q7, q8, q9, q10, q11⟩ | ⟨q1, q2, c0, t0, k0, c1, k1, b1, q3, q4, q5, q6, q7, q8, q9⟩ | h | ⟨q1, q2⟩ | ⟨q1, q2, c0, t0, k0, q3, q4, q5, q6⟩
  · exact Or.inl ⟨q, cf, kf, fun i hi => ⟨(h1 i hi).1, (h1 i hi).2.1, hT i _ _ _ _ hi (h1 i hi).1 (h1 i hi).2.2⟩, h2⟩
  · exact Or.inr (Or.inl ⟨q1, q2, q3, by (first | (apply Int.le_antisymm <;> omega) | omega), c0, t0, k0, q5, q6, hV 0 _ _ _ _ (by (first | (apply Int.le_antisymm <;> omega) | omega)) q5 q7, q8⟩)
  · refine Or.inr (Or.inr (Or.inl ⟨q1, q2, c0, t0, k0, c1, k1, b1, q3, q4, hV 0 _ _ _ _ (by (first | (apply Int.le_antisymm <;> omega) | omega)) q3 q5, q6, q7, hT 1 _ _ _ _ (by (first | (apply Int.le_antisymm <;> omega) | omega)) q7 q8, q9, q10, ?_⟩))
    rcases q11 with w | ⟨w1, c2, k2, w2, w3, w4⟩
    · exact Or.inl w
    · exact Or.inr ⟨w1, c2, k2, w2, hT 2 _ _ _ _ (by (first | (apply Int.le_antisymm <;> omega) | omega)) w2 w3, w4⟩
  · exact Or.inr (Or.inr (Or.inr (Or.inl ⟨q1, q2, c0, t0, k0, c1, k1, b1, q3, q4, hV 0 _ _ _ _ (by (first | (apply Int.le_antisymm <;> omega) | omega)) q3 q5, q6, q7, hT 1 _ _ _ _ (by (first | (apply Int.le_antisymm <;> omega) | omega)) q7 q8, q9⟩)))
  · exact Or.inr (Or.inr (Or.inr (Or.inr (Or.inl h))))
  · refine Or.inr (Or.inr (Or.inr (Or.inr (Or.inr (Or.inl ⟨q1, ?_⟩)))))
    rcases q2 with w | ⟨w1, c0, t0, k0, w2, w3, w4, w5⟩
    · exact Or.inl w
    · exact Or.inr ⟨w1, c0, t0, k0, w2, w3, hV 0 _ _ _ _ (by (first | (apply Int.le_antisymm <;> omega) | omega)) w2 w4, w5⟩
  · exact Or.inr (Or.inr (Or.inr (Or.inr (Or.inr (Or.inr ⟨q1, q2, c0, t0, k0, q3, q4, hV 0 _ _ _ _ (by (first | (apply Int.le_antisymm <;> omega) | omega)) q3 q5, q6⟩)))))
theorem ts_kp (h : kp cpn cpb K f f2) (hN : N ≤ N2) : ∀ (d : Nat) {e a : Nat} {il : Bool} {c : Int} {b : Nat} {K1 : Nat → Prop}, (∀ x, K1 x → ¬ K x) → fp L f cpn e a K1 → ts L f cpn cpb N fc gc gv tk gg d il a c b → ts L f2 cpn cpb N2 fc gc gv tk gg d il a c b
  | 0, _, _, _, _, _, _, _, _, hu => hu.elim
  | d + 1, e, a, il, c, b, K1, hk, hf, hu => by
    obtain ⟨op, pl, nm, v, t, p, n, cnt, ix, gl, hq9r⟩ := hu
    obtain ⟨g, h1, h2, h3, h4, h6⟩ := hq9r
    obtain ⟨ka, Kf, k1, k2, k3⟩ := fp_kds hf h2 h3
    refine ⟨op, pl, nm, v, t, p, n, cnt, ix, gl, g, h1, h.1 a _ (hk a ka) h2, h.aP h3, h4, tsc.kid hN (fun i y t c b hi hy q => ?_) (fun i y l c b hi hy q => ?_) h6⟩
    · obtain ⟨z, e1, z1, z2⟩ := k1 i hi
      rw [hy] at z1
      injection z1 with z1
      subst z1
      obtain ⟨d1, q1, q2⟩ := q
      exact ⟨d1, q1, tv_kp h hN d1 (fun x hx => hk x (k2 i x hi hx).1) z2 q2⟩
    · obtain ⟨z, e1, z1, z2⟩ := k1 i hi
      rw [hy] at z1
      injection z1 with z1
      subst z1
      exact ts_kp h hN d (fun x hx => hk x (k2 i x hi hx).1) z2 q
end TV
end CHG
end q_n17

section q_n18
/-! the reference: what is known while types are found -/
theorem pl_set {A : Nat → Prop} {X : va_W} {L : List Nat} {f : Nat → va_E} {q a : Nat} {e0 e : va_E} (hD : va_D A (X ++ va_pl L f)) (hy : a ∈ L) (hq : (X ++ va_pl L f)[q]? = some (a, e0)) : (X ++ va_pl L f).set q (a, e) = X ++ va_pl L (va_up f a e) := by
  have hn : L.Nodup := vq_nd hD
  obtain ⟨k, hk⟩ := List.getElem?_of_mem hy
  have hp : (X ++ va_pl L f)[X.length + k]? = some (a, f a) := by
    rw [List.getElem?_append_right (by (first | (apply Int.le_antisymm <;> omega) | omega)), Nat.add_sub_cancel_left]
    unfold va_pl
    rw [List.getElem?_map, hk]
    rfl
  have e1 : q = X.length + k := hD.1 q (X.length + k) _ _ hq hp rfl
  subst e1
  have hl : X.length + k < (X ++ va_pl L f).length := (List.getElem?_eq_some_iff.mp hp).1
  refine List.ext_getElem? (fun i => ?_)
  rw [List.getElem?_set]
  by_cases c : X.length + k = i
  · subst c
    rw [if_pos rfl, if_pos hl, List.getElem?_append_right (by (first | (apply Int.le_antisymm <;> omega) | omega)), Nat.add_sub_cancel_left]
    unfold va_pl
    rw [List.getElem?_map, hk]
    show _ = some (a, va_up f a e a)
    rw [va_up_self]
  · rw [if_neg c]
    by_cases c2 : i < X.length
    · rw [List.getElem?_append_left c2, List.getElem?_append_left c2]
    · rw [List.getElem?_append_right (by (first | (apply Int.le_antisymm <;> omega) | omega)), List.getElem?_append_right (by (first | (apply Int.le_antisymm <;> omega) | omega))]
      unfold va_pl
      rw [List.getElem?_map, List.getElem?_map]
      cases hb : L[i - X.length]? with
      | none => rfl
      | some b =>
        have nb : b ≠ a := fun z => by
          subst z
          have := (List.getElem?_inj (List.getElem?_eq_some_iff.mp hk).1 hn).mp (hk.trans hb.symm)
          (first | (apply Int.le_antisymm <;> omega) | omega)
        show some (b, f b) = some (b, va_up f a e b)
        rw [va_up_ne _ _ nb]
theorem up_o {f : Nat → va_E} {a b c1 c2 : Nat} {v1 v2 : List Value} {e : va_E} (h : f b = .inr (c1, v1)) (h0 : f a = .inr (c2, v2)) (hc : c1 ≠ c2) : va_up f a e b = .inr (c1, v1) := by
  have z : b ≠ a := fun z => by
    subst z
    rw [h] at h0
    injection h0 with h0
    injection h0 with h0 _
    exact hc h0
  rw [va_up_ne _ _ z]
  exact h
theorem up_a {f : Nat → va_E} {a b c2 : Nat} {x : ClassId × vp_A} {v2 : List Value} {e : va_E} (h : f b = .inl x) (h0 : f a = .inr (c2, v2)) : va_up f a e b = .inl x := by
  have z : b ≠ a := fun z => by
    subst z
    rw [h] at h0
    cases h0
  rw [va_up_ne _ _ z]
  exact h
/-- the function that is looked at -/
def nwf (L : List Nat) (f : Nat → va_E) (cps cr : ClassId) (M : Nat → Prop) (a : Nat) (nm : Value) (pl : Int32) (nms pls tys : Nat) (ps N rs : Int32) (bd : Nat) (sg : Int32) (gn : Nat → Option Nat) (T : Nat → Int32) : Prop := (a ∈ L ∧ f a = .inr (14, [nm, .int pl, .ref nms, .ref pls, .ref tys, .int ps, .int N, .int rs, .ref bd, .int sg])) ∧ (nms ∈ L ∧ f nms = .inl (cps, 51, .inr (.inr (.inr (.inr gn))))) ∧ (tys ∈ L ∧ f tys = .inl (cr, 51, .inl T)) ∧ M a ∧ M nms ∧ M tys
/-- names that are known -/
def kno9 (n N : Int) (g : Nat → Int32) : Prop := ∀ k : Nat, (k : Int) < n → 0 ≤ (g k).toInt ∧ (g k).toInt < N
/-- globals, as typing reads them -/
def glt (L : List Nat) (f : Nat → va_E) (cpb : ClassId) (n : Int) (nm : Nat → Option Nat) (ty : Nat → Int32) : Prop := ∀ j : Nat, (j : Int) < n → t27 (ty j).toInt ∧ ∃ r, nm j = some r ∧ nmP L f cpb (.ref r)
/-- functions, as typing reads them -/
def ftb (L : List Nat) (f : Nat → va_E) (cr cpb : ClassId) (n : Int) (g : Nat → Option Nat) (gv tk : Nat → Int) : Prop := ∀ j : Nat, (j : Int) < n → ∃ (a : Nat) (nm : Value) (pl : Int32) (nms pls tys : Nat) (ps N rs : Int32) (bd : Nat) (sg : Int32) (T : Nat → Int32), g j = some a ∧ (a ∈ L ∧ f a = .inr (14, [nm, .int pl, .ref nms, .ref pls, .ref tys, .int ps, .int N, .int rs, .ref bd, .int sg])) ∧ nmP L f cpb nm ∧ (tys ∈ L ∧ f tys = .inl (cr, 51, .inl T)) ∧ (0 ≤ ps.toInt ∧ ps.toInt ≤ 8) ∧ (rs.toInt = 0 ∨ t27 rs.toInt) ∧ gv j = ga0 rs.toInt ∧ tk j = ps.toInt ∧ ∀ i : Nat, (i : Int) < ps.toInt → t27 (T i).toInt
section ENV
variable {L : List Nat} {f f2 : Nat → va_E} {cps cr cpn cpb : ClassId} {K M : Nat → Prop} {a : Nat} {nm : Value} {pl : Int32} {nms pls tys : Nat} {ps N rs : Int32} {bd : Nat} {sg : Int32} {gn g : Nat → Option Nat} {T ty : Nat → Int32} {n : Int} {gv tk : Nat → Int}
theorem nwf.cgn (h : cgn K f f2) (hw : nwf L f cps cr M a nm pl nms pls tys ps N rs bd sg gn T) : nwf L f2 cps cr M a nm pl nms pls tys ps N rs bd sg gn T := ⟨⟨hw.1.1, h.2.1 _ _ _ (by decide) hw.1.2⟩, ⟨hw.2.1.1, h.1 _ _ hw.2.1.2⟩, ⟨hw.2.2.1.1, h.1 _ _ hw.2.2.1.2⟩, hw.2.2.2⟩
theorem par9.kp (h : kp cpn cpb K f f2) (hw : par9 L f cpb n gn T) : par9 L f2 cpb n gn T := fun j hj => by
  obtain ⟨b, r, c, d⟩ := hw j hj
  exact ⟨b, r, c, h.nm d⟩
theorem glt.kp (h : kp cpn cpb K f f2) (hw : glt L f cpb n gn ty) : glt L f2 cpb n gn ty := fun j hj => by
  obtain ⟨b, r, c, d⟩ := hw j hj
  exact ⟨b, r, c, h.nm d⟩
theorem ftb.cgn (h : cgn K f f2) (hw : ftb L f cr cpb n g gv tk) : ftb L f2 cr cpb n g gv tk := fun j hj => by
  obtain ⟨a, nm, pl, nms, pls, tys, ps, N, rs, bd, sg, T, h1, ⟨h2, h2'⟩, h3, ⟨h4, h4'⟩, h5⟩ := hw j hj
  exact ⟨a, nm, pl, nms, pls, tys, ps, N, rs, bd, sg, T, h1, ⟨h2, h.2.1 _ _ _ (by decide) h2'⟩, (h.kp (cpn := cpb)).nm h3, ⟨h4, h.1 _ _ h4'⟩, h5⟩
end ENV
abbrev b_MD_local : ByteArray := prog_15_method_29_code
def y_MD_local : MethodName := ⟨R_MD, "local", "(Ljava/lang/String;)I"⟩
abbrev w_MD_local : List Cond := .code y_MD_local b_MD_local 3 (Option.some .int) :: lw_g
theorem kC_MD_local : Cond.code y_MD_local b_MD_local 3 (Option.some .int) ∈ lw_g := in_c12 28 rfl rfl
theorem d_MD_local_0 : decode b_MD_local 0 = .ok (.aload_n 0, 1) := bz_c42 (by decide +kernel)
theorem d_MD_local_1 : decode b_MD_local 1 = .ok (.getfield 307, 3) := bz_c180 (by decide +kernel)
theorem d_MD_local_4 : decode b_MD_local 4 = .ok (.iconst 1, 1) := bz_c4 (by decide +kernel)
theorem d_MD_local_5 : decode b_MD_local 5 = .ok (.isub, 1) := bz_c100 (by decide +kernel)
theorem d_MD_local_6 : decode b_MD_local 6 = .ok (.istore_n 2, 1) := bz_c61 (by decide +kernel)
theorem d_MD_local_7 : decode b_MD_local 7 = .ok (.iload_n 2, 1) := bz_c28 (by decide +kernel)
theorem d_MD_local_8 : decode b_MD_local 8 = .ok (.ifCond .lt 37, 3) := bz_c155 (by decide +kernel)
theorem d_MD_local_11 : decode b_MD_local 11 = .ok (.aload_n 0, 1) := bz_c42 (by decide +kernel)
theorem d_MD_local_12 : decode b_MD_local 12 = .ok (.getfield 303, 3) := bz_c180 (by decide +kernel)
theorem d_MD_local_15 : decode b_MD_local 15 = .ok (.getfield 214, 3) := bz_c180 (by decide +kernel)
theorem d_MD_local_18 : decode b_MD_local 18 = .ok (.aload_n 0, 1) := bz_c42 (by decide +kernel)
theorem d_MD_local_19 : decode b_MD_local 19 = .ok (.getfield 316, 3) := bz_c180 (by decide +kernel)
theorem d_MD_local_22 : decode b_MD_local 22 = .ok (.iload_n 2, 1) := bz_c28 (by decide +kernel)
theorem d_MD_local_23 : decode b_MD_local 23 = .ok (.iaload, 1) := bz_c46 (by decide +kernel)
theorem d_MD_local_24 : decode b_MD_local 24 = .ok (.aaload, 1) := bz_c50 (by decide +kernel)
theorem d_MD_local_25 : decode b_MD_local 25 = .ok (.aload_n 1, 1) := bz_c43 (by decide +kernel)
theorem d_MD_local_26 : decode b_MD_local 26 = .ok (.invokevirtual 100, 3) := bz_c182 (by decide +kernel)
theorem d_MD_local_29 : decode b_MD_local 29 = .ok (.ifCond .eq 10, 3) := bz_c153 (by decide +kernel)
theorem d_MD_local_32 : decode b_MD_local 32 = .ok (.aload_n 0, 1) := bz_c42 (by decide +kernel)
theorem d_MD_local_33 : decode b_MD_local 33 = .ok (.getfield 316, 3) := bz_c180 (by decide +kernel)
theorem d_MD_local_36 : decode b_MD_local 36 = .ok (.iload_n 2, 1) := bz_c28 (by decide +kernel)
theorem d_MD_local_37 : decode b_MD_local 37 = .ok (.iaload, 1) := bz_c46 (by decide +kernel)
theorem d_MD_local_38 : decode b_MD_local 38 = .ok (.ireturn, 1) := bz_c172 (by decide +kernel)
theorem d_MD_local_39 : decode b_MD_local 39 = .ok (.iinc 2 (-1), 3) := by decide +kernel
theorem d_MD_local_42 : decode b_MD_local 42 = .ok (.goto (-35), 3) := bz_c167 (by decide +kernel)
theorem d_MD_local_45 : decode b_MD_local 45 = .ok (.iconst (-1), 1) := bz_c2 (by decide +kernel)
theorem d_MD_local_46 : decode b_MD_local 46 = .ok (.ireturn, 1) := bz_c172 (by decide +kernel)
theorem kF_MD_307 : Cond.fieldLink R_MD 307 "WaferForgeModel" "knownCount" "I" ∈ lw_g := in_c9 2 rfl rfl
theorem kF_MD_303 : Cond.fieldLink R_MD 303 "WaferForgeModel" "now" "LWaferForgeModel$Fun;" ∈ lw_g := in_c9 0 rfl rfl
theorem kF_MD_316 : Cond.fieldLink R_MD 316 "WaferForgeModel" "known" "[I" ∈ lw_g := in_c9 1 rfl rfl
abbrev at_MD_local (dC : Nat → ClassId) (dI : Nat → Nat → Nat) (sa : Nat → Nat) (h0 rf tap gnm gpl gty gvl fun_ lev po_now kno mad mag h0_smalls_r h0_greats_r h0_module_r h0_spare_r blk stk hgt lab ous kis los mem glo val ffu fre fba fla lat lhe rsl arg : Nat) (ckno cr cpn cpb cps : ClassId) (h0_taped : Int32) (h0_length : Int32) (h0_kind : Int32) (h0_from : Int32) (h0_to : Int32) (h0_word : Value) (h0_numeral : Int64) (h0_globalCount : Int32) (h0_funCount : Int32) (h0_open : Int32) (h0_signs : Int32) (h0_knownCount : Int32) (h0_loops : Int32) (h0_madeLength : Int32) (h0_m : Value) (h0_cursor : Int32) (h0_limit : Int32) (h0_top : Int32) (h0_depth : Int32) (h0_function : Int32) (h0_pages : Int32) (h0_valueTop : Int32) (h0_frames : Int32) (h0_labelTop : Int32) (h0_steps : Int32) (h0_there : Int32) (h0_resultLength : Int32) (h0_reason : Int32) (h0_place : Int32) (h0_argumentCount : Int32) (h0_code : Int32) (gkno : Nat → Int32) (LP : List Nat) (fP : Nat → va_E) (A : Nat → Prop) (u : Unit) (t : State) : Prop := match u with | _ => va_P (dC, dI) cls2 (((wz_587 h0 rf tap h0_taped h0_length h0_kind h0_from h0_to h0_word h0_numeral gnm gpl gty gvl h0_globalCount fun_ h0_funCount h0_open h0_signs lev po_now kno h0_knownCount h0_loops mad h0_madeLength mag h0_smalls_r h0_greats_r h0_module_r h0_spare_r h0_m h0_cursor h0_limit blk stk h0_top hgt lab ous kis los h0_depth h0_function mem h0_pages glo val h0_valueTop ffu fre fba fla h0_frames lat lhe h0_labelTop h0_steps h0_there rsl h0_resultLength h0_reason h0_place arg h0_argumentCount h0_code kno ckno gkno) : va_W) ++ va_pl LP fP) t.heap ∧ va_K (dC, dI) cls2 [(ckno, .int), (cr, .int), (cpn, .object "WaferForgeModel$N"), (cpb, .byte), (cps, .object "java/lang/String")] t ∧ va_D A (((wz_587 h0 rf tap h0_taped h0_length h0_kind h0_from h0_to h0_word h0_numeral gnm gpl gty gvl h0_globalCount fun_ h0_funCount h0_open h0_signs lev po_now kno h0_knownCount h0_loops mad h0_madeLength mag h0_smalls_r h0_greats_r h0_module_r h0_spare_r h0_m h0_cursor h0_limit blk stk h0_top hgt lab ous kis los h0_depth h0_function mem h0_pages glo val h0_valueTop ffu fre fba fla h0_frames lat lhe h0_labelTop h0_steps h0_there rsl h0_resultLength h0_reason h0_place arg h0_argumentCount h0_code kno ckno gkno) : va_W) ++ va_pl LP fP)
set_option maxHeartbeats 4000000 in
set_option maxRecDepth 100000 in
theorem c_MD_local (l : Launch) (hlt : l.stackTraces = false) (dC : Nat → ClassId) (dI : Nat → Nat → Nat) (sz : Nat) (sa : Nat → Nat) (h0 rf tap gnm gpl gty gvl fun_ lev po_now kno mad mag h0_smalls_r h0_greats_r h0_module_r h0_spare_r blk stk hgt lab ous kis los mem glo val ffu fre fba fla lat lhe rsl arg : Nat) (ckno cr cpn cpb cps : ClassId) (h0_taped : Int32) (h0_length : Int32) (h0_kind : Int32) (h0_from : Int32) (h0_to : Int32) (h0_word : Value) (h0_numeral : Int64) (h0_globalCount : Int32) (h0_funCount : Int32) (h0_open : Int32) (h0_signs : Int32) (h0_knownCount : Int32) (h0_loops : Int32) (h0_madeLength : Int32) (h0_m : Value) (h0_cursor : Int32) (h0_limit : Int32) (h0_top : Int32) (h0_depth : Int32) (h0_function : Int32) (h0_pages : Int32) (h0_valueTop : Int32) (h0_frames : Int32) (h0_labelTop : Int32) (h0_steps : Int32) (h0_there : Int32) (h0_resultLength : Int32) (h0_reason : Int32) (h0_place : Int32) (h0_argumentCount : Int32) (h0_code : Int32) (gkno : Nat → Int32) (LP : List Nat) (fP : Nat → va_E) (fnm : Value) (fpl : Int32) (po_fns : Nat) (po_fls : Nat) (po_fys : Nat) (fps : Int32) (fN : Int32) (frs : Int32) (po_fbd : Nat) (fsg : Int32) (fgn : Nat → Option Nat) (fT : Nat → Int32) (gM : Nat → Prop) (gN : Int) (gnb : List Int32)  (b_h0_knownCount : 0 ≤ h0_knownCount.toInt ∧ h0_knownCount.toInt ≤ 51) (po_s : Nat)  (hnw : bx (nwf LP fP cps cr gM po_now fnm fpl po_fns po_fls po_fys fps fN frs po_fbd fsg fgn fT)) (hpar : bx (par9 LP fP cpb gN fgn fT)) (hkn : bx (kno9 h0_knownCount.toInt gN gkno)) (hgN : 0 ≤ gN ∧ gN ≤ 50) (hs : bx (strP LP fP cpb po_s gnb)) : Met l y_MD_local w_MD_local ({ frames := 2, cells := 0, slots := 0, locals := 44 }) (va_Pc [.ref h0, .ref po_s] (fun U => U.heap.size = sz ∧ va_P (dC, dI) cls2 (((wz_587 h0 rf tap h0_taped h0_length h0_kind h0_from h0_to h0_word h0_numeral gnm gpl gty gvl h0_globalCount fun_ h0_funCount h0_open h0_signs lev po_now kno h0_knownCount h0_loops mad h0_madeLength mag h0_smalls_r h0_greats_r h0_module_r h0_spare_r h0_m h0_cursor h0_limit blk stk h0_top hgt lab ous kis los h0_depth h0_function mem h0_pages glo val h0_valueTop ffu fre fba fla h0_frames lat lhe h0_labelTop h0_steps h0_there rsl h0_resultLength h0_reason h0_place arg h0_argumentCount h0_code kno ckno gkno) : va_W) ++ va_pl LP fP) U.heap ∧ va_K (dC, dI) cls2 [(ckno, .int), (cr, .int), (cpn, .object "WaferForgeModel$N"), (cpb, .byte), (cps, .object "java/lang/String")] U ∧ va_D (fun _ => True) (((wz_587 h0 rf tap h0_taped h0_length h0_kind h0_from h0_to h0_word h0_numeral gnm gpl gty gvl h0_globalCount fun_ h0_funCount h0_open h0_signs lev po_now kno h0_knownCount h0_loops mad h0_madeLength mag h0_smalls_r h0_greats_r h0_module_r h0_spare_r h0_m h0_cursor h0_limit blk stk h0_top hgt lab ous kis los h0_depth h0_function mem h0_pages glo val h0_valueTop ffu fre fba fla h0_frames lat lhe h0_labelTop h0_steps h0_there rsl h0_resultLength h0_reason h0_place arg h0_argumentCount h0_code kno ckno gkno) : va_W) ++ va_pl LP fP) ∧ sm sa (va_A (((wz_587 h0 rf tap h0_taped h0_length h0_kind h0_from h0_to h0_word h0_numeral gnm gpl gty gvl h0_globalCount fun_ h0_funCount h0_open h0_signs lev po_now kno h0_knownCount h0_loops mad h0_madeLength mag h0_smalls_r h0_greats_r h0_module_r h0_spare_r h0_m h0_cursor h0_limit blk stk h0_top hgt lab ous kis los h0_depth h0_function mem h0_pages glo val h0_valueTop ffu fre fba fla h0_frames lat lhe h0_labelTop h0_steps h0_there rsl h0_resultLength h0_reason h0_place arg h0_argumentCount h0_code kno ckno gkno) : va_W) ++ va_pl LP fP) sz) U U.heap)) (va_Qi (fun (r : Int32) (u : Unit) => match u with | _ => (r.toInt = -1 ∨ (0 ≤ r.toInt ∧ r.toInt < gN))) (at_MD_local dC dI sa h0 rf tap gnm gpl gty gvl fun_ lev po_now kno mad mag h0_smalls_r h0_greats_r h0_module_r h0_spare_r blk stk hgt lab ous kis los mem glo val ffu fre fba fla lat lhe rsl arg ckno cr cpn cpb cps h0_taped h0_length h0_kind h0_from h0_to h0_word h0_numeral h0_globalCount h0_funCount h0_open h0_signs h0_knownCount h0_loops h0_madeLength h0_m h0_cursor h0_limit h0_top h0_depth h0_function h0_pages h0_valueTop h0_frames h0_labelTop h0_steps h0_there h0_resultLength h0_reason h0_place h0_argumentCount h0_code gkno LP fP (va_A (((wz_587 h0 rf tap h0_taped h0_length h0_kind h0_from h0_to h0_word h0_numeral gnm gpl gty gvl h0_globalCount fun_ h0_funCount h0_open h0_signs lev po_now kno h0_knownCount h0_loops mad h0_madeLength mag h0_smalls_r h0_greats_r h0_module_r h0_spare_r h0_m h0_cursor h0_limit blk stk h0_top hgt lab ous kis los h0_depth h0_function mem h0_pages glo val h0_valueTop ffu fre fba fla h0_frames lat lhe h0_labelTop h0_steps h0_there rsl h0_resultLength h0_reason h0_place arg h0_argumentCount h0_code kno ckno gkno) : va_W) ++ va_pl LP fP) sz)) (va_A (((wz_587 h0 rf tap h0_taped h0_length h0_kind h0_from h0_to h0_word h0_numeral gnm gpl gty gvl h0_globalCount fun_ h0_funCount h0_open h0_signs lev po_now kno h0_knownCount h0_loops mad h0_madeLength mag h0_smalls_r h0_greats_r h0_module_r h0_spare_r h0_m h0_cursor h0_limit blk stk h0_top hgt lab ous kis los h0_depth h0_function mem h0_pages glo val h0_valueTop ffu fre fba fla h0_frames lat lhe h0_labelTop h0_steps h0_there rsl h0_resultLength h0_reason h0_place arg h0_argumentCount h0_code kno ckno gkno) : va_W) ++ va_pl LP fP) sz)) 0 0 (va_A (((wz_587 h0 rf tap h0_taped h0_length h0_kind h0_from h0_to h0_word h0_numeral gnm gpl gty gvl h0_globalCount fun_ h0_funCount h0_open h0_signs lev po_now kno h0_knownCount h0_loops mad h0_madeLength mag h0_smalls_r h0_greats_r h0_module_r h0_spare_r h0_m h0_cursor h0_limit blk stk h0_top hgt lab ous kis los h0_depth h0_function mem h0_pages glo val h0_valueTop ffu fre fba fla h0_frames lat lhe h0_labelTop h0_steps h0_there rsl h0_resultLength h0_reason h0_place arg h0_argumentCount h0_code kno ckno gkno) : va_W) ++ va_pl LP fP) sz) := by
  refine Met.ofW (cc := b_MD_local) (maxL := 3) (ret := (Option.some .int)) (by decide) rfl ?_
  intro p e s m args below meth c s₁ B hml hv
  obtain ⟨rfl, hsz, hP, hK, hD0, hSW⟩ := hv
  have hx := B.exec
  have hb := B.bytes
  have hr := B.returns
  have hts0 := atoms_spec (ws := w_MD_local) B.pre
  have hts : ∀ w ∈ lw_g, w.before _ s = true := fun w h => hts0 w (List.mem_cons_of_mem _ h)
  have hown : s.vm.findClass R_MD = some m.cls := findClass_of_methodNamed B.named
  have hlocks := B.notSynchronized
  clear hts0
  subst hsz
  have hD := hD0.self (sz := s.heap.size)
  generalize hAe : va_A (((wz_587 h0 rf tap h0_taped h0_length h0_kind h0_from h0_to h0_word h0_numeral gnm gpl gty gvl h0_globalCount fun_ h0_funCount h0_open h0_signs lev po_now kno h0_knownCount h0_loops mad h0_madeLength mag h0_smalls_r h0_greats_r h0_module_r h0_spare_r h0_m h0_cursor h0_limit blk stk h0_top hgt lab ous kis los h0_depth h0_function mem h0_pages glo val h0_valueTop ffu fre fba fla h0_frames lat lhe h0_labelTop h0_steps h0_there rsl h0_resultLength h0_reason h0_place arg h0_argumentCount h0_code kno ckno gkno) : va_W) ++ va_pl LP fP) s.heap.size = A at hD hSW ⊢
  have hA : ∀ q : Nat, s.heap.size ≤ q → A q := fun q h => by rw [← hAe]; exact Or.inr h
  clear hAe
  have hP : va_P (dC, dI) cls2 (((wz_587 h0 rf tap h0_taped h0_length h0_kind h0_from h0_to h0_word h0_numeral gnm gpl gty gvl h0_globalCount fun_ h0_funCount h0_open h0_signs lev po_now kno h0_knownCount h0_loops mad h0_madeLength mag h0_smalls_r h0_greats_r h0_module_r h0_spare_r h0_m h0_cursor h0_limit blk stk h0_top hgt lab ous kis los h0_depth h0_function mem h0_pages glo val h0_valueTop ffu fre fba fla h0_frames lat lhe h0_labelTop h0_steps h0_there rsl h0_resultLength h0_reason h0_place arg h0_argumentCount h0_code kno ckno gkno) : va_W) ++ va_pl LP fP) s.heap := hP
  have hl := lv_entry ([.ref h0, .ref po_s]) (n := 3) (Nat.le_of_ble_eq_true rfl)
  rw [lg_entry_eq]
  generalize (lg_sl ([.ref h0, .ref po_s]) ++ List.replicate (3 - (lg_sl ([.ref h0, .ref po_s])).length) Slot.unset).toArray = ls at hl ⊢
  have hl : lv_has ls 3 [(0, .ref h0), (1, .ref po_s)] := hl
  have k0 : (0 : Int32).toInt = 0 := by decide
  refine w_gen (A := A) hP (fun H locs hP hS => ?_)
  have km1 : (-1 : Int32).toInt = -1 := by decide
  have k1 : (1 : Int32).toInt = 1 := by decide
  have hnd := vq_nd hD
  obtain ⟨⟨nwa, nwb⟩, ⟨nna, nnb⟩, ⟨nya, nyb⟩, gM1, gM2, gM3⟩ := hnw.out
  refine lv_aload_n hx hb d_MD_local_0 rfl (lv_at hl 0 rfl) ?_
  refine va_get (D := (dC, dI)) (ci := 11) (v := .int h0_knownCount) (C := R_MD) (T := F_MD) (N := 65) hx hb hts i_MD hown hK hP 0 rfl rfl 21 (by decide) (hts _ kF_MD_307) (fun _ h9 => h9) rfl d_MD_local_1 ?_
  refine lv_iconst (v := 1) hx hb d_MD_local_4 (by decide) ?_
  refine lv_isub hx hb d_MD_local_5 ?_
  refine lv_topi (fun x1 ex1 => ?_)
  have tx1 : x1.toInt = h0_knownCount.toInt - 1 := by have z := i32_sub ex1 (by (first | (apply Int.le_antisymm <;> omega) | omega)) (by (first | (apply Int.le_antisymm <;> omega) | omega)); first | exact z | (first | (apply Int.le_antisymm <;> omega) | omega)
  refine lv_istore_n (lv' := [(2, .int x1), (0, .ref h0), (1, .ref po_s)]) hx hb d_MD_local_6 rfl hl (by decide) rfl (fun ls hl => ?_)
  refine w_loop (σ := Int32) (fun u H locs ls => match u with | j7_l2 => (-1 ≤ j7_l2.toInt ∧ j7_l2.toInt ≤ 50) ∧ (j7_l2.toInt < h0_knownCount.toInt) ∧ va_P (dC, dI) cls2 (((wz_587 h0 rf tap h0_taped h0_length h0_kind h0_from h0_to h0_word h0_numeral gnm gpl gty gvl h0_globalCount fun_ h0_funCount h0_open h0_signs lev po_now kno h0_knownCount h0_loops mad h0_madeLength mag h0_smalls_r h0_greats_r h0_module_r h0_spare_r h0_m h0_cursor h0_limit blk stk h0_top hgt lab ous kis los h0_depth h0_function mem h0_pages glo val h0_valueTop ffu fre fba fla h0_frames lat lhe h0_labelTop h0_steps h0_there rsl h0_resultLength h0_reason h0_place arg h0_argumentCount h0_code kno ckno gkno) : va_W) ++ va_pl LP fP) H ∧ va_D A (((wz_587 h0 rf tap h0_taped h0_length h0_kind h0_from h0_to h0_word h0_numeral gnm gpl gty gvl h0_globalCount fun_ h0_funCount h0_open h0_signs lev po_now kno h0_knownCount h0_loops mad h0_madeLength mag h0_smalls_r h0_greats_r h0_module_r h0_spare_r h0_m h0_cursor h0_limit blk stk h0_top hgt lab ous kis los h0_depth h0_function mem h0_pages glo val h0_valueTop ffu fre fba fla h0_frames lat lhe h0_labelTop h0_steps h0_there rsl h0_resultLength h0_reason h0_place arg h0_argumentCount h0_code kno ckno gkno) : va_W) ++ va_pl LP fP) ∧ va_S A s.heap H locs ∧ lv_has ls 3 [(0, .ref h0), (1, .ref po_s), (2, .int j7_l2)]) (fun u => match u with | j7_l2 => (j7_l2.toInt + 1).toNat) ?_ x1 ⟨by (try dsimp only) <;> (first | (apply Int.le_antisymm <;> omega) | omega), by (try dsimp only) <;> (first | (apply Int.le_antisymm <;> omega) | omega), hP, hD, hS, lv_sub hl [1, 2, 0] rfl⟩
  intro N7 ih7 u H locs ls hN7 hI
  obtain ⟨j7_l2, rfl⟩ : ∃ z, z = u := ⟨_, rfl⟩
  obtain ⟨b_j7_l2, u1, hP, hD, hS, hl⟩ := hI
  have hN7 : (j7_l2.toInt + 1).toNat < N7 + 1 := hN7
  refine lv_iload_n hx hb d_MD_local_7 rfl (lv_at hl 2 rfl) ?_
  refine lv_if_lt (tgt := 45) hx hb d_MD_local_8 (by decide) (fun c8 => ?_) (fun c8 => ?_)
  · have q8 := ltI c8
    refine lv_iconst (v := (-1)) hx hb d_MD_local_45 (by decide) ?_
    have hP9 := hP.part (cx := (wz_587 h0 rf tap h0_taped h0_length h0_kind h0_from h0_to h0_word h0_numeral gnm gpl gty gvl h0_globalCount fun_ h0_funCount h0_open h0_signs lev po_now kno h0_knownCount h0_loops mad h0_madeLength mag h0_smalls_r h0_greats_r h0_module_r h0_spare_r h0_m h0_cursor h0_limit blk stk h0_top hgt lab ous kis los h0_depth h0_function mem h0_pages glo val h0_valueTop ffu fre fba fla h0_frames lat lhe h0_labelTop h0_steps h0_there rsl h0_resultLength h0_reason h0_place arg h0_argumentCount h0_code kno ckno gkno)) [0, 1] rfl
    have hD9 := hD.part (cx := (wz_587 h0 rf tap h0_taped h0_length h0_kind h0_from h0_to h0_word h0_numeral gnm gpl gty gvl h0_globalCount fun_ h0_funCount h0_open h0_signs lev po_now kno h0_knownCount h0_loops mad h0_madeLength mag h0_smalls_r h0_greats_r h0_module_r h0_spare_r h0_m h0_cursor h0_limit blk stk h0_top hgt lab ous kis los h0_depth h0_function mem h0_pages glo val h0_valueTop ffu fre fba fla h0_frames lat lhe h0_labelTop h0_steps h0_there rsl h0_resultLength h0_reason h0_place arg h0_argumentCount h0_code kno ckno gkno)) [0, 1] (by decide) rfl
    exact W.iret (v := ((-1))) hx hb hr (fun t ht hW => ⟨⟨(-1), (), rfl, (by (try dsimp only) <;> (first | (apply Int.le_antisymm <;> omega) | omega)), va_P.he ht.symm hP9, va_K.moved hW.alike hK, hD9⟩, hS.F ht⟩) hS.2.2 d_MD_local_46
  · have q8 := nltI c8
    refine lv_aload_n hx hb d_MD_local_11 rfl (lv_at hl 0 rfl) ?_
    refine va_get (D := (dC, dI)) (ci := 11) (v := .ref po_now) (C := R_MD) (T := F_MD) (N := 65) hx hb hts i_MD hown hK hP 0 rfl rfl 19 (by decide) (hts _ kF_MD_303) (fun _ h9 => h9) rfl d_MD_local_12 ?_
    obtain ⟨q2, hq2⟩ := pl_ix (X := (wz_587 h0 rf tap h0_taped h0_length h0_kind h0_from h0_to h0_word h0_numeral gnm gpl gty gvl h0_globalCount fun_ h0_funCount h0_open h0_signs lev po_now kno h0_knownCount h0_loops mad h0_madeLength mag h0_smalls_r h0_greats_r h0_module_r h0_spare_r h0_m h0_cursor h0_limit blk stk h0_top hgt lab ous kis los h0_depth h0_function mem h0_pages glo val h0_valueTop ffu fre fba fla h0_frames lat lhe h0_labelTop h0_steps h0_there rsl h0_resultLength h0_reason h0_place arg h0_argumentCount h0_code kno ckno gkno)) (L := LP) (f := fP) nwa nwb
    refine va_getN (D := (dC, dI)) (ci := 14) (v := .ref po_fns) (C := R_MF) (T := F_MF) (N := 10) hx hb hts i_MF hown hK hP q2 hq2 rfl 2 (by decide) (sm_f (k := 36) hSW rfl) (fun _ h9 => h9) rfl d_MD_local_15 ?_
    refine lv_aload_n hx hb d_MD_local_18 rfl (lv_at hl 0 rfl) ?_
    refine va_get (D := (dC, dI)) (ci := 11) (v := .ref kno) (C := R_MD) (T := F_MD) (N := 65) hx hb hts i_MD hown hK hP 0 rfl rfl 20 (by decide) (hts _ kF_MD_316) (fun _ h9 => h9) rfl d_MD_local_19 ?_
    refine lv_iload_n hx hb d_MD_local_22 rfl (lv_at hl 2 rfl) ?_
    have g23 : vp_in j7_l2 51 := vp_in_iff.mpr ⟨by (first | (apply Int.le_antisymm <;> omega) | omega), by (first | (apply Int.le_antisymm <;> omega) | omega)⟩
    refine va_iald hx hb hK hP 1 0 rfl rfl g23 d_MD_local_23 ?_
    refine lv_topi (fun x3 ex3 => ?_)
    have kqx3 := hkn.out j7_l2.toNatClampNeg (by have := i32_clamp (x := j7_l2) (by (first | (apply Int.le_antisymm <;> omega) | omega)); (first | (apply Int.le_antisymm <;> omega) | omega))
    rw [← ex3] at kqx3
    have zk := i32_clamp (x := x3) (by (first | (apply Int.le_antisymm <;> omega) | omega))
    obtain ⟨-, po_r, pr1, pr2⟩ := hpar.out x3.toNatClampNeg (by (first | (apply Int.le_antisymm <;> omega) | omega))
    obtain ⟨po_r9, nbr, er9, hsr, -⟩ := pr2
    injection er9 with er9
    subst er9
    obtain ⟨s1r, svr, shr, szr, sgr, s2r, s3r, s4r, s5r, s6r, s7r, s8r, selr⟩ := hsr
    obtain ⟨q4, hq4⟩ := pl_ix (X := (wz_587 h0 rf tap h0_taped h0_length h0_kind h0_from h0_to h0_word h0_numeral gnm gpl gty gvl h0_globalCount fun_ h0_funCount h0_open h0_signs lev po_now kno h0_knownCount h0_loops mad h0_madeLength mag h0_smalls_r h0_greats_r h0_module_r h0_spare_r h0_m h0_cursor h0_limit blk stk h0_top hgt lab ous kis los h0_depth h0_function mem h0_pages glo val h0_valueTop ffu fre fba fla h0_frames lat lhe h0_labelTop h0_steps h0_there rsl h0_resultLength h0_reason h0_place arg h0_argumentCount h0_code kno ckno gkno)) (L := LP) (f := fP) nna nnb
    have g24 : vp_in x3 51 := vp_in_iff.mpr ⟨by (first | (apply Int.le_antisymm <;> omega) | omega), by (first | (apply Int.le_antisymm <;> omega) | omega)⟩
    refine vq_aldo (y := po_r) hx hb hK hP q4 4 hq4 rfl g24 pr1 d_MD_local_24 ?_
    refine lv_aload_n hx hb d_MD_local_25 rfl (lv_at hl 1 rfl) ?_
    obtain ⟨s1s, svs, shs, szs, sgs, s2s, s3s, s4s, s5s, s6s, s7s, s8s, sels⟩ := hs.out
    have hPc := @vp_nil
    have hDc := hD.part0
    have hKc := hK.sb (tyq := []) [] rfl
    have hFc := va_free (wc := []) hD hS hA [] rfl
    refine va_calli (va_runV (As := [.ref po_s]) (rest := []) ⟨hx, hb, hml, hown, hts⟩ (c_JS_equals l hlt dC dI H.size sa po_r svr nbr po_s svs gnb (by (first | (apply Int.le_antisymm <;> omega) | omega)) (by (first | (apply Int.le_antisymm <;> omega) | omega))) (cwV 1 hts (gV kM_MD_100 kV_JS_equals kS_JS_equals kI_JS kC_JS_equals) rfl rfl rfl (by decide +kernel) ⟨Nat.le_of_ble_eq_true rfl, Nat.le_of_ble_eq_true rfl⟩) ⟨fun a U g mk z => by obtain ⟨z0, z1, zP, zK, zD, zS, zR0, zR1⟩ := z; exact ⟨z0, z1, zP, va_K.moved (u := U) (U := U.calling g mk a) (Vm.Alike.refl U.vm) zK, zD, sm.same (u := U) (U := U.calling g mk a) rfl zS, zR0.moved (u := U) (U := U.calling g mk a) (Vm.Alike.refl U.vm), zR1.moved (u := U) (U := U.calling g mk a) (Vm.Alike.refl U.vm)⟩, ro_rv (ro_Sp hts hK hP (t0 := 3) rfl s1r s2r s3r s4r s5r (no_A hP)).1, fun U hU hW => ⟨rfl, by rw [hU], va_P.he hU.symm hPc, va_K.moved hW.alike hKc, hDc.weaken (fun _ _ _ _ => trivial), hSW.call hS hFc hW hU, by rw [hU]; exact (ro_Sp hts hK hP (t0 := 3) rfl s1r s2r s3r s4r s5r (no_A hP)).moved hW.alike, by rw [hU]; exact (ro_Sp hts hK hP (t0 := 3) rfl s1s s2s s3s s4s s5s (no_A hP)).moved hW.alike⟩⟩ rfl rfl hl.1 rfl (lv_room (Nat.le_of_ble_eq_true rfl)) d_MD_local_26 ⟨(Nat.zero_le _), (Nat.zero_le _)⟩) hS (fun q _ h => hFc q h) hFc (fun r5 u t H1 locs ht hvm hw hB hz1 hk1 hS => ?_)
    try dsimp only at hw
    obtain ⟨br5, xr5⟩ := hw
    try clear hw
    have tr5 := b01 br5
    clear xr5
    obtain ⟨hP1, hK1, hD1⟩ := hB
    replace hP1 := va_P.he ht hP1
    replace hP1 := @vp_nil (dC, dI) cls2 H1
    obtain ⟨hP, hD⟩ := va_joinQ (wr := (wz_587 h0 rf tap h0_taped h0_length h0_kind h0_from h0_to h0_word h0_numeral gnm gpl gty gvl h0_globalCount fun_ h0_funCount h0_open h0_signs lev po_now kno h0_knownCount h0_loops mad h0_madeLength mag h0_smalls_r h0_greats_r h0_module_r h0_spare_r h0_m h0_cursor h0_limit blk stk h0_top hgt lab ous kis los h0_depth h0_function mem h0_pages glo val h0_valueTop ffu fre fba fla h0_frames lat lhe h0_labelTop h0_steps h0_there rsl h0_resultLength h0_reason h0_place arg h0_argumentCount h0_code kno ckno gkno)) (w1 := []) hP hD [] [0, 1] rfl rfl (by decide) (by decide) hk1 hFc hP1 hD1
    clear hPc hDc hKc hFc hz1 hk1 hP1 hK1 hD1
    rename Heap => H
    have hP : va_P (dC, dI) cls2 (((wz_587 h0 rf tap h0_taped h0_length h0_kind h0_from h0_to h0_word h0_numeral gnm gpl gty gvl h0_globalCount fun_ h0_funCount h0_open h0_signs lev po_now kno h0_knownCount h0_loops mad h0_madeLength mag h0_smalls_r h0_greats_r h0_module_r h0_spare_r h0_m h0_cursor h0_limit blk stk h0_top hgt lab ous kis los h0_depth h0_function mem h0_pages glo val h0_valueTop ffu fre fba fla h0_frames lat lhe h0_labelTop h0_steps h0_there rsl h0_resultLength h0_reason h0_place arg h0_argumentCount h0_code kno ckno gkno) : va_W) ++ va_pl LP fP) H := hP
    have hD : va_D A (((wz_587 h0 rf tap h0_taped h0_length h0_kind h0_from h0_to h0_word h0_numeral gnm gpl gty gvl h0_globalCount fun_ h0_funCount h0_open h0_signs lev po_now kno h0_knownCount h0_loops mad h0_madeLength mag h0_smalls_r h0_greats_r h0_module_r h0_spare_r h0_m h0_cursor h0_limit blk stk h0_top hgt lab ous kis los h0_depth h0_function mem h0_pages glo val h0_valueTop ffu fre fba fla h0_frames lat lhe h0_labelTop h0_steps h0_there rsl h0_resultLength h0_reason h0_place arg h0_argumentCount h0_code kno ckno gkno) : va_W) ++ va_pl LP fP) := hD
    refine lv_if_eq (tgt := 39) hx hb d_MD_local_29 (by decide) (fun c29 => ?_) (fun c29 => ?_)
    · have q29 := eqI c29
      obtain ⟨x6, ex6⟩ : ∃ z : Int32, z = j7_l2 + (-1) := ⟨_, rfl⟩
      have tx6 : x6.toInt = j7_l2.toInt + (-1) := by have z := i32_add ex6 (by (first | (apply Int.le_antisymm <;> omega) | omega)) (by (first | (apply Int.le_antisymm <;> omega) | omega)); first | exact z | (first | (apply Int.le_antisymm <;> omega) | omega)
      refine lv_iinc (v := x6) (lv' := [(2, .int x6), (0, .ref h0), (1, .ref po_s)]) hx hb d_MD_local_39 hl (k := 2) rfl (by rw [ex6]; rfl) (by decide) rfl (fun ls hl => ?_)
      refine lv_goto (tgt := 7) hx hb d_MD_local_42 (by decide) ?_
      exact ih7 x6 _ _ _ (by show (x6.toInt + 1).toNat < N7; (first | (apply Int.le_antisymm <;> omega) | omega)) ⟨by (try dsimp only) <;> (first | (apply Int.le_antisymm <;> omega) | omega), by (try dsimp only) <;> (first | (apply Int.le_antisymm <;> omega) | omega), hP, hD, hS, lv_sub hl [1, 2, 0] rfl⟩
    · have q29 := neI c29
      refine lv_aload_n hx hb d_MD_local_32 rfl (lv_at hl 0 rfl) ?_
      refine va_get (D := (dC, dI)) (ci := 11) (v := .ref kno) (C := R_MD) (T := F_MD) (N := 65) hx hb hts i_MD hown hK hP 0 rfl rfl 20 (by decide) (hts _ kF_MD_316) (fun _ h9 => h9) rfl d_MD_local_33 ?_
      refine lv_iload_n hx hb d_MD_local_36 rfl (lv_at hl 2 rfl) ?_
      have g37 : vp_in j7_l2 51 := vp_in_iff.mpr ⟨by (first | (apply Int.le_antisymm <;> omega) | omega), by (first | (apply Int.le_antisymm <;> omega) | omega)⟩
      refine va_iald hx hb hK hP 1 0 rfl rfl g37 d_MD_local_37 ?_
      refine lv_topi (fun x7 ex7 => ?_)
      have kqx7 := hkn.out j7_l2.toNatClampNeg (by have := i32_clamp (x := j7_l2) (by (first | (apply Int.le_antisymm <;> omega) | omega)); (first | (apply Int.le_antisymm <;> omega) | omega))
      rw [← ex7] at kqx7
      have hP9 := hP.part (cx := (wz_587 h0 rf tap h0_taped h0_length h0_kind h0_from h0_to h0_word h0_numeral gnm gpl gty gvl h0_globalCount fun_ h0_funCount h0_open h0_signs lev po_now kno h0_knownCount h0_loops mad h0_madeLength mag h0_smalls_r h0_greats_r h0_module_r h0_spare_r h0_m h0_cursor h0_limit blk stk h0_top hgt lab ous kis los h0_depth h0_function mem h0_pages glo val h0_valueTop ffu fre fba fla h0_frames lat lhe h0_labelTop h0_steps h0_there rsl h0_resultLength h0_reason h0_place arg h0_argumentCount h0_code kno ckno gkno)) [0, 1] rfl
      have hD9 := hD.part (cx := (wz_587 h0 rf tap h0_taped h0_length h0_kind h0_from h0_to h0_word h0_numeral gnm gpl gty gvl h0_globalCount fun_ h0_funCount h0_open h0_signs lev po_now kno h0_knownCount h0_loops mad h0_madeLength mag h0_smalls_r h0_greats_r h0_module_r h0_spare_r h0_m h0_cursor h0_limit blk stk h0_top hgt lab ous kis los h0_depth h0_function mem h0_pages glo val h0_valueTop ffu fre fba fla h0_frames lat lhe h0_labelTop h0_steps h0_there rsl h0_resultLength h0_reason h0_place arg h0_argumentCount h0_code kno ckno gkno)) [0, 1] (by decide) rfl
      exact W.iret (v := x7) hx hb hr (fun t ht hW => ⟨⟨x7, (), rfl, (by (try dsimp only) <;> (first | (apply Int.le_antisymm <;> omega) | omega)), va_P.he ht.symm hP9, va_K.moved hW.alike hK, hD9⟩, hS.F ht⟩) hS.2.2 d_MD_local_38
abbrev b_MD_fits : ByteArray := prog_15_method_31_code
def y_MD_fits : MethodName := ⟨R_MD, "fits", "(ZLWaferForgeModel$N;)V"⟩
abbrev w_MD_fits : List Cond := .code y_MD_fits b_MD_fits 3 none :: lw_g
theorem kC_MD_fits : Cond.code y_MD_fits b_MD_fits 3 none ∈ lw_g := in_c12 52 rfl rfl
theorem d_MD_fits_0 : decode b_MD_fits 0 = .ok (.iload_n 1, 1) := bz_c27 (by decide +kernel)
theorem d_MD_fits_1 : decode b_MD_fits 1 = .ok (.ifCond .ne 13, 3) := bz_c154 (by decide +kernel)
theorem d_MD_fits_4 : decode b_MD_fits 4 = .ok (.aload_n 0, 1) := bz_c42 (by decide +kernel)
theorem d_MD_fits_5 : decode b_MD_fits 5 = .ok (.iconst 3, 1) := bz_c6 (by decide +kernel)
theorem d_MD_fits_6 : decode b_MD_fits 6 = .ok (.aload_n 2, 1) := bz_c44 (by decide +kernel)
theorem d_MD_fits_7 : decode b_MD_fits 7 = .ok (.getfield 132, 3) := bz_c180 (by decide +kernel)
theorem d_MD_fits_10 : decode b_MD_fits 10 = .ok (.invokevirtual 115, 3) := bz_c182 (by decide +kernel)
theorem d_MD_fits_13 : decode b_MD_fits 13 = .ok (.athrow, 1) := bz_c191 (by decide +kernel)
theorem d_MD_fits_14 : decode b_MD_fits 14 = .ok (.return_, 1) := bz_c177 (by decide +kernel)
abbrev at_MD_fits (dC : Nat → ClassId) (dI : Nat → Nat → Nat) (sa : Nat → Nat) (h0 rf tap gnm gpl gty gvl fun_ lev po_now kno mad mag h0_smalls_r h0_greats_r h0_module_r h0_spare_r blk stk hgt lab ous kis los mem glo val ffu fre fba fla lat lhe rsl arg : Nat) (cr cpn cpb cps : ClassId) (h0_taped : Int32) (h0_length : Int32) (h0_kind : Int32) (h0_from : Int32) (h0_to : Int32) (h0_word : Value) (h0_numeral : Int64) (h0_globalCount : Int32) (h0_funCount : Int32) (h0_open : Int32) (h0_signs : Int32) (h0_knownCount : Int32) (h0_loops : Int32) (h0_madeLength : Int32) (h0_m : Value) (h0_cursor : Int32) (h0_limit : Int32) (h0_top : Int32) (h0_depth : Int32) (h0_function : Int32) (h0_pages : Int32) (h0_valueTop : Int32) (h0_frames : Int32) (h0_labelTop : Int32) (h0_steps : Int32) (h0_there : Int32) (h0_resultLength : Int32) (h0_reason : Int32) (h0_place : Int32) (h0_argumentCount : Int32) (h0_code : Int32) (rf_backtrace : Value) (rf_detailMessage : Value) (rf_cause : Value) (rf_stackTrace : Value) (rf_depth : Int32) (rf_suppressedExceptions : Value) (LP : List Nat) (fP : Nat → va_E) (A : Nat → Prop) (u : Int32 × Int32) (t : State) : Prop := match u with | (rf_place, rf_reason) => va_P (dC, dI) cls2 (((wz_588 h0 rf tap h0_taped h0_length h0_kind h0_from h0_to h0_word h0_numeral gnm gpl gty gvl h0_globalCount fun_ h0_funCount h0_open h0_signs lev po_now kno h0_knownCount h0_loops mad h0_madeLength mag h0_smalls_r h0_greats_r h0_module_r h0_spare_r h0_m h0_cursor h0_limit blk stk h0_top hgt lab ous kis los h0_depth h0_function mem h0_pages glo val h0_valueTop ffu fre fba fla h0_frames lat lhe h0_labelTop h0_steps h0_there rsl h0_resultLength h0_reason h0_place arg h0_argumentCount h0_code rf rf_backtrace rf_detailMessage rf_cause rf_stackTrace rf_depth rf_suppressedExceptions rf_reason rf_place) : va_W) ++ va_pl LP fP) t.heap ∧ va_K (dC, dI) cls2 [(cr, .int), (cpn, .object "WaferForgeModel$N"), (cpb, .byte), (cps, .object "java/lang/String")] t ∧ va_D A (((wz_588 h0 rf tap h0_taped h0_length h0_kind h0_from h0_to h0_word h0_numeral gnm gpl gty gvl h0_globalCount fun_ h0_funCount h0_open h0_signs lev po_now kno h0_knownCount h0_loops mad h0_madeLength mag h0_smalls_r h0_greats_r h0_module_r h0_spare_r h0_m h0_cursor h0_limit blk stk h0_top hgt lab ous kis los h0_depth h0_function mem h0_pages glo val h0_valueTop ffu fre fba fla h0_frames lat lhe h0_labelTop h0_steps h0_there rsl h0_resultLength h0_reason h0_place arg h0_argumentCount h0_code rf rf_backtrace rf_detailMessage rf_cause rf_stackTrace rf_depth rf_suppressedExceptions rf_reason rf_place) : va_W) ++ va_pl LP fP)
set_option maxHeartbeats 4000000 in
set_option maxRecDepth 100000 in
theorem c_MD_fits (l : Launch) (hlt : l.stackTraces = false) (dC : Nat → ClassId) (dI : Nat → Nat → Nat) (sz : Nat) (sa : Nat → Nat) (h0 rf tap gnm gpl gty gvl fun_ lev po_now kno mad mag h0_smalls_r h0_greats_r h0_module_r h0_spare_r blk stk hgt lab ous kis los mem glo val ffu fre fba fla lat lhe rsl arg : Nat) (cr cpn cpb cps : ClassId) (h0_taped : Int32) (h0_length : Int32) (h0_kind : Int32) (h0_from : Int32) (h0_to : Int32) (h0_word : Value) (h0_numeral : Int64) (h0_globalCount : Int32) (h0_funCount : Int32) (h0_open : Int32) (h0_signs : Int32) (h0_knownCount : Int32) (h0_loops : Int32) (h0_madeLength : Int32) (h0_m : Value) (h0_cursor : Int32) (h0_limit : Int32) (h0_top : Int32) (h0_depth : Int32) (h0_function : Int32) (h0_pages : Int32) (h0_valueTop : Int32) (h0_frames : Int32) (h0_labelTop : Int32) (h0_steps : Int32) (h0_there : Int32) (h0_resultLength : Int32) (h0_reason : Int32) (h0_place : Int32) (h0_argumentCount : Int32) (h0_code : Int32) (rf_backtrace : Value) (rf_detailMessage : Value) (rf_cause : Value) (rf_stackTrace : Value) (rf_depth : Int32) (rf_suppressedExceptions : Value) (rf_reason : Int32) (rf_place : Int32) (LP : List Nat) (fP : Nat → va_E)   (p0 : Int32) (po_n : Nat) (ba0 : p0 = 0 ∨ p0 = 1) (hn : bx (po_n ∈ LP ∧ ∃ (op pl : Int32) (nm : Value) (v : Int64) (t : Int32) (p : Nat) (cnt ix gl : Int32), nP fP po_n op pl nm v t p cnt ix gl)) : tz_Met l y_MD_fits w_MD_fits ({ frames := 1, cells := 0, slots := 0, locals := 22 }) (va_Pc [.ref h0, .int p0, .ref po_n] (fun U => U.heap.size = sz ∧ va_P (dC, dI) cls2 (((wz_588 h0 rf tap h0_taped h0_length h0_kind h0_from h0_to h0_word h0_numeral gnm gpl gty gvl h0_globalCount fun_ h0_funCount h0_open h0_signs lev po_now kno h0_knownCount h0_loops mad h0_madeLength mag h0_smalls_r h0_greats_r h0_module_r h0_spare_r h0_m h0_cursor h0_limit blk stk h0_top hgt lab ous kis los h0_depth h0_function mem h0_pages glo val h0_valueTop ffu fre fba fla h0_frames lat lhe h0_labelTop h0_steps h0_there rsl h0_resultLength h0_reason h0_place arg h0_argumentCount h0_code rf rf_backtrace rf_detailMessage rf_cause rf_stackTrace rf_depth rf_suppressedExceptions rf_reason rf_place) : va_W) ++ va_pl LP fP) U.heap ∧ va_K (dC, dI) cls2 [(cr, .int), (cpn, .object "WaferForgeModel$N"), (cpb, .byte), (cps, .object "java/lang/String")] U ∧ va_D (fun _ => True) (((wz_588 h0 rf tap h0_taped h0_length h0_kind h0_from h0_to h0_word h0_numeral gnm gpl gty gvl h0_globalCount fun_ h0_funCount h0_open h0_signs lev po_now kno h0_knownCount h0_loops mad h0_madeLength mag h0_smalls_r h0_greats_r h0_module_r h0_spare_r h0_m h0_cursor h0_limit blk stk h0_top hgt lab ous kis los h0_depth h0_function mem h0_pages glo val h0_valueTop ffu fre fba fla h0_frames lat lhe h0_labelTop h0_steps h0_there rsl h0_resultLength h0_reason h0_place arg h0_argumentCount h0_code rf rf_backtrace rf_detailMessage rf_cause rf_stackTrace rf_depth rf_suppressedExceptions rf_reason rf_place) : va_W) ++ va_pl LP fP) ∧ sm sa (va_A (((wz_588 h0 rf tap h0_taped h0_length h0_kind h0_from h0_to h0_word h0_numeral gnm gpl gty gvl h0_globalCount fun_ h0_funCount h0_open h0_signs lev po_now kno h0_knownCount h0_loops mad h0_madeLength mag h0_smalls_r h0_greats_r h0_module_r h0_spare_r h0_m h0_cursor h0_limit blk stk h0_top hgt lab ous kis los h0_depth h0_function mem h0_pages glo val h0_valueTop ffu fre fba fla h0_frames lat lhe h0_labelTop h0_steps h0_there rsl h0_resultLength h0_reason h0_place arg h0_argumentCount h0_code rf rf_backtrace rf_detailMessage rf_cause rf_stackTrace rf_depth rf_suppressedExceptions rf_reason rf_place) : va_W) ++ va_pl LP fP) sz) U U.heap)) (tq_Q (tr_v (fun (u : Int32 × Int32) => match u with | (rf_place2, rf_reason2) => (p0 = 1)) rf "WaferForgeModel$Refused" (fun (u : Int32 × Int32) => match u with | (rf_place2, rf_reason2) => (p0 = 0))) (at_MD_fits dC dI sa h0 rf tap gnm gpl gty gvl fun_ lev po_now kno mad mag h0_smalls_r h0_greats_r h0_module_r h0_spare_r blk stk hgt lab ous kis los mem glo val ffu fre fba fla lat lhe rsl arg cr cpn cpb cps h0_taped h0_length h0_kind h0_from h0_to h0_word h0_numeral h0_globalCount h0_funCount h0_open h0_signs h0_knownCount h0_loops h0_madeLength h0_m h0_cursor h0_limit h0_top h0_depth h0_function h0_pages h0_valueTop h0_frames h0_labelTop h0_steps h0_there h0_resultLength h0_reason h0_place h0_argumentCount h0_code rf_backtrace rf_detailMessage rf_cause rf_stackTrace rf_depth rf_suppressedExceptions LP fP (va_A (((wz_588 h0 rf tap h0_taped h0_length h0_kind h0_from h0_to h0_word h0_numeral gnm gpl gty gvl h0_globalCount fun_ h0_funCount h0_open h0_signs lev po_now kno h0_knownCount h0_loops mad h0_madeLength mag h0_smalls_r h0_greats_r h0_module_r h0_spare_r h0_m h0_cursor h0_limit blk stk h0_top hgt lab ous kis los h0_depth h0_function mem h0_pages glo val h0_valueTop ffu fre fba fla h0_frames lat lhe h0_labelTop h0_steps h0_there rsl h0_resultLength h0_reason h0_place arg h0_argumentCount h0_code rf rf_backtrace rf_detailMessage rf_cause rf_stackTrace rf_depth rf_suppressedExceptions rf_reason rf_place) : va_W) ++ va_pl LP fP) sz)) (va_A (((wz_588 h0 rf tap h0_taped h0_length h0_kind h0_from h0_to h0_word h0_numeral gnm gpl gty gvl h0_globalCount fun_ h0_funCount h0_open h0_signs lev po_now kno h0_knownCount h0_loops mad h0_madeLength mag h0_smalls_r h0_greats_r h0_module_r h0_spare_r h0_m h0_cursor h0_limit blk stk h0_top hgt lab ous kis los h0_depth h0_function mem h0_pages glo val h0_valueTop ffu fre fba fla h0_frames lat lhe h0_labelTop h0_steps h0_there rsl h0_resultLength h0_reason h0_place arg h0_argumentCount h0_code rf rf_backtrace rf_detailMessage rf_cause rf_stackTrace rf_depth rf_suppressedExceptions rf_reason rf_place) : va_W) ++ va_pl LP fP) sz)) (tz_k 0 0 0 0) (va_A (((wz_588 h0 rf tap h0_taped h0_length h0_kind h0_from h0_to h0_word h0_numeral gnm gpl gty gvl h0_globalCount fun_ h0_funCount h0_open h0_signs lev po_now kno h0_knownCount h0_loops mad h0_madeLength mag h0_smalls_r h0_greats_r h0_module_r h0_spare_r h0_m h0_cursor h0_limit blk stk h0_top hgt lab ous kis los h0_depth h0_function mem h0_pages glo val h0_valueTop ffu fre fba fla h0_frames lat lhe h0_labelTop h0_steps h0_there rsl h0_resultLength h0_reason h0_place arg h0_argumentCount h0_code rf rf_backtrace rf_detailMessage rf_cause rf_stackTrace rf_depth rf_suppressedExceptions rf_reason rf_place) : va_W) ++ va_pl LP fP) sz) := by
  refine tz_ofW (cc := b_MD_fits) (maxL := 3) (ret := none) (by decide) rfl ?_
  intro p e s m args below meth c s₁ B hml hno hv
  obtain ⟨rfl, hsz, hP, hK, hD0, hSW⟩ := hv
  have hx := B.exec
  have hb := B.bytes
  have hr := B.returns
  have hts0 := atoms_spec (ws := w_MD_fits) B.pre
  have hts : ∀ w ∈ lw_g, w.before _ s = true := fun w h => hts0 w (List.mem_cons_of_mem _ h)
  have hown : s.vm.findClass R_MD = some m.cls := findClass_of_methodNamed B.named
  have hlocks := B.notSynchronized
  clear hts0
  subst hsz
  have hD := hD0.self (sz := s.heap.size)
  generalize hAe : va_A (((wz_588 h0 rf tap h0_taped h0_length h0_kind h0_from h0_to h0_word h0_numeral gnm gpl gty gvl h0_globalCount fun_ h0_funCount h0_open h0_signs lev po_now kno h0_knownCount h0_loops mad h0_madeLength mag h0_smalls_r h0_greats_r h0_module_r h0_spare_r h0_m h0_cursor h0_limit blk stk h0_top hgt lab ous kis los h0_depth h0_function mem h0_pages glo val h0_valueTop ffu fre fba fla h0_frames lat lhe h0_labelTop h0_steps h0_there rsl h0_resultLength h0_reason h0_place arg h0_argumentCount h0_code rf rf_backtrace rf_detailMessage rf_cause rf_stackTrace rf_depth rf_suppressedExceptions rf_reason rf_place) : va_W) ++ va_pl LP fP) s.heap.size = A at hD hSW ⊢
  have hA : ∀ q : Nat, s.heap.size ≤ q → A q := fun q h => by rw [← hAe]; exact Or.inr h
  clear hAe
  have hP : va_P (dC, dI) cls2 (((wz_588 h0 rf tap h0_taped h0_length h0_kind h0_from h0_to h0_word h0_numeral gnm gpl gty gvl h0_globalCount fun_ h0_funCount h0_open h0_signs lev po_now kno h0_knownCount h0_loops mad h0_madeLength mag h0_smalls_r h0_greats_r h0_module_r h0_spare_r h0_m h0_cursor h0_limit blk stk h0_top hgt lab ous kis los h0_depth h0_function mem h0_pages glo val h0_valueTop ffu fre fba fla h0_frames lat lhe h0_labelTop h0_steps h0_there rsl h0_resultLength h0_reason h0_place arg h0_argumentCount h0_code rf rf_backtrace rf_detailMessage rf_cause rf_stackTrace rf_depth rf_suppressedExceptions rf_reason rf_place) : va_W) ++ va_pl LP fP) s.heap := hP
  have hl := lv_entry ([.ref h0, .int p0, .ref po_n]) (n := 3) (Nat.le_of_ble_eq_true rfl)
  rw [lg_entry_eq]
  generalize (lg_sl ([.ref h0, .int p0, .ref po_n]) ++ List.replicate (3 - (lg_sl ([.ref h0, .int p0, .ref po_n])).length) Slot.unset).toArray = ls at hl ⊢
  have hl : lv_has ls 3 [(0, .ref h0), (1, .int p0), (2, .ref po_n)] := hl
  have k0 : (0 : Int32).toInt = 0 := by decide
  refine w_gen (A := A) hP (fun H locs hP hS => ?_)
  have k3 : (3 : Int32).toInt = 3 := by decide
  have lo_p0 := i32_lo p0
  have hi_p0 := i32_hi p0
  have tp0 := b01 ba0
  have hnd := vq_nd hD
  obtain ⟨na1, nop, npl, nnm, nv, nt, po_np, ncnt, nix, ngl, na2⟩ := hn.out
  unfold nP at na2
  refine lv_iload_n hx hb d_MD_fits_0 rfl (lv_at hl 1 rfl) ?_
  refine lv_if_ne (tgt := 14) hx hb d_MD_fits_1 (by decide) (fun c1 => ?_) (fun c1 => ?_)
  · have q1 := neI c1
    have hP9 := hP.part (cx := (wz_588 h0 rf tap h0_taped h0_length h0_kind h0_from h0_to h0_word h0_numeral gnm gpl gty gvl h0_globalCount fun_ h0_funCount h0_open h0_signs lev po_now kno h0_knownCount h0_loops mad h0_madeLength mag h0_smalls_r h0_greats_r h0_module_r h0_spare_r h0_m h0_cursor h0_limit blk stk h0_top hgt lab ous kis los h0_depth h0_function mem h0_pages glo val h0_valueTop ffu fre fba fla h0_frames lat lhe h0_labelTop h0_steps h0_there rsl h0_resultLength h0_reason h0_place arg h0_argumentCount h0_code rf rf_backtrace rf_detailMessage rf_cause rf_stackTrace rf_depth rf_suppressedExceptions rf_reason rf_place)) [0, 1] rfl
    have hD9 := hD.part (cx := (wz_588 h0 rf tap h0_taped h0_length h0_kind h0_from h0_to h0_word h0_numeral gnm gpl gty gvl h0_globalCount fun_ h0_funCount h0_open h0_signs lev po_now kno h0_knownCount h0_loops mad h0_madeLength mag h0_smalls_r h0_greats_r h0_module_r h0_spare_r h0_m h0_cursor h0_limit blk stk h0_top hgt lab ous kis los h0_depth h0_function mem h0_pages glo val h0_valueTop ffu fre fba fla h0_frames lat lhe h0_labelTop h0_steps h0_there rsl h0_resultLength h0_reason h0_place arg h0_argumentCount h0_code rf rf_backtrace rf_detailMessage rf_cause rf_stackTrace rf_depth rf_suppressedExceptions rf_reason rf_place)) [0, 1] (by decide) rfl
    exact tz_up (fun _ => rfl) (W.vret hx hb hr (fun t ht hW => ⟨⟨(rf_place, rf_reason), ⟨rfl, (b1_of ba0 (by (first | (apply Int.le_antisymm <;> omega) | omega)))⟩, va_P.he ht.symm hP9, va_K.moved hW.alike hK, hD9⟩, hS.F ht⟩) hS.2.2 d_MD_fits_14)
  · have q1 := eqI c1
    refine lv_aload_n hx hb d_MD_fits_4 rfl (lv_at hl 0 rfl) ?_
    refine lv_iconst (v := 3) hx hb d_MD_fits_5 (by decide) ?_
    refine lv_aload_n hx hb d_MD_fits_6 rfl (lv_at hl 2 rfl) ?_
    obtain ⟨q1, hq1⟩ := pl_ix (X := (wz_588 h0 rf tap h0_taped h0_length h0_kind h0_from h0_to h0_word h0_numeral gnm gpl gty gvl h0_globalCount fun_ h0_funCount h0_open h0_signs lev po_now kno h0_knownCount h0_loops mad h0_madeLength mag h0_smalls_r h0_greats_r h0_module_r h0_spare_r h0_m h0_cursor h0_limit blk stk h0_top hgt lab ous kis los h0_depth h0_function mem h0_pages glo val h0_valueTop ffu fre fba fla h0_frames lat lhe h0_labelTop h0_steps h0_there rsl h0_resultLength h0_reason h0_place arg h0_argumentCount h0_code rf rf_backtrace rf_detailMessage rf_cause rf_stackTrace rf_depth rf_suppressedExceptions rf_reason rf_place)) (L := LP) (f := fP) na1 na2
    refine va_getN (D := (dC, dI)) (ci := 13) (v := .int npl) (C := R_MN) (T := F_MN) (N := 9) hx hb hts i_MN hown hK hP q1 hq1 rfl 1 (by decide) (sm_f (k := 45) hSW rfl) (fun _ h9 => h9) rfl d_MD_fits_7 ?_
    have hPc := hP.sb (wq := (wz_588 h0 rf tap h0_taped h0_length h0_kind h0_from h0_to h0_word h0_numeral gnm gpl gty gvl h0_globalCount fun_ h0_funCount h0_open h0_signs lev po_now kno h0_knownCount h0_loops mad h0_madeLength mag h0_smalls_r h0_greats_r h0_module_r h0_spare_r h0_m h0_cursor h0_limit blk stk h0_top hgt lab ous kis los h0_depth h0_function mem h0_pages glo val h0_valueTop ffu fre fba fla h0_frames lat lhe h0_labelTop h0_steps h0_there rsl h0_resultLength h0_reason h0_place arg h0_argumentCount h0_code rf rf_backtrace rf_detailMessage rf_cause rf_stackTrace rf_depth rf_suppressedExceptions rf_reason rf_place)) [0, 1] rfl
    have hDc := hD.sb (wq := (wz_588 h0 rf tap h0_taped h0_length h0_kind h0_from h0_to h0_word h0_numeral gnm gpl gty gvl h0_globalCount fun_ h0_funCount h0_open h0_signs lev po_now kno h0_knownCount h0_loops mad h0_madeLength mag h0_smalls_r h0_greats_r h0_module_r h0_spare_r h0_m h0_cursor h0_limit blk stk h0_top hgt lab ous kis los h0_depth h0_function mem h0_pages glo val h0_valueTop ffu fre fba fla h0_frames lat lhe h0_labelTop h0_steps h0_there rsl h0_resultLength h0_reason h0_place arg h0_argumentCount h0_code rf rf_backtrace rf_detailMessage rf_cause rf_stackTrace rf_depth rf_suppressedExceptions rf_reason rf_place)) [0, 1] (by decide) rfl
    have hKc := hK.sb (tyq := []) [] rfl
    have hFc := va_free (wc := (wz_588 h0 rf tap h0_taped h0_length h0_kind h0_from h0_to h0_word h0_numeral gnm gpl gty gvl h0_globalCount fun_ h0_funCount h0_open h0_signs lev po_now kno h0_knownCount h0_loops mad h0_madeLength mag h0_smalls_r h0_greats_r h0_module_r h0_spare_r h0_m h0_cursor h0_limit blk stk h0_top hgt lab ous kis los h0_depth h0_function mem h0_pages glo val h0_valueTop ffu fre fba fla h0_frames lat lhe h0_labelTop h0_steps h0_there rsl h0_resultLength h0_reason h0_place arg h0_argumentCount h0_code rf rf_backtrace rf_detailMessage rf_cause rf_stackTrace rf_depth rf_suppressedExceptions rf_reason rf_place)) hD hS hA [0, 1] rfl
    refine va_callr (va_runV (As := [.int 3, .int npl]) (rest := []) ⟨hx, hb, hml, hown, hts⟩ (c_MD_no l dC dI H.size h0 rf tap gnm gpl gty gvl fun_ lev kno mad mag h0_smalls_r h0_greats_r h0_module_r h0_spare_r blk stk hgt lab ous kis los mem glo val ffu fre fba fla lat lhe rsl arg h0_taped h0_length h0_kind h0_from h0_to h0_word h0_numeral h0_globalCount h0_funCount h0_open h0_signs (.ref po_now) h0_knownCount h0_loops h0_madeLength h0_m h0_cursor h0_limit h0_top h0_depth h0_function h0_pages h0_valueTop h0_frames h0_labelTop h0_steps h0_there h0_resultLength h0_reason h0_place h0_argumentCount h0_code rf_backtrace rf_detailMessage rf_cause rf_stackTrace rf_depth rf_suppressedExceptions rf_reason rf_place 3 npl) (cwV 2 hts (gV kM_MD_115 kV_MD_no kS_MD_no kI_MD kC_MD_no) rfl rfl rfl (by decide +kernel) ⟨Nat.le_of_ble_eq_true rfl, Nat.le_of_ble_eq_true rfl⟩) ⟨fun a U g mk z => by obtain ⟨z0, z1, zP, zK, zD, zS⟩ := z; exact ⟨z0, z1, zP, va_K.moved (u := U) (U := U.calling g mk a) (Vm.Alike.refl U.vm) zK, zD, sw_nest.same (s := U) (U := U.calling g mk a) rfl zS⟩, va_recv hKc hPc (ci := 11) (q0 := 0) rfl rfl, fun U hU hW => ⟨rfl, by rw [hU], va_P.he hU.symm hPc, va_K.moved hW.alike hKc, hDc.weaken (fun _ _ _ _ => trivial), hSW.nest.warm hW⟩⟩ rfl rfl hl.1 rfl (lv_room (Nat.le_of_ble_eq_true rfl)) d_MD_fits_10 ⟨(Nat.zero_le _), (Nat.zero_le _)⟩) hS (fun q _ h => hFc q h) hFc (fun u ra t H1 locs ht hvm hw hB hz1 hk1 hS => ?_)
    obtain ⟨rfl, hB⟩ := hB
    obtain ⟨n3, n4⟩ := u
    try dsimp only at hw
    have xr2 := hw
    try clear hw
    obtain ⟨hP1, hK1, hD1⟩ := hB
    replace hP1 := va_P.he ht hP1
    obtain ⟨hP, hD⟩ := va_joinQ (wr := []) (w1 := (wz_588 h0 rf tap h0_taped h0_length h0_kind h0_from h0_to h0_word h0_numeral gnm gpl gty gvl h0_globalCount fun_ h0_funCount h0_open h0_signs lev po_now kno h0_knownCount h0_loops mad h0_madeLength mag h0_smalls_r h0_greats_r h0_module_r h0_spare_r h0_m h0_cursor h0_limit blk stk h0_top hgt lab ous kis los h0_depth h0_function mem h0_pages glo val h0_valueTop ffu fre fba fla h0_frames lat lhe h0_labelTop h0_steps h0_there rsl h0_resultLength h0_reason h0_place arg h0_argumentCount h0_code rf rf_backtrace rf_detailMessage rf_cause rf_stackTrace rf_depth rf_suppressedExceptions n4 n3)) hP hD [0, 1] [] rfl rfl (by decide) (by decide) hk1 hFc hP1 hD1
    clear hPc hDc hKc hFc hz1 hk1 hP1 hK1 hD1
    rename Heap => H
    have hP : va_P (dC, dI) cls2 (((wz_588 h0 rf tap h0_taped h0_length h0_kind h0_from h0_to h0_word h0_numeral gnm gpl gty gvl h0_globalCount fun_ h0_funCount h0_open h0_signs lev po_now kno h0_knownCount h0_loops mad h0_madeLength mag h0_smalls_r h0_greats_r h0_module_r h0_spare_r h0_m h0_cursor h0_limit blk stk h0_top hgt lab ous kis los h0_depth h0_function mem h0_pages glo val h0_valueTop ffu fre fba fla h0_frames lat lhe h0_labelTop h0_steps h0_there rsl h0_resultLength h0_reason h0_place arg h0_argumentCount h0_code rf rf_backtrace rf_detailMessage rf_cause rf_stackTrace rf_depth rf_suppressedExceptions n4 n3) : va_W) ++ va_pl LP fP) H := hP
    have hD : va_D A (((wz_588 h0 rf tap h0_taped h0_length h0_kind h0_from h0_to h0_word h0_numeral gnm gpl gty gvl h0_globalCount fun_ h0_funCount h0_open h0_signs lev po_now kno h0_knownCount h0_loops mad h0_madeLength mag h0_smalls_r h0_greats_r h0_module_r h0_spare_r h0_m h0_cursor h0_limit blk stk h0_top hgt lab ous kis los h0_depth h0_function mem h0_pages glo val h0_valueTop ffu fre fba fla h0_frames lat lhe h0_labelTop h0_steps h0_there rsl h0_resultLength h0_reason h0_place arg h0_argumentCount h0_code rf rf_backtrace rf_detailMessage rf_cause rf_stackTrace rf_depth rf_suppressedExceptions n4 n3) : va_W) ++ va_pl LP fP) := hD
    have hP9 := hP.part (cx := (wz_588 h0 rf tap h0_taped h0_length h0_kind h0_from h0_to h0_word h0_numeral gnm gpl gty gvl h0_globalCount fun_ h0_funCount h0_open h0_signs lev po_now kno h0_knownCount h0_loops mad h0_madeLength mag h0_smalls_r h0_greats_r h0_module_r h0_spare_r h0_m h0_cursor h0_limit blk stk h0_top hgt lab ous kis los h0_depth h0_function mem h0_pages glo val h0_valueTop ffu fre fba fla h0_frames lat lhe h0_labelTop h0_steps h0_there rsl h0_resultLength h0_reason h0_place arg h0_argumentCount h0_code rf rf_backtrace rf_detailMessage rf_cause rf_stackTrace rf_depth rf_suppressedExceptions n4 n3)) [0, 1] rfl
    have hD9 := hD.part (cx := (wz_588 h0 rf tap h0_taped h0_length h0_kind h0_from h0_to h0_word h0_numeral gnm gpl gty gvl h0_globalCount fun_ h0_funCount h0_open h0_signs lev po_now kno h0_knownCount h0_loops mad h0_madeLength mag h0_smalls_r h0_greats_r h0_module_r h0_spare_r h0_m h0_cursor h0_limit blk stk h0_top hgt lab ous kis los h0_depth h0_function mem h0_pages glo val h0_valueTop ffu fre fba fla h0_frames lat lhe h0_labelTop h0_steps h0_there rsl h0_resultLength h0_reason h0_place arg h0_argumentCount h0_code rf rf_backtrace rf_detailMessage rf_cause rf_stackTrace rf_depth rf_suppressedExceptions n4 n3)) [0, 1] (by decide) rfl
    exact tz_athrow rfl hx hb hno hlocks (fun t ht hW => ⟨⟨(n3, n4), ⟨(b0_of ba0 (by (first | (apply Int.le_antisymm <;> omega) | omega))), rfl, by rw [ht]; exact (show xo _ _ s H from va_recv hK hP (ci := 15) (q0 := 1) rfl rfl).moved hW.alike⟩, va_P.he ht.symm hP9, va_K.moved hW.alike hK, hD9⟩, hS.F ht⟩) hS.2.2 d_MD_fits_13
abbrev b_MD_named : ByteArray := prog_15_method_30_code
def y_MD_named : MethodName := ⟨R_MD, "named", "(LWaferForgeModel$N;)I"⟩
abbrev w_MD_named : List Cond := .code y_MD_named b_MD_named 3 (Option.some .int) :: lw_g
theorem kC_MD_named : Cond.code y_MD_named b_MD_named 3 (Option.some .int) ∈ lw_g := in_c12 44 rfl rfl
theorem d_MD_named_0 : decode b_MD_named 0 = .ok (.aload_n 1, 1) := bz_c43 (by decide +kernel)
theorem d_MD_named_1 : decode b_MD_named 1 = .ok (.aload_n 0, 1) := bz_c42 (by decide +kernel)
theorem d_MD_named_2 : decode b_MD_named 2 = .ok (.aload_n 1, 1) := bz_c43 (by decide +kernel)
theorem d_MD_named_3 : decode b_MD_named 3 = .ok (.getfield 258, 3) := bz_c180 (by decide +kernel)
theorem d_MD_named_6 : decode b_MD_named 6 = .ok (.invokevirtual 313, 3) := bz_c182 (by decide +kernel)
theorem d_MD_named_9 : decode b_MD_named 9 = .ok (.putfield 325, 3) := bz_c181 (by decide +kernel)
theorem d_MD_named_12 : decode b_MD_named 12 = .ok (.aload_n 1, 1) := bz_c43 (by decide +kernel)
theorem d_MD_named_13 : decode b_MD_named 13 = .ok (.getfield 325, 3) := bz_c180 (by decide +kernel)
theorem d_MD_named_16 : decode b_MD_named 16 = .ok (.ifCond .lt 16, 3) := bz_c155 (by decide +kernel)
theorem d_MD_named_19 : decode b_MD_named 19 = .ok (.aload_n 0, 1) := bz_c42 (by decide +kernel)
theorem d_MD_named_20 : decode b_MD_named 20 = .ok (.getfield 303, 3) := bz_c180 (by decide +kernel)
theorem d_MD_named_23 : decode b_MD_named 23 = .ok (.getfield 217, 3) := bz_c180 (by decide +kernel)
theorem d_MD_named_26 : decode b_MD_named 26 = .ok (.aload_n 1, 1) := bz_c43 (by decide +kernel)
theorem d_MD_named_27 : decode b_MD_named 27 = .ok (.getfield 325, 3) := bz_c180 (by decide +kernel)
theorem d_MD_named_30 : decode b_MD_named 30 = .ok (.iaload, 1) := bz_c46 (by decide +kernel)
theorem d_MD_named_31 : decode b_MD_named 31 = .ok (.ireturn, 1) := bz_c172 (by decide +kernel)
theorem d_MD_named_32 : decode b_MD_named 32 = .ok (.iconst 0, 1) := bz_c3 (by decide +kernel)
theorem d_MD_named_33 : decode b_MD_named 33 = .ok (.istore_n 2, 1) := bz_c61 (by decide +kernel)
theorem d_MD_named_34 : decode b_MD_named 34 = .ok (.iload_n 2, 1) := bz_c28 (by decide +kernel)
theorem d_MD_named_35 : decode b_MD_named 35 = .ok (.aload_n 0, 1) := bz_c42 (by decide +kernel)
theorem d_MD_named_36 : decode b_MD_named 36 = .ok (.getfield 137, 3) := bz_c180 (by decide +kernel)
theorem d_MD_named_39 : decode b_MD_named 39 = .ok (.if_icmp .ge 45, 3) := bz_c162 (by decide +kernel)
theorem d_MD_named_42 : decode b_MD_named 42 = .ok (.aload_n 0, 1) := bz_c42 (by decide +kernel)
theorem d_MD_named_43 : decode b_MD_named 43 = .ok (.getfield 166, 3) := bz_c180 (by decide +kernel)
theorem d_MD_named_46 : decode b_MD_named 46 = .ok (.iload_n 2, 1) := bz_c28 (by decide +kernel)
theorem d_MD_named_47 : decode b_MD_named 47 = .ok (.aaload, 1) := bz_c50 (by decide +kernel)
theorem d_MD_named_48 : decode b_MD_named 48 = .ok (.aload_n 1, 1) := bz_c43 (by decide +kernel)
theorem d_MD_named_49 : decode b_MD_named 49 = .ok (.getfield 258, 3) := bz_c180 (by decide +kernel)
theorem d_MD_named_52 : decode b_MD_named 52 = .ok (.invokevirtual 100, 3) := bz_c182 (by decide +kernel)
theorem d_MD_named_55 : decode b_MD_named 55 = .ok (.ifCond .ne 6, 3) := bz_c154 (by decide +kernel)
theorem d_MD_named_58 : decode b_MD_named 58 = .ok (.goto 20, 3) := bz_c167 (by decide +kernel)
theorem d_MD_named_61 : decode b_MD_named 61 = .ok (.aload_n 1, 1) := bz_c43 (by decide +kernel)
theorem d_MD_named_62 : decode b_MD_named 62 = .ok (.iload_n 2, 1) := bz_c28 (by decide +kernel)
theorem d_MD_named_63 : decode b_MD_named 63 = .ok (.putfield 325, 3) := bz_c181 (by decide +kernel)
theorem d_MD_named_66 : decode b_MD_named 66 = .ok (.aload_n 1, 1) := bz_c43 (by decide +kernel)
theorem d_MD_named_67 : decode b_MD_named 67 = .ok (.iconst 1, 1) := bz_c4 (by decide +kernel)
theorem d_MD_named_68 : decode b_MD_named 68 = .ok (.putfield 328, 3) := bz_c181 (by decide +kernel)
theorem d_MD_named_71 : decode b_MD_named 71 = .ok (.aload_n 0, 1) := bz_c42 (by decide +kernel)
theorem d_MD_named_72 : decode b_MD_named 72 = .ok (.getfield 175, 3) := bz_c180 (by decide +kernel)
theorem d_MD_named_75 : decode b_MD_named 75 = .ok (.iload_n 2, 1) := bz_c28 (by decide +kernel)
theorem d_MD_named_76 : decode b_MD_named 76 = .ok (.iaload, 1) := bz_c46 (by decide +kernel)
theorem d_MD_named_77 : decode b_MD_named 77 = .ok (.ireturn, 1) := bz_c172 (by decide +kernel)
theorem d_MD_named_78 : decode b_MD_named 78 = .ok (.iinc 2 1, 3) := by decide +kernel
theorem d_MD_named_81 : decode b_MD_named 81 = .ok (.goto (-47), 3) := bz_c167 (by decide +kernel)
theorem d_MD_named_84 : decode b_MD_named 84 = .ok (.aload_n 0, 1) := bz_c42 (by decide +kernel)
theorem d_MD_named_85 : decode b_MD_named 85 = .ok (.iconst 2, 1) := bz_c5 (by decide +kernel)
theorem d_MD_named_86 : decode b_MD_named 86 = .ok (.aload_n 1, 1) := bz_c43 (by decide +kernel)
theorem d_MD_named_87 : decode b_MD_named 87 = .ok (.getfield 132, 3) := bz_c180 (by decide +kernel)
theorem d_MD_named_90 : decode b_MD_named 90 = .ok (.invokevirtual 115, 3) := bz_c182 (by decide +kernel)
theorem d_MD_named_93 : decode b_MD_named 93 = .ok (.athrow, 1) := bz_c191 (by decide +kernel)
theorem kM_MD_313 : Cond.methodLink R_MD 313 y_MD_local ∈ lw_g := in_c12 25 rfl rfl
theorem kV_MD_local : Cond.instanceMethod y_MD_local ∈ lw_g := in_c12 27 rfl rfl
theorem kS_MD_local : Cond.selects R_MD y_MD_local y_MD_local ∈ lw_g := in_s 145 (by decide +kernel) rfl
theorem up_up {f : Nat → va_E} {a : Nat} {x y : va_E} : va_up (va_up f a x) a y = va_up f a y := by
  funext b
  by_cases q : b = a
  · rw [q, va_up_self, va_up_self]
  · rw [va_up_ne _ _ q, va_up_ne _ _ q, va_up_ne _ _ q]
abbrev at_MD_named (dC : Nat → ClassId) (dI : Nat → Nat → Nat) (sa : Nat → Nat) (h0 rf tap gnm gpl gty gvl fun_ lev po_now kno mad mag h0_smalls_r h0_greats_r h0_module_r h0_spare_r blk stk hgt lab ous kis los mem glo val ffu fre fba fla lat lhe rsl arg : Nat) (cgnm cgty ckno cr cpn cpb cps : ClassId) (h0_taped : Int32) (h0_length : Int32) (h0_kind : Int32) (h0_from : Int32) (h0_to : Int32) (h0_word : Value) (h0_numeral : Int64) (h0_globalCount : Int32) (h0_funCount : Int32) (h0_open : Int32) (h0_signs : Int32) (h0_knownCount : Int32) (h0_loops : Int32) (h0_madeLength : Int32) (h0_m : Value) (h0_cursor : Int32) (h0_limit : Int32) (h0_top : Int32) (h0_depth : Int32) (h0_function : Int32) (h0_pages : Int32) (h0_valueTop : Int32) (h0_frames : Int32) (h0_labelTop : Int32) (h0_steps : Int32) (h0_there : Int32) (h0_resultLength : Int32) (h0_reason : Int32) (h0_place : Int32) (h0_argumentCount : Int32) (h0_code : Int32) (rf_backtrace : Value) (rf_detailMessage : Value) (rf_cause : Value) (rf_stackTrace : Value) (rf_depth : Int32) (rf_suppressedExceptions : Value) (ggnm : Nat → Option Nat) (ggty : Nat → Int32) (gkno : Nat → Int32) (LP : List Nat) (A : Nat → Prop) (u : Int32 × Int32 × (Nat → va_E)) (t : State) : Prop := match u with | (rf_place, rf_reason, fP) => va_P (dC, dI) cls2 (((wz_589 h0 rf tap h0_taped h0_length h0_kind h0_from h0_to h0_word h0_numeral gnm gpl gty gvl h0_globalCount fun_ h0_funCount h0_open h0_signs lev po_now kno h0_knownCount h0_loops mad h0_madeLength mag h0_smalls_r h0_greats_r h0_module_r h0_spare_r h0_m h0_cursor h0_limit blk stk h0_top hgt lab ous kis los h0_depth h0_function mem h0_pages glo val h0_valueTop ffu fre fba fla h0_frames lat lhe h0_labelTop h0_steps h0_there rsl h0_resultLength h0_reason h0_place arg h0_argumentCount h0_code rf rf_backtrace rf_detailMessage rf_cause rf_stackTrace rf_depth rf_suppressedExceptions rf_reason rf_place gnm cgnm ggnm gty cgty ggty kno ckno gkno) : va_W) ++ va_pl LP fP) t.heap ∧ va_K (dC, dI) cls2 [(cgnm, .object "java/lang/String"), (cgty, .int), (ckno, .int), (cr, .int), (cpn, .object "WaferForgeModel$N"), (cpb, .byte), (cps, .object "java/lang/String")] t ∧ va_D A (((wz_589 h0 rf tap h0_taped h0_length h0_kind h0_from h0_to h0_word h0_numeral gnm gpl gty gvl h0_globalCount fun_ h0_funCount h0_open h0_signs lev po_now kno h0_knownCount h0_loops mad h0_madeLength mag h0_smalls_r h0_greats_r h0_module_r h0_spare_r h0_m h0_cursor h0_limit blk stk h0_top hgt lab ous kis los h0_depth h0_function mem h0_pages glo val h0_valueTop ffu fre fba fla h0_frames lat lhe h0_labelTop h0_steps h0_there rsl h0_resultLength h0_reason h0_place arg h0_argumentCount h0_code rf rf_backtrace rf_detailMessage rf_cause rf_stackTrace rf_depth rf_suppressedExceptions rf_reason rf_place gnm cgnm ggnm gty cgty ggty kno ckno gkno) : va_W) ++ va_pl LP fP)
set_option maxHeartbeats 4000000 in
set_option maxRecDepth 100000 in
theorem c_MD_named (l : Launch) (hlt : l.stackTraces = false) (dC : Nat → ClassId) (dI : Nat → Nat → Nat) (sz : Nat) (sa : Nat → Nat) (h0 rf tap gnm gpl gty gvl fun_ lev po_now kno mad mag h0_smalls_r h0_greats_r h0_module_r h0_spare_r blk stk hgt lab ous kis los mem glo val ffu fre fba fla lat lhe rsl arg : Nat) (cgnm cgty ckno cr cpn cpb cps : ClassId) (h0_taped : Int32) (h0_length : Int32) (h0_kind : Int32) (h0_from : Int32) (h0_to : Int32) (h0_word : Value) (h0_numeral : Int64) (h0_globalCount : Int32) (h0_funCount : Int32) (h0_open : Int32) (h0_signs : Int32) (h0_knownCount : Int32) (h0_loops : Int32) (h0_madeLength : Int32) (h0_m : Value) (h0_cursor : Int32) (h0_limit : Int32) (h0_top : Int32) (h0_depth : Int32) (h0_function : Int32) (h0_pages : Int32) (h0_valueTop : Int32) (h0_frames : Int32) (h0_labelTop : Int32) (h0_steps : Int32) (h0_there : Int32) (h0_resultLength : Int32) (h0_reason : Int32) (h0_place : Int32) (h0_argumentCount : Int32) (h0_code : Int32) (rf_backtrace : Value) (rf_detailMessage : Value) (rf_cause : Value) (rf_stackTrace : Value) (rf_depth : Int32) (rf_suppressedExceptions : Value) (rf_reason : Int32) (rf_place : Int32) (ggnm : Nat → Option Nat) (ggty : Nat → Int32) (gkno : Nat → Int32) (LP : List Nat) (fP : Nat → va_E) (fnm : Value) (fpl : Int32) (po_fns : Nat) (po_fls : Nat) (po_fys : Nat) (fps : Int32) (fN : Int32) (frs : Int32) (po_fbd : Nat) (fsg : Int32) (fgn : Nat → Option Nat) (fT : Nat → Int32) (gM : Nat → Prop) (nop : Int32) (npl : Int32) (po_sr : Nat) (nv : Int64) (nt : Int32) (po_np : Nat) (ncnt : Int32) (nix : Int32) (ngl : Int32) (gN : Int) (gnb : List Int32)  (b_h0_globalCount : 0 ≤ h0_globalCount.toInt ∧ h0_globalCount.toInt ≤ 20) (b_h0_knownCount : 0 ≤ h0_knownCount.toInt ∧ h0_knownCount.toInt ≤ 51) (po_n : Nat)  (hnw : bx (nwf LP fP cps cr gM po_now fnm fpl po_fns po_fls po_fys fps fN frs po_fbd fsg fgn fT)) (hpar : bx (par9 LP fP cpb gN fgn fT)) (hkn : bx (kno9 h0_knownCount.toInt gN gkno)) (hgN : 0 ≤ gN ∧ gN ≤ 50) (hnn : bx (po_n ∈ LP ∧ nP fP po_n nop npl (.ref po_sr) nv nt po_np ncnt nix ngl ∧ ngl.toInt = 0)) (hs : bx (strP LP fP cpb po_sr gnb)) (hgl : bx (glt LP fP cpb h0_globalCount.toInt ggnm ggty)) : tz_Met l y_MD_named w_MD_named ({ frames := 3, cells := 0, slots := 0, locals := 66 }) (va_Pc [.ref h0, .ref po_n] (fun U => U.heap.size = sz ∧ va_P (dC, dI) cls2 (((wz_589 h0 rf tap h0_taped h0_length h0_kind h0_from h0_to h0_word h0_numeral gnm gpl gty gvl h0_globalCount fun_ h0_funCount h0_open h0_signs lev po_now kno h0_knownCount h0_loops mad h0_madeLength mag h0_smalls_r h0_greats_r h0_module_r h0_spare_r h0_m h0_cursor h0_limit blk stk h0_top hgt lab ous kis los h0_depth h0_function mem h0_pages glo val h0_valueTop ffu fre fba fla h0_frames lat lhe h0_labelTop h0_steps h0_there rsl h0_resultLength h0_reason h0_place arg h0_argumentCount h0_code rf rf_backtrace rf_detailMessage rf_cause rf_stackTrace rf_depth rf_suppressedExceptions rf_reason rf_place gnm cgnm ggnm gty cgty ggty kno ckno gkno) : va_W) ++ va_pl LP fP) U.heap ∧ va_K (dC, dI) cls2 [(cgnm, .object "java/lang/String"), (cgty, .int), (ckno, .int), (cr, .int), (cpn, .object "WaferForgeModel$N"), (cpb, .byte), (cps, .object "java/lang/String")] U ∧ va_D (fun _ => True) (((wz_589 h0 rf tap h0_taped h0_length h0_kind h0_from h0_to h0_word h0_numeral gnm gpl gty gvl h0_globalCount fun_ h0_funCount h0_open h0_signs lev po_now kno h0_knownCount h0_loops mad h0_madeLength mag h0_smalls_r h0_greats_r h0_module_r h0_spare_r h0_m h0_cursor h0_limit blk stk h0_top hgt lab ous kis los h0_depth h0_function mem h0_pages glo val h0_valueTop ffu fre fba fla h0_frames lat lhe h0_labelTop h0_steps h0_there rsl h0_resultLength h0_reason h0_place arg h0_argumentCount h0_code rf rf_backtrace rf_detailMessage rf_cause rf_stackTrace rf_depth rf_suppressedExceptions rf_reason rf_place gnm cgnm ggnm gty cgty ggty kno ckno gkno) : va_W) ++ va_pl LP fP) ∧ sm sa (va_A (((wz_589 h0 rf tap h0_taped h0_length h0_kind h0_from h0_to h0_word h0_numeral gnm gpl gty gvl h0_globalCount fun_ h0_funCount h0_open h0_signs lev po_now kno h0_knownCount h0_loops mad h0_madeLength mag h0_smalls_r h0_greats_r h0_module_r h0_spare_r h0_m h0_cursor h0_limit blk stk h0_top hgt lab ous kis los h0_depth h0_function mem h0_pages glo val h0_valueTop ffu fre fba fla h0_frames lat lhe h0_labelTop h0_steps h0_there rsl h0_resultLength h0_reason h0_place arg h0_argumentCount h0_code rf rf_backtrace rf_detailMessage rf_cause rf_stackTrace rf_depth rf_suppressedExceptions rf_reason rf_place gnm cgnm ggnm gty cgty ggty kno ckno gkno) : va_W) ++ va_pl LP fP) sz) U U.heap)) (tq_Q (tr_i (fun (r : Int32) (u : Int32 × Int32 × (Nat → va_E)) => match u with | (rf_place2, rf_reason2, fP2) => (t27 r.toInt ∧ ∃ ix gl : Int32, fP2 = va_up fP po_n (.inr (13, [.int nop, .int npl, .ref po_sr, .long nv, .int nt, .ref po_np, .int ncnt, .int ix, .int gl])) ∧ 0 ≤ ix.toInt ∧ ((gl.toInt = 1 ∧ ix.toInt < h0_globalCount.toInt) ∨ (gl.toInt = 0 ∧ ix.toInt < gN)))) rf "WaferForgeModel$Refused" (fun (u : Int32 × Int32 × (Nat → va_E)) => match u with | (rf_place2, rf_reason2, fP2) => True)) (at_MD_named dC dI sa h0 rf tap gnm gpl gty gvl fun_ lev po_now kno mad mag h0_smalls_r h0_greats_r h0_module_r h0_spare_r blk stk hgt lab ous kis los mem glo val ffu fre fba fla lat lhe rsl arg cgnm cgty ckno cr cpn cpb cps h0_taped h0_length h0_kind h0_from h0_to h0_word h0_numeral h0_globalCount h0_funCount h0_open h0_signs h0_knownCount h0_loops h0_madeLength h0_m h0_cursor h0_limit h0_top h0_depth h0_function h0_pages h0_valueTop h0_frames h0_labelTop h0_steps h0_there h0_resultLength h0_reason h0_place h0_argumentCount h0_code rf_backtrace rf_detailMessage rf_cause rf_stackTrace rf_depth rf_suppressedExceptions ggnm ggty gkno LP (va_A (((wz_589 h0 rf tap h0_taped h0_length h0_kind h0_from h0_to h0_word h0_numeral gnm gpl gty gvl h0_globalCount fun_ h0_funCount h0_open h0_signs lev po_now kno h0_knownCount h0_loops mad h0_madeLength mag h0_smalls_r h0_greats_r h0_module_r h0_spare_r h0_m h0_cursor h0_limit blk stk h0_top hgt lab ous kis los h0_depth h0_function mem h0_pages glo val h0_valueTop ffu fre fba fla h0_frames lat lhe h0_labelTop h0_steps h0_there rsl h0_resultLength h0_reason h0_place arg h0_argumentCount h0_code rf rf_backtrace rf_detailMessage rf_cause rf_stackTrace rf_depth rf_suppressedExceptions rf_reason rf_place gnm cgnm ggnm gty cgty ggty kno ckno gkno) : va_W) ++ va_pl LP fP) sz)) (va_A (((wz_589 h0 rf tap h0_taped h0_length h0_kind h0_from h0_to h0_word h0_numeral gnm gpl gty gvl h0_globalCount fun_ h0_funCount h0_open h0_signs lev po_now kno h0_knownCount h0_loops mad h0_madeLength mag h0_smalls_r h0_greats_r h0_module_r h0_spare_r h0_m h0_cursor h0_limit blk stk h0_top hgt lab ous kis los h0_depth h0_function mem h0_pages glo val h0_valueTop ffu fre fba fla h0_frames lat lhe h0_labelTop h0_steps h0_there rsl h0_resultLength h0_reason h0_place arg h0_argumentCount h0_code rf rf_backtrace rf_detailMessage rf_cause rf_stackTrace rf_depth rf_suppressedExceptions rf_reason rf_place gnm cgnm ggnm gty cgty ggty kno ckno gkno) : va_W) ++ va_pl LP fP) sz)) (tz_k 0 0 0 0) (va_A (((wz_589 h0 rf tap h0_taped h0_length h0_kind h0_from h0_to h0_word h0_numeral gnm gpl gty gvl h0_globalCount fun_ h0_funCount h0_open h0_signs lev po_now kno h0_knownCount h0_loops mad h0_madeLength mag h0_smalls_r h0_greats_r h0_module_r h0_spare_r h0_m h0_cursor h0_limit blk stk h0_top hgt lab ous kis los h0_depth h0_function mem h0_pages glo val h0_valueTop ffu fre fba fla h0_frames lat lhe h0_labelTop h0_steps h0_there rsl h0_resultLength h0_reason h0_place arg h0_argumentCount h0_code rf rf_backtrace rf_detailMessage rf_cause rf_stackTrace rf_depth rf_suppressedExceptions rf_reason rf_place gnm cgnm ggnm gty cgty ggty kno ckno gkno) : va_W) ++ va_pl LP fP) sz) := by
  refine tz_ofW (cc := b_MD_named) (maxL := 3) (ret := (Option.some .int)) (by decide) rfl ?_
  intro p e s m args below meth c s₁ B hml hno hv
  obtain ⟨rfl, hsz, hP, hK, hD0, hSW⟩ := hv
  have hx := B.exec
  have hb := B.bytes
  have hr := B.returns
  have hts0 := atoms_spec (ws := w_MD_named) B.pre
  have hts : ∀ w ∈ lw_g, w.before _ s = true := fun w h => hts0 w (List.mem_cons_of_mem _ h)
  have hown : s.vm.findClass R_MD = some m.cls := findClass_of_methodNamed B.named
  have hlocks := B.notSynchronized
  clear hts0
  subst hsz
  have hD := hD0.self (sz := s.heap.size)
  generalize hAe : va_A (((wz_589 h0 rf tap h0_taped h0_length h0_kind h0_from h0_to h0_word h0_numeral gnm gpl gty gvl h0_globalCount fun_ h0_funCount h0_open h0_signs lev po_now kno h0_knownCount h0_loops mad h0_madeLength mag h0_smalls_r h0_greats_r h0_module_r h0_spare_r h0_m h0_cursor h0_limit blk stk h0_top hgt lab ous kis los h0_depth h0_function mem h0_pages glo val h0_valueTop ffu fre fba fla h0_frames lat lhe h0_labelTop h0_steps h0_there rsl h0_resultLength h0_reason h0_place arg h0_argumentCount h0_code rf rf_backtrace rf_detailMessage rf_cause rf_stackTrace rf_depth rf_suppressedExceptions rf_reason rf_place gnm cgnm ggnm gty cgty ggty kno ckno gkno) : va_W) ++ va_pl LP fP) s.heap.size = A at hD hSW ⊢
  have hA : ∀ q : Nat, s.heap.size ≤ q → A q := fun q h => by rw [← hAe]; exact Or.inr h
  clear hAe
  have hP : va_P (dC, dI) cls2 (((wz_589 h0 rf tap h0_taped h0_length h0_kind h0_from h0_to h0_word h0_numeral gnm gpl gty gvl h0_globalCount fun_ h0_funCount h0_open h0_signs lev po_now kno h0_knownCount h0_loops mad h0_madeLength mag h0_smalls_r h0_greats_r h0_module_r h0_spare_r h0_m h0_cursor h0_limit blk stk h0_top hgt lab ous kis los h0_depth h0_function mem h0_pages glo val h0_valueTop ffu fre fba fla h0_frames lat lhe h0_labelTop h0_steps h0_there rsl h0_resultLength h0_reason h0_place arg h0_argumentCount h0_code rf rf_backtrace rf_detailMessage rf_cause rf_stackTrace rf_depth rf_suppressedExceptions rf_reason rf_place gnm cgnm ggnm gty cgty ggty kno ckno gkno) : va_W) ++ va_pl LP fP) s.heap := hP
  have hl := lv_entry ([.ref h0, .ref po_n]) (n := 3) (Nat.le_of_ble_eq_true rfl)
  rw [lg_entry_eq]
  generalize (lg_sl ([.ref h0, .ref po_n]) ++ List.replicate (3 - (lg_sl ([.ref h0, .ref po_n])).length) Slot.unset).toArray = ls at hl ⊢
  have hl : lv_has ls 3 [(0, .ref h0), (1, .ref po_n)] := hl
  have k0 : (0 : Int32).toInt = 0 := by decide
  refine w_gen (A := A) hP (fun H locs hP hS => ?_)
  have k1 : (1 : Int32).toInt = 1 := by decide
  have k2 : (2 : Int32).toInt = 2 := by decide
  have hnd := vq_nd hD
  obtain ⟨⟨nwa, nwb⟩, ⟨nna, nnb⟩, ⟨nya, nyb⟩, gM1, gM2, gM3⟩ := hnw.out
  obtain ⟨na1, na2, na3⟩ := hnn.out
  unfold nP at na2
  refine lv_aload_n hx hb d_MD_named_0 rfl (lv_at hl 1 rfl) ?_
  refine lv_aload_n hx hb d_MD_named_1 rfl (lv_at hl 0 rfl) ?_
  refine lv_aload_n hx hb d_MD_named_2 rfl (lv_at hl 1 rfl) ?_
  obtain ⟨q1, hq1⟩ := pl_ix (X := (wz_589 h0 rf tap h0_taped h0_length h0_kind h0_from h0_to h0_word h0_numeral gnm gpl gty gvl h0_globalCount fun_ h0_funCount h0_open h0_signs lev po_now kno h0_knownCount h0_loops mad h0_madeLength mag h0_smalls_r h0_greats_r h0_module_r h0_spare_r h0_m h0_cursor h0_limit blk stk h0_top hgt lab ous kis los h0_depth h0_function mem h0_pages glo val h0_valueTop ffu fre fba fla h0_frames lat lhe h0_labelTop h0_steps h0_there rsl h0_resultLength h0_reason h0_place arg h0_argumentCount h0_code rf rf_backtrace rf_detailMessage rf_cause rf_stackTrace rf_depth rf_suppressedExceptions rf_reason rf_place gnm cgnm ggnm gty cgty ggty kno ckno gkno)) (L := LP) (f := fP) na1 na2
  refine va_getN (D := (dC, dI)) (ci := 13) (v := .ref po_sr) (C := R_MN) (T := F_MN) (N := 9) hx hb hts i_MN hown hK hP q1 hq1 rfl 2 (by decide) (sm_f (k := 46) hSW rfl) (fun _ h9 => h9) rfl d_MD_named_3 ?_
  have hPc := hP.part (cx := (wz_587 h0 rf tap h0_taped h0_length h0_kind h0_from h0_to h0_word h0_numeral gnm gpl gty gvl h0_globalCount fun_ h0_funCount h0_open h0_signs lev po_now kno h0_knownCount h0_loops mad h0_madeLength mag h0_smalls_r h0_greats_r h0_module_r h0_spare_r h0_m h0_cursor h0_limit blk stk h0_top hgt lab ous kis los h0_depth h0_function mem h0_pages glo val h0_valueTop ffu fre fba fla h0_frames lat lhe h0_labelTop h0_steps h0_there rsl h0_resultLength h0_reason h0_place arg h0_argumentCount h0_code kno ckno gkno)) [0, 4] rfl
  have hDc := hD.part (cx := (wz_587 h0 rf tap h0_taped h0_length h0_kind h0_from h0_to h0_word h0_numeral gnm gpl gty gvl h0_globalCount fun_ h0_funCount h0_open h0_signs lev po_now kno h0_knownCount h0_loops mad h0_madeLength mag h0_smalls_r h0_greats_r h0_module_r h0_spare_r h0_m h0_cursor h0_limit blk stk h0_top hgt lab ous kis los h0_depth h0_function mem h0_pages glo val h0_valueTop ffu fre fba fla h0_frames lat lhe h0_labelTop h0_steps h0_there rsl h0_resultLength h0_reason h0_place arg h0_argumentCount h0_code kno ckno gkno)) [0, 4] (by decide) rfl
  have hKc := hK.sb (tyq := [(ckno, .int), (cr, .int), (cpn, .object "WaferForgeModel$N"), (cpb, .byte), (cps, .object "java/lang/String")]) [2, 3, 4, 5, 6] rfl
  have hFc := va_freeP (cx := (wz_587 h0 rf tap h0_taped h0_length h0_kind h0_from h0_to h0_word h0_numeral gnm gpl gty gvl h0_globalCount fun_ h0_funCount h0_open h0_signs lev po_now kno h0_knownCount h0_loops mad h0_madeLength mag h0_smalls_r h0_greats_r h0_module_r h0_spare_r h0_m h0_cursor h0_limit blk stk h0_top hgt lab ous kis los h0_depth h0_function mem h0_pages glo val h0_valueTop ffu fre fba fla h0_frames lat lhe h0_labelTop h0_steps h0_there rsl h0_resultLength h0_reason h0_place arg h0_argumentCount h0_code kno ckno gkno)) hD hS hA [0, 4] rfl
  refine va_calli (va_runV (As := [.ref po_sr]) (rest := [.ref po_n]) ⟨hx, hb, hml, hown, hts⟩ (c_MD_local l hlt dC dI H.size sa h0 rf tap gnm gpl gty gvl fun_ lev po_now kno mad mag h0_smalls_r h0_greats_r h0_module_r h0_spare_r blk stk hgt lab ous kis los mem glo val ffu fre fba fla lat lhe rsl arg ckno cr cpn cpb cps h0_taped h0_length h0_kind h0_from h0_to h0_word h0_numeral h0_globalCount h0_funCount h0_open h0_signs h0_knownCount h0_loops h0_madeLength h0_m h0_cursor h0_limit h0_top h0_depth h0_function h0_pages h0_valueTop h0_frames h0_labelTop h0_steps h0_there h0_resultLength h0_reason h0_place h0_argumentCount h0_code gkno LP fP fnm fpl po_fns po_fls po_fys fps fN frs po_fbd fsg fgn fT gM gN gnb (b_h0_knownCount) po_sr (hnw) (hpar) (hkn) (hgN) (hs)) (cwV 1 hts (gV kM_MD_313 kV_MD_local kS_MD_local kI_MD kC_MD_local) rfl rfl rfl (by decide +kernel) ⟨Nat.le_of_ble_eq_true rfl, Nat.le_of_ble_eq_true rfl⟩) ⟨fun a U g mk z => by obtain ⟨z0, z1, zP, zK, zD, zS⟩ := z; exact ⟨z0, z1, zP, va_K.moved (u := U) (U := U.calling g mk a) (Vm.Alike.refl U.vm) zK, zD, sm.same (u := U) (U := U.calling g mk a) rfl zS⟩, va_recv hKc hPc (ci := 11) (q0 := 0) rfl rfl, fun U hU hW => ⟨rfl, by rw [hU], va_P.he hU.symm hPc, va_K.moved hW.alike hKc, hDc.weaken (fun _ _ _ _ => trivial), hSW.call hS hFc hW hU⟩⟩ rfl rfl hl.1 rfl (lv_room (Nat.le_of_ble_eq_true rfl)) d_MD_named_6 ⟨(Nat.zero_le _), (Nat.zero_le _)⟩) hS (fun q _ h => hFc q h) hFc (fun r2 u t H1 locs ht hvm hw hB hz1 hk1 hS => ?_)
  try dsimp only at hw
  have xr2 := hw
  try clear hw
  have lq := xr2
  obtain ⟨hP1, hK1, hD1⟩ := hB
  replace hP1 := va_P.he ht hP1
  obtain ⟨hP, hD⟩ := va_joinP (wr := [(rf, .inr (15, [rf_backtrace, rf_detailMessage, rf_cause, rf_stackTrace, .int rf_depth, rf_suppressedExceptions, .int rf_reason, .int rf_place])), (gnm, .inl (cgnm, 20, .inr (.inr (.inr (.inr ggnm))))), (gty, .inl (cgty, 20, .inl ggty))]) (rx := (wz_587 h0 rf tap h0_taped h0_length h0_kind h0_from h0_to h0_word h0_numeral gnm gpl gty gvl h0_globalCount fun_ h0_funCount h0_open h0_signs lev po_now kno h0_knownCount h0_loops mad h0_madeLength mag h0_smalls_r h0_greats_r h0_module_r h0_spare_r h0_m h0_cursor h0_limit blk stk h0_top hgt lab ous kis los h0_depth h0_function mem h0_pages glo val h0_valueTop ffu fre fba fla h0_frames lat lhe h0_labelTop h0_steps h0_there rsl h0_resultLength h0_reason h0_place arg h0_argumentCount h0_code kno ckno gkno)) hP hD [0, 4] [1, 2, 3] rfl rfl (by decide) (by decide) hk1 hFc hP1 hD1
  clear hPc hDc hKc hFc hz1 hk1 hP1 hK1 hD1
  rename Heap => H
  have hP : va_P (dC, dI) cls2 (((wz_590 rf rf_backtrace rf_detailMessage rf_cause rf_stackTrace rf_depth rf_suppressedExceptions rf_reason rf_place gnm cgnm ggnm gty cgty ggty h0 rf tap h0_taped h0_length h0_kind h0_from h0_to h0_word h0_numeral gnm gpl gty gvl h0_globalCount fun_ h0_funCount h0_open h0_signs lev po_now kno h0_knownCount h0_loops mad h0_madeLength mag h0_smalls_r h0_greats_r h0_module_r h0_spare_r h0_m h0_cursor h0_limit blk stk h0_top hgt lab ous kis los h0_depth h0_function mem h0_pages glo val h0_valueTop ffu fre fba fla h0_frames lat lhe h0_labelTop h0_steps h0_there rsl h0_resultLength h0_reason h0_place arg h0_argumentCount h0_code kno ckno gkno) : va_W) ++ va_pl LP fP) H := hP
  have hD : va_D A (((wz_590 rf rf_backtrace rf_detailMessage rf_cause rf_stackTrace rf_depth rf_suppressedExceptions rf_reason rf_place gnm cgnm ggnm gty cgty ggty h0 rf tap h0_taped h0_length h0_kind h0_from h0_to h0_word h0_numeral gnm gpl gty gvl h0_globalCount fun_ h0_funCount h0_open h0_signs lev po_now kno h0_knownCount h0_loops mad h0_madeLength mag h0_smalls_r h0_greats_r h0_module_r h0_spare_r h0_m h0_cursor h0_limit blk stk h0_top hgt lab ous kis los h0_depth h0_function mem h0_pages glo val h0_valueTop ffu fre fba fla h0_frames lat lhe h0_labelTop h0_steps h0_there rsl h0_resultLength h0_reason h0_place arg h0_argumentCount h0_code kno ckno gkno) : va_W) ++ va_pl LP fP) := hD
  have hP : va_P (dC, dI) cls2 (((wz_590 rf rf_backtrace rf_detailMessage rf_cause rf_stackTrace rf_depth rf_suppressedExceptions rf_reason rf_place gnm cgnm ggnm gty cgty ggty h0 rf tap h0_taped h0_length h0_kind h0_from h0_to h0_word h0_numeral gnm gpl gty gvl h0_globalCount fun_ h0_funCount h0_open h0_signs lev po_now kno h0_knownCount h0_loops mad h0_madeLength mag h0_smalls_r h0_greats_r h0_module_r h0_spare_r h0_m h0_cursor h0_limit blk stk h0_top hgt lab ous kis los h0_depth h0_function mem h0_pages glo val h0_valueTop ffu fre fba fla h0_frames lat lhe h0_labelTop h0_steps h0_there rsl h0_resultLength h0_reason h0_place arg h0_argumentCount h0_code kno ckno gkno) : va_W) ++ va_pl LP fP) H := hP
  have hD : va_D A (((wz_590 rf rf_backtrace rf_detailMessage rf_cause rf_stackTrace rf_depth rf_suppressedExceptions rf_reason rf_place gnm cgnm ggnm gty cgty ggty h0 rf tap h0_taped h0_length h0_kind h0_from h0_to h0_word h0_numeral gnm gpl gty gvl h0_globalCount fun_ h0_funCount h0_open h0_signs lev po_now kno h0_knownCount h0_loops mad h0_madeLength mag h0_smalls_r h0_greats_r h0_module_r h0_spare_r h0_m h0_cursor h0_limit blk stk h0_top hgt lab ous kis los h0_depth h0_function mem h0_pages glo val h0_valueTop ffu fre fba fla h0_frames lat lhe h0_labelTop h0_steps h0_there rsl h0_resultLength h0_reason h0_place arg h0_argumentCount h0_code kno ckno gkno) : va_W) ++ va_pl LP fP) := hD
  obtain ⟨q3, hq3⟩ := pl_ix (X := (wz_590 rf rf_backtrace rf_detailMessage rf_cause rf_stackTrace rf_depth rf_suppressedExceptions rf_reason rf_place gnm cgnm ggnm gty cgty ggty h0 rf tap h0_taped h0_length h0_kind h0_from h0_to h0_word h0_numeral gnm gpl gty gvl h0_globalCount fun_ h0_funCount h0_open h0_signs lev po_now kno h0_knownCount h0_loops mad h0_madeLength mag h0_smalls_r h0_greats_r h0_module_r h0_spare_r h0_m h0_cursor h0_limit blk stk h0_top hgt lab ous kis los h0_depth h0_function mem h0_pages glo val h0_valueTop ffu fre fba fla h0_frames lat lhe h0_labelTop h0_steps h0_there rsl h0_resultLength h0_reason h0_place arg h0_argumentCount h0_code kno ckno gkno)) (L := LP) (f := fP) na1 na2
  have hD0 := hD
  refine va_putN (D := (dC, dI)) (ci := 13) (v := .int r2) (ty := .int) (C := R_MN) (T := F_MN) (N := 9) hx hb hts i_MN t_MN t_MN_ok n_MN hown hK hP hD hS q3 hq3 rfl 7 (by decide) (sm_f (k := 51) hSW rfl) (fun _ h9 => h9) rfl (by decide +kernel) rfl rfl (Nat.le_of_ble_eq_true rfl) d_MD_named_9 (fun H locs hP hD hS => ?_)
  rw [pl_set hD0 na1 hq3] at hP hD
  clear hD0
  obtain ⟨fp4, efp4⟩ : ∃ z, z = va_up fP po_n (.inr (13, [.int nop, .int npl, .ref po_sr, .long nv, .int nt, .ref po_np, .int ncnt, .int r2, .int ngl])) := ⟨_, rfl⟩
  have hP : va_P (dC, dI) cls2 (((wz_590 rf rf_backtrace rf_detailMessage rf_cause rf_stackTrace rf_depth rf_suppressedExceptions rf_reason rf_place gnm cgnm ggnm gty cgty ggty h0 rf tap h0_taped h0_length h0_kind h0_from h0_to h0_word h0_numeral gnm gpl gty gvl h0_globalCount fun_ h0_funCount h0_open h0_signs lev po_now kno h0_knownCount h0_loops mad h0_madeLength mag h0_smalls_r h0_greats_r h0_module_r h0_spare_r h0_m h0_cursor h0_limit blk stk h0_top hgt lab ous kis los h0_depth h0_function mem h0_pages glo val h0_valueTop ffu fre fba fla h0_frames lat lhe h0_labelTop h0_steps h0_there rsl h0_resultLength h0_reason h0_place arg h0_argumentCount h0_code kno ckno gkno) : va_W) ++ va_pl LP fp4) H := by rw [efp4]; exact hP
  have hD : va_D A (((wz_590 rf rf_backtrace rf_detailMessage rf_cause rf_stackTrace rf_depth rf_suppressedExceptions rf_reason rf_place gnm cgnm ggnm gty cgty ggty h0 rf tap h0_taped h0_length h0_kind h0_from h0_to h0_word h0_numeral gnm gpl gty gvl h0_globalCount fun_ h0_funCount h0_open h0_signs lev po_now kno h0_knownCount h0_loops mad h0_madeLength mag h0_smalls_r h0_greats_r h0_module_r h0_spare_r h0_m h0_cursor h0_limit blk stk h0_top hgt lab ous kis los h0_depth h0_function mem h0_pages glo val h0_valueTop ffu fre fba fla h0_frames lat lhe h0_labelTop h0_steps h0_there rsl h0_resultLength h0_reason h0_place arg h0_argumentCount h0_code kno ckno gkno) : va_W) ++ va_pl LP fp4) := by rw [efp4]; exact hD
  have ofp4 := na2
  have nwb := up_o (e := .inr (13, [.int nop, .int npl, .ref po_sr, .long nv, .int nt, .ref po_np, .int ncnt, .int r2, .int ngl])) nwb ofp4 (by decide)
  rw [← efp4] at nwb
  have nnb := up_a (e := .inr (13, [.int nop, .int npl, .ref po_sr, .long nv, .int nt, .ref po_np, .int ncnt, .int r2, .int ngl])) nnb ofp4
  rw [← efp4] at nnb
  have nyb := up_a (e := .inr (13, [.int nop, .int npl, .ref po_sr, .long nv, .int nt, .ref po_np, .int ncnt, .int r2, .int ngl])) nyb ofp4
  rw [← efp4] at nyb
  have na2 : fp4 po_n = .inr (13, [.int nop, .int npl, .ref po_sr, .long nv, .int nt, .ref po_np, .int ncnt, .int r2, .int ngl]) := by rw [efp4]; exact va_up_self _ _ _
  have cu : bx (cgn (fun _ => True) fP fp4) := by rw [efp4]; exact cgn.up ofp4 trivial
  have hs : bx (strP LP fp4 cpb po_sr gnb) := (cu.out.kp (cpn := cpn)).str hs.out
  have hgl : bx (glt LP fp4 cpb h0_globalCount.toInt ggnm ggty) := glt.kp (cu.out.kp (cpn := cpn)) hgl.out
  clear cu
  refine lv_aload_n hx hb d_MD_named_12 rfl (lv_at hl 1 rfl) ?_
  obtain ⟨q5, hq5⟩ := pl_ix (X := (wz_590 rf rf_backtrace rf_detailMessage rf_cause rf_stackTrace rf_depth rf_suppressedExceptions rf_reason rf_place gnm cgnm ggnm gty cgty ggty h0 rf tap h0_taped h0_length h0_kind h0_from h0_to h0_word h0_numeral gnm gpl gty gvl h0_globalCount fun_ h0_funCount h0_open h0_signs lev po_now kno h0_knownCount h0_loops mad h0_madeLength mag h0_smalls_r h0_greats_r h0_module_r h0_spare_r h0_m h0_cursor h0_limit blk stk h0_top hgt lab ous kis los h0_depth h0_function mem h0_pages glo val h0_valueTop ffu fre fba fla h0_frames lat lhe h0_labelTop h0_steps h0_there rsl h0_resultLength h0_reason h0_place arg h0_argumentCount h0_code kno ckno gkno)) (L := LP) (f := fp4) na1 na2
  refine va_getN (D := (dC, dI)) (ci := 13) (v := .int r2) (C := R_MN) (T := F_MN) (N := 9) hx hb hts i_MN hown hK hP q5 hq5 rfl 7 (by decide) (sm_f (k := 51) hSW rfl) (fun _ h9 => h9) rfl d_MD_named_13 ?_
  refine lv_if_lt (tgt := 32) hx hb d_MD_named_16 (by decide) (fun c16 => ?_) (fun c16 => ?_)
  · have q16 := ltI c16
    refine lv_iconst (v := 0) hx hb d_MD_named_32 (by decide) ?_
    refine lv_istore_n (lv' := [(2, .int 0), (0, .ref h0), (1, .ref po_n)]) hx hb d_MD_named_33 rfl hl (by decide) rfl (fun ls hl => ?_)
    refine w_loop (σ := Int32) (fun u H locs ls => match u with | j34_l2 => (0 ≤ j34_l2.toInt ∧ j34_l2.toInt ≤ 20) ∧ va_P (dC, dI) cls2 (((wz_590 rf rf_backtrace rf_detailMessage rf_cause rf_stackTrace rf_depth rf_suppressedExceptions rf_reason rf_place gnm cgnm ggnm gty cgty ggty h0 rf tap h0_taped h0_length h0_kind h0_from h0_to h0_word h0_numeral gnm gpl gty gvl h0_globalCount fun_ h0_funCount h0_open h0_signs lev po_now kno h0_knownCount h0_loops mad h0_madeLength mag h0_smalls_r h0_greats_r h0_module_r h0_spare_r h0_m h0_cursor h0_limit blk stk h0_top hgt lab ous kis los h0_depth h0_function mem h0_pages glo val h0_valueTop ffu fre fba fla h0_frames lat lhe h0_labelTop h0_steps h0_there rsl h0_resultLength h0_reason h0_place arg h0_argumentCount h0_code kno ckno gkno) : va_W) ++ va_pl LP fp4) H ∧ va_D A (((wz_590 rf rf_backtrace rf_detailMessage rf_cause rf_stackTrace rf_depth rf_suppressedExceptions rf_reason rf_place gnm cgnm ggnm gty cgty ggty h0 rf tap h0_taped h0_length h0_kind h0_from h0_to h0_word h0_numeral gnm gpl gty gvl h0_globalCount fun_ h0_funCount h0_open h0_signs lev po_now kno h0_knownCount h0_loops mad h0_madeLength mag h0_smalls_r h0_greats_r h0_module_r h0_spare_r h0_m h0_cursor h0_limit blk stk h0_top hgt lab ous kis los h0_depth h0_function mem h0_pages glo val h0_valueTop ffu fre fba fla h0_frames lat lhe h0_labelTop h0_steps h0_there rsl h0_resultLength h0_reason h0_place arg h0_argumentCount h0_code kno ckno gkno) : va_W) ++ va_pl LP fp4) ∧ va_S A s.heap H locs ∧ lv_has ls 3 [(0, .ref h0), (1, .ref po_n), (2, .int j34_l2)]) (fun u => match u with | j34_l2 => (h0_globalCount.toInt - j34_l2.toInt).toNat) ?_ 0 ⟨by (try dsimp only) <;> (first | (apply Int.le_antisymm <;> omega) | omega), hP, hD, hS, lv_sub hl [1, 2, 0] rfl⟩
    intro N34 ih34 u H locs ls hN34 hI
    obtain ⟨j34_l2, rfl⟩ : ∃ z, z = u := ⟨_, rfl⟩
    obtain ⟨b_j34_l2, hP, hD, hS, hl⟩ := hI
    have hN34 : (h0_globalCount.toInt - j34_l2.toInt).toNat < N34 + 1 := hN34
    refine lv_iload_n hx hb d_MD_named_34 rfl (lv_at hl 2 rfl) ?_
    refine lv_aload_n hx hb d_MD_named_35 rfl (lv_at hl 0 rfl) ?_
    refine va_get (D := (dC, dI)) (ci := 11) (v := .int h0_globalCount) (C := R_MD) (T := F_MD) (N := 65) hx hb hts i_MD hown hK hP 3 rfl rfl 13 (by decide) (hts _ kF_MD_137) (fun _ h9 => h9) rfl d_MD_named_36 ?_
    refine lv_icmp_ge (tgt := 84) hx hb d_MD_named_39 (by decide) (fun c39 => ?_) (fun c39 => ?_)
    · have q39 := leI c39
      refine lv_aload_n hx hb d_MD_named_84 rfl (lv_at hl 0 rfl) ?_
      refine lv_iconst (v := 2) hx hb d_MD_named_85 (by decide) ?_
      refine lv_aload_n hx hb d_MD_named_86 rfl (lv_at hl 1 rfl) ?_
      obtain ⟨q6, hq6⟩ := pl_ix (X := (wz_590 rf rf_backtrace rf_detailMessage rf_cause rf_stackTrace rf_depth rf_suppressedExceptions rf_reason rf_place gnm cgnm ggnm gty cgty ggty h0 rf tap h0_taped h0_length h0_kind h0_from h0_to h0_word h0_numeral gnm gpl gty gvl h0_globalCount fun_ h0_funCount h0_open h0_signs lev po_now kno h0_knownCount h0_loops mad h0_madeLength mag h0_smalls_r h0_greats_r h0_module_r h0_spare_r h0_m h0_cursor h0_limit blk stk h0_top hgt lab ous kis los h0_depth h0_function mem h0_pages glo val h0_valueTop ffu fre fba fla h0_frames lat lhe h0_labelTop h0_steps h0_there rsl h0_resultLength h0_reason h0_place arg h0_argumentCount h0_code kno ckno gkno)) (L := LP) (f := fp4) na1 na2
      refine va_getN (D := (dC, dI)) (ci := 13) (v := .int npl) (C := R_MN) (T := F_MN) (N := 9) hx hb hts i_MN hown hK hP q6 hq6 rfl 1 (by decide) (sm_f (k := 45) hSW rfl) (fun _ h9 => h9) rfl d_MD_named_87 ?_
      have hPc := hP.sb (wq := (wz_588 h0 rf tap h0_taped h0_length h0_kind h0_from h0_to h0_word h0_numeral gnm gpl gty gvl h0_globalCount fun_ h0_funCount h0_open h0_signs lev po_now kno h0_knownCount h0_loops mad h0_madeLength mag h0_smalls_r h0_greats_r h0_module_r h0_spare_r h0_m h0_cursor h0_limit blk stk h0_top hgt lab ous kis los h0_depth h0_function mem h0_pages glo val h0_valueTop ffu fre fba fla h0_frames lat lhe h0_labelTop h0_steps h0_there rsl h0_resultLength h0_reason h0_place arg h0_argumentCount h0_code rf rf_backtrace rf_detailMessage rf_cause rf_stackTrace rf_depth rf_suppressedExceptions rf_reason rf_place)) [3, 0] rfl
      have hDc := hD.sb (wq := (wz_588 h0 rf tap h0_taped h0_length h0_kind h0_from h0_to h0_word h0_numeral gnm gpl gty gvl h0_globalCount fun_ h0_funCount h0_open h0_signs lev po_now kno h0_knownCount h0_loops mad h0_madeLength mag h0_smalls_r h0_greats_r h0_module_r h0_spare_r h0_m h0_cursor h0_limit blk stk h0_top hgt lab ous kis los h0_depth h0_function mem h0_pages glo val h0_valueTop ffu fre fba fla h0_frames lat lhe h0_labelTop h0_steps h0_there rsl h0_resultLength h0_reason h0_place arg h0_argumentCount h0_code rf rf_backtrace rf_detailMessage rf_cause rf_stackTrace rf_depth rf_suppressedExceptions rf_reason rf_place)) [3, 0] (by decide) rfl
      have hKc := hK.sb (tyq := []) [] rfl
      have hFc := va_free (wc := (wz_588 h0 rf tap h0_taped h0_length h0_kind h0_from h0_to h0_word h0_numeral gnm gpl gty gvl h0_globalCount fun_ h0_funCount h0_open h0_signs lev po_now kno h0_knownCount h0_loops mad h0_madeLength mag h0_smalls_r h0_greats_r h0_module_r h0_spare_r h0_m h0_cursor h0_limit blk stk h0_top hgt lab ous kis los h0_depth h0_function mem h0_pages glo val h0_valueTop ffu fre fba fla h0_frames lat lhe h0_labelTop h0_steps h0_there rsl h0_resultLength h0_reason h0_place arg h0_argumentCount h0_code rf rf_backtrace rf_detailMessage rf_cause rf_stackTrace rf_depth rf_suppressedExceptions rf_reason rf_place)) hD hS hA [3, 0] rfl
      refine va_callr (va_runV (As := [.int 2, .int npl]) (rest := []) ⟨hx, hb, hml, hown, hts⟩ (c_MD_no l dC dI H.size h0 rf tap gnm gpl gty gvl fun_ lev kno mad mag h0_smalls_r h0_greats_r h0_module_r h0_spare_r blk stk hgt lab ous kis los mem glo val ffu fre fba fla lat lhe rsl arg h0_taped h0_length h0_kind h0_from h0_to h0_word h0_numeral h0_globalCount h0_funCount h0_open h0_signs (.ref po_now) h0_knownCount h0_loops h0_madeLength h0_m h0_cursor h0_limit h0_top h0_depth h0_function h0_pages h0_valueTop h0_frames h0_labelTop h0_steps h0_there h0_resultLength h0_reason h0_place h0_argumentCount h0_code rf_backtrace rf_detailMessage rf_cause rf_stackTrace rf_depth rf_suppressedExceptions rf_reason rf_place 2 npl) (cwV 2 hts (gV kM_MD_115 kV_MD_no kS_MD_no kI_MD kC_MD_no) rfl rfl rfl (by decide +kernel) ⟨Nat.le_of_ble_eq_true rfl, Nat.le_of_ble_eq_true rfl⟩) ⟨fun a U g mk z => by obtain ⟨z0, z1, zP, zK, zD, zS⟩ := z; exact ⟨z0, z1, zP, va_K.moved (u := U) (U := U.calling g mk a) (Vm.Alike.refl U.vm) zK, zD, sw_nest.same (s := U) (U := U.calling g mk a) rfl zS⟩, va_recv hKc hPc (ci := 11) (q0 := 0) rfl rfl, fun U hU hW => ⟨rfl, by rw [hU], va_P.he hU.symm hPc, va_K.moved hW.alike hKc, hDc.weaken (fun _ _ _ _ => trivial), hSW.nest.warm hW⟩⟩ rfl rfl hl.1 rfl (lv_room (Nat.le_of_ble_eq_true rfl)) d_MD_named_90 ⟨(Nat.zero_le _), (Nat.zero_le _)⟩) hS (fun q _ h => hFc q h) hFc (fun u ra t H1 locs ht hvm hw hB hz1 hk1 hS => ?_)
      obtain ⟨rfl, hB⟩ := hB
      obtain ⟨n8, n9⟩ := u
      try dsimp only at hw
      have xr7 := hw
      try clear hw
      obtain ⟨hP1, hK1, hD1⟩ := hB
      replace hP1 := va_P.he ht hP1
      obtain ⟨hP, hD⟩ := va_joinQ (wr := [(gnm, .inl (cgnm, 20, .inr (.inr (.inr (.inr ggnm))))), (gty, .inl (cgty, 20, .inl ggty)), (kno, .inl (ckno, 51, .inl gkno))]) (w1 := (wz_588 h0 rf tap h0_taped h0_length h0_kind h0_from h0_to h0_word h0_numeral gnm gpl gty gvl h0_globalCount fun_ h0_funCount h0_open h0_signs lev po_now kno h0_knownCount h0_loops mad h0_madeLength mag h0_smalls_r h0_greats_r h0_module_r h0_spare_r h0_m h0_cursor h0_limit blk stk h0_top hgt lab ous kis los h0_depth h0_function mem h0_pages glo val h0_valueTop ffu fre fba fla h0_frames lat lhe h0_labelTop h0_steps h0_there rsl h0_resultLength h0_reason h0_place arg h0_argumentCount h0_code rf rf_backtrace rf_detailMessage rf_cause rf_stackTrace rf_depth rf_suppressedExceptions n9 n8)) hP hD [3, 0] [1, 2, 4] rfl rfl (by decide) (by decide) hk1 hFc hP1 hD1
      clear hPc hDc hKc hFc hz1 hk1 hP1 hK1 hD1
      rename Heap => H
      have hP : va_P (dC, dI) cls2 (([(gnm, .inl (cgnm, 20, .inr (.inr (.inr (.inr ggnm))))), (gty, .inl (cgty, 20, .inl ggty)), (kno, .inl (ckno, 51, .inl gkno)), (h0, .inr (11, (.ref rf :: .ref tap :: .int h0_taped :: .int h0_length :: .int h0_kind :: .int h0_from :: .int h0_to :: h0_word :: .long h0_numeral :: .ref gnm :: .ref gpl :: .ref gty :: .ref gvl :: .int h0_globalCount :: .ref fun_ :: .int h0_funCount :: .int h0_open :: .int h0_signs :: .ref lev :: .ref po_now :: .ref kno :: .int h0_knownCount :: .int h0_loops :: .ref mad :: .int h0_madeLength :: .ref mag :: .ref h0_smalls_r :: .ref h0_greats_r :: .ref h0_module_r :: .ref h0_spare_r :: h0_m :: .int h0_cursor :: .int h0_limit :: [ .ref blk, .ref stk, .int h0_top, .ref hgt, .ref lab, .ref ous, .ref kis, .ref los, .int h0_depth, .int h0_function, .ref mem, .int h0_pages, .ref glo, .ref val, .int h0_valueTop, .ref ffu, .ref fre, .ref fba, .ref fla, .int h0_frames, .ref lat, .ref lhe, .int h0_labelTop, .int h0_steps, .int h0_there, .ref rsl, .int h0_resultLength, .int h0_reason, .int h0_place, .ref arg, .int h0_argumentCount, .int h0_code]))), (rf, .inr (15, [rf_backtrace, rf_detailMessage, rf_cause, rf_stackTrace, .int rf_depth, rf_suppressedExceptions, .int n9, .int n8]))] : va_W) ++ va_pl LP fp4) H := hP
      have hD : va_D A (([(gnm, .inl (cgnm, 20, .inr (.inr (.inr (.inr ggnm))))), (gty, .inl (cgty, 20, .inl ggty)), (kno, .inl (ckno, 51, .inl gkno)), (h0, .inr (11, (.ref rf :: .ref tap :: .int h0_taped :: .int h0_length :: .int h0_kind :: .int h0_from :: .int h0_to :: h0_word :: .long h0_numeral :: .ref gnm :: .ref gpl :: .ref gty :: .ref gvl :: .int h0_globalCount :: .ref fun_ :: .int h0_funCount :: .int h0_open :: .int h0_signs :: .ref lev :: .ref po_now :: .ref kno :: .int h0_knownCount :: .int h0_loops :: .ref mad :: .int h0_madeLength :: .ref mag :: .ref h0_smalls_r :: .ref h0_greats_r :: .ref h0_module_r :: .ref h0_spare_r :: h0_m :: .int h0_cursor :: .int h0_limit :: [ .ref blk, .ref stk, .int h0_top, .ref hgt, .ref lab, .ref ous, .ref kis, .ref los, .int h0_depth, .int h0_function, .ref mem, .int h0_pages, .ref glo, .ref val, .int h0_valueTop, .ref ffu, .ref fre, .ref fba, .ref fla, .int h0_frames, .ref lat, .ref lhe, .int h0_labelTop, .int h0_steps, .int h0_there, .ref rsl, .int h0_resultLength, .int h0_reason, .int h0_place, .ref arg, .int h0_argumentCount, .int h0_code]))), (rf, .inr (15, [rf_backtrace, rf_detailMessage, rf_cause, rf_stackTrace, .int rf_depth, rf_suppressedExceptions, .int n9, .int n8]))] : va_W) ++ va_pl LP fp4) := hD
      have hP9 := hP.part (cx := (wz_589 h0 rf tap h0_taped h0_length h0_kind h0_from h0_to h0_word h0_numeral gnm gpl gty gvl h0_globalCount fun_ h0_funCount h0_open h0_signs lev po_now kno h0_knownCount h0_loops mad h0_madeLength mag h0_smalls_r h0_greats_r h0_module_r h0_spare_r h0_m h0_cursor h0_limit blk stk h0_top hgt lab ous kis los h0_depth h0_function mem h0_pages glo val h0_valueTop ffu fre fba fla h0_frames lat lhe h0_labelTop h0_steps h0_there rsl h0_resultLength h0_reason h0_place arg h0_argumentCount h0_code rf rf_backtrace rf_detailMessage rf_cause rf_stackTrace rf_depth rf_suppressedExceptions n9 n8 gnm cgnm ggnm gty cgty ggty kno ckno gkno)) [3, 4, 0, 1, 2] rfl
      have hD9 := hD.part (cx := (wz_589 h0 rf tap h0_taped h0_length h0_kind h0_from h0_to h0_word h0_numeral gnm gpl gty gvl h0_globalCount fun_ h0_funCount h0_open h0_signs lev po_now kno h0_knownCount h0_loops mad h0_madeLength mag h0_smalls_r h0_greats_r h0_module_r h0_spare_r h0_m h0_cursor h0_limit blk stk h0_top hgt lab ous kis los h0_depth h0_function mem h0_pages glo val h0_valueTop ffu fre fba fla h0_frames lat lhe h0_labelTop h0_steps h0_there rsl h0_resultLength h0_reason h0_place arg h0_argumentCount h0_code rf rf_backtrace rf_detailMessage rf_cause rf_stackTrace rf_depth rf_suppressedExceptions n9 n8 gnm cgnm ggnm gty cgty ggty kno ckno gkno)) [3, 4, 0, 1, 2] (by decide) rfl
      exact tz_athrow rfl hx hb hno hlocks (fun t ht hW => ⟨⟨(n8, n9, fp4), ⟨trivial, rfl, by rw [ht]; exact (show xo _ _ s H from va_recv hK hP (ci := 15) (q0 := 4) rfl rfl).moved hW.alike⟩, va_P.he ht.symm hP9, va_K.moved hW.alike hK, hD9⟩, hS.F ht⟩) hS.2.2 d_MD_named_93
    · have q39 := nleI c39
      refine lv_aload_n hx hb d_MD_named_42 rfl (lv_at hl 0 rfl) ?_
      refine va_get (D := (dC, dI)) (ci := 11) (v := .ref gnm) (C := R_MD) (T := F_MD) (N := 65) hx hb hts i_MD hown hK hP 3 rfl rfl 9 (by decide) (hts _ kF_MD_166) (fun _ h9 => h9) rfl d_MD_named_43 ?_
      refine lv_iload_n hx hb d_MD_named_46 rfl (lv_at hl 2 rfl) ?_
      have zk := i32_clamp (x := j34_l2) (by (first | (apply Int.le_antisymm <;> omega) | omega))
      obtain ⟨gt1, po_r, pr1, pr2⟩ := hgl.out j34_l2.toNatClampNeg (by (first | (apply Int.le_antisymm <;> omega) | omega))
      obtain ⟨po_r9, nbr, er9, hsr, -⟩ := pr2
      injection er9 with er9
      subst er9
      obtain ⟨s1r, svr, shr, szr, sgr, s2r, s3r, s4r, s5r, s6r, s7r, s8r, selr⟩ := hsr
      have g47 : vp_in j34_l2 20 := vp_in_iff.mpr ⟨by (first | (apply Int.le_antisymm <;> omega) | omega), by (first | (apply Int.le_antisymm <;> omega) | omega)⟩
      refine vq_aldo hx hb hK hP 1 0 rfl rfl g47 (y := po_r) pr1 d_MD_named_47 ?_
      refine lv_aload_n hx hb d_MD_named_48 rfl (lv_at hl 1 rfl) ?_
      obtain ⟨q10, hq10⟩ := pl_ix (X := (wz_590 rf rf_backtrace rf_detailMessage rf_cause rf_stackTrace rf_depth rf_suppressedExceptions rf_reason rf_place gnm cgnm ggnm gty cgty ggty h0 rf tap h0_taped h0_length h0_kind h0_from h0_to h0_word h0_numeral gnm gpl gty gvl h0_globalCount fun_ h0_funCount h0_open h0_signs lev po_now kno h0_knownCount h0_loops mad h0_madeLength mag h0_smalls_r h0_greats_r h0_module_r h0_spare_r h0_m h0_cursor h0_limit blk stk h0_top hgt lab ous kis los h0_depth h0_function mem h0_pages glo val h0_valueTop ffu fre fba fla h0_frames lat lhe h0_labelTop h0_steps h0_there rsl h0_resultLength h0_reason h0_place arg h0_argumentCount h0_code kno ckno gkno)) (L := LP) (f := fp4) na1 na2
      refine va_getN (D := (dC, dI)) (ci := 13) (v := .ref po_sr) (C := R_MN) (T := F_MN) (N := 9) hx hb hts i_MN hown hK hP q10 hq10 rfl 2 (by decide) (sm_f (k := 46) hSW rfl) (fun _ h9 => h9) rfl d_MD_named_49 ?_
      obtain ⟨s1s, svs, shs, szs, sgs, s2s, s3s, s4s, s5s, s6s, s7s, s8s, sels⟩ := hs.out
      have hPc := @vp_nil
      have hDc := hD.part0
      have hKc := hK.sb (tyq := []) [] rfl
      have hFc := va_free (wc := []) hD hS hA [] rfl
      refine va_calli (va_runV (As := [.ref po_sr]) (rest := []) ⟨hx, hb, hml, hown, hts⟩ (c_JS_equals l hlt dC dI H.size sa po_r svr nbr po_sr svs gnb (by (first | (apply Int.le_antisymm <;> omega) | omega)) (by (first | (apply Int.le_antisymm <;> omega) | omega))) (cwV 1 hts (gV kM_MD_100 kV_JS_equals kS_JS_equals kI_JS kC_JS_equals) rfl rfl rfl (by decide +kernel) ⟨Nat.le_of_ble_eq_true rfl, Nat.le_of_ble_eq_true rfl⟩) ⟨fun a U g mk z => by obtain ⟨z0, z1, zP, zK, zD, zS, zR0, zR1⟩ := z; exact ⟨z0, z1, zP, va_K.moved (u := U) (U := U.calling g mk a) (Vm.Alike.refl U.vm) zK, zD, sm.same (u := U) (U := U.calling g mk a) rfl zS, zR0.moved (u := U) (U := U.calling g mk a) (Vm.Alike.refl U.vm), zR1.moved (u := U) (U := U.calling g mk a) (Vm.Alike.refl U.vm)⟩, ro_rv (ro_Sp hts hK hP (t0 := 5) rfl s1r s2r s3r s4r s5r (no_A hP)).1, fun U hU hW => ⟨rfl, by rw [hU], va_P.he hU.symm hPc, va_K.moved hW.alike hKc, hDc.weaken (fun _ _ _ _ => trivial), hSW.call hS hFc hW hU, by rw [hU]; exact (ro_Sp hts hK hP (t0 := 5) rfl s1r s2r s3r s4r s5r (no_A hP)).moved hW.alike, by rw [hU]; exact (ro_Sp hts hK hP (t0 := 5) rfl s1s s2s s3s s4s s5s (no_A hP)).moved hW.alike⟩⟩ rfl rfl hl.1 rfl (lv_room (Nat.le_of_ble_eq_true rfl)) d_MD_named_52 ⟨(Nat.zero_le _), (Nat.zero_le _)⟩) hS (fun q _ h => hFc q h) hFc (fun r11 u t H1 locs ht hvm hw hB hz1 hk1 hS => ?_)
      try dsimp only at hw
      obtain ⟨br11, xr11⟩ := hw
      try clear hw
      have tr11 := b01 br11
      clear xr11
      obtain ⟨hP1, hK1, hD1⟩ := hB
      replace hP1 := va_P.he ht hP1
      replace hP1 := @vp_nil (dC, dI) cls2 H1
      obtain ⟨hP, hD⟩ := va_joinQ (wr := (wz_590 rf rf_backtrace rf_detailMessage rf_cause rf_stackTrace rf_depth rf_suppressedExceptions rf_reason rf_place gnm cgnm ggnm gty cgty ggty h0 rf tap h0_taped h0_length h0_kind h0_from h0_to h0_word h0_numeral gnm gpl gty gvl h0_globalCount fun_ h0_funCount h0_open h0_signs lev po_now kno h0_knownCount h0_loops mad h0_madeLength mag h0_smalls_r h0_greats_r h0_module_r h0_spare_r h0_m h0_cursor h0_limit blk stk h0_top hgt lab ous kis los h0_depth h0_function mem h0_pages glo val h0_valueTop ffu fre fba fla h0_frames lat lhe h0_labelTop h0_steps h0_there rsl h0_resultLength h0_reason h0_place arg h0_argumentCount h0_code kno ckno gkno)) (w1 := []) hP hD [] [0, 1, 2, 3, 4] rfl rfl (by decide) (by decide) hk1 hFc hP1 hD1
      clear hPc hDc hKc hFc hz1 hk1 hP1 hK1 hD1
      rename Heap => H
      have hP : va_P (dC, dI) cls2 (((wz_590 rf rf_backtrace rf_detailMessage rf_cause rf_stackTrace rf_depth rf_suppressedExceptions rf_reason rf_place gnm cgnm ggnm gty cgty ggty h0 rf tap h0_taped h0_length h0_kind h0_from h0_to h0_word h0_numeral gnm gpl gty gvl h0_globalCount fun_ h0_funCount h0_open h0_signs lev po_now kno h0_knownCount h0_loops mad h0_madeLength mag h0_smalls_r h0_greats_r h0_module_r h0_spare_r h0_m h0_cursor h0_limit blk stk h0_top hgt lab ous kis los h0_depth h0_function mem h0_pages glo val h0_valueTop ffu fre fba fla h0_frames lat lhe h0_labelTop h0_steps h0_there rsl h0_resultLength h0_reason h0_place arg h0_argumentCount h0_code kno ckno gkno) : va_W) ++ va_pl LP fp4) H := hP
      have hD : va_D A (((wz_590 rf rf_backtrace rf_detailMessage rf_cause rf_stackTrace rf_depth rf_suppressedExceptions rf_reason rf_place gnm cgnm ggnm gty cgty ggty h0 rf tap h0_taped h0_length h0_kind h0_from h0_to h0_word h0_numeral gnm gpl gty gvl h0_globalCount fun_ h0_funCount h0_open h0_signs lev po_now kno h0_knownCount h0_loops mad h0_madeLength mag h0_smalls_r h0_greats_r h0_module_r h0_spare_r h0_m h0_cursor h0_limit blk stk h0_top hgt lab ous kis los h0_depth h0_function mem h0_pages glo val h0_valueTop ffu fre fba fla h0_frames lat lhe h0_labelTop h0_steps h0_there rsl h0_resultLength h0_reason h0_place arg h0_argumentCount h0_code kno ckno gkno) : va_W) ++ va_pl LP fp4) := hD
      refine lv_if_ne (tgt := 61) hx hb d_MD_named_55 (by decide) (fun c55 => ?_) (fun c55 => ?_)
      · have q55 := neI c55
        refine lv_aload_n hx hb d_MD_named_61 rfl (lv_at hl 1 rfl) ?_
        refine lv_iload_n hx hb d_MD_named_62 rfl (lv_at hl 2 rfl) ?_
        have hP : va_P (dC, dI) cls2 (((wz_590 rf rf_backtrace rf_detailMessage rf_cause rf_stackTrace rf_depth rf_suppressedExceptions rf_reason rf_place gnm cgnm ggnm gty cgty ggty h0 rf tap h0_taped h0_length h0_kind h0_from h0_to h0_word h0_numeral gnm gpl gty gvl h0_globalCount fun_ h0_funCount h0_open h0_signs lev po_now kno h0_knownCount h0_loops mad h0_madeLength mag h0_smalls_r h0_greats_r h0_module_r h0_spare_r h0_m h0_cursor h0_limit blk stk h0_top hgt lab ous kis los h0_depth h0_function mem h0_pages glo val h0_valueTop ffu fre fba fla h0_frames lat lhe h0_labelTop h0_steps h0_there rsl h0_resultLength h0_reason h0_place arg h0_argumentCount h0_code kno ckno gkno) : va_W) ++ va_pl LP fp4) H := hP
        have hD : va_D A (((wz_590 rf rf_backtrace rf_detailMessage rf_cause rf_stackTrace rf_depth rf_suppressedExceptions rf_reason rf_place gnm cgnm ggnm gty cgty ggty h0 rf tap h0_taped h0_length h0_kind h0_from h0_to h0_word h0_numeral gnm gpl gty gvl h0_globalCount fun_ h0_funCount h0_open h0_signs lev po_now kno h0_knownCount h0_loops mad h0_madeLength mag h0_smalls_r h0_greats_r h0_module_r h0_spare_r h0_m h0_cursor h0_limit blk stk h0_top hgt lab ous kis los h0_depth h0_function mem h0_pages glo val h0_valueTop ffu fre fba fla h0_frames lat lhe h0_labelTop h0_steps h0_there rsl h0_resultLength h0_reason h0_place arg h0_argumentCount h0_code kno ckno gkno) : va_W) ++ va_pl LP fp4) := hD
        obtain ⟨q12, hq12⟩ := pl_ix (X := (wz_590 rf rf_backtrace rf_detailMessage rf_cause rf_stackTrace rf_depth rf_suppressedExceptions rf_reason rf_place gnm cgnm ggnm gty cgty ggty h0 rf tap h0_taped h0_length h0_kind h0_from h0_to h0_word h0_numeral gnm gpl gty gvl h0_globalCount fun_ h0_funCount h0_open h0_signs lev po_now kno h0_knownCount h0_loops mad h0_madeLength mag h0_smalls_r h0_greats_r h0_module_r h0_spare_r h0_m h0_cursor h0_limit blk stk h0_top hgt lab ous kis los h0_depth h0_function mem h0_pages glo val h0_valueTop ffu fre fba fla h0_frames lat lhe h0_labelTop h0_steps h0_there rsl h0_resultLength h0_reason h0_place arg h0_argumentCount h0_code kno ckno gkno)) (L := LP) (f := fp4) na1 na2
        have hD0 := hD
        refine va_putN (D := (dC, dI)) (ci := 13) (v := .int j34_l2) (ty := .int) (C := R_MN) (T := F_MN) (N := 9) hx hb hts i_MN t_MN t_MN_ok n_MN hown hK hP hD hS q12 hq12 rfl 7 (by decide) (sm_f (k := 51) hSW rfl) (fun _ h9 => h9) rfl (by decide +kernel) rfl rfl (Nat.le_of_ble_eq_true rfl) d_MD_named_63 (fun H locs hP hD hS => ?_)
        rw [pl_set hD0 na1 hq12] at hP hD
        clear hD0
        obtain ⟨fp13, efp13⟩ : ∃ z, z = va_up fp4 po_n (.inr (13, [.int nop, .int npl, .ref po_sr, .long nv, .int nt, .ref po_np, .int ncnt, .int j34_l2, .int ngl])) := ⟨_, rfl⟩
        have hP : va_P (dC, dI) cls2 (((wz_590 rf rf_backtrace rf_detailMessage rf_cause rf_stackTrace rf_depth rf_suppressedExceptions rf_reason rf_place gnm cgnm ggnm gty cgty ggty h0 rf tap h0_taped h0_length h0_kind h0_from h0_to h0_word h0_numeral gnm gpl gty gvl h0_globalCount fun_ h0_funCount h0_open h0_signs lev po_now kno h0_knownCount h0_loops mad h0_madeLength mag h0_smalls_r h0_greats_r h0_module_r h0_spare_r h0_m h0_cursor h0_limit blk stk h0_top hgt lab ous kis los h0_depth h0_function mem h0_pages glo val h0_valueTop ffu fre fba fla h0_frames lat lhe h0_labelTop h0_steps h0_there rsl h0_resultLength h0_reason h0_place arg h0_argumentCount h0_code kno ckno gkno) : va_W) ++ va_pl LP fp13) H := by rw [efp13]; exact hP
        have hD : va_D A (((wz_590 rf rf_backtrace rf_detailMessage rf_cause rf_stackTrace rf_depth rf_suppressedExceptions rf_reason rf_place gnm cgnm ggnm gty cgty ggty h0 rf tap h0_taped h0_length h0_kind h0_from h0_to h0_word h0_numeral gnm gpl gty gvl h0_globalCount fun_ h0_funCount h0_open h0_signs lev po_now kno h0_knownCount h0_loops mad h0_madeLength mag h0_smalls_r h0_greats_r h0_module_r h0_spare_r h0_m h0_cursor h0_limit blk stk h0_top hgt lab ous kis los h0_depth h0_function mem h0_pages glo val h0_valueTop ffu fre fba fla h0_frames lat lhe h0_labelTop h0_steps h0_there rsl h0_resultLength h0_reason h0_place arg h0_argumentCount h0_code kno ckno gkno) : va_W) ++ va_pl LP fp13) := by rw [efp13]; exact hD
        have ofp13 := na2
        have nwb := up_o (e := .inr (13, [.int nop, .int npl, .ref po_sr, .long nv, .int nt, .ref po_np, .int ncnt, .int j34_l2, .int ngl])) nwb ofp13 (by decide)
        rw [← efp13] at nwb
        have nnb := up_a (e := .inr (13, [.int nop, .int npl, .ref po_sr, .long nv, .int nt, .ref po_np, .int ncnt, .int j34_l2, .int ngl])) nnb ofp13
        rw [← efp13] at nnb
        have nyb := up_a (e := .inr (13, [.int nop, .int npl, .ref po_sr, .long nv, .int nt, .ref po_np, .int ncnt, .int j34_l2, .int ngl])) nyb ofp13
        rw [← efp13] at nyb
        have na2 : fp13 po_n = .inr (13, [.int nop, .int npl, .ref po_sr, .long nv, .int nt, .ref po_np, .int ncnt, .int j34_l2, .int ngl]) := by rw [efp13]; exact va_up_self _ _ _
        have cu : bx (cgn (fun _ => True) fp4 fp13) := by rw [efp13]; exact cgn.up ofp13 trivial
        have hs : bx (strP LP fp13 cpb po_sr gnb) := (cu.out.kp (cpn := cpn)).str hs.out
        have hgl : bx (glt LP fp13 cpb h0_globalCount.toInt ggnm ggty) := glt.kp (cu.out.kp (cpn := cpn)) hgl.out
        clear cu
        refine lv_aload_n hx hb d_MD_named_66 rfl (lv_at hl 1 rfl) ?_
        refine lv_iconst (v := 1) hx hb d_MD_named_67 (by decide) ?_
        have hP : va_P (dC, dI) cls2 (((wz_590 rf rf_backtrace rf_detailMessage rf_cause rf_stackTrace rf_depth rf_suppressedExceptions rf_reason rf_place gnm cgnm ggnm gty cgty ggty h0 rf tap h0_taped h0_length h0_kind h0_from h0_to h0_word h0_numeral gnm gpl gty gvl h0_globalCount fun_ h0_funCount h0_open h0_signs lev po_now kno h0_knownCount h0_loops mad h0_madeLength mag h0_smalls_r h0_greats_r h0_module_r h0_spare_r h0_m h0_cursor h0_limit blk stk h0_top hgt lab ous kis los h0_depth h0_function mem h0_pages glo val h0_valueTop ffu fre fba fla h0_frames lat lhe h0_labelTop h0_steps h0_there rsl h0_resultLength h0_reason h0_place arg h0_argumentCount h0_code kno ckno gkno) : va_W) ++ va_pl LP fp13) H := hP
        have hD : va_D A (((wz_590 rf rf_backtrace rf_detailMessage rf_cause rf_stackTrace rf_depth rf_suppressedExceptions rf_reason rf_place gnm cgnm ggnm gty cgty ggty h0 rf tap h0_taped h0_length h0_kind h0_from h0_to h0_word h0_numeral gnm gpl gty gvl h0_globalCount fun_ h0_funCount h0_open h0_signs lev po_now kno h0_knownCount h0_loops mad h0_madeLength mag h0_smalls_r h0_greats_r h0_module_r h0_spare_r h0_m h0_cursor h0_limit blk stk h0_top hgt lab ous kis los h0_depth h0_function mem h0_pages glo val h0_valueTop ffu fre fba fla h0_frames lat lhe h0_labelTop h0_steps h0_there rsl h0_resultLength h0_reason h0_place arg h0_argumentCount h0_code kno ckno gkno) : va_W) ++ va_pl LP fp13) := hD
        obtain ⟨q14, hq14⟩ := pl_ix (X := (wz_590 rf rf_backtrace rf_detailMessage rf_cause rf_stackTrace rf_depth rf_suppressedExceptions rf_reason rf_place gnm cgnm ggnm gty cgty ggty h0 rf tap h0_taped h0_length h0_kind h0_from h0_to h0_word h0_numeral gnm gpl gty gvl h0_globalCount fun_ h0_funCount h0_open h0_signs lev po_now kno h0_knownCount h0_loops mad h0_madeLength mag h0_smalls_r h0_greats_r h0_module_r h0_spare_r h0_m h0_cursor h0_limit blk stk h0_top hgt lab ous kis los h0_depth h0_function mem h0_pages glo val h0_valueTop ffu fre fba fla h0_frames lat lhe h0_labelTop h0_steps h0_there rsl h0_resultLength h0_reason h0_place arg h0_argumentCount h0_code kno ckno gkno)) (L := LP) (f := fp13) na1 na2
        have hD0 := hD
        refine va_putN (D := (dC, dI)) (ci := 13) (v := .int 1) (ty := .boolean) (C := R_MN) (T := F_MN) (N := 9) hx hb hts i_MN t_MN t_MN_ok n_MN hown hK hP hD hS q14 hq14 rfl 8 (by decide) (sm_f (k := 52) hSW rfl) (fun _ h9 => h9) rfl (by decide +kernel) rfl rfl (Nat.le_of_ble_eq_true rfl) d_MD_named_68 (fun H locs hP hD hS => ?_)
        rw [pl_set hD0 na1 hq14] at hP hD
        clear hD0
        obtain ⟨fp15, efp15⟩ : ∃ z, z = va_up fp13 po_n (.inr (13, [.int nop, .int npl, .ref po_sr, .long nv, .int nt, .ref po_np, .int ncnt, .int j34_l2, .int 1])) := ⟨_, rfl⟩
        have hP : va_P (dC, dI) cls2 (((wz_590 rf rf_backtrace rf_detailMessage rf_cause rf_stackTrace rf_depth rf_suppressedExceptions rf_reason rf_place gnm cgnm ggnm gty cgty ggty h0 rf tap h0_taped h0_length h0_kind h0_from h0_to h0_word h0_numeral gnm gpl gty gvl h0_globalCount fun_ h0_funCount h0_open h0_signs lev po_now kno h0_knownCount h0_loops mad h0_madeLength mag h0_smalls_r h0_greats_r h0_module_r h0_spare_r h0_m h0_cursor h0_limit blk stk h0_top hgt lab ous kis los h0_depth h0_function mem h0_pages glo val h0_valueTop ffu fre fba fla h0_frames lat lhe h0_labelTop h0_steps h0_there rsl h0_resultLength h0_reason h0_place arg h0_argumentCount h0_code kno ckno gkno) : va_W) ++ va_pl LP fp15) H := by rw [efp15]; exact hP
        have hD : va_D A (((wz_590 rf rf_backtrace rf_detailMessage rf_cause rf_stackTrace rf_depth rf_suppressedExceptions rf_reason rf_place gnm cgnm ggnm gty cgty ggty h0 rf tap h0_taped h0_length h0_kind h0_from h0_to h0_word h0_numeral gnm gpl gty gvl h0_globalCount fun_ h0_funCount h0_open h0_signs lev po_now kno h0_knownCount h0_loops mad h0_madeLength mag h0_smalls_r h0_greats_r h0_module_r h0_spare_r h0_m h0_cursor h0_limit blk stk h0_top hgt lab ous kis los h0_depth h0_function mem h0_pages glo val h0_valueTop ffu fre fba fla h0_frames lat lhe h0_labelTop h0_steps h0_there rsl h0_resultLength h0_reason h0_place arg h0_argumentCount h0_code kno ckno gkno) : va_W) ++ va_pl LP fp15) := by rw [efp15]; exact hD
        have ofp15 := na2
        have nwb := up_o (e := .inr (13, [.int nop, .int npl, .ref po_sr, .long nv, .int nt, .ref po_np, .int ncnt, .int j34_l2, .int 1])) nwb ofp15 (by decide)
        rw [← efp15] at nwb
        have nnb := up_a (e := .inr (13, [.int nop, .int npl, .ref po_sr, .long nv, .int nt, .ref po_np, .int ncnt, .int j34_l2, .int 1])) nnb ofp15
        rw [← efp15] at nnb
        have nyb := up_a (e := .inr (13, [.int nop, .int npl, .ref po_sr, .long nv, .int nt, .ref po_np, .int ncnt, .int j34_l2, .int 1])) nyb ofp15
        rw [← efp15] at nyb
        have na2 : fp15 po_n = .inr (13, [.int nop, .int npl, .ref po_sr, .long nv, .int nt, .ref po_np, .int ncnt, .int j34_l2, .int 1]) := by rw [efp15]; exact va_up_self _ _ _
        have cu : bx (cgn (fun _ => True) fp13 fp15) := by rw [efp15]; exact cgn.up ofp15 trivial
        have hs : bx (strP LP fp15 cpb po_sr gnb) := (cu.out.kp (cpn := cpn)).str hs.out
        have hgl : bx (glt LP fp15 cpb h0_globalCount.toInt ggnm ggty) := glt.kp (cu.out.kp (cpn := cpn)) hgl.out
        clear cu
        refine lv_aload_n hx hb d_MD_named_71 rfl (lv_at hl 0 rfl) ?_
        refine va_get (D := (dC, dI)) (ci := 11) (v := .ref gty) (C := R_MD) (T := F_MD) (N := 65) hx hb hts i_MD hown hK hP 3 rfl rfl 11 (by decide) (hts _ kF_MD_175) (fun _ h9 => h9) rfl d_MD_named_72 ?_
        refine lv_iload_n hx hb d_MD_named_75 rfl (lv_at hl 2 rfl) ?_
        have g76 : vp_in j34_l2 20 := vp_in_iff.mpr ⟨by (first | (apply Int.le_antisymm <;> omega) | omega), by (first | (apply Int.le_antisymm <;> omega) | omega)⟩
        refine va_iald hx hb hK hP 2 1 rfl rfl g76 d_MD_named_76 ?_
        refine lv_topi (fun x16 ex16 => ?_)
        have tt_ : t27 x16.toInt := by rw [ex16]; exact gt1
        have hP9 := hP.part (cx := (wz_589 h0 rf tap h0_taped h0_length h0_kind h0_from h0_to h0_word h0_numeral gnm gpl gty gvl h0_globalCount fun_ h0_funCount h0_open h0_signs lev po_now kno h0_knownCount h0_loops mad h0_madeLength mag h0_smalls_r h0_greats_r h0_module_r h0_spare_r h0_m h0_cursor h0_limit blk stk h0_top hgt lab ous kis los h0_depth h0_function mem h0_pages glo val h0_valueTop ffu fre fba fla h0_frames lat lhe h0_labelTop h0_steps h0_there rsl h0_resultLength h0_reason h0_place arg h0_argumentCount h0_code rf rf_backtrace rf_detailMessage rf_cause rf_stackTrace rf_depth rf_suppressedExceptions rf_reason rf_place gnm cgnm ggnm gty cgty ggty kno ckno gkno)) [3, 0, 1, 2, 4] rfl
        have hD9 := hD.part (cx := (wz_589 h0 rf tap h0_taped h0_length h0_kind h0_from h0_to h0_word h0_numeral gnm gpl gty gvl h0_globalCount fun_ h0_funCount h0_open h0_signs lev po_now kno h0_knownCount h0_loops mad h0_madeLength mag h0_smalls_r h0_greats_r h0_module_r h0_spare_r h0_m h0_cursor h0_limit blk stk h0_top hgt lab ous kis los h0_depth h0_function mem h0_pages glo val h0_valueTop ffu fre fba fla h0_frames lat lhe h0_labelTop h0_steps h0_there rsl h0_resultLength h0_reason h0_place arg h0_argumentCount h0_code rf rf_backtrace rf_detailMessage rf_cause rf_stackTrace rf_depth rf_suppressedExceptions rf_reason rf_place gnm cgnm ggnm gty cgty ggty kno ckno gkno)) [3, 0, 1, 2, 4] (by decide) rfl
        exact tz_up (fun _ => rfl) (W.iret (v := x16) hx hb hr (fun t ht hW => ⟨⟨(rf_place, rf_reason, fp15), ⟨x16, rfl, (⟨tt_, j34_l2, 1, (by rw [efp15, efp13, efp4, up_up, up_up]), by (try dsimp only) <;> (first | (apply Int.le_antisymm <;> omega) | omega)⟩)⟩, va_P.he ht.symm hP9, va_K.moved hW.alike hK, hD9⟩, hS.F ht⟩) hS.2.2 d_MD_named_77)
      · have q55 := eqI c55
        refine lv_goto (tgt := 78) hx hb d_MD_named_58 (by decide) ?_
        obtain ⟨x17, ex17⟩ : ∃ z : Int32, z = j34_l2 + 1 := ⟨_, rfl⟩
        have tx17 : x17.toInt = j34_l2.toInt + 1 := by have z := i32_add ex17 (by (first | (apply Int.le_antisymm <;> omega) | omega)) (by (first | (apply Int.le_antisymm <;> omega) | omega)); first | exact z | (first | (apply Int.le_antisymm <;> omega) | omega)
        refine lv_iinc (v := x17) (lv' := [(2, .int x17), (0, .ref h0), (1, .ref po_n)]) hx hb d_MD_named_78 hl (k := 2) rfl (by rw [ex17]; rfl) (by decide) rfl (fun ls hl => ?_)
        refine lv_goto (tgt := 34) hx hb d_MD_named_81 (by decide) ?_
        exact ih34 x17 _ _ _ (by show (h0_globalCount.toInt - x17.toInt).toNat < N34; (first | (apply Int.le_antisymm <;> omega) | omega)) ⟨by (try dsimp only) <;> (first | (apply Int.le_antisymm <;> omega) | omega), hP, hD, hS, lv_sub hl [1, 2, 0] rfl⟩
  · have q16 := nltI c16
    refine lv_aload_n hx hb d_MD_named_19 rfl (lv_at hl 0 rfl) ?_
    refine va_get (D := (dC, dI)) (ci := 11) (v := .ref po_now) (C := R_MD) (T := F_MD) (N := 65) hx hb hts i_MD hown hK hP 3 rfl rfl 19 (by decide) (hts _ kF_MD_303) (fun _ h9 => h9) rfl d_MD_named_20 ?_
    obtain ⟨q18, hq18⟩ := pl_ix (X := (wz_590 rf rf_backtrace rf_detailMessage rf_cause rf_stackTrace rf_depth rf_suppressedExceptions rf_reason rf_place gnm cgnm ggnm gty cgty ggty h0 rf tap h0_taped h0_length h0_kind h0_from h0_to h0_word h0_numeral gnm gpl gty gvl h0_globalCount fun_ h0_funCount h0_open h0_signs lev po_now kno h0_knownCount h0_loops mad h0_madeLength mag h0_smalls_r h0_greats_r h0_module_r h0_spare_r h0_m h0_cursor h0_limit blk stk h0_top hgt lab ous kis los h0_depth h0_function mem h0_pages glo val h0_valueTop ffu fre fba fla h0_frames lat lhe h0_labelTop h0_steps h0_there rsl h0_resultLength h0_reason h0_place arg h0_argumentCount h0_code kno ckno gkno)) (L := LP) (f := fp4) nwa nwb
    refine va_getN (D := (dC, dI)) (ci := 14) (v := .ref po_fys) (C := R_MF) (T := F_MF) (N := 10) hx hb hts i_MF hown hK hP q18 hq18 rfl 4 (by decide) (sm_f (k := 38) hSW rfl) (fun _ h9 => h9) rfl d_MD_named_23 ?_
    refine lv_aload_n hx hb d_MD_named_26 rfl (lv_at hl 1 rfl) ?_
    obtain ⟨q19, hq19⟩ := pl_ix (X := (wz_590 rf rf_backtrace rf_detailMessage rf_cause rf_stackTrace rf_depth rf_suppressedExceptions rf_reason rf_place gnm cgnm ggnm gty cgty ggty h0 rf tap h0_taped h0_length h0_kind h0_from h0_to h0_word h0_numeral gnm gpl gty gvl h0_globalCount fun_ h0_funCount h0_open h0_signs lev po_now kno h0_knownCount h0_loops mad h0_madeLength mag h0_smalls_r h0_greats_r h0_module_r h0_spare_r h0_m h0_cursor h0_limit blk stk h0_top hgt lab ous kis los h0_depth h0_function mem h0_pages glo val h0_valueTop ffu fre fba fla h0_frames lat lhe h0_labelTop h0_steps h0_there rsl h0_resultLength h0_reason h0_place arg h0_argumentCount h0_code kno ckno gkno)) (L := LP) (f := fp4) na1 na2
    refine va_getN (D := (dC, dI)) (ci := 13) (v := .int r2) (C := R_MN) (T := F_MN) (N := 9) hx hb hts i_MN hown hK hP q19 hq19 rfl 7 (by decide) (sm_f (k := 51) hSW rfl) (fun _ h9 => h9) rfl d_MD_named_27 ?_
    obtain ⟨q20, hq20⟩ := pl_ix (X := (wz_590 rf rf_backtrace rf_detailMessage rf_cause rf_stackTrace rf_depth rf_suppressedExceptions rf_reason rf_place gnm cgnm ggnm gty cgty ggty h0 rf tap h0_taped h0_length h0_kind h0_from h0_to h0_word h0_numeral gnm gpl gty gvl h0_globalCount fun_ h0_funCount h0_open h0_signs lev po_now kno h0_knownCount h0_loops mad h0_madeLength mag h0_smalls_r h0_greats_r h0_module_r h0_spare_r h0_m h0_cursor h0_limit blk stk h0_top hgt lab ous kis los h0_depth h0_function mem h0_pages glo val h0_valueTop ffu fre fba fla h0_frames lat lhe h0_labelTop h0_steps h0_there rsl h0_resultLength h0_reason h0_place arg h0_argumentCount h0_code kno ckno gkno)) (L := LP) (f := fp4) nya nyb
    have g30 : vp_in r2 51 := vp_in_iff.mpr ⟨by (first | (apply Int.le_antisymm <;> omega) | omega), by (first | (apply Int.le_antisymm <;> omega) | omega)⟩
    refine va_iald hx hb hK hP q20 3 hq20 rfl g30 d_MD_named_30 ?_
    refine lv_topi (fun x21 ex21 => ?_)
    have zk := i32_clamp (x := r2) (by (first | (apply Int.le_antisymm <;> omega) | omega))
    have tt_ : t27 x21.toInt := by rw [ex21]; exact (hpar.out _ (by (first | (apply Int.le_antisymm <;> omega) | omega))).1
    have hP9 := hP.part (cx := (wz_589 h0 rf tap h0_taped h0_length h0_kind h0_from h0_to h0_word h0_numeral gnm gpl gty gvl h0_globalCount fun_ h0_funCount h0_open h0_signs lev po_now kno h0_knownCount h0_loops mad h0_madeLength mag h0_smalls_r h0_greats_r h0_module_r h0_spare_r h0_m h0_cursor h0_limit blk stk h0_top hgt lab ous kis los h0_depth h0_function mem h0_pages glo val h0_valueTop ffu fre fba fla h0_frames lat lhe h0_labelTop h0_steps h0_there rsl h0_resultLength h0_reason h0_place arg h0_argumentCount h0_code rf rf_backtrace rf_detailMessage rf_cause rf_stackTrace rf_depth rf_suppressedExceptions rf_reason rf_place gnm cgnm ggnm gty cgty ggty kno ckno gkno)) [3, 0, 1, 2, 4] rfl
    have hD9 := hD.part (cx := (wz_589 h0 rf tap h0_taped h0_length h0_kind h0_from h0_to h0_word h0_numeral gnm gpl gty gvl h0_globalCount fun_ h0_funCount h0_open h0_signs lev po_now kno h0_knownCount h0_loops mad h0_madeLength mag h0_smalls_r h0_greats_r h0_module_r h0_spare_r h0_m h0_cursor h0_limit blk stk h0_top hgt lab ous kis los h0_depth h0_function mem h0_pages glo val h0_valueTop ffu fre fba fla h0_frames lat lhe h0_labelTop h0_steps h0_there rsl h0_resultLength h0_reason h0_place arg h0_argumentCount h0_code rf rf_backtrace rf_detailMessage rf_cause rf_stackTrace rf_depth rf_suppressedExceptions rf_reason rf_place gnm cgnm ggnm gty cgty ggty kno ckno gkno)) [3, 0, 1, 2, 4] (by decide) rfl
    exact tz_up (fun _ => rfl) (W.iret (v := x21) hx hb hr (fun t ht hW => ⟨⟨(rf_place, rf_reason, fp4), ⟨x21, rfl, (⟨tt_, r2, ngl, efp4, by (try dsimp only) <;> (first | (apply Int.le_antisymm <;> omega) | omega)⟩)⟩, va_P.he ht.symm hP9, va_K.moved hW.alike hK, hD9⟩, hS.F ht⟩) hS.2.2 d_MD_named_31)
end q_n18
section q_n19
/-! the reference: types of values: trees -/
theorem uvc_op {L : List Nat} {f : Nat → va_E} {cpb : ClassId} {T : Nat → Int → Nat → Prop} {op : Int32} {nm : Value} {v : Int64} {t cnt : Int32} {g : Nat → Option Nat} {c : Int} {b : Nat} (h : uvc L f cpb T op nm v t cnt g c b) : (0 ≤ op.toInt ∧ op.toInt ≤ 5) ∧ 8 ≤ c ∨ (op.toInt = 2 ∨ op.toInt = 3 ∨ op.toInt = 4 ∨ op.toInt = 5) := by
  rcases h with ⟨q, h1, h2, h3⟩ | ⟨q, h1, h2⟩ | ⟨q, h⟩ | ⟨q, h⟩ | ⟨q, h⟩ | ⟨q, h⟩
  · exact Or.inl ⟨by (first | (apply Int.le_antisymm <;> omega) | omega), h2⟩
  · exact Or.inl ⟨by (first | (apply Int.le_antisymm <;> omega) | omega), by (first | (apply Int.le_antisymm <;> omega) | omega)⟩
  all_goals (clear h; exact Or.inr (by (first | (apply Int.le_antisymm <;> omega) | omega)))
section UVC
variable {L : List Nat} {f f2 : Nat → va_E} {cpn cpb : ClassId} {T : Nat → Int → Nat → Prop} {op : Int32} {nm : Value} {v : Int64} {t cnt : Int32} {g : Nat → Option Nat} {c : Int} {b : Nat} {K : Nat → Prop}
theorem uvc_0 (h : uvc L f cpb T op nm v t cnt g c b) (e : op.toInt = 0) : ((t.toInt = 127 ∧ in32 v) ∨ t.toInt = 126) ∧ 8 ≤ c ∧ 5 * (1 + ((sleb 10 v.toInt).length : Int)) ≤ c := by
  rcases h with ⟨q, h⟩ | ⟨q, h⟩ | ⟨q, h⟩ | ⟨q, h⟩ | ⟨q, h⟩ | ⟨q, h⟩
  · exact h
  all_goals (exfalso; clear h; (first | (apply Int.le_antisymm <;> omega) | omega))
theorem uvc_1 (h : uvc L f cpb T op nm v t cnt g c b) (e : op.toInt = 1) : nmP L f cpb nm ∧ 10 ≤ c := by
  rcases h with ⟨q, h⟩ | ⟨q, h⟩ | ⟨q, h⟩ | ⟨q, h⟩ | ⟨q, h⟩ | ⟨q, h⟩
  · exfalso; clear h; (first | (apply Int.le_antisymm <;> omega) | omega)
  · exact h
  all_goals (exfalso; clear h; (first | (apply Int.le_antisymm <;> omega) | omega))
theorem uvc_2 (h : uvc L f cpb T op nm v t cnt g c b) (e : op.toInt = 2) : nmP L f cpb nm ∧ cnt.toInt ≤ 8 ∧ ∃ (cf : Nat → Nat) (kf : Nat → Int), (∀ i : Nat, (i : Int) < cnt.toInt → g i = some (cf i) ∧ 0 ≤ kf i ∧ T (cf i) (kf i) b) ∧ ksum kf cnt.toInt.toNat + 15 ≤ c := by
  rcases h with ⟨q, h⟩ | ⟨q, h⟩ | ⟨q, h⟩ | ⟨q, h⟩ | ⟨q, h⟩ | ⟨q, h⟩
  · exfalso; clear h; (first | (apply Int.le_antisymm <;> omega) | omega)
  · exfalso; clear h; (first | (apply Int.le_antisymm <;> omega) | omega)
  · exact h
  all_goals (exfalso; clear h; (first | (apply Int.le_antisymm <;> omega) | omega))
theorem uvc_3 (h : uvc L f cpb T op nm v t cnt g c b) (e : op.toInt = 3) : (v.toInt = 126 ∨ v.toInt = 127) ∧ cnt.toInt = 1 ∧ ∃ (c0 : Nat) (k0 : Int), g 0 = some c0 ∧ T c0 k0 b ∧ 0 ≤ k0 ∧ k0 + 8 ≤ c := by
  rcases h with ⟨q, h⟩ | ⟨q, h⟩ | ⟨q, h⟩ | ⟨q, h⟩ | ⟨q, h⟩ | ⟨q, h⟩
  · exfalso; clear h; (first | (apply Int.le_antisymm <;> omega) | omega)
  · exfalso; clear h; (first | (apply Int.le_antisymm <;> omega) | omega)
  · exfalso; clear h; (first | (apply Int.le_antisymm <;> omega) | omega)
  · exact h
  all_goals (exfalso; clear h; (first | (apply Int.le_antisymm <;> omega) | omega))
theorem uvc_5 (h : uvc L f cpb T op nm v t cnt g c b) (e : op.toInt = 5) : cnt.toInt = 1 ∧ ∃ (c0 : Nat) (k0 : Int), g 0 = some c0 ∧ T c0 k0 b ∧ 0 ≤ k0 ∧ k0 + 16 ≤ c := by
  rcases h with ⟨q, h⟩ | ⟨q, h⟩ | ⟨q, h⟩ | ⟨q, h⟩ | ⟨q, h⟩ | ⟨q, h⟩
  · exfalso; clear h; (first | (apply Int.le_antisymm <;> omega) | omega)
  · exfalso; clear h; (first | (apply Int.le_antisymm <;> omega) | omega)
  · exfalso; clear h; (first | (apply Int.le_antisymm <;> omega) | omega)
  · exfalso; clear h; (first | (apply Int.le_antisymm <;> omega) | omega)
  · exact h
  · exfalso; clear h; (first | (apply Int.le_antisymm <;> omega) | omega)
theorem uvc_4 (h : uvc L f cpb T op nm v t cnt g c b) (e : op.toInt = 4) : cnt.toInt = 2 ∧ ∃ (c0 c1 : Nat) (k0 k1 : Int) (b1 sr : Nat) (nb : List Int32), g 0 = some c0 ∧ g 1 = some c1 ∧ T c0 k0 b ∧ T c1 k1 b1 ∧ b1 + lg9 nb ≤ b ∧ 0 ≤ k0 ∧ 0 ≤ k1 ∧ nm = .ref sr ∧ strP L f cpb sr nb ∧ k0 + k1 + ocost nb ≤ c ∧ nb.length ≤ 3 := by
  rcases h with ⟨q, h⟩ | ⟨q, h⟩ | ⟨q, h⟩ | ⟨q, h⟩ | ⟨q, h⟩ | ⟨q, h⟩
  · exfalso; clear h; (first | (apply Int.le_antisymm <;> omega) | omega)
  · exfalso; clear h; (first | (apply Int.le_antisymm <;> omega) | omega)
  · exfalso; clear h; (first | (apply Int.le_antisymm <;> omega) | omega)
  · exfalso; clear h; (first | (apply Int.le_antisymm <;> omega) | omega)
  · exfalso; clear h; (first | (apply Int.le_antisymm <;> omega) | omega)
  · exact h
theorem oc_8 {nb : List Int32} : 8 ≤ ocost nb := by unfold ocost; split <;> (first | (apply Int.le_antisymm <;> omega) | omega)
theorem uv_c {d a : Nat} (h : uv L f cpn cpb d a c b) : 8 ≤ c := by
  cases d with
  | zero => exact h.elim
  | succ d =>
    obtain ⟨op, pl, nm, v, t, p, n, cnt, ix, gl, hq9r⟩ := h
    obtain ⟨g, h1, h2, h3, h4, h5, h⟩ := hq9r
    rcases h with ⟨q, h1, h2, h3⟩ | ⟨q, h1, h2⟩ | ⟨q, h1, h2, cf, kf, h3, h4⟩ | ⟨q, h1, h2, c0, k0, h3, h4, h5, h6⟩ | ⟨q, h1, c0, k0, h3, h4, h5, h6⟩ | ⟨q, h1, c0, c1, k0, k1, b1, sr, nb, h3, h4, h5, h6, h7, h8, h9, h10, h11, h12, h13⟩
    · exact h2
    · (first | (apply Int.le_antisymm <;> omega) | omega)
    · have := ks_0 (kf := kf) (n := cnt.toInt.toNat) (fun i hi => (h3 i (by (first | (apply Int.le_antisymm <;> omega) | omega))).2.1)
      (first | (apply Int.le_antisymm <;> omega) | omega)
    · (first | (apply Int.le_antisymm <;> omega) | omega)
    · (first | (apply Int.le_antisymm <;> omega) | omega)
    · have := oc_8 (nb := nb)
      (first | (apply Int.le_antisymm <;> omega) | omega)
/-- a tree before its types, opened: its node, its parts, whose they are -/
theorem ut_out {d e a : Nat} (h : uv L f cpn cpb d a c b) (hf : fp L f cpn e a K) : ∃ (d1 : Nat) (op pl : Int32) (nm : Value) (v : Int64) (t : Int32) (p n : Nat) (cnt ix gl : Int32) (g : Nat → Option Nat) (Kf : Nat → Nat → Prop), d = d1 + 1 ∧ (a ∈ L ∧ nP f a op pl nm v t p cnt ix gl) ∧ aP L f cpn p n g ∧ (0 ≤ cnt.toInt ∧ cnt.toInt ≤ (n : Int) ∧ n < 100000) ∧ gl.toInt = 0 ∧ (0 ≤ op.toInt ∧ op.toInt ≤ 5) ∧ uvc L f cpb (uv L f cpn cpb d1) op nm v t cnt g c b ∧ K a ∧ kds L f cpn a K cnt.toInt g Kf := by
  cases d with
  | zero => exact h.elim
  | succ d =>
    obtain ⟨op, pl, nm, v, t, p, n, cnt, ix, gl, hq9r⟩ := h
    obtain ⟨g, h1, h2, h3, h4, h5, h6⟩ := hq9r
    obtain ⟨k1, Kf, k2⟩ := fp_kds hf h2 h3
    exact ⟨d, op, pl, nm, v, t, p, n, cnt, ix, gl, g, Kf, rfl, ⟨h1, h2⟩, h3, h4, h5, by rcases uvc_op h6 with q | q <;> (first | (apply Int.le_antisymm <;> omega) | omega), h6, k1, k2⟩
theorem kd_at {a i y : Nat} {n : Int} {Kf : Nat → Nat → Prop} (h : kds L f cpn a K n g Kf) (hi : (i : Int) < n) (hg : g i = some y) : ∃ e, fp L f cpn e y (Kf i) := by
  obtain ⟨z, e, z1, z2⟩ := h.1 i hi
  rw [hg] at z1
  injection z1 with z1
  subst z1
  exact ⟨e, z2⟩
end UVC
section TO
variable {L : List Nat} {f f2 : Nat → va_E} {cpn cpb : ClassId} {N fc gc : Int} {gv tk : Nat → Int} {K : Nat → Prop}
/-- a tree whose root's type is r, but not yet written down -/
def to9 (L : List Nat) (f : Nat → va_E) (cpn cpb : ClassId) (N fc gc : Int) (gv tk : Nat → Int) (d a : Nat) (r : Int32) (c : Int) (b : Nat) : Prop := ∃ (d1 : Nat) (op pl : Int32) (nm : Value) (v : Int64) (t : Int32) (p n : Nat) (cnt ix gl : Int32) (g : Nat → Option Nat), d = d1 + 1 ∧ (a ∈ L ∧ nP f a op pl nm v t p cnt ix gl) ∧ aP L f cpn p n g ∧ (0 ≤ cnt.toInt ∧ cnt.toInt ≤ (n : Int) ∧ n < 100000) ∧ tvc L f cpb N fc gc gv tk (tv L f cpn cpb N fc gc gv tk d1) op nm v r cnt ix gl g c b
/-- and written down -/
theorem to_tv {d e a : Nat} {r : Int32} {c : Int} {b : Nat} {op pl : Int32} {nm : Value} {v : Int64} {t : Int32} {p : Nat} {cnt ix gl : Int32} (h : to9 L f cpn cpb N fc gc gv tk d a r c b) (hf : fp L f cpn e a K) (h1 : nP f a op pl nm v t p cnt ix gl) : tv L (va_up f a (.inr (13, [.int op, .int pl, nm, .long v, .int r, .ref p, .int cnt, .int ix, .int gl]))) cpn cpb N fc gc gv tk d a r c b := by
  obtain ⟨d1, op', pl', nm', v', t', p', n, cnt', ix', gl', g, rfl, ⟨h2, h3⟩, h4, h5, h6⟩ := h
  obtain ⟨r1, r2, r3, r4, r5, r6, r7, r8, r9⟩ := nP_inj h3 h1
  subst r1 r2 r3 r4 r6 r7 r8 r9
  obtain ⟨ka, Kf, k⟩ := fp_kds hf h1 h4
  have cu : cgn (fun x => x = a) f (va_up f a (.inr (13, [.int op', .int pl', nm', .long v', .int r, .ref p', .int cnt', .int ix', .int gl']))) := cgn.up h1 rfl
  refine ⟨op', pl', nm', v', p', n, cnt', ix', gl', g, h2, va_up_self _ _ _, (cu.kp (cpb := cpb)).aP h4, h5, tvc.kid (cu.kp (cpn := cpn)) (Int.le_refl _) (fun i y t c b hi hy q => ?_) h6⟩
  obtain ⟨e1, z⟩ := kd_at k hi hy
  exact tv_kp cu.kp (Int.le_refl _) d1 (fun x hx => (k.2.1 i x hi hx).2) z q
/-- what is given to a call: the first i have types -/
def mix (L : List Nat) (f : Nat → va_E) (cpn cpb : ClassId) (N fc gc : Int) (gv tk : Nat → Int) (d b : Nat) (n : Int) (cf : Nat → Nat) (kf : Nat → Int) (i : Int) : Prop := (∀ j : Nat, i ≤ (j : Int) → (j : Int) < n → uv L f cpn cpb d (cf j) (kf j) b) ∧ ∀ j : Nat, (j : Int) < i → ∃ t : Int32, (t.toInt = 0 ∨ t27 t.toInt) ∧ tv L f cpn cpb N fc gc gv tk d (cf j) t (kf j) b
theorem mix_cgn {a d b : Nat} {n i : Int} {g : Nat → Option Nat} {cf : Nat → Nat} {kf : Nat → Int} {Kf : Nat → Nat → Prop} {K1 : Nat → Prop} (h : mix L f cpn cpb N fc gc gv tk d b n cf kf i) (hi : i ≤ n) (hk : kds L f cpn a K n g Kf) (hg : ∀ j : Nat, (j : Int) < n → g j = some (cf j)) (hc : cgn K1 f f2) (hd : ∀ (j x : Nat), (j : Int) < n → Kf j x → ¬ K1 x) : mix L f2 cpn cpb N fc gc gv tk d b n cf kf i := by
  refine ⟨fun j h1 h2 => ?_, fun j h1 => ?_⟩
  · obtain ⟨e, z⟩ := kd_at hk h2 (hg j h2)
    exact uv_kp hc.kp d (fun x hx => hd j x h2 hx) z (h.1 j h1 h2)
  · obtain ⟨t, t1, t2⟩ := h.2 j h1
    obtain ⟨e, z⟩ := kd_at hk (by (first | (apply Int.le_antisymm <;> omega) | omega)) (hg j (by (first | (apply Int.le_antisymm <;> omega) | omega)))
    exact ⟨t, t1, tv_kp hc.kp (Int.le_refl _) d (fun x hx => hd j x (by (first | (apply Int.le_antisymm <;> omega) | omega)) hx) z t2⟩
theorem mix_s {a d b m : Nat} {n i i2 : Int} {t : Int32} {g : Nat → Option Nat} {cf : Nat → Nat} {kf : Nat → Int} {Kf : Nat → Nat → Prop} (h : mix L f cpn cpb N fc gc gv tk d b n cf kf i) (hm : (m : Int) = i) (hi2 : i2 = i + 1) (hi : i < n) (hk : kds L f cpn a K n g Kf) (hg : ∀ j : Nat, (j : Int) < n → g j = some (cf j)) (hc : cgn (Kf m) f f2) (ht : t.toInt = 0 ∨ t27 t.toInt) (hv : tv L f2 cpn cpb N fc gc gv tk d (cf m) t (kf m) b) : mix L f2 cpn cpb N fc gc gv tk d b n cf kf i2 := by
  subst hi2
  have ne : ∀ (j x : Nat), (j : Int) < n → j ≠ m → Kf j x → ¬ Kf m x := fun j x hj q hx hy => q (hk.2.2 j m x hj (by (first | (apply Int.le_antisymm <;> omega) | omega)) hx hy)
  refine ⟨fun j h1 h2 => ?_, fun j h1 => ?_⟩
  · obtain ⟨e, z⟩ := kd_at hk h2 (hg j h2)
    exact uv_kp hc.kp d (fun x hx => ne j x h2 (by (first | (apply Int.le_antisymm <;> omega) | omega)) hx) z (h.1 j (by (first | (apply Int.le_antisymm <;> omega) | omega)) h2)
  · by_cases q : j = m
    · subst q
      exact ⟨t, ht, hv⟩
    · obtain ⟨t, t1, t2⟩ := h.2 j (by (first | (apply Int.le_antisymm <;> omega) | omega))
      obtain ⟨e, z⟩ := kd_at hk (by (first | (apply Int.le_antisymm <;> omega) | omega)) (hg j (by (first | (apply Int.le_antisymm <;> omega) | omega)))
      exact ⟨t, t1, tv_kp hc.kp (Int.le_refl _) d (fun x hx => ne j x (by (first | (apply Int.le_antisymm <;> omega) | omega)) q hx) z t2⟩
theorem pick9 {n : Int} {P : Nat → Int32 → Prop} (h : ∀ j : Nat, (j : Int) < n → ∃ t, P j t) : ∃ tf : Nat → Int32, ∀ j : Nat, (j : Int) < n → P j (tf j) :=
  ⟨fun j => if q : (j : Int) < n then Classical.choose (h j q) else 0, fun j hj => by dsimp only; rw [dif_pos hj]; exact Classical.choose_spec (h j hj)⟩
end TO
/-- a word up to the next blank -/
theorem tww {t nb : List Int32} {p : Nat} (h1 : ∀ j, j < nb.length → t.getD (p + j) 0 = nb.getD j 0) (h2 : t.getD (p + nb.length) 0 = 32) (h3 : p + nb.length < t.length) (hn : ns9 nb) : (t.drop p).takeWhile (fun x => x != 32) = nb := by
  have e : t.drop p = nb ++ (32 :: t.drop (p + nb.length + 1)) := by
    refine List.ext_getElem? (fun i => ?_)
    rw [List.getElem?_drop]
    by_cases q : i < nb.length
    · rw [List.getElem?_append_left q]
      have z := h1 i q
      rw [List.getD_eq_getElem?_getD, List.getD_eq_getElem?_getD, List.getElem?_eq_getElem (by (first | (apply Int.le_antisymm <;> omega) | omega)), List.getElem?_eq_getElem q] at z
      rw [List.getElem?_eq_getElem (by (first | (apply Int.le_antisymm <;> omega) | omega)), List.getElem?_eq_getElem q]
      exact congrArg some z
    · rw [List.getElem?_append_right (by (first | (apply Int.le_antisymm <;> omega) | omega))]
      by_cases q2 : i = nb.length
      · subst q2
        rw [Nat.sub_self]
        rw [List.getD_eq_getElem?_getD, List.getElem?_eq_getElem h3] at h2
        rw [List.getElem?_eq_getElem h3]
        exact congrArg some h2
      · obtain ⟨k, rfl⟩ : ∃ k, i = nb.length + 1 + k := ⟨i - nb.length - 1, by (first | (apply Int.le_antisymm <;> omega) | omega)⟩
        rw [show nb.length + 1 + k - nb.length = k + 1 by (first | (apply Int.le_antisymm <;> omega) | omega), List.getElem?_cons_succ, List.getElem?_drop]
        congr 1
        (first | (apply Int.le_antisymm <;> omega) | omega)
  rw [e, List.takeWhile_append_of_pos (fun x hx => by have := hn x hx; simpa using this)]
  simp
/-- the names of the calls of the language's own -/
def own9 (nb : List Int32) : Prop := nb = [108, 111, 97, 100, 56] ∨ nb = [108, 111, 97, 100, 51, 50] ∨ nb = [108, 111, 97, 100, 54, 52] ∨ nb = [115, 116, 111, 114, 101, 56] ∨ nb = [115, 116, 111, 114, 101, 51, 50] ∨ nb = [115, 116, 111, 114, 101, 54, 52] ∨ nb = [115, 105, 122, 101] ∨ nb = [103, 114, 111, 119] ∨ nb = [116, 114, 97, 112]
theorem own_sub {nb : List Int32} {i : Int} (hn : ns9 nb) (h : sub9 (litB.getD 25 []) (32 :: (nb ++ [32])) i) : own9 nb := by
  obtain ⟨a, b, c⟩ := h
  have hl : (litB.getD 25 []).length = 59 := by decide +kernel
  simp only [List.length_cons, List.length_append, List.length_nil] at b c
  have d : ∀ n : Fin 58, (litB.getD 25 []).getD n.val 0 = 32 → own9 (((litB.getD 25 []).drop (n.val + 1)).takeWhile (fun x => x != 32)) := by unfold own9; decide +kernel
  have e := d ⟨i.toNat, by (first | (apply Int.le_antisymm <;> omega) | omega)⟩ (by have := c 0 (by (first | (apply Int.le_antisymm <;> omega) | omega)); rw [Nat.add_zero] at this; exact this)
  dsimp only at e
  have g1 : ∀ j, j < nb.length → (litB.getD 25 []).getD (i.toNat + 1 + j) 0 = nb.getD j 0 := fun j hj => by
    have z := c (1 + j) (by (first | (apply Int.le_antisymm <;> omega) | omega))
    rw [show i.toNat + (1 + j) = i.toNat + 1 + j by (first | (apply Int.le_antisymm <;> omega) | omega), Nat.add_comm 1 j, List.getD_cons_succ] at z
    rw [z, List.getD_eq_getElem?_getD, List.getElem?_append_left hj, ← List.getD_eq_getElem?_getD]
  have g2 : (litB.getD 25 []).getD (i.toNat + 1 + nb.length) 0 = 32 := by
    have z := c (1 + nb.length) (by (first | (apply Int.le_antisymm <;> omega) | omega))
    rw [show i.toNat + (1 + nb.length) = i.toNat + 1 + nb.length by (first | (apply Int.le_antisymm <;> omega) | omega), Nat.add_comm 1 nb.length, List.getD_cons_succ] at z
    rw [z, List.getD_eq_getElem?_getD, List.getElem?_append_right (Nat.le_refl _), Nat.sub_self]
    rfl
  rw [tww g1 g2 (by (first | (apply Int.le_antisymm <;> omega) | omega)) hn] at e
  exact e
/-- how many are given, by whether it begins with store -/
def wt7 (nb : List Int32) (st w : Int) : Prop := own9 nb → (st = 1 ∧ w = 2 ∧ (nb = [115, 116, 111, 114, 101, 56] ∨ nb = [115, 116, 111, 114, 101, 51, 50] ∨ nb = [115, 116, 111, 114, 101, 54, 52])) ∨ (st = 0 ∧ w = 1 ∧ (nb = [108, 111, 97, 100, 56] ∨ nb = [108, 111, 97, 100, 51, 50] ∨ nb = [108, 111, 97, 100, 54, 52] ∨ nb = [103, 114, 111, 119])) ∨ (st = 0 ∧ w = 0 ∧ (nb = [115, 105, 122, 101] ∨ nb = [116, 114, 97, 112]))
def pfx9 (b b2 : List Int32) : Prop := b2.length ≤ b.length ∧ ∀ j : Nat, j < b2.length → b.getD j 0 = b2.getD j 0
theorem wt_s {nb : List Int32} (h : pfx9 nb (litB.getD 32 [])) : wt7 nb 1 2 := by
  intro h0
  rcases h0 with e | e | e | e | e | e | e | e | e <;> subst e <;> revert h <;> unfold pfx9 <;> decide +kernel
theorem wt_l {nb : List Int32} (h : ¬ pfx9 nb (litB.getD 32 [])) (h2 : pfx9 nb (litB.getD 33 []) ∨ nb = litB.getD 34 []) : wt7 nb 0 1 := by
  intro h0
  rcases h0 with e | e | e | e | e | e | e | e | e <;> subst e <;> revert h h2 <;> unfold pfx9 <;> decide +kernel
theorem wt_0 {nb : List Int32} (h : ¬ pfx9 nb (litB.getD 32 [])) (h2 : ¬ pfx9 nb (litB.getD 33 [])) (h3 : nb ≠ litB.getD 34 []) : wt7 nb 0 0 := by
  intro h0
  rcases h0 with e | e | e | e | e | e | e | e | e <;> subst e <;> revert h h2 h3 <;> unfold pfx9 <;> decide +kernel
theorem ow_fin {nb : List Int32} {st w cnt r : Int} (h0 : own9 nb) (h : wt7 nb st w) (hc : cnt = w) (hr : (r = 0 ∧ (st = 1 ∨ nb = litB.getD 36 [])) ∨ (st = 0 ∧ nb ≠ litB.getD 36 [] ∧ ((r = 126 ∧ nb = litB.getD 37 []) ∨ (r = 127 ∧ nb ≠ litB.getD 37 [])))) : owk nb cnt r := by
  have e36 : litB.getD 36 [] = [116, 114, 97, 112] := by decide +kernel
  have e37 : litB.getD 37 [] = [108, 111, 97, 100, 54, 52] := by decide +kernel
  rw [e36, e37] at hr
  subst hc
  unfold owk
  rcases h h0 with ⟨a, b, c⟩ | ⟨a, b, c⟩ | ⟨a, b, c⟩
  · subst a b
    rcases c with c | c | c <;> subst c <;> simp_all
  · subst a b
    rcases c with c | c | c | c <;> subst c <;> simp_all
  · subst a b
    rcases c with c | c <;> subst c <;> simp_all
end q_n19

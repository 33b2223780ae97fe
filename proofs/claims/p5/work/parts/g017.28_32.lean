section q_28
/-! Validator: tables, exports, the whole -/
abbrev b_VA_checkTables : ByteArray := prog_12_method_3_code
def y_VA_checkTables : MethodName := ⟨R_VA, "checkTables", "()V"⟩
abbrev w_VA_checkTables : List Cond := .code y_VA_checkTables b_VA_checkTables 2 none :: lw_g
theorem kC_VA_checkTables : Cond.code y_VA_checkTables b_VA_checkTables 2 none ∈ lw_g := in_c6 196 rfl rfl
theorem d_VA_checkTables_0 : decode b_VA_checkTables 0 = .ok (.iconst 0, 1) := bz_c3 (by decide +kernel)
theorem d_VA_checkTables_1 : decode b_VA_checkTables 1 = .ok (.istore_n 1, 1) := bz_c60 (by decide +kernel)
theorem d_VA_checkTables_2 : decode b_VA_checkTables 2 = .ok (.iload_n 1, 1) := bz_c27 (by decide +kernel)
theorem d_VA_checkTables_3 : decode b_VA_checkTables 3 = .ok (.aload_n 0, 1) := bz_c42 (by decide +kernel)
theorem d_VA_checkTables_4 : decode b_VA_checkTables 4 = .ok (.getfield 28, 3) := bz_c180 (by decide +kernel)
theorem d_VA_checkTables_7 : decode b_VA_checkTables 7 = .ok (.getfield 49, 3) := bz_c180 (by decide +kernel)
theorem d_VA_checkTables_10 : decode b_VA_checkTables 10 = .ok (.if_icmp .ge 44, 3) := bz_c162 (by decide +kernel)
theorem d_VA_checkTables_13 : decode b_VA_checkTables 13 = .ok (.aload_n 0, 1) := bz_c42 (by decide +kernel)
theorem d_VA_checkTables_14 : decode b_VA_checkTables 14 = .ok (.aload_n 0, 1) := bz_c42 (by decide +kernel)
theorem d_VA_checkTables_15 : decode b_VA_checkTables 15 = .ok (.getfield 39, 3) := bz_c180 (by decide +kernel)
theorem d_VA_checkTables_18 : decode b_VA_checkTables 18 = .ok (.ifCond .eq 26, 3) := bz_c153 (by decide +kernel)
theorem d_VA_checkTables_21 : decode b_VA_checkTables 21 = .ok (.aload_n 0, 1) := bz_c42 (by decide +kernel)
theorem d_VA_checkTables_22 : decode b_VA_checkTables 22 = .ok (.getfield 28, 3) := bz_c180 (by decide +kernel)
theorem d_VA_checkTables_25 : decode b_VA_checkTables 25 = .ok (.getfield 57, 3) := bz_c180 (by decide +kernel)
theorem d_VA_checkTables_28 : decode b_VA_checkTables 28 = .ok (.iload_n 1, 1) := bz_c27 (by decide +kernel)
theorem d_VA_checkTables_29 : decode b_VA_checkTables 29 = .ok (.iaload, 1) := bz_c46 (by decide +kernel)
theorem d_VA_checkTables_30 : decode b_VA_checkTables 30 = .ok (.aload_n 0, 1) := bz_c42 (by decide +kernel)
theorem d_VA_checkTables_31 : decode b_VA_checkTables 31 = .ok (.getfield 28, 3) := bz_c180 (by decide +kernel)
theorem d_VA_checkTables_34 : decode b_VA_checkTables 34 = .ok (.getfield 60, 3) := bz_c180 (by decide +kernel)
theorem d_VA_checkTables_37 : decode b_VA_checkTables 37 = .ok (.if_icmp .ge 7, 3) := bz_c162 (by decide +kernel)
theorem d_VA_checkTables_40 : decode b_VA_checkTables 40 = .ok (.iconst 1, 1) := bz_c4 (by decide +kernel)
theorem d_VA_checkTables_41 : decode b_VA_checkTables 41 = .ok (.goto 4, 3) := bz_c167 (by decide +kernel)
theorem d_VA_checkTables_44 : decode b_VA_checkTables 44 = .ok (.iconst 0, 1) := bz_c3 (by decide +kernel)
theorem d_VA_checkTables_45 : decode b_VA_checkTables 45 = .ok (.putfield 39, 3) := bz_c181 (by decide +kernel)
theorem d_VA_checkTables_48 : decode b_VA_checkTables 48 = .ok (.iinc 1 1, 3) := by decide +kernel
theorem d_VA_checkTables_51 : decode b_VA_checkTables 51 = .ok (.goto (-49), 3) := bz_c167 (by decide +kernel)
theorem d_VA_checkTables_54 : decode b_VA_checkTables 54 = .ok (.iconst 0, 1) := bz_c3 (by decide +kernel)
theorem d_VA_checkTables_55 : decode b_VA_checkTables 55 = .ok (.istore_n 1, 1) := bz_c60 (by decide +kernel)
theorem d_VA_checkTables_56 : decode b_VA_checkTables 56 = .ok (.iload_n 1, 1) := bz_c27 (by decide +kernel)
theorem d_VA_checkTables_57 : decode b_VA_checkTables 57 = .ok (.aload_n 0, 1) := bz_c42 (by decide +kernel)
theorem d_VA_checkTables_58 : decode b_VA_checkTables 58 = .ok (.getfield 28, 3) := bz_c180 (by decide +kernel)
theorem d_VA_checkTables_61 : decode b_VA_checkTables 61 = .ok (.getfield 63, 3) := bz_c180 (by decide +kernel)
theorem d_VA_checkTables_64 : decode b_VA_checkTables 64 = .ok (.if_icmp .ge 46, 3) := bz_c162 (by decide +kernel)
theorem d_VA_checkTables_67 : decode b_VA_checkTables 67 = .ok (.aload_n 0, 1) := bz_c42 (by decide +kernel)
theorem d_VA_checkTables_68 : decode b_VA_checkTables 68 = .ok (.aload_n 0, 1) := bz_c42 (by decide +kernel)
theorem d_VA_checkTables_69 : decode b_VA_checkTables 69 = .ok (.getfield 39, 3) := bz_c180 (by decide +kernel)
theorem d_VA_checkTables_72 : decode b_VA_checkTables 72 = .ok (.ifCond .eq 28, 3) := bz_c153 (by decide +kernel)
theorem d_VA_checkTables_75 : decode b_VA_checkTables 75 = .ok (.aload_n 0, 1) := bz_c42 (by decide +kernel)
theorem d_VA_checkTables_76 : decode b_VA_checkTables 76 = .ok (.getfield 28, 3) := bz_c180 (by decide +kernel)
theorem d_VA_checkTables_79 : decode b_VA_checkTables 79 = .ok (.getfield 66, 3) := bz_c180 (by decide +kernel)
theorem d_VA_checkTables_82 : decode b_VA_checkTables 82 = .ok (.iload_n 1, 1) := bz_c27 (by decide +kernel)
theorem d_VA_checkTables_83 : decode b_VA_checkTables 83 = .ok (.iaload, 1) := bz_c46 (by decide +kernel)
theorem d_VA_checkTables_84 : decode b_VA_checkTables 84 = .ok (.aload_n 0, 1) := bz_c42 (by decide +kernel)
theorem d_VA_checkTables_85 : decode b_VA_checkTables 85 = .ok (.getfield 28, 3) := bz_c180 (by decide +kernel)
theorem d_VA_checkTables_88 : decode b_VA_checkTables 88 = .ok (.getfield 69, 3) := bz_c180 (by decide +kernel)
theorem d_VA_checkTables_91 : decode b_VA_checkTables 91 = .ok (.iload_n 1, 1) := bz_c27 (by decide +kernel)
theorem d_VA_checkTables_92 : decode b_VA_checkTables 92 = .ok (.iaload, 1) := bz_c46 (by decide +kernel)
theorem d_VA_checkTables_93 : decode b_VA_checkTables 93 = .ok (.if_icmp .ne 7, 3) := bz_c160 (by decide +kernel)
theorem d_VA_checkTables_96 : decode b_VA_checkTables 96 = .ok (.iconst 1, 1) := bz_c4 (by decide +kernel)
theorem d_VA_checkTables_97 : decode b_VA_checkTables 97 = .ok (.goto 4, 3) := bz_c167 (by decide +kernel)
theorem d_VA_checkTables_100 : decode b_VA_checkTables 100 = .ok (.iconst 0, 1) := bz_c3 (by decide +kernel)
theorem d_VA_checkTables_101 : decode b_VA_checkTables 101 = .ok (.putfield 39, 3) := bz_c181 (by decide +kernel)
theorem d_VA_checkTables_104 : decode b_VA_checkTables 104 = .ok (.iinc 1 1, 3) := by decide +kernel
theorem d_VA_checkTables_107 : decode b_VA_checkTables 107 = .ok (.goto (-51), 3) := bz_c167 (by decide +kernel)
theorem d_VA_checkTables_110 : decode b_VA_checkTables 110 = .ok (.aload_n 0, 1) := bz_c42 (by decide +kernel)
theorem d_VA_checkTables_111 : decode b_VA_checkTables 111 = .ok (.aload_n 0, 1) := bz_c42 (by decide +kernel)
theorem d_VA_checkTables_112 : decode b_VA_checkTables 112 = .ok (.getfield 39, 3) := bz_c180 (by decide +kernel)
theorem d_VA_checkTables_115 : decode b_VA_checkTables 115 = .ok (.ifCond .eq 65, 3) := bz_c153 (by decide +kernel)
theorem d_VA_checkTables_118 : decode b_VA_checkTables 118 = .ok (.aload_n 0, 1) := bz_c42 (by decide +kernel)
theorem d_VA_checkTables_119 : decode b_VA_checkTables 119 = .ok (.getfield 28, 3) := bz_c180 (by decide +kernel)
theorem d_VA_checkTables_122 : decode b_VA_checkTables 122 = .ok (.getfield 72, 3) := bz_c180 (by decide +kernel)
theorem d_VA_checkTables_125 : decode b_VA_checkTables 125 = .ok (.ldc2_w 76, 3) := bz_c20 (by decide +kernel)
theorem d_VA_checkTables_128 : decode b_VA_checkTables 128 = .ok (.lcmp, 1) := bz_c148 (by decide +kernel)
theorem d_VA_checkTables_129 : decode b_VA_checkTables 129 = .ok (.ifCond .gt 51, 3) := bz_c157 (by decide +kernel)
theorem d_VA_checkTables_132 : decode b_VA_checkTables 132 = .ok (.aload_n 0, 1) := bz_c42 (by decide +kernel)
theorem d_VA_checkTables_133 : decode b_VA_checkTables 133 = .ok (.getfield 28, 3) := bz_c180 (by decide +kernel)
theorem d_VA_checkTables_136 : decode b_VA_checkTables 136 = .ok (.getfield 78, 3) := bz_c180 (by decide +kernel)
theorem d_VA_checkTables_139 : decode b_VA_checkTables 139 = .ok (.ldc2_w 81, 3) := bz_c20 (by decide +kernel)
theorem d_VA_checkTables_142 : decode b_VA_checkTables 142 = .ok (.lcmp, 1) := bz_c148 (by decide +kernel)
theorem d_VA_checkTables_143 : decode b_VA_checkTables 143 = .ok (.ifCond .gt 37, 3) := bz_c157 (by decide +kernel)
theorem d_VA_checkTables_146 : decode b_VA_checkTables 146 = .ok (.aload_n 0, 1) := bz_c42 (by decide +kernel)
theorem d_VA_checkTables_147 : decode b_VA_checkTables 147 = .ok (.getfield 28, 3) := bz_c180 (by decide +kernel)
theorem d_VA_checkTables_150 : decode b_VA_checkTables 150 = .ok (.getfield 78, 3) := bz_c180 (by decide +kernel)
theorem d_VA_checkTables_153 : decode b_VA_checkTables 153 = .ok (.lconst 0, 1) := bz_c9 (by decide +kernel)
theorem d_VA_checkTables_154 : decode b_VA_checkTables 154 = .ok (.lcmp, 1) := bz_c148 (by decide +kernel)
theorem d_VA_checkTables_155 : decode b_VA_checkTables 155 = .ok (.ifCond .lt 21, 3) := bz_c155 (by decide +kernel)
theorem d_VA_checkTables_158 : decode b_VA_checkTables 158 = .ok (.aload_n 0, 1) := bz_c42 (by decide +kernel)
theorem d_VA_checkTables_159 : decode b_VA_checkTables 159 = .ok (.getfield 28, 3) := bz_c180 (by decide +kernel)
theorem d_VA_checkTables_162 : decode b_VA_checkTables 162 = .ok (.getfield 78, 3) := bz_c180 (by decide +kernel)
theorem d_VA_checkTables_165 : decode b_VA_checkTables 165 = .ok (.aload_n 0, 1) := bz_c42 (by decide +kernel)
theorem d_VA_checkTables_166 : decode b_VA_checkTables 166 = .ok (.getfield 28, 3) := bz_c180 (by decide +kernel)
theorem d_VA_checkTables_169 : decode b_VA_checkTables 169 = .ok (.getfield 72, 3) := bz_c180 (by decide +kernel)
theorem d_VA_checkTables_172 : decode b_VA_checkTables 172 = .ok (.lcmp, 1) := bz_c148 (by decide +kernel)
theorem d_VA_checkTables_173 : decode b_VA_checkTables 173 = .ok (.ifCond .lt 7, 3) := bz_c155 (by decide +kernel)
theorem d_VA_checkTables_176 : decode b_VA_checkTables 176 = .ok (.iconst 1, 1) := bz_c4 (by decide +kernel)
theorem d_VA_checkTables_177 : decode b_VA_checkTables 177 = .ok (.goto 4, 3) := bz_c167 (by decide +kernel)
theorem d_VA_checkTables_180 : decode b_VA_checkTables 180 = .ok (.iconst 0, 1) := bz_c3 (by decide +kernel)
theorem d_VA_checkTables_181 : decode b_VA_checkTables 181 = .ok (.putfield 39, 3) := bz_c181 (by decide +kernel)
theorem d_VA_checkTables_184 : decode b_VA_checkTables 184 = .ok (.return_, 1) := bz_c177 (by decide +kernel)
theorem kF_VA_72 : Cond.fieldLink R_VA 72 "WaferForge$Wafer" "pagesLeast" "J" ∈ lw_g := in_c1 170 rfl rfl
theorem kL_VA_76 : Cond.constantLong R_VA 76 (2) ∈ lw_g := in_c6 197 rfl rfl
theorem kF_VA_78 : Cond.fieldLink R_VA 78 "WaferForge$Wafer" "pagesMost" "J" ∈ lw_g := in_c1 173 rfl rfl
theorem kL_VA_81 : Cond.constantLong R_VA 81 (65536) ∈ lw_g := in_c6 198 rfl rfl
theorem kF_VA_69 : Cond.fieldLink R_VA 69 "WaferForge$Wafer" "firstTypes" "[I" ∈ lw_g := in_c1 185 rfl rfl
theorem kF_VA_57 : Cond.fieldLink R_VA 57 "WaferForge$Wafer" "functionType" "[I" ∈ lw_g := in_c1 163 rfl rfl
theorem kF_VA_60 : Cond.fieldLink R_VA 60 "WaferForge$Wafer" "typeCount" "I" ∈ lw_g := in_c1 150 rfl rfl
abbrev at_VA_checkTables (dC : Nat → ClassId) (dI : Nat → Nat → Nat) (h0 aw ac ty bo bg bh bd waf wgt wft : Nat) (cwaf cwgt cwft : ClassId) (h0_function : Int32) (h0_height : Int32) (h0_depth : Int32) (law : List Value) (aw_typeCount : Int32) (aw_functionCount : Int32) (aw_pagesLeast : Int64) (aw_pagesMost : Int64) (aw_globalCount : Int32) (gwaf : Nat → Int32) (gwgt : Nat → Int32) (gwft : Nat → Int32) (A : Nat → Prop) (u : Int32) (t : State) : Prop := match u with | h0_sound => va_P (dC, dI) cls (wz_92 h0 aw ac h0_sound h0_function ty h0_height bo bg bh bd h0_depth aw law waf cwaf gwaf wgt cwgt gwgt wft cwft gwft) t.heap ∧ va_K (dC, dI) cls [(cwaf, .int), (cwgt, .int), (cwft, .int)] t ∧ va_D A (wz_92 h0 aw ac h0_sound h0_function ty h0_height bo bg bh bd h0_depth aw law waf cwaf gwaf wgt cwgt gwgt wft cwft gwft)
set_option maxHeartbeats 4000000 in
set_option maxRecDepth 100000 in
theorem c_VA_checkTables (l : Launch) (dC : Nat → ClassId) (dI : Nat → Nat → Nat) (sz : Nat) (h0 aw ac ty bo bg bh bd waf wgt wft : Nat) (cwaf cwgt cwft : ClassId) (h0_sound : Int32) (h0_function : Int32) (h0_height : Int32) (h0_depth : Int32) (law : List Value) (aw_typeCount : Int32) (aw_functionCount : Int32) (aw_pagesLeast : Int64) (aw_pagesMost : Int64) (aw_globalCount : Int32) (gwaf : Nat → Int32) (gwgt : Nat → Int32) (gwft : Nat → Int32) (paw_2 : law[2]? = some (.int aw_typeCount)) (paw_6 : law[6]? = some (.int aw_functionCount)) (paw_7 : law[7]? = some (.ref waf)) (paw_9 : law[9]? = some (.long aw_pagesLeast)) (paw_10 : law[10]? = some (.long aw_pagesMost)) (paw_11 : law[11]? = some (.int aw_globalCount)) (paw_12 : law[12]? = some (.ref wgt)) (paw_13 : law[13]? = some (.ref wft)) (plaw : law.length = 21) (b_h0_sound : h0_sound = 0 ∨ h0_sound = 1) (b_aw_typeCount : 0 ≤ aw_typeCount.toInt ∧ aw_typeCount.toInt ≤ 20) (b_aw_functionCount : 0 ≤ aw_functionCount.toInt ∧ aw_functionCount.toInt ≤ 30) (b_aw_globalCount : 0 ≤ aw_globalCount.toInt ∧ aw_globalCount.toInt ≤ 20)    : Met l y_VA_checkTables w_VA_checkTables ({ frames := 0, cells := 0, slots := 0, locals := 0 }) (va_Pc [.ref h0] (fun U => U.heap.size = sz ∧ va_P (dC, dI) cls (wz_92 h0 aw ac h0_sound h0_function ty h0_height bo bg bh bd h0_depth aw law waf cwaf gwaf wgt cwgt gwgt wft cwft gwft) U.heap ∧ va_K (dC, dI) cls [(cwaf, .int), (cwgt, .int), (cwft, .int)] U ∧ va_D (fun _ => True) (wz_92 h0 aw ac h0_sound h0_function ty h0_height bo bg bh bd h0_depth aw law waf cwaf gwaf wgt cwgt gwgt wft cwft gwft))) (va_Qv (fun (u : Int32) => match u with | h0_sound2 => (h0_sound2 = 0 ∨ h0_sound2 = 1) ∧ (h0_sound2.toInt = 1 → h0_sound.toInt = 1 ∧ (∀ f : Nat, (f : Int) < aw_functionCount.toInt → (gwaf f).toInt < aw_typeCount.toInt) ∧ aw_pagesLeast.toInt ≤ 2)) (at_VA_checkTables dC dI h0 aw ac ty bo bg bh bd waf wgt wft cwaf cwgt cwft h0_function h0_height h0_depth law aw_typeCount aw_functionCount aw_pagesLeast aw_pagesMost aw_globalCount gwaf gwgt gwft (va_A (wz_92 h0 aw ac h0_sound h0_function ty h0_height bo bg bh bd h0_depth aw law waf cwaf gwaf wgt cwgt gwgt wft cwft gwft) sz)) (va_A (wz_92 h0 aw ac h0_sound h0_function ty h0_height bo bg bh bd h0_depth aw law waf cwaf gwaf wgt cwgt gwgt wft cwft gwft) sz)) 0 0 (va_A (wz_92 h0 aw ac h0_sound h0_function ty h0_height bo bg bh bd h0_depth aw law waf cwaf gwaf wgt cwgt gwgt wft cwft gwft) sz) := by
  refine Met.ofW (cc := b_VA_checkTables) (maxL := 2) (ret := none) (by decide) rfl ?_
  intro p e s m args below meth c s₁ B hml hv
  obtain ⟨rfl, hsz, hP, hK, hD0⟩ := hv
  have hx := B.exec
  have hb := B.bytes
  have hr := B.returns
  have hts0 := atoms_spec (ws := w_VA_checkTables) B.pre
  have hts : ∀ w ∈ lw_g, w.before _ s = true := fun w h => hts0 w (List.mem_cons_of_mem _ h)
  have hown : s.vm.findClass R_VA = some m.cls := findClass_of_methodNamed B.named
  have hlocks := B.notSynchronized
  clear hts0
  subst hsz
  have hD := hD0.self (sz := s.heap.size)
  generalize hAe : va_A (wz_92 h0 aw ac h0_sound h0_function ty h0_height bo bg bh bd h0_depth aw law waf cwaf gwaf wgt cwgt gwgt wft cwft gwft) s.heap.size = A at hD ⊢
  have hA : ∀ q : Nat, s.heap.size ≤ q → A q := fun q h => by rw [← hAe]; exact Or.inr h
  clear hAe
  have hP : va_P (dC, dI) cls (wz_92 h0 aw ac h0_sound h0_function ty h0_height bo bg bh bd h0_depth aw law waf cwaf gwaf wgt cwgt gwgt wft cwft gwft) s.heap := hP
  have hl := lv_entry ([.ref h0]) (n := 2) (Nat.le_of_ble_eq_true rfl)
  rw [lg_entry_eq]
  generalize (lg_sl ([.ref h0]) ++ List.replicate (2 - (lg_sl ([.ref h0])).length) Slot.unset).toArray = ls at hl ⊢
  have hl : lv_has ls 2 [(0, .ref h0)] := hl
  have k0 : (0 : Int32).toInt = 0 := by decide
  refine w_gen (A := A) hP (fun H locs hP hS => ?_)
  have k1 : (1 : Int32).toInt = 1 := by decide
  have th0_sound := b01 b_h0_sound
  refine lv_iconst (v := 0) hx hb d_VA_checkTables_0 (by decide) ?_
  refine lv_istore_n (lv' := [(1, .int 0), (0, .ref h0)]) hx hb d_VA_checkTables_1 rfl hl (by decide) rfl (fun ls hl => ?_)
  refine w_loop (σ := Int32 × Int32) (fun u H locs ls => match u with | (j2_l1, j2_h0_sound) => (0 ≤ j2_l1.toInt ∧ j2_l1.toInt ≤ 30) ∧ (j2_h0_sound = 0 ∨ j2_h0_sound = 1) ∧ (j2_l1.toInt ≤ aw_functionCount.toInt) ∧ (j2_h0_sound.toInt = 1 → h0_sound.toInt = 1) ∧ (j2_h0_sound.toInt = 1 → ∀ f : Nat, (f : Int) < j2_l1.toInt → (gwaf f).toInt < aw_typeCount.toInt) ∧ va_P (dC, dI) cls (wz_92 h0 aw ac j2_h0_sound h0_function ty h0_height bo bg bh bd h0_depth aw law waf cwaf gwaf wgt cwgt gwgt wft cwft gwft) H ∧ va_D A (wz_92 h0 aw ac j2_h0_sound h0_function ty h0_height bo bg bh bd h0_depth aw law waf cwaf gwaf wgt cwgt gwgt wft cwft gwft) ∧ va_S A s.heap H locs ∧ lv_has ls 2 [(0, .ref h0), (1, .int j2_l1)]) (fun u => match u with | (j2_l1, j2_h0_sound) => (aw_functionCount.toInt - j2_l1.toInt).toNat) ?_ (0, h0_sound) ⟨by (try dsimp only) <;> (first | (apply Int.le_antisymm <;> omega) | omega), b_h0_sound, by (try dsimp only) <;> (first | (apply Int.le_antisymm <;> omega) | omega), by (try dsimp only) <;> (first | (apply Int.le_antisymm <;> omega) | omega), fun z f q => absurd q (by (first | (apply Int.le_antisymm <;> omega) | omega)), hP, hD, hS, lv_sub hl [1, 0] rfl⟩
  intro N2 ih2 u H locs ls hN2 hI
  obtain ⟨j2_l1, j2_h0_sound⟩ := u
  obtain ⟨b_j2_l1, b_j2_h0_sound, v1, v2, v3, hP, hD, hS, hl⟩ := hI
  have tj2_h0_sound := b01 b_j2_h0_sound
  have hN2 : (aw_functionCount.toInt - j2_l1.toInt).toNat < N2 + 1 := hN2
  refine lv_iload_n hx hb d_VA_checkTables_2 rfl (lv_at hl 1 rfl) ?_
  refine lv_aload_n hx hb d_VA_checkTables_3 rfl (lv_at hl 0 rfl) ?_
  refine va_get (D := (dC, dI)) (ci := 9) (v := .ref aw) (C := R_VA) (T := F_VA) (N := 11) hx hb hts i_VA hown hK hP 0 rfl rfl 0 (by decide) (hts _ kF_VA_28) (fun _ h9 => h9) rfl d_VA_checkTables_4 ?_
  refine va_get (D := (dC, dI)) (ci := 10) (v := .int aw_functionCount) (C := R_WA) (T := F_WA) (N := 21) hx hb hts i_WA hown hK hP 1 rfl rfl 6 (by decide) (hts _ kF_VA_49) (fun _ h9 => h9) paw_6 d_VA_checkTables_7 ?_
  refine lv_icmp_ge (tgt := 54) hx hb d_VA_checkTables_10 (by decide) (fun c10 => ?_) (fun c10 => ?_)
  · have q10 := leI c10
    refine lv_iconst (v := 0) hx hb d_VA_checkTables_54 (by decide) ?_
    refine lv_istore_n (lv' := [(1, .int 0), (0, .ref h0)]) hx hb d_VA_checkTables_55 rfl hl (by decide) rfl (fun ls hl => ?_)
    refine w_loop (σ := Int32 × Int32) (fun u H locs ls => match u with | (j56_l1, j56_h0_sound) => (0 ≤ j56_l1.toInt ∧ j56_l1.toInt ≤ 20) ∧ (j56_h0_sound = 0 ∨ j56_h0_sound = 1) ∧ (j56_l1.toInt ≤ aw_globalCount.toInt) ∧ (j56_h0_sound.toInt = 1 → j2_h0_sound.toInt = 1) ∧ va_P (dC, dI) cls (wz_92 h0 aw ac j56_h0_sound h0_function ty h0_height bo bg bh bd h0_depth aw law waf cwaf gwaf wgt cwgt gwgt wft cwft gwft) H ∧ va_D A (wz_92 h0 aw ac j56_h0_sound h0_function ty h0_height bo bg bh bd h0_depth aw law waf cwaf gwaf wgt cwgt gwgt wft cwft gwft) ∧ va_S A s.heap H locs ∧ lv_has ls 2 [(0, .ref h0), (1, .int j56_l1)]) (fun u => match u with | (j56_l1, j56_h0_sound) => (aw_globalCount.toInt - j56_l1.toInt).toNat) ?_ (0, j2_h0_sound) ⟨by (try dsimp only) <;> (first | (apply Int.le_antisymm <;> omega) | omega), b_j2_h0_sound, by (try dsimp only) <;> (first | (apply Int.le_antisymm <;> omega) | omega), by (try dsimp only) <;> (first | (apply Int.le_antisymm <;> omega) | omega), hP, hD, hS, lv_sub hl [1, 0] rfl⟩
    intro N56 ih56 u H locs ls hN56 hI
    obtain ⟨j56_l1, j56_h0_sound⟩ := u
    obtain ⟨b_j56_l1, b_j56_h0_sound, u1, u2, hP, hD, hS, hl⟩ := hI
    have tj56_h0_sound := b01 b_j56_h0_sound
    have hN56 : (aw_globalCount.toInt - j56_l1.toInt).toNat < N56 + 1 := hN56
    refine lv_iload_n hx hb d_VA_checkTables_56 rfl (lv_at hl 1 rfl) ?_
    refine lv_aload_n hx hb d_VA_checkTables_57 rfl (lv_at hl 0 rfl) ?_
    refine va_get (D := (dC, dI)) (ci := 9) (v := .ref aw) (C := R_VA) (T := F_VA) (N := 11) hx hb hts i_VA hown hK hP 0 rfl rfl 0 (by decide) (hts _ kF_VA_28) (fun _ h9 => h9) rfl d_VA_checkTables_58 ?_
    refine va_get (D := (dC, dI)) (ci := 10) (v := .int aw_globalCount) (C := R_WA) (T := F_WA) (N := 21) hx hb hts i_WA hown hK hP 1 rfl rfl 11 (by decide) (hts _ kF_VA_63) (fun _ h9 => h9) paw_11 d_VA_checkTables_61 ?_
    refine lv_icmp_ge (tgt := 110) hx hb d_VA_checkTables_64 (by decide) (fun c64 => ?_) (fun c64 => ?_)
    · have q64 := leI c64
      refine lv_aload_n hx hb d_VA_checkTables_110 rfl (lv_at hl 0 rfl) ?_
      refine lv_aload_n hx hb d_VA_checkTables_111 rfl (lv_at hl 0 rfl) ?_
      refine va_get (D := (dC, dI)) (ci := 9) (v := .int j56_h0_sound) (C := R_VA) (T := F_VA) (N := 11) hx hb hts i_VA hown hK hP 0 rfl rfl 2 (by decide) (hts _ kF_VA_39) (fun _ h9 => h9) rfl d_VA_checkTables_112 ?_
      refine w_cut (pc2 := 181) (σ := Int32) (fun u H locs ls => match u with | j181_s0 => (j181_s0 = 0 ∨ j181_s0 = 1) ∧ (j181_s0.toInt = 1 → j2_h0_sound.toInt = 1 ∧ aw_pagesLeast.toInt ≤ 2) ∧ va_P (dC, dI) cls (wz_92 h0 aw ac j56_h0_sound h0_function ty h0_height bo bg bh bd h0_depth aw law waf cwaf gwaf wgt cwgt gwgt wft cwft gwft) H ∧ va_D A (wz_92 h0 aw ac j56_h0_sound h0_function ty h0_height bo bg bh bd h0_depth aw law waf cwaf gwaf wgt cwgt gwgt wft cwft gwft) ∧ va_S A s.heap H locs ∧ lv_has ls 2 []) (fun u => match u with | j181_s0 => [.int j181_s0, .ref h0]) ?_ (fun jn181 => ?_)
      · intro u H locs ls hI
        obtain ⟨j181_s0, rfl⟩ : ∃ z, z = u := ⟨_, rfl⟩
        obtain ⟨b_j181_s0, x2, hP, hD, hS, hl⟩ := hI
        have tj181_s0 := b01 b_j181_s0
        refine va_put (D := (dC, dI)) (ci := 9) (v := .int j181_s0) (ty := .boolean) (C := R_VA) (T := F_VA) (N := 11) hx hb hts i_VA t_VA t_VA_ok n_VA hown hK hP hD hS 0 rfl rfl 2 (by decide) (hts _ kF_VA_39) (fun _ h9 => h9) rfl (by decide +kernel) (zn01 (b_j181_s0)) (fz01 (b_j181_s0)) (Nat.le_of_ble_eq_true rfl) d_VA_checkTables_181 (fun H locs hP hD hS => ?_)
        have hP9 := hP.sb (wq := (wz_92 h0 aw ac j181_s0 h0_function ty h0_height bo bg bh bd h0_depth aw law waf cwaf gwaf wgt cwgt gwgt wft cwft gwft)) [0, 1, 2, 3, 4] rfl
        have hD9 := hD.sb (wq := (wz_92 h0 aw ac j181_s0 h0_function ty h0_height bo bg bh bd h0_depth aw law waf cwaf gwaf wgt cwgt gwgt wft cwft gwft)) [0, 1, 2, 3, 4] (by decide) rfl
        exact W.vret hx hb hr (fun t ht hW => ⟨⟨j181_s0, rfl, ⟨b_j181_s0, fun z => ⟨v2 (x2 z).1, fun f q => v3 (x2 z).1 f (by (first | (apply Int.le_antisymm <;> omega) | omega)), (x2 z).2⟩⟩, va_P.he ht.symm hP9, va_K.moved hW.alike hK, hD9⟩, hS.F ht⟩) hS.2.2 d_VA_checkTables_184
      · skip
        refine lv_if_eq (tgt := 180) hx hb d_VA_checkTables_115 (by decide) (fun c115 => ?_) (fun c115 => ?_)
        · have q115 := eqI c115
          refine lv_iconst (v := 0) hx hb d_VA_checkTables_180 (by decide) ?_
          exact jn181 0 _ _ _ ⟨Or.inl rfl, by (try dsimp only) <;> (first | (apply Int.le_antisymm <;> omega) | omega), hP, hD, hS, lv_sub hl [] rfl⟩
        · have q115 := neI c115
          refine lv_aload_n hx hb d_VA_checkTables_118 rfl (lv_at hl 0 rfl) ?_
          refine va_get (D := (dC, dI)) (ci := 9) (v := .ref aw) (C := R_VA) (T := F_VA) (N := 11) hx hb hts i_VA hown hK hP 0 rfl rfl 0 (by decide) (hts _ kF_VA_28) (fun _ h9 => h9) rfl d_VA_checkTables_119 ?_
          refine va_get (D := (dC, dI)) (ci := 10) (v := .long aw_pagesLeast) (C := R_WA) (T := F_WA) (N := 21) hx hb hts i_WA hown hK hP 1 rfl rfl 9 (by decide) (hts _ kF_VA_72) (fun _ h9 => h9) paw_9 d_VA_checkTables_122 ?_
          refine lv_ldc2 hx hb hown (hts _ kL_VA_76) d_VA_checkTables_125 ?_
          refine lv_topl (fun x1 ex1 => ?_)
          have tx1 : x1.toInt = 2 := by rw [ex1]; decide
          refine W.lcmp hx hb d_VA_checkTables_128 ?_
          refine lv_topi (fun x2 ex2 => ?_)
          have tx2 := lgc ex2
          refine lv_if_gt (tgt := 180) hx hb d_VA_checkTables_129 (by decide) (fun c129 => ?_) (fun c129 => ?_)
          · have q129 := ltI c129
            refine lv_iconst (v := 0) hx hb d_VA_checkTables_180 (by decide) ?_
            exact jn181 0 _ _ _ ⟨Or.inl rfl, by (try dsimp only) <;> (first | (apply Int.le_antisymm <;> omega) | omega), hP, hD, hS, lv_sub hl [] rfl⟩
          · have q129 := nltI c129
            refine lv_aload_n hx hb d_VA_checkTables_132 rfl (lv_at hl 0 rfl) ?_
            refine va_get (D := (dC, dI)) (ci := 9) (v := .ref aw) (C := R_VA) (T := F_VA) (N := 11) hx hb hts i_VA hown hK hP 0 rfl rfl 0 (by decide) (hts _ kF_VA_28) (fun _ h9 => h9) rfl d_VA_checkTables_133 ?_
            refine va_get (D := (dC, dI)) (ci := 10) (v := .long aw_pagesMost) (C := R_WA) (T := F_WA) (N := 21) hx hb hts i_WA hown hK hP 1 rfl rfl 10 (by decide) (hts _ kF_VA_78) (fun _ h9 => h9) paw_10 d_VA_checkTables_136 ?_
            refine lv_ldc2 hx hb hown (hts _ kL_VA_81) d_VA_checkTables_139 ?_
            refine lv_topl (fun x3 ex3 => ?_)
            have tx3 : x3.toInt = 65536 := by rw [ex3]; decide
            refine W.lcmp hx hb d_VA_checkTables_142 ?_
            refine lv_topi (fun x4 ex4 => ?_)
            have tx4 := lgc ex4
            refine lv_if_gt (tgt := 180) hx hb d_VA_checkTables_143 (by decide) (fun c143 => ?_) (fun c143 => ?_)
            · have q143 := ltI c143
              refine lv_iconst (v := 0) hx hb d_VA_checkTables_180 (by decide) ?_
              exact jn181 0 _ _ _ ⟨Or.inl rfl, by (try dsimp only) <;> (first | (apply Int.le_antisymm <;> omega) | omega), hP, hD, hS, lv_sub hl [] rfl⟩
            · have q143 := nltI c143
              refine lv_aload_n hx hb d_VA_checkTables_146 rfl (lv_at hl 0 rfl) ?_
              refine va_get (D := (dC, dI)) (ci := 9) (v := .ref aw) (C := R_VA) (T := F_VA) (N := 11) hx hb hts i_VA hown hK hP 0 rfl rfl 0 (by decide) (hts _ kF_VA_28) (fun _ h9 => h9) rfl d_VA_checkTables_147 ?_
              refine va_get (D := (dC, dI)) (ci := 10) (v := .long aw_pagesMost) (C := R_WA) (T := F_WA) (N := 21) hx hb hts i_WA hown hK hP 1 rfl rfl 10 (by decide) (hts _ kF_VA_78) (fun _ h9 => h9) paw_10 d_VA_checkTables_150 ?_
              refine lv_lconst (v := 0) hx hb d_VA_checkTables_153 (by decide) ?_
              have kl0 : (0 : Int64).toInt = 0 := by decide
              refine W.lcmp hx hb d_VA_checkTables_154 ?_
              refine lv_topi (fun x5 ex5 => ?_)
              have tx5 := lgc ex5
              refine lv_if_lt (tgt := 176) hx hb d_VA_checkTables_155 (by decide) (fun c155 => ?_) (fun c155 => ?_)
              · have q155 := ltI c155
                refine lv_iconst (v := 1) hx hb d_VA_checkTables_176 (by decide) ?_
                refine lv_goto (tgt := 181) hx hb d_VA_checkTables_177 (by decide) ?_
                exact jn181 1 _ _ _ ⟨Or.inr rfl, by (try dsimp only) <;> (first | (apply Int.le_antisymm <;> omega) | omega), hP, hD, hS, lv_sub hl [] rfl⟩
              · have q155 := nltI c155
                refine lv_aload_n hx hb d_VA_checkTables_158 rfl (lv_at hl 0 rfl) ?_
                refine va_get (D := (dC, dI)) (ci := 9) (v := .ref aw) (C := R_VA) (T := F_VA) (N := 11) hx hb hts i_VA hown hK hP 0 rfl rfl 0 (by decide) (hts _ kF_VA_28) (fun _ h9 => h9) rfl d_VA_checkTables_159 ?_
                refine va_get (D := (dC, dI)) (ci := 10) (v := .long aw_pagesMost) (C := R_WA) (T := F_WA) (N := 21) hx hb hts i_WA hown hK hP 1 rfl rfl 10 (by decide) (hts _ kF_VA_78) (fun _ h9 => h9) paw_10 d_VA_checkTables_162 ?_
                refine lv_aload_n hx hb d_VA_checkTables_165 rfl (lv_at hl 0 rfl) ?_
                refine va_get (D := (dC, dI)) (ci := 9) (v := .ref aw) (C := R_VA) (T := F_VA) (N := 11) hx hb hts i_VA hown hK hP 0 rfl rfl 0 (by decide) (hts _ kF_VA_28) (fun _ h9 => h9) rfl d_VA_checkTables_166 ?_
                refine va_get (D := (dC, dI)) (ci := 10) (v := .long aw_pagesLeast) (C := R_WA) (T := F_WA) (N := 21) hx hb hts i_WA hown hK hP 1 rfl rfl 9 (by decide) (hts _ kF_VA_72) (fun _ h9 => h9) paw_9 d_VA_checkTables_169 ?_
                refine W.lcmp hx hb d_VA_checkTables_172 ?_
                refine lv_topi (fun x6 ex6 => ?_)
                have tx6 := lgc ex6
                refine lv_if_lt (tgt := 180) hx hb d_VA_checkTables_173 (by decide) (fun c173 => ?_) (fun c173 => ?_)
                · have q173 := ltI c173
                  refine lv_iconst (v := 0) hx hb d_VA_checkTables_180 (by decide) ?_
                  exact jn181 0 _ _ _ ⟨Or.inl rfl, by (try dsimp only) <;> (first | (apply Int.le_antisymm <;> omega) | omega), hP, hD, hS, lv_sub hl [] rfl⟩
                · have q173 := nltI c173
                  refine lv_iconst (v := 1) hx hb d_VA_checkTables_176 (by decide) ?_
                  refine lv_goto (tgt := 181) hx hb d_VA_checkTables_177 (by decide) ?_
                  exact jn181 1 _ _ _ ⟨Or.inr rfl, by (try dsimp only) <;> (first | (apply Int.le_antisymm <;> omega) | omega), hP, hD, hS, lv_sub hl [] rfl⟩
    · have q64 := nleI c64
      refine lv_aload_n hx hb d_VA_checkTables_67 rfl (lv_at hl 0 rfl) ?_
      refine lv_aload_n hx hb d_VA_checkTables_68 rfl (lv_at hl 0 rfl) ?_
      refine va_get (D := (dC, dI)) (ci := 9) (v := .int j56_h0_sound) (C := R_VA) (T := F_VA) (N := 11) hx hb hts i_VA hown hK hP 0 rfl rfl 2 (by decide) (hts _ kF_VA_39) (fun _ h9 => h9) rfl d_VA_checkTables_69 ?_
      refine w_cut (pc2 := 101) (σ := Int32) (fun u H locs ls => match u with | j101_s0 => (j101_s0 = 0 ∨ j101_s0 = 1) ∧ (j101_s0.toInt = 1 → j56_h0_sound.toInt = 1) ∧ va_P (dC, dI) cls (wz_92 h0 aw ac j56_h0_sound h0_function ty h0_height bo bg bh bd h0_depth aw law waf cwaf gwaf wgt cwgt gwgt wft cwft gwft) H ∧ va_D A (wz_92 h0 aw ac j56_h0_sound h0_function ty h0_height bo bg bh bd h0_depth aw law waf cwaf gwaf wgt cwgt gwgt wft cwft gwft) ∧ va_S A s.heap H locs ∧ lv_has ls 2 [(0, .ref h0), (1, .int j56_l1)]) (fun u => match u with | j101_s0 => [.int j101_s0, .ref h0]) ?_ (fun jn101 => ?_)
      · intro u H locs ls hI
        obtain ⟨j101_s0, rfl⟩ : ∃ z, z = u := ⟨_, rfl⟩
        obtain ⟨b_j101_s0, x1, hP, hD, hS, hl⟩ := hI
        have tj101_s0 := b01 b_j101_s0
        refine va_put (D := (dC, dI)) (ci := 9) (v := .int j101_s0) (ty := .boolean) (C := R_VA) (T := F_VA) (N := 11) hx hb hts i_VA t_VA t_VA_ok n_VA hown hK hP hD hS 0 rfl rfl 2 (by decide) (hts _ kF_VA_39) (fun _ h9 => h9) rfl (by decide +kernel) (zn01 (b_j101_s0)) (fz01 (b_j101_s0)) (Nat.le_of_ble_eq_true rfl) d_VA_checkTables_101 (fun H locs hP hD hS => ?_)
        obtain ⟨x7, ex7⟩ : ∃ z : Int32, z = j56_l1 + 1 := ⟨_, rfl⟩
        have tx7 : x7.toInt = j56_l1.toInt + 1 := by have z := i32_add ex7 (by (first | (apply Int.le_antisymm <;> omega) | omega)) (by (first | (apply Int.le_antisymm <;> omega) | omega)); first | exact z | (first | (apply Int.le_antisymm <;> omega) | omega)
        refine lv_iinc (v := x7) (lv' := [(1, .int x7), (0, .ref h0)]) hx hb d_VA_checkTables_104 hl (k := 1) rfl (by rw [ex7]; rfl) (by decide) rfl (fun ls hl => ?_)
        refine lv_goto (tgt := 56) hx hb d_VA_checkTables_107 (by decide) ?_
        exact ih56 (x7, j101_s0) _ _ _ (by show (aw_globalCount.toInt - x7.toInt).toNat < N56; (first | (apply Int.le_antisymm <;> omega) | omega)) ⟨by (try dsimp only) <;> (first | (apply Int.le_antisymm <;> omega) | omega), b_j101_s0, by (try dsimp only) <;> (first | (apply Int.le_antisymm <;> omega) | omega), by (try dsimp only) <;> (first | (apply Int.le_antisymm <;> omega) | omega), hP, hD, hS, lv_sub hl [1, 0] rfl⟩
      · skip
        refine w_cut (pc2 := 100) (σ := Unit) (fun u H locs ls => match u with | _ => va_P (dC, dI) cls (wz_92 h0 aw ac j56_h0_sound h0_function ty h0_height bo bg bh bd h0_depth aw law waf cwaf gwaf wgt cwgt gwgt wft cwft gwft) H ∧ va_D A (wz_92 h0 aw ac j56_h0_sound h0_function ty h0_height bo bg bh bd h0_depth aw law waf cwaf gwaf wgt cwgt gwgt wft cwft gwft) ∧ va_S A s.heap H locs ∧ lv_has ls 2 [(0, .ref h0), (1, .int j56_l1)]) (fun u => match u with | _ => [.ref h0]) ?_ (fun jn100 => ?_)
        · intro u H locs ls hI
          obtain ⟨hP, hD, hS, hl⟩ := hI
          refine lv_iconst (v := 0) hx hb d_VA_checkTables_100 (by decide) ?_
          exact jn101 0 _ _ _ ⟨Or.inl rfl, by (try dsimp only) <;> (first | (apply Int.le_antisymm <;> omega) | omega), hP, hD, hS, lv_sub hl [0, 1] rfl⟩
        · skip
          refine lv_if_eq (tgt := 100) hx hb d_VA_checkTables_72 (by decide) (fun c72 => ?_) (fun c72 => ?_)
          · have q72 := eqI c72
            exact jn100 () _ _ _ ⟨hP, hD, hS, lv_sub hl [0, 1] rfl⟩
          · have q72 := neI c72
            refine lv_aload_n hx hb d_VA_checkTables_75 rfl (lv_at hl 0 rfl) ?_
            refine va_get (D := (dC, dI)) (ci := 9) (v := .ref aw) (C := R_VA) (T := F_VA) (N := 11) hx hb hts i_VA hown hK hP 0 rfl rfl 0 (by decide) (hts _ kF_VA_28) (fun _ h9 => h9) rfl d_VA_checkTables_76 ?_
            refine va_get (D := (dC, dI)) (ci := 10) (v := .ref wgt) (C := R_WA) (T := F_WA) (N := 21) hx hb hts i_WA hown hK hP 1 rfl rfl 12 (by decide) (hts _ kF_VA_66) (fun _ h9 => h9) paw_12 d_VA_checkTables_79 ?_
            refine lv_iload_n hx hb d_VA_checkTables_82 rfl (lv_at hl 1 rfl) ?_
            have g83 : vp_in j56_l1 20 := vp_in_iff.mpr ⟨by (first | (apply Int.le_antisymm <;> omega) | omega), by (first | (apply Int.le_antisymm <;> omega) | omega)⟩
            refine va_iald hx hb hK hP 3 1 rfl rfl g83 d_VA_checkTables_83 ?_
            refine lv_topi (fun x8 ex8 => ?_)
            refine lv_aload_n hx hb d_VA_checkTables_84 rfl (lv_at hl 0 rfl) ?_
            refine va_get (D := (dC, dI)) (ci := 9) (v := .ref aw) (C := R_VA) (T := F_VA) (N := 11) hx hb hts i_VA hown hK hP 0 rfl rfl 0 (by decide) (hts _ kF_VA_28) (fun _ h9 => h9) rfl d_VA_checkTables_85 ?_
            refine va_get (D := (dC, dI)) (ci := 10) (v := .ref wft) (C := R_WA) (T := F_WA) (N := 21) hx hb hts i_WA hown hK hP 1 rfl rfl 13 (by decide) (hts _ kF_VA_69) (fun _ h9 => h9) paw_13 d_VA_checkTables_88 ?_
            refine lv_iload_n hx hb d_VA_checkTables_91 rfl (lv_at hl 1 rfl) ?_
            have g92 : vp_in j56_l1 20 := vp_in_iff.mpr ⟨by (first | (apply Int.le_antisymm <;> omega) | omega), by (first | (apply Int.le_antisymm <;> omega) | omega)⟩
            refine va_iald hx hb hK hP 4 2 rfl rfl g92 d_VA_checkTables_92 ?_
            refine lv_topi (fun x9 ex9 => ?_)
            refine lv_icmp_ne (tgt := 100) hx hb d_VA_checkTables_93 (by decide) (fun c93 => ?_) (fun c93 => ?_)
            · have q93 := neI c93
              exact jn100 () _ _ _ ⟨hP, hD, hS, lv_sub hl [0, 1] rfl⟩
            · have q93 := eqI c93
              refine lv_iconst (v := 1) hx hb d_VA_checkTables_96 (by decide) ?_
              refine lv_goto (tgt := 101) hx hb d_VA_checkTables_97 (by decide) ?_
              exact jn101 1 _ _ _ ⟨Or.inr rfl, by (try dsimp only) <;> (first | (apply Int.le_antisymm <;> omega) | omega), hP, hD, hS, lv_sub hl [0, 1] rfl⟩
  · have q10 := nleI c10
    refine lv_aload_n hx hb d_VA_checkTables_13 rfl (lv_at hl 0 rfl) ?_
    refine lv_aload_n hx hb d_VA_checkTables_14 rfl (lv_at hl 0 rfl) ?_
    refine va_get (D := (dC, dI)) (ci := 9) (v := .int j2_h0_sound) (C := R_VA) (T := F_VA) (N := 11) hx hb hts i_VA hown hK hP 0 rfl rfl 2 (by decide) (hts _ kF_VA_39) (fun _ h9 => h9) rfl d_VA_checkTables_15 ?_
    refine w_cut (pc2 := 45) (σ := Int32) (fun u H locs ls => match u with | j45_s0 => (j45_s0 = 0 ∨ j45_s0 = 1) ∧ (j45_s0.toInt = 1 → j2_h0_sound.toInt = 1 ∧ (gwaf j2_l1.toNatClampNeg).toInt < aw_typeCount.toInt) ∧ va_P (dC, dI) cls (wz_92 h0 aw ac j2_h0_sound h0_function ty h0_height bo bg bh bd h0_depth aw law waf cwaf gwaf wgt cwgt gwgt wft cwft gwft) H ∧ va_D A (wz_92 h0 aw ac j2_h0_sound h0_function ty h0_height bo bg bh bd h0_depth aw law waf cwaf gwaf wgt cwgt gwgt wft cwft gwft) ∧ va_S A s.heap H locs ∧ lv_has ls 2 [(0, .ref h0), (1, .int j2_l1)]) (fun u => match u with | j45_s0 => [.int j45_s0, .ref h0]) ?_ (fun jn45 => ?_)
    · intro u H locs ls hI
      obtain ⟨j45_s0, rfl⟩ : ∃ z, z = u := ⟨_, rfl⟩
      obtain ⟨b_j45_s0, x0, hP, hD, hS, hl⟩ := hI
      have tj45_s0 := b01 b_j45_s0
      refine va_put (D := (dC, dI)) (ci := 9) (v := .int j45_s0) (ty := .boolean) (C := R_VA) (T := F_VA) (N := 11) hx hb hts i_VA t_VA t_VA_ok n_VA hown hK hP hD hS 0 rfl rfl 2 (by decide) (hts _ kF_VA_39) (fun _ h9 => h9) rfl (by decide +kernel) (zn01 (b_j45_s0)) (fz01 (b_j45_s0)) (Nat.le_of_ble_eq_true rfl) d_VA_checkTables_45 (fun H locs hP hD hS => ?_)
      obtain ⟨x10, ex10⟩ : ∃ z : Int32, z = j2_l1 + 1 := ⟨_, rfl⟩
      have tx10 : x10.toInt = j2_l1.toInt + 1 := by have z := i32_add ex10 (by (first | (apply Int.le_antisymm <;> omega) | omega)) (by (first | (apply Int.le_antisymm <;> omega) | omega)); first | exact z | (first | (apply Int.le_antisymm <;> omega) | omega)
      refine lv_iinc (v := x10) (lv' := [(1, .int x10), (0, .ref h0)]) hx hb d_VA_checkTables_48 hl (k := 1) rfl (by rw [ex10]; rfl) (by decide) rfl (fun ls hl => ?_)
      refine lv_goto (tgt := 2) hx hb d_VA_checkTables_51 (by decide) ?_
      have c9 := i32_clamp (x := j2_l1) (by (first | (apply Int.le_antisymm <;> omega) | omega))
      exact ih2 (x10, j45_s0) _ _ _ (by show (aw_functionCount.toInt - x10.toInt).toNat < N2; (first | (apply Int.le_antisymm <;> omega) | omega)) ⟨by (try dsimp only) <;> (first | (apply Int.le_antisymm <;> omega) | omega), b_j45_s0, by (try dsimp only) <;> (first | (apply Int.le_antisymm <;> omega) | omega), by (try dsimp only) <;> (first | (apply Int.le_antisymm <;> omega) | omega), fun z f q => by by_cases y : (f : Int) < j2_l1.toInt; exact v3 (x0 z).1 f y; rw [show f = j2_l1.toNatClampNeg from by (first | (apply Int.le_antisymm <;> omega) | omega)]; exact (x0 z).2, hP, hD, hS, lv_sub hl [1, 0] rfl⟩
    · skip
      refine w_cut (pc2 := 44) (σ := Unit) (fun u H locs ls => match u with | _ => va_P (dC, dI) cls (wz_92 h0 aw ac j2_h0_sound h0_function ty h0_height bo bg bh bd h0_depth aw law waf cwaf gwaf wgt cwgt gwgt wft cwft gwft) H ∧ va_D A (wz_92 h0 aw ac j2_h0_sound h0_function ty h0_height bo bg bh bd h0_depth aw law waf cwaf gwaf wgt cwgt gwgt wft cwft gwft) ∧ va_S A s.heap H locs ∧ lv_has ls 2 [(0, .ref h0), (1, .int j2_l1)]) (fun u => match u with | _ => [.ref h0]) ?_ (fun jn44 => ?_)
      · intro u H locs ls hI
        obtain ⟨hP, hD, hS, hl⟩ := hI
        refine lv_iconst (v := 0) hx hb d_VA_checkTables_44 (by decide) ?_
        exact jn45 0 _ _ _ ⟨Or.inl rfl, by (try dsimp only) <;> (first | (apply Int.le_antisymm <;> omega) | omega), hP, hD, hS, lv_sub hl [0, 1] rfl⟩
      · skip
        refine lv_if_eq (tgt := 44) hx hb d_VA_checkTables_18 (by decide) (fun c18 => ?_) (fun c18 => ?_)
        · have q18 := eqI c18
          exact jn44 () _ _ _ ⟨hP, hD, hS, lv_sub hl [0, 1] rfl⟩
        · have q18 := neI c18
          refine lv_aload_n hx hb d_VA_checkTables_21 rfl (lv_at hl 0 rfl) ?_
          refine va_get (D := (dC, dI)) (ci := 9) (v := .ref aw) (C := R_VA) (T := F_VA) (N := 11) hx hb hts i_VA hown hK hP 0 rfl rfl 0 (by decide) (hts _ kF_VA_28) (fun _ h9 => h9) rfl d_VA_checkTables_22 ?_
          refine va_get (D := (dC, dI)) (ci := 10) (v := .ref waf) (C := R_WA) (T := F_WA) (N := 21) hx hb hts i_WA hown hK hP 1 rfl rfl 7 (by decide) (hts _ kF_VA_57) (fun _ h9 => h9) paw_7 d_VA_checkTables_25 ?_
          refine lv_iload_n hx hb d_VA_checkTables_28 rfl (lv_at hl 1 rfl) ?_
          have g29 : vp_in j2_l1 30 := vp_in_iff.mpr ⟨by (first | (apply Int.le_antisymm <;> omega) | omega), by (first | (apply Int.le_antisymm <;> omega) | omega)⟩
          refine va_iald hx hb hK hP 2 0 rfl rfl g29 d_VA_checkTables_29 ?_
          refine lv_topi (fun x11 ex11 => ?_)
          have tx11 : x11.toInt = (gwaf j2_l1.toNatClampNeg).toInt := by rw [ex11]
          refine lv_aload_n hx hb d_VA_checkTables_30 rfl (lv_at hl 0 rfl) ?_
          refine va_get (D := (dC, dI)) (ci := 9) (v := .ref aw) (C := R_VA) (T := F_VA) (N := 11) hx hb hts i_VA hown hK hP 0 rfl rfl 0 (by decide) (hts _ kF_VA_28) (fun _ h9 => h9) rfl d_VA_checkTables_31 ?_
          refine va_get (D := (dC, dI)) (ci := 10) (v := .int aw_typeCount) (C := R_WA) (T := F_WA) (N := 21) hx hb hts i_WA hown hK hP 1 rfl rfl 2 (by decide) (hts _ kF_VA_60) (fun _ h9 => h9) paw_2 d_VA_checkTables_34 ?_
          refine lv_icmp_ge (tgt := 44) hx hb d_VA_checkTables_37 (by decide) (fun c37 => ?_) (fun c37 => ?_)
          · have q37 := leI c37
            exact jn44 () _ _ _ ⟨hP, hD, hS, lv_sub hl [0, 1] rfl⟩
          · have q37 := nleI c37
            refine lv_iconst (v := 1) hx hb d_VA_checkTables_40 (by decide) ?_
            refine lv_goto (tgt := 45) hx hb d_VA_checkTables_41 (by decide) ?_
            exact jn45 1 _ _ _ ⟨Or.inr rfl, by (try dsimp only) <;> (first | (apply Int.le_antisymm <;> omega) | omega), hP, hD, hS, lv_sub hl [0, 1] rfl⟩
abbrev b_VA_checkExports : ByteArray := prog_12_method_4_code
def y_VA_checkExports : MethodName := ⟨R_VA, "checkExports", "()V"⟩
abbrev w_VA_checkExports : List Cond := .code y_VA_checkExports b_VA_checkExports 4 none :: lw_g
theorem kC_VA_checkExports : Cond.code y_VA_checkExports b_VA_checkExports 4 none ∈ lw_g := in_c6 202 rfl rfl
theorem d_VA_checkExports_0 : decode b_VA_checkExports 0 = .ok (.iconst 0, 1) := bz_c3 (by decide +kernel)
theorem d_VA_checkExports_1 : decode b_VA_checkExports 1 = .ok (.istore_n 1, 1) := bz_c60 (by decide +kernel)
theorem d_VA_checkExports_2 : decode b_VA_checkExports 2 = .ok (.iload_n 1, 1) := bz_c27 (by decide +kernel)
theorem d_VA_checkExports_3 : decode b_VA_checkExports 3 = .ok (.aload_n 0, 1) := bz_c42 (by decide +kernel)
theorem d_VA_checkExports_4 : decode b_VA_checkExports 4 = .ok (.getfield 28, 3) := bz_c180 (by decide +kernel)
theorem d_VA_checkExports_7 : decode b_VA_checkExports 7 = .ok (.getfield 83, 3) := bz_c180 (by decide +kernel)
theorem d_VA_checkExports_10 : decode b_VA_checkExports 10 = .ok (.if_icmp .ge 189, 3) := bz_c162 (by decide +kernel)
theorem d_VA_checkExports_13 : decode b_VA_checkExports 13 = .ok (.aload_n 0, 1) := bz_c42 (by decide +kernel)
theorem d_VA_checkExports_14 : decode b_VA_checkExports 14 = .ok (.getfield 28, 3) := bz_c180 (by decide +kernel)
theorem d_VA_checkExports_17 : decode b_VA_checkExports 17 = .ok (.getfield 86, 3) := bz_c180 (by decide +kernel)
theorem d_VA_checkExports_20 : decode b_VA_checkExports 20 = .ok (.iload_n 1, 1) := bz_c27 (by decide +kernel)
theorem d_VA_checkExports_21 : decode b_VA_checkExports 21 = .ok (.iaload, 1) := bz_c46 (by decide +kernel)
theorem d_VA_checkExports_22 : decode b_VA_checkExports 22 = .ok (.ifCond .ne 13, 3) := bz_c154 (by decide +kernel)
theorem d_VA_checkExports_25 : decode b_VA_checkExports 25 = .ok (.aload_n 0, 1) := bz_c42 (by decide +kernel)
theorem d_VA_checkExports_26 : decode b_VA_checkExports 26 = .ok (.getfield 28, 3) := bz_c180 (by decide +kernel)
theorem d_VA_checkExports_29 : decode b_VA_checkExports 29 = .ok (.getfield 49, 3) := bz_c180 (by decide +kernel)
theorem d_VA_checkExports_32 : decode b_VA_checkExports 32 = .ok (.goto 41, 3) := bz_c167 (by decide +kernel)
theorem d_VA_checkExports_35 : decode b_VA_checkExports 35 = .ok (.aload_n 0, 1) := bz_c42 (by decide +kernel)
theorem d_VA_checkExports_36 : decode b_VA_checkExports 36 = .ok (.getfield 28, 3) := bz_c180 (by decide +kernel)
theorem d_VA_checkExports_39 : decode b_VA_checkExports 39 = .ok (.getfield 86, 3) := bz_c180 (by decide +kernel)
theorem d_VA_checkExports_42 : decode b_VA_checkExports 42 = .ok (.iload_n 1, 1) := bz_c27 (by decide +kernel)
theorem d_VA_checkExports_43 : decode b_VA_checkExports 43 = .ok (.iaload, 1) := bz_c46 (by decide +kernel)
theorem d_VA_checkExports_44 : decode b_VA_checkExports 44 = .ok (.iconst 3, 1) := bz_c6 (by decide +kernel)
theorem d_VA_checkExports_45 : decode b_VA_checkExports 45 = .ok (.if_icmp .ne 13, 3) := bz_c160 (by decide +kernel)
theorem d_VA_checkExports_48 : decode b_VA_checkExports 48 = .ok (.aload_n 0, 1) := bz_c42 (by decide +kernel)
theorem d_VA_checkExports_49 : decode b_VA_checkExports 49 = .ok (.getfield 28, 3) := bz_c180 (by decide +kernel)
theorem d_VA_checkExports_52 : decode b_VA_checkExports 52 = .ok (.getfield 63, 3) := bz_c180 (by decide +kernel)
theorem d_VA_checkExports_55 : decode b_VA_checkExports 55 = .ok (.goto 18, 3) := bz_c167 (by decide +kernel)
theorem d_VA_checkExports_58 : decode b_VA_checkExports 58 = .ok (.aload_n 0, 1) := bz_c42 (by decide +kernel)
theorem d_VA_checkExports_59 : decode b_VA_checkExports 59 = .ok (.getfield 28, 3) := bz_c180 (by decide +kernel)
theorem d_VA_checkExports_62 : decode b_VA_checkExports 62 = .ok (.getfield 89, 3) := bz_c180 (by decide +kernel)
theorem d_VA_checkExports_65 : decode b_VA_checkExports 65 = .ok (.ifCond .eq 7, 3) := bz_c153 (by decide +kernel)
theorem d_VA_checkExports_68 : decode b_VA_checkExports 68 = .ok (.iconst 1, 1) := bz_c4 (by decide +kernel)
theorem d_VA_checkExports_69 : decode b_VA_checkExports 69 = .ok (.goto 4, 3) := bz_c167 (by decide +kernel)
theorem d_VA_checkExports_72 : decode b_VA_checkExports 72 = .ok (.iconst 0, 1) := bz_c3 (by decide +kernel)
theorem d_VA_checkExports_73 : decode b_VA_checkExports 73 = .ok (.istore_n 2, 1) := bz_c61 (by decide +kernel)
theorem d_VA_checkExports_74 : decode b_VA_checkExports 74 = .ok (.aload_n 0, 1) := bz_c42 (by decide +kernel)
theorem d_VA_checkExports_75 : decode b_VA_checkExports 75 = .ok (.aload_n 0, 1) := bz_c42 (by decide +kernel)
theorem d_VA_checkExports_76 : decode b_VA_checkExports 76 = .ok (.getfield 39, 3) := bz_c180 (by decide +kernel)
theorem d_VA_checkExports_79 : decode b_VA_checkExports 79 = .ok (.ifCond .eq 20, 3) := bz_c153 (by decide +kernel)
theorem d_VA_checkExports_82 : decode b_VA_checkExports 82 = .ok (.aload_n 0, 1) := bz_c42 (by decide +kernel)
theorem d_VA_checkExports_83 : decode b_VA_checkExports 83 = .ok (.getfield 28, 3) := bz_c180 (by decide +kernel)
theorem d_VA_checkExports_86 : decode b_VA_checkExports 86 = .ok (.getfield 92, 3) := bz_c180 (by decide +kernel)
theorem d_VA_checkExports_89 : decode b_VA_checkExports 89 = .ok (.iload_n 1, 1) := bz_c27 (by decide +kernel)
theorem d_VA_checkExports_90 : decode b_VA_checkExports 90 = .ok (.iaload, 1) := bz_c46 (by decide +kernel)
theorem d_VA_checkExports_91 : decode b_VA_checkExports 91 = .ok (.iload_n 2, 1) := bz_c28 (by decide +kernel)
theorem d_VA_checkExports_92 : decode b_VA_checkExports 92 = .ok (.if_icmp .ge 7, 3) := bz_c162 (by decide +kernel)
theorem d_VA_checkExports_95 : decode b_VA_checkExports 95 = .ok (.iconst 1, 1) := bz_c4 (by decide +kernel)
theorem d_VA_checkExports_96 : decode b_VA_checkExports 96 = .ok (.goto 4, 3) := bz_c167 (by decide +kernel)
theorem d_VA_checkExports_99 : decode b_VA_checkExports 99 = .ok (.iconst 0, 1) := bz_c3 (by decide +kernel)
theorem d_VA_checkExports_100 : decode b_VA_checkExports 100 = .ok (.putfield 39, 3) := bz_c181 (by decide +kernel)
theorem d_VA_checkExports_103 : decode b_VA_checkExports 103 = .ok (.iconst 0, 1) := bz_c3 (by decide +kernel)
theorem d_VA_checkExports_104 : decode b_VA_checkExports 104 = .ok (.istore_n 3, 1) := bz_c62 (by decide +kernel)
theorem d_VA_checkExports_105 : decode b_VA_checkExports 105 = .ok (.iload_n 3, 1) := bz_c29 (by decide +kernel)
theorem d_VA_checkExports_106 : decode b_VA_checkExports 106 = .ok (.iload_n 1, 1) := bz_c27 (by decide +kernel)
theorem d_VA_checkExports_107 : decode b_VA_checkExports 107 = .ok (.if_icmp .ge 86, 3) := bz_c162 (by decide +kernel)
theorem d_VA_checkExports_110 : decode b_VA_checkExports 110 = .ok (.aload_n 0, 1) := bz_c42 (by decide +kernel)
theorem d_VA_checkExports_111 : decode b_VA_checkExports 111 = .ok (.aload_n 0, 1) := bz_c42 (by decide +kernel)
theorem d_VA_checkExports_112 : decode b_VA_checkExports 112 = .ok (.getfield 39, 3) := bz_c180 (by decide +kernel)
theorem d_VA_checkExports_115 : decode b_VA_checkExports 115 = .ok (.ifCond .eq 68, 3) := bz_c153 (by decide +kernel)
theorem d_VA_checkExports_118 : decode b_VA_checkExports 118 = .ok (.aload_n 0, 1) := bz_c42 (by decide +kernel)
theorem d_VA_checkExports_119 : decode b_VA_checkExports 119 = .ok (.getfield 28, 3) := bz_c180 (by decide +kernel)
theorem d_VA_checkExports_122 : decode b_VA_checkExports 122 = .ok (.getfield 95, 3) := bz_c180 (by decide +kernel)
theorem d_VA_checkExports_125 : decode b_VA_checkExports 125 = .ok (.iload_n 1, 1) := bz_c27 (by decide +kernel)
theorem d_VA_checkExports_126 : decode b_VA_checkExports 126 = .ok (.iaload, 1) := bz_c46 (by decide +kernel)
theorem d_VA_checkExports_127 : decode b_VA_checkExports 127 = .ok (.aload_n 0, 1) := bz_c42 (by decide +kernel)
theorem d_VA_checkExports_128 : decode b_VA_checkExports 128 = .ok (.getfield 28, 3) := bz_c180 (by decide +kernel)
theorem d_VA_checkExports_131 : decode b_VA_checkExports 131 = .ok (.getfield 95, 3) := bz_c180 (by decide +kernel)
theorem d_VA_checkExports_134 : decode b_VA_checkExports 134 = .ok (.iload_n 3, 1) := bz_c29 (by decide +kernel)
theorem d_VA_checkExports_135 : decode b_VA_checkExports 135 = .ok (.iaload, 1) := bz_c46 (by decide +kernel)
theorem d_VA_checkExports_136 : decode b_VA_checkExports 136 = .ok (.if_icmp .ne 43, 3) := bz_c160 (by decide +kernel)
theorem d_VA_checkExports_139 : decode b_VA_checkExports 139 = .ok (.aload_n 0, 1) := bz_c42 (by decide +kernel)
theorem d_VA_checkExports_140 : decode b_VA_checkExports 140 = .ok (.getfield 28, 3) := bz_c180 (by decide +kernel)
theorem d_VA_checkExports_143 : decode b_VA_checkExports 143 = .ok (.getfield 98, 3) := bz_c180 (by decide +kernel)
theorem d_VA_checkExports_146 : decode b_VA_checkExports 146 = .ok (.aload_n 0, 1) := bz_c42 (by decide +kernel)
theorem d_VA_checkExports_147 : decode b_VA_checkExports 147 = .ok (.getfield 28, 3) := bz_c180 (by decide +kernel)
theorem d_VA_checkExports_150 : decode b_VA_checkExports 150 = .ok (.getfield 102, 3) := bz_c180 (by decide +kernel)
theorem d_VA_checkExports_153 : decode b_VA_checkExports 153 = .ok (.iload_n 1, 1) := bz_c27 (by decide +kernel)
theorem d_VA_checkExports_154 : decode b_VA_checkExports 154 = .ok (.iaload, 1) := bz_c46 (by decide +kernel)
theorem d_VA_checkExports_155 : decode b_VA_checkExports 155 = .ok (.aload_n 0, 1) := bz_c42 (by decide +kernel)
theorem d_VA_checkExports_156 : decode b_VA_checkExports 156 = .ok (.getfield 28, 3) := bz_c180 (by decide +kernel)
theorem d_VA_checkExports_159 : decode b_VA_checkExports 159 = .ok (.getfield 102, 3) := bz_c180 (by decide +kernel)
theorem d_VA_checkExports_162 : decode b_VA_checkExports 162 = .ok (.iload_n 3, 1) := bz_c29 (by decide +kernel)
theorem d_VA_checkExports_163 : decode b_VA_checkExports 163 = .ok (.iaload, 1) := bz_c46 (by decide +kernel)
theorem d_VA_checkExports_164 : decode b_VA_checkExports 164 = .ok (.aload_n 0, 1) := bz_c42 (by decide +kernel)
theorem d_VA_checkExports_165 : decode b_VA_checkExports 165 = .ok (.getfield 28, 3) := bz_c180 (by decide +kernel)
theorem d_VA_checkExports_168 : decode b_VA_checkExports 168 = .ok (.getfield 95, 3) := bz_c180 (by decide +kernel)
theorem d_VA_checkExports_171 : decode b_VA_checkExports 171 = .ok (.iload_n 1, 1) := bz_c27 (by decide +kernel)
theorem d_VA_checkExports_172 : decode b_VA_checkExports 172 = .ok (.iaload, 1) := bz_c46 (by decide +kernel)
theorem d_VA_checkExports_173 : decode b_VA_checkExports 173 = .ok (.invokevirtual 105, 3) := bz_c182 (by decide +kernel)
theorem d_VA_checkExports_176 : decode b_VA_checkExports 176 = .ok (.ifCond .ne 7, 3) := bz_c154 (by decide +kernel)
theorem d_VA_checkExports_179 : decode b_VA_checkExports 179 = .ok (.iconst 1, 1) := bz_c4 (by decide +kernel)
theorem d_VA_checkExports_180 : decode b_VA_checkExports 180 = .ok (.goto 4, 3) := bz_c167 (by decide +kernel)
theorem d_VA_checkExports_183 : decode b_VA_checkExports 183 = .ok (.iconst 0, 1) := bz_c3 (by decide +kernel)
theorem d_VA_checkExports_184 : decode b_VA_checkExports 184 = .ok (.putfield 39, 3) := bz_c181 (by decide +kernel)
theorem d_VA_checkExports_187 : decode b_VA_checkExports 187 = .ok (.iinc 3 1, 3) := by decide +kernel
theorem d_VA_checkExports_190 : decode b_VA_checkExports 190 = .ok (.goto (-85), 3) := bz_c167 (by decide +kernel)
theorem d_VA_checkExports_193 : decode b_VA_checkExports 193 = .ok (.iinc 1 1, 3) := by decide +kernel
theorem d_VA_checkExports_196 : decode b_VA_checkExports 196 = .ok (.goto (-194), 3) := bz_c167 (by decide +kernel)
theorem d_VA_checkExports_199 : decode b_VA_checkExports 199 = .ok (.return_, 1) := bz_c177 (by decide +kernel)
theorem kM_VA_105 : Cond.methodLink R_VA 105 y_BR_samePart ∈ lw_g := in_c6 203 rfl rfl
theorem kV_BR_samePart : Cond.instanceMethod y_BR_samePart ∈ lw_g := in_c5 131 rfl rfl
theorem kS_BR_samePart : Cond.selects R_BR y_BR_samePart y_BR_samePart ∈ lw_g := in_c5 132 rfl rfl
theorem kF_VA_83 : Cond.fieldLink R_VA 83 "WaferForge$Wafer" "exportCount" "I" ∈ lw_g := in_c1 194 rfl rfl
theorem kF_VA_86 : Cond.fieldLink R_VA 86 "WaferForge$Wafer" "exportKinds" "[I" ∈ lw_g := in_c1 197 rfl rfl
theorem kF_VA_95 : Cond.fieldLink R_VA 95 "WaferForge$Wafer" "exportSizes" "[I" ∈ lw_g := in_c1 206 rfl rfl
theorem kF_VA_98 : Cond.fieldLink R_VA 98 "WaferForge$Wafer" "bytes" "LWaferForge$ByteRow;" ∈ lw_g := in_c1 144 rfl rfl
theorem kF_VA_102 : Cond.fieldLink R_VA 102 "WaferForge$Wafer" "exportStarts" "[I" ∈ lw_g := in_c1 203 rfl rfl
theorem kF_VA_92 : Cond.fieldLink R_VA 92 "WaferForge$Wafer" "exportIndices" "[I" ∈ lw_g := in_c1 200 rfl rfl
abbrev at_VA_checkExports (dC : Nat → ClassId) (dI : Nat → Nat → Nat) (h0 aw ac ty bo bg bh bd ab wek wei wes wez ax : Nat) (cax cwek cwei cwes cwez : ClassId) (h0_function : Int32) (h0_height : Int32) (h0_depth : Int32) (law : List Value) (aw_functionCount : Int32) (aw_hasMemory : Int32) (aw_globalCount : Int32) (aw_exportCount : Int32) (ab_length : Int32) (gax : Nat → Int32) (gwek : Nat → Int32) (gwei : Nat → Int32) (gwes : Nat → Int32) (gwez : Nat → Int32) (A : Nat → Prop) (u : Int32) (t : State) : Prop := match u with | h0_sound => va_P (dC, dI) cls (wz_93 h0 aw ac h0_sound h0_function ty h0_height bo bg bh bd h0_depth aw law ab ax ab_length ax cax gax wek cwek gwek wei cwei gwei wes cwes gwes wez cwez gwez) t.heap ∧ va_K (dC, dI) cls [(cax, .byte), (cwek, .int), (cwei, .int), (cwes, .int), (cwez, .int)] t ∧ va_D A (wz_93 h0 aw ac h0_sound h0_function ty h0_height bo bg bh bd h0_depth aw law ab ax ab_length ax cax gax wek cwek gwek wei cwei gwei wes cwes gwes wez cwez gwez)
set_option maxHeartbeats 4000000 in
set_option maxRecDepth 100000 in
theorem c_VA_checkExports (l : Launch) (dC : Nat → ClassId) (dI : Nat → Nat → Nat) (sz : Nat) (h0 aw ac ty bo bg bh bd ab wek wei wes wez ax : Nat) (cax cwek cwei cwes cwez : ClassId) (h0_sound : Int32) (h0_function : Int32) (h0_height : Int32) (h0_depth : Int32) (law : List Value) (aw_functionCount : Int32) (aw_hasMemory : Int32) (aw_globalCount : Int32) (aw_exportCount : Int32) (ab_length : Int32) (gax : Nat → Int32) (gwek : Nat → Int32) (gwei : Nat → Int32) (gwes : Nat → Int32) (gwez : Nat → Int32) (paw_0 : law[0]? = some (.ref ab)) (paw_6 : law[6]? = some (.int aw_functionCount)) (paw_8 : law[8]? = some (.int aw_hasMemory)) (paw_11 : law[11]? = some (.int aw_globalCount)) (paw_16 : law[16]? = some (.int aw_exportCount)) (paw_17 : law[17]? = some (.ref wek)) (paw_18 : law[18]? = some (.ref wei)) (paw_19 : law[19]? = some (.ref wes)) (paw_20 : law[20]? = some (.ref wez)) (plaw : law.length = 21) (b_h0_sound : h0_sound = 0 ∨ h0_sound = 1) (b_ab_length : 0 ≤ ab_length.toInt ∧ ab_length.toInt ≤ 8192) (b_aw_functionCount : 0 ≤ aw_functionCount.toInt ∧ aw_functionCount.toInt ≤ 30) (b_aw_hasMemory : aw_hasMemory = 0 ∨ aw_hasMemory = 1) (b_aw_globalCount : 0 ≤ aw_globalCount.toInt ∧ aw_globalCount.toInt ≤ 20) (b_aw_exportCount : 0 ≤ aw_exportCount.toInt ∧ aw_exportCount.toInt ≤ 40)   (hre : rd_E aw_exportCount.toInt gwez) : Met l y_VA_checkExports w_VA_checkExports ({ frames := 1, cells := 0, slots := 0, locals := 24 }) (va_Pc [.ref h0] (fun U => U.heap.size = sz ∧ va_P (dC, dI) cls (wz_93 h0 aw ac h0_sound h0_function ty h0_height bo bg bh bd h0_depth aw law ab ax ab_length ax cax gax wek cwek gwek wei cwei gwei wes cwes gwes wez cwez gwez) U.heap ∧ va_K (dC, dI) cls [(cax, .byte), (cwek, .int), (cwei, .int), (cwes, .int), (cwez, .int)] U ∧ va_D (fun _ => True) (wz_93 h0 aw ac h0_sound h0_function ty h0_height bo bg bh bd h0_depth aw law ab ax ab_length ax cax gax wek cwek gwek wei cwei gwei wes cwes gwes wez cwez gwez))) (va_Qv (fun (u : Int32) => match u with | h0_sound2 => (h0_sound2 = 0 ∨ h0_sound2 = 1) ∧ (h0_sound2.toInt = 1 → h0_sound.toInt = 1)) (at_VA_checkExports dC dI h0 aw ac ty bo bg bh bd ab wek wei wes wez ax cax cwek cwei cwes cwez h0_function h0_height h0_depth law aw_functionCount aw_hasMemory aw_globalCount aw_exportCount ab_length gax gwek gwei gwes gwez (va_A (wz_93 h0 aw ac h0_sound h0_function ty h0_height bo bg bh bd h0_depth aw law ab ax ab_length ax cax gax wek cwek gwek wei cwei gwei wes cwes gwes wez cwez gwez) sz)) (va_A (wz_93 h0 aw ac h0_sound h0_function ty h0_height bo bg bh bd h0_depth aw law ab ax ab_length ax cax gax wek cwek gwek wei cwei gwei wes cwes gwes wez cwez gwez) sz)) 0 0 (va_A (wz_93 h0 aw ac h0_sound h0_function ty h0_height bo bg bh bd h0_depth aw law ab ax ab_length ax cax gax wek cwek gwek wei cwei gwei wes cwes gwes wez cwez gwez) sz) := by
  refine Met.ofW (cc := b_VA_checkExports) (maxL := 4) (ret := none) (by decide) rfl ?_
  intro p e s m args below meth c s₁ B hml hv
  obtain ⟨rfl, hsz, hP, hK, hD0⟩ := hv
  have hx := B.exec
  have hb := B.bytes
  have hr := B.returns
  have hts0 := atoms_spec (ws := w_VA_checkExports) B.pre
  have hts : ∀ w ∈ lw_g, w.before _ s = true := fun w h => hts0 w (List.mem_cons_of_mem _ h)
  have hown : s.vm.findClass R_VA = some m.cls := findClass_of_methodNamed B.named
  have hlocks := B.notSynchronized
  clear hts0
  subst hsz
  have hD := hD0.self (sz := s.heap.size)
  generalize hAe : va_A (wz_93 h0 aw ac h0_sound h0_function ty h0_height bo bg bh bd h0_depth aw law ab ax ab_length ax cax gax wek cwek gwek wei cwei gwei wes cwes gwes wez cwez gwez) s.heap.size = A at hD ⊢
  have hA : ∀ q : Nat, s.heap.size ≤ q → A q := fun q h => by rw [← hAe]; exact Or.inr h
  clear hAe
  have hP : va_P (dC, dI) cls (wz_93 h0 aw ac h0_sound h0_function ty h0_height bo bg bh bd h0_depth aw law ab ax ab_length ax cax gax wek cwek gwek wei cwei gwei wes cwes gwes wez cwez gwez) s.heap := hP
  have hl := lv_entry ([.ref h0]) (n := 4) (Nat.le_of_ble_eq_true rfl)
  rw [lg_entry_eq]
  generalize (lg_sl ([.ref h0]) ++ List.replicate (4 - (lg_sl ([.ref h0])).length) Slot.unset).toArray = ls at hl ⊢
  have hl : lv_has ls 4 [(0, .ref h0)] := hl
  have k0 : (0 : Int32).toInt = 0 := by decide
  refine w_gen (A := A) hP (fun H locs hP hS => ?_)
  have k1 : (1 : Int32).toInt = 1 := by decide
  have k3 : (3 : Int32).toInt = 3 := by decide
  have th0_sound := b01 b_h0_sound
  have taw_hasMemory := b01 b_aw_hasMemory
  refine lv_iconst (v := 0) hx hb d_VA_checkExports_0 (by decide) ?_
  refine lv_istore_n (lv' := [(1, .int 0), (0, .ref h0)]) hx hb d_VA_checkExports_1 rfl hl (by decide) rfl (fun ls hl => ?_)
  refine w_loop (σ := Int32 × Int32) (fun u H locs ls => match u with | (j2_l1, j2_h0_sound) => (0 ≤ j2_l1.toInt ∧ j2_l1.toInt ≤ 40) ∧ (j2_h0_sound = 0 ∨ j2_h0_sound = 1) ∧ (j2_l1.toInt ≤ aw_exportCount.toInt) ∧ (j2_h0_sound.toInt = 1 → h0_sound.toInt = 1) ∧ va_P (dC, dI) cls (wz_93 h0 aw ac j2_h0_sound h0_function ty h0_height bo bg bh bd h0_depth aw law ab ax ab_length ax cax gax wek cwek gwek wei cwei gwei wes cwes gwes wez cwez gwez) H ∧ va_D A (wz_93 h0 aw ac j2_h0_sound h0_function ty h0_height bo bg bh bd h0_depth aw law ab ax ab_length ax cax gax wek cwek gwek wei cwei gwei wes cwes gwes wez cwez gwez) ∧ va_S A s.heap H locs ∧ lv_has ls 4 [(0, .ref h0), (1, .int j2_l1)]) (fun u => match u with | (j2_l1, j2_h0_sound) => (aw_exportCount.toInt - j2_l1.toInt).toNat) ?_ (0, h0_sound) ⟨by (try dsimp only) <;> (first | (apply Int.le_antisymm <;> omega) | omega), b_h0_sound, by (try dsimp only) <;> (first | (apply Int.le_antisymm <;> omega) | omega), by (try dsimp only) <;> (first | (apply Int.le_antisymm <;> omega) | omega), hP, hD, hS, lv_sub hl [1, 0] rfl⟩
  intro N2 ih2 u H locs ls hN2 hI
  obtain ⟨j2_l1, j2_h0_sound⟩ := u
  obtain ⟨b_j2_l1, b_j2_h0_sound, v1, v2, hP, hD, hS, hl⟩ := hI
  have tj2_h0_sound := b01 b_j2_h0_sound
  have hN2 : (aw_exportCount.toInt - j2_l1.toInt).toNat < N2 + 1 := hN2
  refine lv_iload_n hx hb d_VA_checkExports_2 rfl (lv_at hl 1 rfl) ?_
  refine lv_aload_n hx hb d_VA_checkExports_3 rfl (lv_at hl 0 rfl) ?_
  refine va_get (D := (dC, dI)) (ci := 9) (v := .ref aw) (C := R_VA) (T := F_VA) (N := 11) hx hb hts i_VA hown hK hP 0 rfl rfl 0 (by decide) (hts _ kF_VA_28) (fun _ h9 => h9) rfl d_VA_checkExports_4 ?_
  refine va_get (D := (dC, dI)) (ci := 10) (v := .int aw_exportCount) (C := R_WA) (T := F_WA) (N := 21) hx hb hts i_WA hown hK hP 1 rfl rfl 16 (by decide) (hts _ kF_VA_83) (fun _ h9 => h9) paw_16 d_VA_checkExports_7 ?_
  refine lv_icmp_ge (tgt := 199) hx hb d_VA_checkExports_10 (by decide) (fun c10 => ?_) (fun c10 => ?_)
  · have q10 := leI c10
    have hP9 := hP.sb (wq := (wz_93 h0 aw ac j2_h0_sound h0_function ty h0_height bo bg bh bd h0_depth aw law ab ax ab_length ax cax gax wek cwek gwek wei cwei gwei wes cwes gwes wez cwez gwez)) [0, 1, 2, 3, 4, 5, 6, 7] rfl
    have hD9 := hD.sb (wq := (wz_93 h0 aw ac j2_h0_sound h0_function ty h0_height bo bg bh bd h0_depth aw law ab ax ab_length ax cax gax wek cwek gwek wei cwei gwei wes cwes gwes wez cwez gwez)) [0, 1, 2, 3, 4, 5, 6, 7] (by decide) rfl
    exact W.vret hx hb hr (fun t ht hW => ⟨⟨j2_h0_sound, rfl, ⟨b_j2_h0_sound, by (try dsimp only) <;> (first | (apply Int.le_antisymm <;> omega) | omega)⟩, va_P.he ht.symm hP9, va_K.moved hW.alike hK, hD9⟩, hS.F ht⟩) hS.2.2 d_VA_checkExports_199
  · have q10 := nleI c10
    refine lv_aload_n hx hb d_VA_checkExports_13 rfl (lv_at hl 0 rfl) ?_
    refine va_get (D := (dC, dI)) (ci := 9) (v := .ref aw) (C := R_VA) (T := F_VA) (N := 11) hx hb hts i_VA hown hK hP 0 rfl rfl 0 (by decide) (hts _ kF_VA_28) (fun _ h9 => h9) rfl d_VA_checkExports_14 ?_
    refine va_get (D := (dC, dI)) (ci := 10) (v := .ref wek) (C := R_WA) (T := F_WA) (N := 21) hx hb hts i_WA hown hK hP 1 rfl rfl 17 (by decide) (hts _ kF_VA_86) (fun _ h9 => h9) paw_17 d_VA_checkExports_17 ?_
    refine lv_iload_n hx hb d_VA_checkExports_20 rfl (lv_at hl 1 rfl) ?_
    have g21 : vp_in j2_l1 40 := vp_in_iff.mpr ⟨by (first | (apply Int.le_antisymm <;> omega) | omega), by (first | (apply Int.le_antisymm <;> omega) | omega)⟩
    refine va_iald hx hb hK hP 4 1 rfl rfl g21 d_VA_checkExports_21 ?_
    refine lv_topi (fun x1 ex1 => ?_)
    refine w_cut (pc2 := 73) (σ := Int32) (fun u H locs ls => match u with | j73_s0 => va_P (dC, dI) cls (wz_93 h0 aw ac j2_h0_sound h0_function ty h0_height bo bg bh bd h0_depth aw law ab ax ab_length ax cax gax wek cwek gwek wei cwei gwei wes cwes gwes wez cwez gwez) H ∧ va_D A (wz_93 h0 aw ac j2_h0_sound h0_function ty h0_height bo bg bh bd h0_depth aw law ab ax ab_length ax cax gax wek cwek gwek wei cwei gwei wes cwes gwes wez cwez gwez) ∧ va_S A s.heap H locs ∧ lv_has ls 4 [(0, .ref h0), (1, .int j2_l1)]) (fun u => match u with | j73_s0 => [.int j73_s0]) ?_ (fun jn73 => ?_)
    · intro u H locs ls hI
      obtain ⟨j73_s0, rfl⟩ : ∃ z, z = u := ⟨_, rfl⟩
      obtain ⟨hP, hD, hS, hl⟩ := hI
      refine lv_istore_n (lv' := [(2, .int j73_s0), (0, .ref h0), (1, .int j2_l1)]) hx hb d_VA_checkExports_73 rfl hl (by decide) rfl (fun ls hl => ?_)
      refine lv_aload_n hx hb d_VA_checkExports_74 rfl (lv_at hl 1 rfl) ?_
      refine lv_aload_n hx hb d_VA_checkExports_75 rfl (lv_at hl 1 rfl) ?_
      refine va_get (D := (dC, dI)) (ci := 9) (v := .int j2_h0_sound) (C := R_VA) (T := F_VA) (N := 11) hx hb hts i_VA hown hK hP 0 rfl rfl 2 (by decide) (hts _ kF_VA_39) (fun _ h9 => h9) rfl d_VA_checkExports_76 ?_
      refine w_cut (pc2 := 100) (σ := Int32) (fun u H locs ls => match u with | j100_s0 => (j100_s0 = 0 ∨ j100_s0 = 1) ∧ (j100_s0.toInt = 1 → j2_h0_sound.toInt = 1) ∧ va_P (dC, dI) cls (wz_93 h0 aw ac j2_h0_sound h0_function ty h0_height bo bg bh bd h0_depth aw law ab ax ab_length ax cax gax wek cwek gwek wei cwei gwei wes cwes gwes wez cwez gwez) H ∧ va_D A (wz_93 h0 aw ac j2_h0_sound h0_function ty h0_height bo bg bh bd h0_depth aw law ab ax ab_length ax cax gax wek cwek gwek wei cwei gwei wes cwes gwes wez cwez gwez) ∧ va_S A s.heap H locs ∧ lv_has ls 4 [(0, .ref h0), (1, .int j2_l1)]) (fun u => match u with | j100_s0 => [.int j100_s0, .ref h0]) ?_ (fun jn100 => ?_)
      · intro u H locs ls hI
        obtain ⟨j100_s0, rfl⟩ : ∃ z, z = u := ⟨_, rfl⟩
        obtain ⟨b_j100_s0, x0, hP, hD, hS, hl⟩ := hI
        have tj100_s0 := b01 b_j100_s0
        refine va_put (D := (dC, dI)) (ci := 9) (v := .int j100_s0) (ty := .boolean) (C := R_VA) (T := F_VA) (N := 11) hx hb hts i_VA t_VA t_VA_ok n_VA hown hK hP hD hS 0 rfl rfl 2 (by decide) (hts _ kF_VA_39) (fun _ h9 => h9) rfl (by decide +kernel) (zn01 (b_j100_s0)) (fz01 (b_j100_s0)) (Nat.le_of_ble_eq_true rfl) d_VA_checkExports_100 (fun H locs hP hD hS => ?_)
        refine lv_iconst (v := 0) hx hb d_VA_checkExports_103 (by decide) ?_
        refine lv_istore_n (lv' := [(3, .int 0), (0, .ref h0), (1, .int j2_l1)]) hx hb d_VA_checkExports_104 rfl hl (by decide) rfl (fun ls hl => ?_)
        refine w_loop (σ := Int32 × Int32) (fun u H locs ls => match u with | (j105_l3, j105_h0_sound) => (0 ≤ j105_l3.toInt ∧ j105_l3.toInt ≤ 40) ∧ (j105_h0_sound = 0 ∨ j105_h0_sound = 1) ∧ (j105_l3.toInt ≤ j2_l1.toInt) ∧ (j105_h0_sound.toInt = 1 → j100_s0.toInt = 1) ∧ va_P (dC, dI) cls (wz_93 h0 aw ac j105_h0_sound h0_function ty h0_height bo bg bh bd h0_depth aw law ab ax ab_length ax cax gax wek cwek gwek wei cwei gwei wes cwes gwes wez cwez gwez) H ∧ va_D A (wz_93 h0 aw ac j105_h0_sound h0_function ty h0_height bo bg bh bd h0_depth aw law ab ax ab_length ax cax gax wek cwek gwek wei cwei gwei wes cwes gwes wez cwez gwez) ∧ va_S A s.heap H locs ∧ lv_has ls 4 [(0, .ref h0), (1, .int j2_l1), (3, .int j105_l3)]) (fun u => match u with | (j105_l3, j105_h0_sound) => (j2_l1.toInt - j105_l3.toInt).toNat) ?_ (0, j100_s0) ⟨by (try dsimp only) <;> (first | (apply Int.le_antisymm <;> omega) | omega), b_j100_s0, by (try dsimp only) <;> (first | (apply Int.le_antisymm <;> omega) | omega), by (try dsimp only) <;> (first | (apply Int.le_antisymm <;> omega) | omega), hP, hD, hS, lv_sub hl [1, 2, 0] rfl⟩
        intro N105 ih105 u H locs ls hN105 hI
        obtain ⟨j105_l3, j105_h0_sound⟩ := u
        obtain ⟨b_j105_l3, b_j105_h0_sound, u1, u2, hP, hD, hS, hl⟩ := hI
        have tj105_h0_sound := b01 b_j105_h0_sound
        have hN105 : (j2_l1.toInt - j105_l3.toInt).toNat < N105 + 1 := hN105
        refine lv_iload_n hx hb d_VA_checkExports_105 rfl (lv_at hl 2 rfl) ?_
        refine lv_iload_n hx hb d_VA_checkExports_106 rfl (lv_at hl 1 rfl) ?_
        refine lv_icmp_ge (tgt := 193) hx hb d_VA_checkExports_107 (by decide) (fun c107 => ?_) (fun c107 => ?_)
        · have q107 := leI c107
          obtain ⟨x2, ex2⟩ : ∃ z : Int32, z = j2_l1 + 1 := ⟨_, rfl⟩
          have tx2 : x2.toInt = j2_l1.toInt + 1 := by have z := i32_add ex2 (by (first | (apply Int.le_antisymm <;> omega) | omega)) (by (first | (apply Int.le_antisymm <;> omega) | omega)); first | exact z | (first | (apply Int.le_antisymm <;> omega) | omega)
          refine lv_iinc (v := x2) (lv' := [(1, .int x2), (0, .ref h0), (3, .int j105_l3)]) hx hb d_VA_checkExports_193 hl (k := 1) rfl (by rw [ex2]; rfl) (by decide) rfl (fun ls hl => ?_)
          refine lv_goto (tgt := 2) hx hb d_VA_checkExports_196 (by decide) ?_
          exact ih2 (x2, j105_h0_sound) _ _ _ (by show (aw_exportCount.toInt - x2.toInt).toNat < N2; (first | (apply Int.le_antisymm <;> omega) | omega)) ⟨by (try dsimp only) <;> (first | (apply Int.le_antisymm <;> omega) | omega), b_j105_h0_sound, by (try dsimp only) <;> (first | (apply Int.le_antisymm <;> omega) | omega), by (try dsimp only) <;> (first | (apply Int.le_antisymm <;> omega) | omega), hP, hD, hS, lv_sub hl [1, 0] rfl⟩
        · have q107 := nleI c107
          refine lv_aload_n hx hb d_VA_checkExports_110 rfl (lv_at hl 0 rfl) ?_
          refine lv_aload_n hx hb d_VA_checkExports_111 rfl (lv_at hl 0 rfl) ?_
          refine va_get (D := (dC, dI)) (ci := 9) (v := .int j105_h0_sound) (C := R_VA) (T := F_VA) (N := 11) hx hb hts i_VA hown hK hP 0 rfl rfl 2 (by decide) (hts _ kF_VA_39) (fun _ h9 => h9) rfl d_VA_checkExports_112 ?_
          refine w_cut (pc2 := 184) (σ := Int32) (fun u H locs ls => match u with | j184_s0 => (j184_s0 = 0 ∨ j184_s0 = 1) ∧ (j184_s0.toInt = 1 → j105_h0_sound.toInt = 1) ∧ va_P (dC, dI) cls (wz_93 h0 aw ac j105_h0_sound h0_function ty h0_height bo bg bh bd h0_depth aw law ab ax ab_length ax cax gax wek cwek gwek wei cwei gwei wes cwes gwes wez cwez gwez) H ∧ va_D A (wz_93 h0 aw ac j105_h0_sound h0_function ty h0_height bo bg bh bd h0_depth aw law ab ax ab_length ax cax gax wek cwek gwek wei cwei gwei wes cwes gwes wez cwez gwez) ∧ va_S A s.heap H locs ∧ lv_has ls 4 [(0, .ref h0), (1, .int j2_l1), (3, .int j105_l3)]) (fun u => match u with | j184_s0 => [.int j184_s0, .ref h0]) ?_ (fun jn184 => ?_)
          · intro u H locs ls hI
            obtain ⟨j184_s0, rfl⟩ : ∃ z, z = u := ⟨_, rfl⟩
            obtain ⟨b_j184_s0, x1, hP, hD, hS, hl⟩ := hI
            have tj184_s0 := b01 b_j184_s0
            refine va_put (D := (dC, dI)) (ci := 9) (v := .int j184_s0) (ty := .boolean) (C := R_VA) (T := F_VA) (N := 11) hx hb hts i_VA t_VA t_VA_ok n_VA hown hK hP hD hS 0 rfl rfl 2 (by decide) (hts _ kF_VA_39) (fun _ h9 => h9) rfl (by decide +kernel) (zn01 (b_j184_s0)) (fz01 (b_j184_s0)) (Nat.le_of_ble_eq_true rfl) d_VA_checkExports_184 (fun H locs hP hD hS => ?_)
            obtain ⟨x3, ex3⟩ : ∃ z : Int32, z = j105_l3 + 1 := ⟨_, rfl⟩
            have tx3 : x3.toInt = j105_l3.toInt + 1 := by have z := i32_add ex3 (by (first | (apply Int.le_antisymm <;> omega) | omega)) (by (first | (apply Int.le_antisymm <;> omega) | omega)); first | exact z | (first | (apply Int.le_antisymm <;> omega) | omega)
            refine lv_iinc (v := x3) (lv' := [(3, .int x3), (0, .ref h0), (1, .int j2_l1)]) hx hb d_VA_checkExports_187 hl (k := 2) rfl (by rw [ex3]; rfl) (by decide) rfl (fun ls hl => ?_)
            refine lv_goto (tgt := 105) hx hb d_VA_checkExports_190 (by decide) ?_
            exact ih105 (x3, j184_s0) _ _ _ (by show (j2_l1.toInt - x3.toInt).toNat < N105; (first | (apply Int.le_antisymm <;> omega) | omega)) ⟨by (try dsimp only) <;> (first | (apply Int.le_antisymm <;> omega) | omega), b_j184_s0, by (try dsimp only) <;> (first | (apply Int.le_antisymm <;> omega) | omega), by (try dsimp only) <;> (first | (apply Int.le_antisymm <;> omega) | omega), hP, hD, hS, lv_sub hl [1, 2, 0] rfl⟩
          · skip
            refine lv_if_eq (tgt := 183) hx hb d_VA_checkExports_115 (by decide) (fun c115 => ?_) (fun c115 => ?_)
            · have q115 := eqI c115
              refine lv_iconst (v := 0) hx hb d_VA_checkExports_183 (by decide) ?_
              exact jn184 0 _ _ _ ⟨Or.inl rfl, by (try dsimp only) <;> (first | (apply Int.le_antisymm <;> omega) | omega), hP, hD, hS, lv_sub hl [0, 1, 2] rfl⟩
            · have q115 := neI c115
              refine lv_aload_n hx hb d_VA_checkExports_118 rfl (lv_at hl 0 rfl) ?_
              refine va_get (D := (dC, dI)) (ci := 9) (v := .ref aw) (C := R_VA) (T := F_VA) (N := 11) hx hb hts i_VA hown hK hP 0 rfl rfl 0 (by decide) (hts _ kF_VA_28) (fun _ h9 => h9) rfl d_VA_checkExports_119 ?_
              refine va_get (D := (dC, dI)) (ci := 10) (v := .ref wez) (C := R_WA) (T := F_WA) (N := 21) hx hb hts i_WA hown hK hP 1 rfl rfl 20 (by decide) (hts _ kF_VA_95) (fun _ h9 => h9) paw_20 d_VA_checkExports_122 ?_
              refine lv_iload_n hx hb d_VA_checkExports_125 rfl (lv_at hl 1 rfl) ?_
              have g126 : vp_in j2_l1 40 := vp_in_iff.mpr ⟨by (first | (apply Int.le_antisymm <;> omega) | omega), by (first | (apply Int.le_antisymm <;> omega) | omega)⟩
              refine va_iald hx hb hK hP 7 4 rfl rfl g126 d_VA_checkExports_126 ?_
              refine lv_topi (fun x4 ex4 => ?_)
              refine lv_aload_n hx hb d_VA_checkExports_127 rfl (lv_at hl 0 rfl) ?_
              refine va_get (D := (dC, dI)) (ci := 9) (v := .ref aw) (C := R_VA) (T := F_VA) (N := 11) hx hb hts i_VA hown hK hP 0 rfl rfl 0 (by decide) (hts _ kF_VA_28) (fun _ h9 => h9) rfl d_VA_checkExports_128 ?_
              refine va_get (D := (dC, dI)) (ci := 10) (v := .ref wez) (C := R_WA) (T := F_WA) (N := 21) hx hb hts i_WA hown hK hP 1 rfl rfl 20 (by decide) (hts _ kF_VA_95) (fun _ h9 => h9) paw_20 d_VA_checkExports_131 ?_
              refine lv_iload_n hx hb d_VA_checkExports_134 rfl (lv_at hl 2 rfl) ?_
              have g135 : vp_in j105_l3 40 := vp_in_iff.mpr ⟨by (first | (apply Int.le_antisymm <;> omega) | omega), by (first | (apply Int.le_antisymm <;> omega) | omega)⟩
              refine va_iald hx hb hK hP 7 4 rfl rfl g135 d_VA_checkExports_135 ?_
              refine lv_topi (fun x5 ex5 => ?_)
              refine lv_icmp_ne (tgt := 179) hx hb d_VA_checkExports_136 (by decide) (fun c136 => ?_) (fun c136 => ?_)
              · have q136 := neI c136
                refine lv_iconst (v := 1) hx hb d_VA_checkExports_179 (by decide) ?_
                refine lv_goto (tgt := 184) hx hb d_VA_checkExports_180 (by decide) ?_
                exact jn184 1 _ _ _ ⟨Or.inr rfl, by (try dsimp only) <;> (first | (apply Int.le_antisymm <;> omega) | omega), hP, hD, hS, lv_sub hl [0, 1, 2] rfl⟩
              · have q136 := eqI c136
                refine lv_aload_n hx hb d_VA_checkExports_139 rfl (lv_at hl 0 rfl) ?_
                refine va_get (D := (dC, dI)) (ci := 9) (v := .ref aw) (C := R_VA) (T := F_VA) (N := 11) hx hb hts i_VA hown hK hP 0 rfl rfl 0 (by decide) (hts _ kF_VA_28) (fun _ h9 => h9) rfl d_VA_checkExports_140 ?_
                refine va_get (D := (dC, dI)) (ci := 10) (v := .ref ab) (C := R_WA) (T := F_WA) (N := 21) hx hb hts i_WA hown hK hP 1 rfl rfl 0 (by decide) (hts _ kF_VA_98) (fun _ h9 => h9) paw_0 d_VA_checkExports_143 ?_
                refine lv_aload_n hx hb d_VA_checkExports_146 rfl (lv_at hl 0 rfl) ?_
                refine va_get (D := (dC, dI)) (ci := 9) (v := .ref aw) (C := R_VA) (T := F_VA) (N := 11) hx hb hts i_VA hown hK hP 0 rfl rfl 0 (by decide) (hts _ kF_VA_28) (fun _ h9 => h9) rfl d_VA_checkExports_147 ?_
                refine va_get (D := (dC, dI)) (ci := 10) (v := .ref wes) (C := R_WA) (T := F_WA) (N := 21) hx hb hts i_WA hown hK hP 1 rfl rfl 19 (by decide) (hts _ kF_VA_102) (fun _ h9 => h9) paw_19 d_VA_checkExports_150 ?_
                refine lv_iload_n hx hb d_VA_checkExports_153 rfl (lv_at hl 1 rfl) ?_
                have g154 : vp_in j2_l1 40 := vp_in_iff.mpr ⟨by (first | (apply Int.le_antisymm <;> omega) | omega), by (first | (apply Int.le_antisymm <;> omega) | omega)⟩
                refine va_iald hx hb hK hP 6 3 rfl rfl g154 d_VA_checkExports_154 ?_
                refine lv_topi (fun x6 ex6 => ?_)
                refine lv_aload_n hx hb d_VA_checkExports_155 rfl (lv_at hl 0 rfl) ?_
                refine va_get (D := (dC, dI)) (ci := 9) (v := .ref aw) (C := R_VA) (T := F_VA) (N := 11) hx hb hts i_VA hown hK hP 0 rfl rfl 0 (by decide) (hts _ kF_VA_28) (fun _ h9 => h9) rfl d_VA_checkExports_156 ?_
                refine va_get (D := (dC, dI)) (ci := 10) (v := .ref wes) (C := R_WA) (T := F_WA) (N := 21) hx hb hts i_WA hown hK hP 1 rfl rfl 19 (by decide) (hts _ kF_VA_102) (fun _ h9 => h9) paw_19 d_VA_checkExports_159 ?_
                refine lv_iload_n hx hb d_VA_checkExports_162 rfl (lv_at hl 2 rfl) ?_
                have g163 : vp_in j105_l3 40 := vp_in_iff.mpr ⟨by (first | (apply Int.le_antisymm <;> omega) | omega), by (first | (apply Int.le_antisymm <;> omega) | omega)⟩
                refine va_iald hx hb hK hP 6 3 rfl rfl g163 d_VA_checkExports_163 ?_
                refine lv_topi (fun x7 ex7 => ?_)
                refine lv_aload_n hx hb d_VA_checkExports_164 rfl (lv_at hl 0 rfl) ?_
                refine va_get (D := (dC, dI)) (ci := 9) (v := .ref aw) (C := R_VA) (T := F_VA) (N := 11) hx hb hts i_VA hown hK hP 0 rfl rfl 0 (by decide) (hts _ kF_VA_28) (fun _ h9 => h9) rfl d_VA_checkExports_165 ?_
                refine va_get (D := (dC, dI)) (ci := 10) (v := .ref wez) (C := R_WA) (T := F_WA) (N := 21) hx hb hts i_WA hown hK hP 1 rfl rfl 20 (by decide) (hts _ kF_VA_95) (fun _ h9 => h9) paw_20 d_VA_checkExports_168 ?_
                refine lv_iload_n hx hb d_VA_checkExports_171 rfl (lv_at hl 1 rfl) ?_
                have g172 : vp_in j2_l1 40 := vp_in_iff.mpr ⟨by (first | (apply Int.le_antisymm <;> omega) | omega), by (first | (apply Int.le_antisymm <;> omega) | omega)⟩
                refine va_iald hx hb hK hP 7 4 rfl rfl g172 d_VA_checkExports_172 ?_
                refine lv_topi (fun x8 ex8 => ?_)
                have tx8 := hre j2_l1.toNatClampNeg (by have := i32_clamp (x := j2_l1) (by (first | (apply Int.le_antisymm <;> omega) | omega)); (first | (apply Int.le_antisymm <;> omega) | omega))
                rw [← ex8] at tx8
                have hPc := hP.sb (wq := (wz_94 ab ax ab_length ax cax gax)) [2, 3] rfl
                have hDc := hD.sb (wq := (wz_94 ab ax ab_length ax cax gax)) [2, 3] (by decide) rfl
                have hKc := hK.sb (tyq := [(cax, .byte)]) [0] rfl
                have hFc := va_free (wc := (wz_94 ab ax ab_length ax cax gax)) hD hS hA [2, 3] rfl
                refine va_calli (va_runV (As := [.int x6, .int x7, .int x8]) (rest := [.ref h0]) ⟨hx, hb, hml, hown, hts⟩ (c_BR_samePart l dC dI ab ax H.size cax 8192 ab_length gax (by (first | (apply Int.le_antisymm <;> omega) | omega)) (by (first | (apply Int.le_antisymm <;> omega) | omega)) (by (first | (apply Int.le_antisymm <;> omega) | omega)) x6 x7 x8 (by (first | (apply Int.le_antisymm <;> omega) | omega))) (cwV 3 hts (gV kM_VA_105 kV_BR_samePart kS_BR_samePart kI_BR kC_BR_samePart) rfl rfl rfl (by decide +kernel) ⟨Nat.le_of_ble_eq_true rfl, Nat.le_of_ble_eq_true rfl⟩) ⟨fun a U g mk z => by obtain ⟨z0, z1, zP, zK, zD⟩ := z; exact ⟨z0, z1, zP, va_K.moved (u := U) (U := U.calling g mk a) (Vm.Alike.refl U.vm) zK, zD⟩, va_recv hKc hPc (ci := 1) (q0 := 0) rfl rfl, fun U hU hW => ⟨rfl, by rw [hU], va_P.he hU.symm hPc, va_K.moved hW.alike hKc, hDc.weaken (fun _ _ _ _ => trivial)⟩⟩ rfl rfl hl.1 rfl (lv_room (Nat.le_of_ble_eq_true rfl)) d_VA_checkExports_173 ⟨(Nat.zero_le _), (Nat.zero_le _)⟩) hS (fun q _ h => hFc q h) hFc (fun r9 u t H1 locs ht hvm hw hB hz1 hk1 hS => ?_)
                obtain ⟨er9, rfl⟩ := hw
                obtain ⟨hP1, hK1, hD1⟩ := hB
                replace hP1 := va_P.he ht hP1
                obtain ⟨hP, hD⟩ := va_join (wr := [(h0, .inr (9, [.ref aw, .ref ac, .int j105_h0_sound, .int h0_function, .ref ty, .int h0_height, .ref bo, .ref bg, .ref bh, .ref bd, .int h0_depth])), (aw, .inr (10, law)), (wek, .inl (cwek, 40, .inl gwek)), (wei, .inl (cwei, 40, .inl gwei)), (wes, .inl (cwes, 40, .inl gwes)), (wez, .inl (cwez, 40, .inl gwez))]) (w1 := (wz_94 ab ax ab_length ax cax gax)) hP hD [2, 3] [0, 1, 4, 5, 6, 7] rfl rfl (by decide) (by decide) hk1 hFc hP1 hD1
                clear hPc hDc hKc hFc hz1 hk1 hP1 hK1 hD1
                rename Heap => H
                have hP : va_P (dC, dI) cls [(h0, .inr (9, [.ref aw, .ref ac, .int j105_h0_sound, .int h0_function, .ref ty, .int h0_height, .ref bo, .ref bg, .ref bh, .ref bd, .int h0_depth])), (aw, .inr (10, law)), (wek, .inl (cwek, 40, .inl gwek)), (wei, .inl (cwei, 40, .inl gwei)), (wes, .inl (cwes, 40, .inl gwes)), (wez, .inl (cwez, 40, .inl gwez)), (ab, .inr (1, [.ref ax, .int ab_length])), (ax, .inl (cax, 8192, .inl gax))] H := hP
                have hD : va_D A [(h0, .inr (9, [.ref aw, .ref ac, .int j105_h0_sound, .int h0_function, .ref ty, .int h0_height, .ref bo, .ref bg, .ref bh, .ref bd, .int h0_depth])), (aw, .inr (10, law)), (wek, .inl (cwek, 40, .inl gwek)), (wei, .inl (cwei, 40, .inl gwei)), (wes, .inl (cwes, 40, .inl gwes)), (wez, .inl (cwez, 40, .inl gwez)), (ab, .inr (1, [.ref ax, .int ab_length])), (ax, .inl (cax, 8192, .inl gax))] := hD
                refine lv_if_ne (tgt := 183) hx hb d_VA_checkExports_176 (by decide) (fun c176 => ?_) (fun c176 => ?_)
                · have q176 := neI c176
                  refine lv_iconst (v := 0) hx hb d_VA_checkExports_183 (by decide) ?_
                  exact jn184 0 _ _ _ ⟨Or.inl rfl, by (try dsimp only) <;> (first | (apply Int.le_antisymm <;> omega) | omega), hP.sub [0, 1, 6, 7, 2, 3, 4, 5] rfl, hD.sub [0, 1, 6, 7, 2, 3, 4, 5] (by decide) rfl, hS, lv_sub hl [0, 1, 2] rfl⟩
                · have q176 := eqI c176
                  refine lv_iconst (v := 1) hx hb d_VA_checkExports_179 (by decide) ?_
                  refine lv_goto (tgt := 184) hx hb d_VA_checkExports_180 (by decide) ?_
                  exact jn184 1 _ _ _ ⟨Or.inr rfl, by (try dsimp only) <;> (first | (apply Int.le_antisymm <;> omega) | omega), hP.sub [0, 1, 6, 7, 2, 3, 4, 5] rfl, hD.sub [0, 1, 6, 7, 2, 3, 4, 5] (by decide) rfl, hS, lv_sub hl [0, 1, 2] rfl⟩
      · skip
        refine w_cut (pc2 := 99) (σ := Unit) (fun u H locs ls => match u with | _ => va_P (dC, dI) cls (wz_93 h0 aw ac j2_h0_sound h0_function ty h0_height bo bg bh bd h0_depth aw law ab ax ab_length ax cax gax wek cwek gwek wei cwei gwei wes cwes gwes wez cwez gwez) H ∧ va_D A (wz_93 h0 aw ac j2_h0_sound h0_function ty h0_height bo bg bh bd h0_depth aw law ab ax ab_length ax cax gax wek cwek gwek wei cwei gwei wes cwes gwes wez cwez gwez) ∧ va_S A s.heap H locs ∧ lv_has ls 4 [(0, .ref h0), (1, .int j2_l1)]) (fun u => match u with | _ => [.ref h0]) ?_ (fun jn99 => ?_)
        · intro u H locs ls hI
          obtain ⟨hP, hD, hS, hl⟩ := hI
          refine lv_iconst (v := 0) hx hb d_VA_checkExports_99 (by decide) ?_
          exact jn100 0 _ _ _ ⟨Or.inl rfl, by (try dsimp only) <;> (first | (apply Int.le_antisymm <;> omega) | omega), hP, hD, hS, lv_sub hl [0, 1] rfl⟩
        · skip
          refine lv_if_eq (tgt := 99) hx hb d_VA_checkExports_79 (by decide) (fun c79 => ?_) (fun c79 => ?_)
          · have q79 := eqI c79
            exact jn99 () _ _ _ ⟨hP, hD, hS, lv_sub hl [1, 2] rfl⟩
          · have q79 := neI c79
            refine lv_aload_n hx hb d_VA_checkExports_82 rfl (lv_at hl 1 rfl) ?_
            refine va_get (D := (dC, dI)) (ci := 9) (v := .ref aw) (C := R_VA) (T := F_VA) (N := 11) hx hb hts i_VA hown hK hP 0 rfl rfl 0 (by decide) (hts _ kF_VA_28) (fun _ h9 => h9) rfl d_VA_checkExports_83 ?_
            refine va_get (D := (dC, dI)) (ci := 10) (v := .ref wei) (C := R_WA) (T := F_WA) (N := 21) hx hb hts i_WA hown hK hP 1 rfl rfl 18 (by decide) (hts _ kF_VA_92) (fun _ h9 => h9) paw_18 d_VA_checkExports_86 ?_
            refine lv_iload_n hx hb d_VA_checkExports_89 rfl (lv_at hl 2 rfl) ?_
            have g90 : vp_in j2_l1 40 := vp_in_iff.mpr ⟨by (first | (apply Int.le_antisymm <;> omega) | omega), by (first | (apply Int.le_antisymm <;> omega) | omega)⟩
            refine va_iald hx hb hK hP 5 2 rfl rfl g90 d_VA_checkExports_90 ?_
            refine lv_topi (fun x10 ex10 => ?_)
            refine lv_iload_n hx hb d_VA_checkExports_91 rfl (lv_at hl 0 rfl) ?_
            refine lv_icmp_ge (tgt := 99) hx hb d_VA_checkExports_92 (by decide) (fun c92 => ?_) (fun c92 => ?_)
            · have q92 := leI c92
              exact jn99 () _ _ _ ⟨hP, hD, hS, lv_sub hl [1, 2] rfl⟩
            · have q92 := nleI c92
              refine lv_iconst (v := 1) hx hb d_VA_checkExports_95 (by decide) ?_
              refine lv_goto (tgt := 100) hx hb d_VA_checkExports_96 (by decide) ?_
              exact jn100 1 _ _ _ ⟨Or.inr rfl, by (try dsimp only) <;> (first | (apply Int.le_antisymm <;> omega) | omega), hP, hD, hS, lv_sub hl [1, 2] rfl⟩
    · skip
      refine lv_if_ne (tgt := 35) hx hb d_VA_checkExports_22 (by decide) (fun c22 => ?_) (fun c22 => ?_)
      · have q22 := neI c22
        refine lv_aload_n hx hb d_VA_checkExports_35 rfl (lv_at hl 0 rfl) ?_
        refine va_get (D := (dC, dI)) (ci := 9) (v := .ref aw) (C := R_VA) (T := F_VA) (N := 11) hx hb hts i_VA hown hK hP 0 rfl rfl 0 (by decide) (hts _ kF_VA_28) (fun _ h9 => h9) rfl d_VA_checkExports_36 ?_
        refine va_get (D := (dC, dI)) (ci := 10) (v := .ref wek) (C := R_WA) (T := F_WA) (N := 21) hx hb hts i_WA hown hK hP 1 rfl rfl 17 (by decide) (hts _ kF_VA_86) (fun _ h9 => h9) paw_17 d_VA_checkExports_39 ?_
        refine lv_iload_n hx hb d_VA_checkExports_42 rfl (lv_at hl 1 rfl) ?_
        have g43 : vp_in j2_l1 40 := vp_in_iff.mpr ⟨by (first | (apply Int.le_antisymm <;> omega) | omega), by (first | (apply Int.le_antisymm <;> omega) | omega)⟩
        refine va_iald hx hb hK hP 4 1 rfl rfl g43 d_VA_checkExports_43 ?_
        refine lv_topi (fun x11 ex11 => ?_)
        refine lv_iconst (v := 3) hx hb d_VA_checkExports_44 (by decide) ?_
        refine lv_icmp_ne (tgt := 58) hx hb d_VA_checkExports_45 (by decide) (fun c45 => ?_) (fun c45 => ?_)
        · have q45 := neI c45
          refine lv_aload_n hx hb d_VA_checkExports_58 rfl (lv_at hl 0 rfl) ?_
          refine va_get (D := (dC, dI)) (ci := 9) (v := .ref aw) (C := R_VA) (T := F_VA) (N := 11) hx hb hts i_VA hown hK hP 0 rfl rfl 0 (by decide) (hts _ kF_VA_28) (fun _ h9 => h9) rfl d_VA_checkExports_59 ?_
          refine va_get (D := (dC, dI)) (ci := 10) (v := .int aw_hasMemory) (C := R_WA) (T := F_WA) (N := 21) hx hb hts i_WA hown hK hP 1 rfl rfl 8 (by decide) (hts _ kF_VA_89) (fun _ h9 => h9) paw_8 d_VA_checkExports_62 ?_
          refine lv_if_eq (tgt := 72) hx hb d_VA_checkExports_65 (by decide) (fun c65 => ?_) (fun c65 => ?_)
          · have q65 := eqI c65
            refine lv_iconst (v := 0) hx hb d_VA_checkExports_72 (by decide) ?_
            exact jn73 0 _ _ _ ⟨hP, hD, hS, lv_sub hl [0, 1] rfl⟩
          · have q65 := neI c65
            refine lv_iconst (v := 1) hx hb d_VA_checkExports_68 (by decide) ?_
            refine lv_goto (tgt := 73) hx hb d_VA_checkExports_69 (by decide) ?_
            exact jn73 1 _ _ _ ⟨hP, hD, hS, lv_sub hl [0, 1] rfl⟩
        · have q45 := eqI c45
          refine lv_aload_n hx hb d_VA_checkExports_48 rfl (lv_at hl 0 rfl) ?_
          refine va_get (D := (dC, dI)) (ci := 9) (v := .ref aw) (C := R_VA) (T := F_VA) (N := 11) hx hb hts i_VA hown hK hP 0 rfl rfl 0 (by decide) (hts _ kF_VA_28) (fun _ h9 => h9) rfl d_VA_checkExports_49 ?_
          refine va_get (D := (dC, dI)) (ci := 10) (v := .int aw_globalCount) (C := R_WA) (T := F_WA) (N := 21) hx hb hts i_WA hown hK hP 1 rfl rfl 11 (by decide) (hts _ kF_VA_63) (fun _ h9 => h9) paw_11 d_VA_checkExports_52 ?_
          refine lv_goto (tgt := 73) hx hb d_VA_checkExports_55 (by decide) ?_
          exact jn73 aw_globalCount _ _ _ ⟨hP, hD, hS, lv_sub hl [0, 1] rfl⟩
      · have q22 := eqI c22
        refine lv_aload_n hx hb d_VA_checkExports_25 rfl (lv_at hl 0 rfl) ?_
        refine va_get (D := (dC, dI)) (ci := 9) (v := .ref aw) (C := R_VA) (T := F_VA) (N := 11) hx hb hts i_VA hown hK hP 0 rfl rfl 0 (by decide) (hts _ kF_VA_28) (fun _ h9 => h9) rfl d_VA_checkExports_26 ?_
        refine va_get (D := (dC, dI)) (ci := 10) (v := .int aw_functionCount) (C := R_WA) (T := F_WA) (N := 21) hx hb hts i_WA hown hK hP 1 rfl rfl 6 (by decide) (hts _ kF_VA_49) (fun _ h9 => h9) paw_6 d_VA_checkExports_29 ?_
        refine lv_goto (tgt := 73) hx hb d_VA_checkExports_32 (by decide) ?_
        exact jn73 aw_functionCount _ _ _ ⟨hP, hD, hS, lv_sub hl [0, 1] rfl⟩
abbrev b_VA_check : ByteArray := prog_12_method_2_code
def y_VA_check : MethodName := ⟨R_VA, "check", "(LWaferForge$Wafer;)Z"⟩
abbrev w_VA_check : List Cond := .code y_VA_check b_VA_check 3 (Option.some .boolean) :: lw_g
theorem kC_VA_check : Cond.code y_VA_check b_VA_check 3 (Option.some .boolean) ∈ lw_g := in_c6 192 rfl rfl
theorem d_VA_check_0 : decode b_VA_check 0 = .ok (.aload_n 0, 1) := bz_c42 (by decide +kernel)
theorem d_VA_check_1 : decode b_VA_check 1 = .ok (.aload_n 1, 1) := bz_c43 (by decide +kernel)
theorem d_VA_check_2 : decode b_VA_check 2 = .ok (.putfield 28, 3) := bz_c181 (by decide +kernel)
theorem d_VA_check_5 : decode b_VA_check 5 = .ok (.aload_n 0, 1) := bz_c42 (by decide +kernel)
theorem d_VA_check_6 : decode b_VA_check 6 = .ok (.aload_n 1, 1) := bz_c43 (by decide +kernel)
theorem d_VA_check_7 : decode b_VA_check 7 = .ok (.getfield 32, 3) := bz_c180 (by decide +kernel)
theorem d_VA_check_10 : decode b_VA_check 10 = .ok (.putfield 38, 3) := bz_c181 (by decide +kernel)
theorem d_VA_check_13 : decode b_VA_check 13 = .ok (.aload_n 0, 1) := bz_c42 (by decide +kernel)
theorem d_VA_check_14 : decode b_VA_check 14 = .ok (.iconst 1, 1) := bz_c4 (by decide +kernel)
theorem d_VA_check_15 : decode b_VA_check 15 = .ok (.putfield 39, 3) := bz_c181 (by decide +kernel)
theorem d_VA_check_18 : decode b_VA_check 18 = .ok (.aload_n 0, 1) := bz_c42 (by decide +kernel)
theorem d_VA_check_19 : decode b_VA_check 19 = .ok (.invokevirtual 43, 3) := bz_c182 (by decide +kernel)
theorem d_VA_check_22 : decode b_VA_check 22 = .ok (.aload_n 0, 1) := bz_c42 (by decide +kernel)
theorem d_VA_check_23 : decode b_VA_check 23 = .ok (.invokevirtual 46, 3) := bz_c182 (by decide +kernel)
theorem d_VA_check_26 : decode b_VA_check 26 = .ok (.iconst 0, 1) := bz_c3 (by decide +kernel)
theorem d_VA_check_27 : decode b_VA_check 27 = .ok (.istore_n 2, 1) := bz_c61 (by decide +kernel)
theorem d_VA_check_28 : decode b_VA_check 28 = .ok (.iload_n 2, 1) := bz_c28 (by decide +kernel)
theorem d_VA_check_29 : decode b_VA_check 29 = .ok (.aload_n 0, 1) := bz_c42 (by decide +kernel)
theorem d_VA_check_30 : decode b_VA_check 30 = .ok (.getfield 28, 3) := bz_c180 (by decide +kernel)
theorem d_VA_check_33 : decode b_VA_check 33 = .ok (.getfield 49, 3) := bz_c180 (by decide +kernel)
theorem d_VA_check_36 : decode b_VA_check 36 = .ok (.if_icmp .ge 21, 3) := bz_c162 (by decide +kernel)
theorem d_VA_check_39 : decode b_VA_check 39 = .ok (.aload_n 0, 1) := bz_c42 (by decide +kernel)
theorem d_VA_check_40 : decode b_VA_check 40 = .ok (.getfield 39, 3) := bz_c180 (by decide +kernel)
theorem d_VA_check_43 : decode b_VA_check 43 = .ok (.ifCond .eq 14, 3) := bz_c153 (by decide +kernel)
theorem d_VA_check_46 : decode b_VA_check 46 = .ok (.aload_n 0, 1) := bz_c42 (by decide +kernel)
theorem d_VA_check_47 : decode b_VA_check 47 = .ok (.iload_n 2, 1) := bz_c28 (by decide +kernel)
theorem d_VA_check_48 : decode b_VA_check 48 = .ok (.invokevirtual 53, 3) := bz_c182 (by decide +kernel)
theorem d_VA_check_51 : decode b_VA_check 51 = .ok (.iinc 2 1, 3) := by decide +kernel
theorem d_VA_check_54 : decode b_VA_check 54 = .ok (.goto (-26), 3) := bz_c167 (by decide +kernel)
theorem d_VA_check_57 : decode b_VA_check 57 = .ok (.aload_n 0, 1) := bz_c42 (by decide +kernel)
theorem d_VA_check_58 : decode b_VA_check 58 = .ok (.getfield 39, 3) := bz_c180 (by decide +kernel)
theorem d_VA_check_61 : decode b_VA_check 61 = .ok (.ireturn, 1) := bz_c172 (by decide +kernel)
theorem kM_VA_43 : Cond.methodLink R_VA 43 y_VA_checkTables ∈ lw_g := in_c6 193 rfl rfl
theorem kV_VA_checkTables : Cond.instanceMethod y_VA_checkTables ∈ lw_g := in_c6 195 rfl rfl
theorem kS_VA_checkTables : Cond.selects R_VA y_VA_checkTables y_VA_checkTables ∈ lw_g := in_s 81 (by decide +kernel) rfl
theorem kM_VA_46 : Cond.methodLink R_VA 46 y_VA_checkExports ∈ lw_g := in_c6 199 rfl rfl
theorem kV_VA_checkExports : Cond.instanceMethod y_VA_checkExports ∈ lw_g := in_c6 201 rfl rfl
theorem kS_VA_checkExports : Cond.selects R_VA y_VA_checkExports y_VA_checkExports ∈ lw_g := in_s 82 (by decide +kernel) rfl
theorem kM_VA_53 : Cond.methodLink R_VA 53 y_VA_checkFunction ∈ lw_g := in_c6 204 rfl rfl
theorem kV_VA_checkFunction : Cond.instanceMethod y_VA_checkFunction ∈ lw_g := in_c6 206 rfl rfl
theorem kS_VA_checkFunction : Cond.selects R_VA y_VA_checkFunction y_VA_checkFunction ∈ lw_g := in_s 83 (by decide +kernel) rfl
theorem kF_VA_32 : Cond.fieldLink R_VA 32 "WaferForge$Wafer" "codes" "LWaferForge$Codes;" ∈ lw_g := in_c1 148 rfl rfl
abbrev at_VA_check (dC : Nat → ClassId) (dI : Nat → Nat → Nat) (h0 ty bo bg bh bd aw ab ac wat wap wag waf wgt wft wgc wek wei wes wez ax cfi clk clt cop cva cpt cel cla : Nat) (cax cty cbo cbg cbh cbd cwaf cwat cwap cwag cwgt cwft cwgc cwek cwei cwes cwez ccfi cclk cclt ccop ccva ccpt ccel ccla : ClassId) (h0_wafer : Value) (h0_codes : Value) (law : List Value) (aw_typeCount : Int32) (aw_functionCount : Int32) (aw_hasMemory : Int32) (aw_pagesLeast : Int64) (aw_pagesMost : Int64) (aw_globalCount : Int32) (aw_exportCount : Int32) (ab_length : Int32) (ac_length : Int32) (ac_labelCount : Int32) (gax : Nat → Int32) (gwaf : Nat → Int32) (gwat : Nat → Int32) (gwap : Nat → Int32) (gwag : Nat → Int32) (gwgt : Nat → Int32) (gwft : Nat → Int32) (gwgc : Nat → Int32) (gwek : Nat → Int32) (gwei : Nat → Int32) (gwes : Nat → Int32) (gwez : Nat → Int32) (gcfi : Nat → Int32) (gclk : Nat → Int32) (gclt : Nat → Int32) (gcop : Nat → Int32) (gcva : Nat → Int64) (gcpt : Nat → Int32) (gcel : Nat → Int32) (gcla : Nat → Int32) (A : Nat → Prop) (u : (Nat → Int32) × (Nat → Int32) × (Nat → Int32) × (Nat → Int32) × (Nat → Int32) × Int32 × Int32 × Int32 × Int32) (t : State) : Prop := match u with | (gbd, gbg, gbh, gbo, gty, h0_depth, h0_function, h0_height, h0_sound) => va_P (dC, dI) cls (wz_95 h0 aw ac h0_sound h0_function ty h0_height bo bg bh bd h0_depth aw law ab ax ab_length ac cfi clk clt ac_length cop cva cpt cel ac_labelCount cla ax cax gax ty cty gty bo cbo gbo bg cbg gbg bh cbh gbh bd cbd gbd waf cwaf gwaf wat cwat gwat wap cwap gwap wag cwag gwag wgt cwgt gwgt wft cwft gwft wgc cwgc gwgc wek cwek gwek wei cwei gwei wes cwes gwes wez cwez gwez cfi ccfi gcfi clk cclk gclk clt cclt gclt cop ccop gcop cva ccva gcva cpt ccpt gcpt cel ccel gcel cla ccla gcla) t.heap ∧ va_K (dC, dI) cls [(cax, .byte), (cty, .int), (cbo, .int), (cbg, .int), (cbh, .int), (cbd, .boolean), (cwaf, .int), (cwat, .int), (cwap, .int), (cwag, .int), (cwgt, .int), (cwft, .int), (cwgc, .boolean), (cwek, .int), (cwei, .int), (cwes, .int), (cwez, .int), (ccfi, .int), (cclk, .int), (cclt, .int), (ccop, .int), (ccva, .long), (ccpt, .int), (ccel, .int), (ccla, .int)] t ∧ va_D A (wz_95 h0 aw ac h0_sound h0_function ty h0_height bo bg bh bd h0_depth aw law ab ax ab_length ac cfi clk clt ac_length cop cva cpt cel ac_labelCount cla ax cax gax ty cty gty bo cbo gbo bg cbg gbg bh cbh gbh bd cbd gbd waf cwaf gwaf wat cwat gwat wap cwap gwap wag cwag gwag wgt cwgt gwgt wft cwft gwft wgc cwgc gwgc wek cwek gwek wei cwei gwei wes cwes gwes wez cwez gwez cfi ccfi gcfi clk cclk gclk clt cclt gclt cop ccop gcop cva ccva gcva cpt ccpt gcpt cel ccel gcel cla ccla gcla)
set_option maxHeartbeats 4000000 in
set_option maxRecDepth 100000 in
theorem c_VA_check (l : Launch) (dC : Nat → ClassId) (dI : Nat → Nat → Nat) (sz : Nat) (h0 ty bo bg bh bd aw ab ac wat wap wag waf wgt wft wgc wek wei wes wez ax cfi clk clt cop cva cpt cel cla : Nat) (cax cty cbo cbg cbh cbd cwaf cwat cwap cwag cwgt cwft cwgc cwek cwei cwes cwez ccfi cclk cclt ccop ccva ccpt ccel ccla : ClassId) (h0_wafer : Value) (h0_codes : Value) (h0_sound : Int32) (h0_function : Int32) (h0_height : Int32) (h0_depth : Int32) (law : List Value) (aw_typeCount : Int32) (aw_functionCount : Int32) (aw_hasMemory : Int32) (aw_pagesLeast : Int64) (aw_pagesMost : Int64) (aw_globalCount : Int32) (aw_exportCount : Int32) (ab_length : Int32) (ac_length : Int32) (ac_labelCount : Int32) (gax : Nat → Int32) (gty : Nat → Int32) (gbo : Nat → Int32) (gbg : Nat → Int32) (gbh : Nat → Int32) (gbd : Nat → Int32) (gwaf : Nat → Int32) (gwat : Nat → Int32) (gwap : Nat → Int32) (gwag : Nat → Int32) (gwgt : Nat → Int32) (gwft : Nat → Int32) (gwgc : Nat → Int32) (gwek : Nat → Int32) (gwei : Nat → Int32) (gwes : Nat → Int32) (gwez : Nat → Int32) (gcfi : Nat → Int32) (gclk : Nat → Int32) (gclt : Nat → Int32) (gcop : Nat → Int32) (gcva : Nat → Int64) (gcpt : Nat → Int32) (gcel : Nat → Int32) (gcla : Nat → Int32) (paw_0 : law[0]? = some (.ref ab)) (paw_1 : law[1]? = some (.ref ac)) (paw_2 : law[2]? = some (.int aw_typeCount)) (paw_3 : law[3]? = some (.ref wat)) (paw_4 : law[4]? = some (.ref wap)) (paw_5 : law[5]? = some (.ref wag)) (paw_6 : law[6]? = some (.int aw_functionCount)) (paw_7 : law[7]? = some (.ref waf)) (paw_8 : law[8]? = some (.int aw_hasMemory)) (paw_9 : law[9]? = some (.long aw_pagesLeast)) (paw_10 : law[10]? = some (.long aw_pagesMost)) (paw_11 : law[11]? = some (.int aw_globalCount)) (paw_12 : law[12]? = some (.ref wgt)) (paw_13 : law[13]? = some (.ref wft)) (paw_15 : law[15]? = some (.ref wgc)) (paw_16 : law[16]? = some (.int aw_exportCount)) (paw_17 : law[17]? = some (.ref wek)) (paw_18 : law[18]? = some (.ref wei)) (paw_19 : law[19]? = some (.ref wes)) (paw_20 : law[20]? = some (.ref wez)) (plaw : law.length = 21) (b_h0_sound : h0_sound = 0 ∨ h0_sound = 1) (b_h0_height : 0 ≤ h0_height.toInt ∧ h0_height.toInt ≤ 5000) (b_h0_depth : 0 ≤ h0_depth.toInt ∧ h0_depth.toInt ≤ 101) (b_ab_length : 0 ≤ ab_length.toInt ∧ ab_length.toInt ≤ 8192) (b_ac_length : 0 ≤ ac_length.toInt ∧ ac_length.toInt ≤ 5000) (b_ac_labelCount : 0 ≤ ac_labelCount.toInt ∧ ac_labelCount.toInt ≤ 2000) (b_gty : ∀ j : Nat, (gty j).toInt ≠ 64) (b_gbh : ∀ j : Nat, 0 ≤ (gbh j).toInt ∧ (gbh j).toInt ≤ 5000) (b_aw_typeCount : 0 ≤ aw_typeCount.toInt ∧ aw_typeCount.toInt ≤ 20) (b_aw_functionCount : 0 ≤ aw_functionCount.toInt ∧ aw_functionCount.toInt ≤ 30) (b_aw_hasMemory : aw_hasMemory = 0 ∨ aw_hasMemory = 1) (b_aw_globalCount : 0 ≤ aw_globalCount.toInt ∧ aw_globalCount.toInt ≤ 20) (b_aw_exportCount : 0 ≤ aw_exportCount.toInt ∧ aw_exportCount.toInt ≤ 40)   (hrt : rd_T aw_typeCount.toInt gwat gwap) (hrf : rd_F aw_functionCount.toInt gwaf) (hrg : rd_G aw_globalCount.toInt gwgt) (hre : rd_E aw_exportCount.toInt gwez) (hrc : rd_C aw_functionCount.toInt ac_length.toInt ac_labelCount.toInt gcfi gclk gclt gcop gcpt gcel gcva) (hlb : ∀ j : Nat, (j : Int) < ac_labelCount.toInt → 0 ≤ (gcla j).toInt) : Met l y_VA_check w_VA_check ({ frames := 5, cells := 0, slots := 0, locals := 113 }) (va_Pc [.ref h0, .ref aw] (fun U => U.heap.size = sz ∧ va_P (dC, dI) cls (wz_96 h0 h0_wafer h0_codes h0_sound h0_function ty h0_height bo bg bh bd h0_depth aw law ab ax ab_length ac cfi clk clt ac_length cop cva cpt cel ac_labelCount cla ax cax gax ty cty gty bo cbo gbo bg cbg gbg bh cbh gbh bd cbd gbd waf cwaf gwaf wat cwat gwat wap cwap gwap wag cwag gwag wgt cwgt gwgt wft cwft gwft wgc cwgc gwgc wek cwek gwek wei cwei gwei wes cwes gwes wez cwez gwez cfi ccfi gcfi clk cclk gclk clt cclt gclt cop ccop gcop cva ccva gcva cpt ccpt gcpt cel ccel gcel cla ccla gcla) U.heap ∧ va_K (dC, dI) cls [(cax, .byte), (cty, .int), (cbo, .int), (cbg, .int), (cbh, .int), (cbd, .boolean), (cwaf, .int), (cwat, .int), (cwap, .int), (cwag, .int), (cwgt, .int), (cwft, .int), (cwgc, .boolean), (cwek, .int), (cwei, .int), (cwes, .int), (cwez, .int), (ccfi, .int), (cclk, .int), (cclt, .int), (ccop, .int), (ccva, .long), (ccpt, .int), (ccel, .int), (ccla, .int)] U ∧ va_D (fun _ => True) (wz_96 h0 h0_wafer h0_codes h0_sound h0_function ty h0_height bo bg bh bd h0_depth aw law ab ax ab_length ac cfi clk clt ac_length cop cva cpt cel ac_labelCount cla ax cax gax ty cty gty bo cbo gbo bg cbg gbg bh cbh gbh bd cbd gbd waf cwaf gwaf wat cwat gwat wap cwap gwap wag cwag gwag wgt cwgt gwgt wft cwft gwft wgc cwgc gwgc wek cwek gwek wei cwei gwei wes cwes gwes wez cwez gwez cfi ccfi gcfi clk cclk gclk clt cclt gclt cop ccop gcop cva ccva gcva cpt ccpt gcpt cel ccel gcel cla ccla gcla))) (va_Qi (fun (r : Int32) (u : (Nat → Int32) × (Nat → Int32) × (Nat → Int32) × (Nat → Int32) × (Nat → Int32) × Int32 × Int32 × Int32 × Int32) => match u with | (gbd2, gbg2, gbh2, gbo2, gty2, h0_depth2, h0_function2, h0_height2, h0_sound2) => (r = 0 ∨ r = 1) ∧ (∀ j : Nat, 0 ≤ (gbh2 j).toInt ∧ (gbh2 j).toInt ≤ 5000) ∧ (∀ j : Nat, (gty2 j).toInt ≠ 64) ∧ (0 ≤ h0_depth2.toInt ∧ h0_depth2.toInt ≤ 101) ∧ (0 ≤ h0_height2.toInt ∧ h0_height2.toInt ≤ 5000) ∧ (h0_sound2 = 0 ∨ h0_sound2 = 1) ∧ (r = 1 → (mo_ok aw_functionCount.toInt aw_globalCount.toInt gwaf gwat gwag gcfi gclk gcop gcpt gcel gcla gcva) ∧ aw_pagesLeast.toInt ≤ 2)) (at_VA_check dC dI h0 ty bo bg bh bd aw ab ac wat wap wag waf wgt wft wgc wek wei wes wez ax cfi clk clt cop cva cpt cel cla cax cty cbo cbg cbh cbd cwaf cwat cwap cwag cwgt cwft cwgc cwek cwei cwes cwez ccfi cclk cclt ccop ccva ccpt ccel ccla h0_wafer h0_codes law aw_typeCount aw_functionCount aw_hasMemory aw_pagesLeast aw_pagesMost aw_globalCount aw_exportCount ab_length ac_length ac_labelCount gax gwaf gwat gwap gwag gwgt gwft gwgc gwek gwei gwes gwez gcfi gclk gclt gcop gcva gcpt gcel gcla (va_A (wz_96 h0 h0_wafer h0_codes h0_sound h0_function ty h0_height bo bg bh bd h0_depth aw law ab ax ab_length ac cfi clk clt ac_length cop cva cpt cel ac_labelCount cla ax cax gax ty cty gty bo cbo gbo bg cbg gbg bh cbh gbh bd cbd gbd waf cwaf gwaf wat cwat gwat wap cwap gwap wag cwag gwag wgt cwgt gwgt wft cwft gwft wgc cwgc gwgc wek cwek gwek wei cwei gwei wes cwes gwes wez cwez gwez cfi ccfi gcfi clk cclk gclk clt cclt gclt cop ccop gcop cva ccva gcva cpt ccpt gcpt cel ccel gcel cla ccla gcla) sz)) (va_A (wz_96 h0 h0_wafer h0_codes h0_sound h0_function ty h0_height bo bg bh bd h0_depth aw law ab ax ab_length ac cfi clk clt ac_length cop cva cpt cel ac_labelCount cla ax cax gax ty cty gty bo cbo gbo bg cbg gbg bh cbh gbh bd cbd gbd waf cwaf gwaf wat cwat gwat wap cwap gwap wag cwag gwag wgt cwgt gwgt wft cwft gwft wgc cwgc gwgc wek cwek gwek wei cwei gwei wes cwes gwes wez cwez gwez cfi ccfi gcfi clk cclk gclk clt cclt gclt cop ccop gcop cva ccva gcva cpt ccpt gcpt cel ccel gcel cla ccla gcla) sz)) 0 0 (va_A (wz_96 h0 h0_wafer h0_codes h0_sound h0_function ty h0_height bo bg bh bd h0_depth aw law ab ax ab_length ac cfi clk clt ac_length cop cva cpt cel ac_labelCount cla ax cax gax ty cty gty bo cbo gbo bg cbg gbg bh cbh gbh bd cbd gbd waf cwaf gwaf wat cwat gwat wap cwap gwap wag cwag gwag wgt cwgt gwgt wft cwft gwft wgc cwgc gwgc wek cwek gwek wei cwei gwei wes cwes gwes wez cwez gwez cfi ccfi gcfi clk cclk gclk clt cclt gclt cop ccop gcop cva ccva gcva cpt ccpt gcpt cel ccel gcel cla ccla gcla) sz) := by
  refine Met.ofW (cc := b_VA_check) (maxL := 3) (ret := (Option.some .boolean)) (by decide) rfl ?_
  intro p e s m args below meth c s₁ B hml hv
  obtain ⟨rfl, hsz, hP, hK, hD0⟩ := hv
  have hx := B.exec
  have hb := B.bytes
  have hr := B.returns
  have hts0 := atoms_spec (ws := w_VA_check) B.pre
  have hts : ∀ w ∈ lw_g, w.before _ s = true := fun w h => hts0 w (List.mem_cons_of_mem _ h)
  have hown : s.vm.findClass R_VA = some m.cls := findClass_of_methodNamed B.named
  have hlocks := B.notSynchronized
  clear hts0
  subst hsz
  have hD := hD0.self (sz := s.heap.size)
  generalize hAe : va_A (wz_96 h0 h0_wafer h0_codes h0_sound h0_function ty h0_height bo bg bh bd h0_depth aw law ab ax ab_length ac cfi clk clt ac_length cop cva cpt cel ac_labelCount cla ax cax gax ty cty gty bo cbo gbo bg cbg gbg bh cbh gbh bd cbd gbd waf cwaf gwaf wat cwat gwat wap cwap gwap wag cwag gwag wgt cwgt gwgt wft cwft gwft wgc cwgc gwgc wek cwek gwek wei cwei gwei wes cwes gwes wez cwez gwez cfi ccfi gcfi clk cclk gclk clt cclt gclt cop ccop gcop cva ccva gcva cpt ccpt gcpt cel ccel gcel cla ccla gcla) s.heap.size = A at hD ⊢
  have hA : ∀ q : Nat, s.heap.size ≤ q → A q := fun q h => by rw [← hAe]; exact Or.inr h
  clear hAe
  have hP : va_P (dC, dI) cls (wz_96 h0 h0_wafer h0_codes h0_sound h0_function ty h0_height bo bg bh bd h0_depth aw law ab ax ab_length ac cfi clk clt ac_length cop cva cpt cel ac_labelCount cla ax cax gax ty cty gty bo cbo gbo bg cbg gbg bh cbh gbh bd cbd gbd waf cwaf gwaf wat cwat gwat wap cwap gwap wag cwag gwag wgt cwgt gwgt wft cwft gwft wgc cwgc gwgc wek cwek gwek wei cwei gwei wes cwes gwes wez cwez gwez cfi ccfi gcfi clk cclk gclk clt cclt gclt cop ccop gcop cva ccva gcva cpt ccpt gcpt cel ccel gcel cla ccla gcla) s.heap := hP
  have hl := lv_entry ([.ref h0, .ref aw]) (n := 3) (Nat.le_of_ble_eq_true rfl)
  rw [lg_entry_eq]
  generalize (lg_sl ([.ref h0, .ref aw]) ++ List.replicate (3 - (lg_sl ([.ref h0, .ref aw])).length) Slot.unset).toArray = ls at hl ⊢
  have hl : lv_has ls 3 [(0, .ref h0), (1, .ref aw)] := hl
  have k0 : (0 : Int32).toInt = 0 := by decide
  refine w_gen (A := A) hP (fun H locs hP hS => ?_)
  have k1 : (1 : Int32).toInt = 1 := by decide
  have th0_sound := b01 b_h0_sound
  have taw_hasMemory := b01 b_aw_hasMemory
  refine lv_aload_n hx hb d_VA_check_0 rfl (lv_at hl 0 rfl) ?_
  refine lv_aload_n hx hb d_VA_check_1 rfl (lv_at hl 1 rfl) ?_
  refine va_put (D := (dC, dI)) (ci := 9) (v := .ref aw) (ty := .object "WaferForge$Wafer") (C := R_VA) (T := F_VA) (N := 11) hx hb hts i_VA t_VA t_VA_ok n_VA hown hK hP hD hS 0 rfl rfl 0 (by decide) (hts _ kF_VA_28) (fun _ h9 => h9) rfl (by decide +kernel) rfl rfl (Nat.le_of_ble_eq_true rfl) d_VA_check_2 (fun H locs hP hD hS => ?_)
  refine lv_aload_n hx hb d_VA_check_5 rfl (lv_at hl 0 rfl) ?_
  refine lv_aload_n hx hb d_VA_check_6 rfl (lv_at hl 1 rfl) ?_
  refine va_get (D := (dC, dI)) (ci := 10) (v := .ref ac) (C := R_WA) (T := F_WA) (N := 21) hx hb hts i_WA hown hK hP 1 rfl rfl 1 (by decide) (hts _ kF_VA_32) (fun _ h9 => h9) paw_1 d_VA_check_7 ?_
  refine va_put (D := (dC, dI)) (ci := 9) (v := .ref ac) (ty := .object "WaferForge$Codes") (C := R_VA) (T := F_VA) (N := 11) hx hb hts i_VA t_VA t_VA_ok n_VA hown hK hP hD hS 0 rfl rfl 1 (by decide) (hts _ kF_VA_38) (fun _ h9 => h9) rfl (by decide +kernel) rfl rfl (Nat.le_of_ble_eq_true rfl) d_VA_check_10 (fun H locs hP hD hS => ?_)
  refine lv_aload_n hx hb d_VA_check_13 rfl (lv_at hl 0 rfl) ?_
  refine lv_iconst (v := 1) hx hb d_VA_check_14 (by decide) ?_
  refine va_put (D := (dC, dI)) (ci := 9) (v := .int 1) (ty := .boolean) (C := R_VA) (T := F_VA) (N := 11) hx hb hts i_VA t_VA t_VA_ok n_VA hown hK hP hD hS 0 rfl rfl 2 (by decide) (hts _ kF_VA_39) (fun _ h9 => h9) rfl (by decide +kernel) rfl rfl (Nat.le_of_ble_eq_true rfl) d_VA_check_15 (fun H locs hP hD hS => ?_)
  refine lv_aload_n hx hb d_VA_check_18 rfl (lv_at hl 0 rfl) ?_
  have hPc := hP.sb (wq := (wz_92 h0 aw ac 1 h0_function ty h0_height bo bg bh bd h0_depth aw law waf cwaf gwaf wgt cwgt gwgt wft cwft gwft)) [0, 1, 10, 14, 15] rfl
  have hDc := hD.sb (wq := (wz_92 h0 aw ac 1 h0_function ty h0_height bo bg bh bd h0_depth aw law waf cwaf gwaf wgt cwgt gwgt wft cwft gwft)) [0, 1, 10, 14, 15] (by decide) rfl
  have hKc := hK.sb (tyq := [(cwaf, .int), (cwgt, .int), (cwft, .int)]) [6, 10, 11] rfl
  have hFc := va_free (wc := (wz_92 h0 aw ac 1 h0_function ty h0_height bo bg bh bd h0_depth aw law waf cwaf gwaf wgt cwgt gwgt wft cwft gwft)) hD hS hA [0, 1, 10, 14, 15] rfl
  refine va_callv (va_runV (As := []) (rest := []) ⟨hx, hb, hml, hown, hts⟩ (c_VA_checkTables l dC dI H.size h0 aw ac ty bo bg bh bd waf wgt wft cwaf cwgt cwft 1 h0_function h0_height h0_depth law aw_typeCount aw_functionCount aw_pagesLeast aw_pagesMost aw_globalCount gwaf gwgt gwft paw_2 paw_6 paw_7 paw_9 paw_10 paw_11 paw_12 paw_13 plaw (Or.inr rfl) (b_aw_typeCount) (b_aw_functionCount) (b_aw_globalCount)) (cwV 0 hts (gV kM_VA_43 kV_VA_checkTables kS_VA_checkTables kI_VA kC_VA_checkTables) rfl rfl rfl (by decide +kernel) ⟨Nat.le_of_ble_eq_true rfl, Nat.le_of_ble_eq_true rfl⟩) ⟨fun a U g mk z => by obtain ⟨z0, z1, zP, zK, zD⟩ := z; exact ⟨z0, z1, zP, va_K.moved (u := U) (U := U.calling g mk a) (Vm.Alike.refl U.vm) zK, zD⟩, va_recv hKc hPc (ci := 9) (q0 := 0) rfl rfl, fun U hU hW => ⟨rfl, by rw [hU], va_P.he hU.symm hPc, va_K.moved hW.alike hKc, hDc.weaken (fun _ _ _ _ => trivial)⟩⟩ rfl rfl hl.1 rfl (lv_room (Nat.le_of_ble_eq_true rfl)) d_VA_check_19 ⟨(Nat.zero_le _), (Nat.zero_le _)⟩) hS (fun q _ h => hFc q h) hFc (fun u t H1 locs ht hvm hw hB hz1 hk1 hS => ?_)
  obtain ⟨n2, rfl⟩ : ∃ z, z = u := ⟨_, rfl⟩
  try dsimp only at hw
  obtain ⟨bn2, xr1⟩ := hw
  try clear hw
  have tn2 := b01 bn2
  have x19 := xr1
  obtain ⟨s19, es19⟩ : ∃ z, z = n2 := ⟨_, rfl⟩
  rw [← es19] at x19
  have hwf : s19.toInt = 1 → ∀ f : Nat, (f : Int) < aw_functionCount.toInt → vw_fun gwaf gwat gwap gclk gclt f := fun z => vw_of hrt (by (first | (apply Int.le_antisymm <;> omega) | omega)) hrf hrc (x19 z).2.1
  obtain ⟨hP1, hK1, hD1⟩ := hB
  replace hP1 := va_P.he ht hP1
  obtain ⟨hP, hD⟩ := va_join (wr := [(ab, .inr (1, [.ref ax, .int ab_length])), (ac, .inr (3, [.ref cfi, .ref clk, .ref clt, .int ac_length, .ref cop, .ref cva, .ref cpt, .ref cel, .int ac_labelCount, .ref cla])), (ax, .inl (cax, 8192, .inl gax)), (ty, .inl (cty, 5000, .inl gty)), (bo, .inl (cbo, 101, .inl gbo)), (bg, .inl (cbg, 101, .inl gbg)), (bh, .inl (cbh, 101, .inl gbh)), (bd, .inl (cbd, 101, .inl gbd)), (wat, .inl (cwat, 20, .inl gwat)), (wap, .inl (cwap, 160, .inl gwap)), (wag, .inl (cwag, 20, .inl gwag)), (wgc, .inl (cwgc, 20, .inl gwgc)), (wek, .inl (cwek, 40, .inl gwek)), (wei, .inl (cwei, 40, .inl gwei)), (wes, .inl (cwes, 40, .inl gwes)), (wez, .inl (cwez, 40, .inl gwez)), (cfi, .inl (ccfi, 31, .inl gcfi)), (clk, .inl (cclk, 30, .inl gclk)), (clt, .inl (cclt, 1800, .inl gclt)), (cop, .inl (ccop, 5000, .inl gcop)), (cva, .inl (ccva, 5000, .inr (.inl gcva))), (cpt, .inl (ccpt, 5000, .inl gcpt)), (cel, .inl (ccel, 5000, .inl gcel)), (cla, .inl (ccla, 2000, .inl gcla))]) (w1 := (wz_92 h0 aw ac n2 h0_function ty h0_height bo bg bh bd h0_depth aw law waf cwaf gwaf wgt cwgt gwgt wft cwft gwft)) hP hD [0, 1, 10, 14, 15] [2, 3, 4, 5, 6, 7, 8, 9, 11, 12, 13, 16, 17, 18, 19, 20, 21, 22, 23, 24, 25, 26, 27, 28] rfl rfl (by decide) (by decide) hk1 hFc hP1 hD1
  clear hPc hDc hKc hFc hz1 hk1 hP1 hK1 hD1
  rename Heap => H
  have hP : va_P (dC, dI) cls [(ab, .inr (1, [.ref ax, .int ab_length])), (ac, .inr (3, [.ref cfi, .ref clk, .ref clt, .int ac_length, .ref cop, .ref cva, .ref cpt, .ref cel, .int ac_labelCount, .ref cla])), (ax, .inl (cax, 8192, .inl gax)), (ty, .inl (cty, 5000, .inl gty)), (bo, .inl (cbo, 101, .inl gbo)), (bg, .inl (cbg, 101, .inl gbg)), (bh, .inl (cbh, 101, .inl gbh)), (bd, .inl (cbd, 101, .inl gbd)), (wat, .inl (cwat, 20, .inl gwat)), (wap, .inl (cwap, 160, .inl gwap)), (wag, .inl (cwag, 20, .inl gwag)), (wgc, .inl (cwgc, 20, .inl gwgc)), (wek, .inl (cwek, 40, .inl gwek)), (wei, .inl (cwei, 40, .inl gwei)), (wes, .inl (cwes, 40, .inl gwes)), (wez, .inl (cwez, 40, .inl gwez)), (cfi, .inl (ccfi, 31, .inl gcfi)), (clk, .inl (cclk, 30, .inl gclk)), (clt, .inl (cclt, 1800, .inl gclt)), (cop, .inl (ccop, 5000, .inl gcop)), (cva, .inl (ccva, 5000, .inr (.inl gcva))), (cpt, .inl (ccpt, 5000, .inl gcpt)), (cel, .inl (ccel, 5000, .inl gcel)), (cla, .inl (ccla, 2000, .inl gcla)), (h0, .inr (9, [.ref aw, .ref ac, .int n2, .int h0_function, .ref ty, .int h0_height, .ref bo, .ref bg, .ref bh, .ref bd, .int h0_depth])), (aw, .inr (10, law)), (waf, .inl (cwaf, 30, .inl gwaf)), (wgt, .inl (cwgt, 20, .inl gwgt)), (wft, .inl (cwft, 20, .inl gwft))] H := hP
  have hD : va_D A [(ab, .inr (1, [.ref ax, .int ab_length])), (ac, .inr (3, [.ref cfi, .ref clk, .ref clt, .int ac_length, .ref cop, .ref cva, .ref cpt, .ref cel, .int ac_labelCount, .ref cla])), (ax, .inl (cax, 8192, .inl gax)), (ty, .inl (cty, 5000, .inl gty)), (bo, .inl (cbo, 101, .inl gbo)), (bg, .inl (cbg, 101, .inl gbg)), (bh, .inl (cbh, 101, .inl gbh)), (bd, .inl (cbd, 101, .inl gbd)), (wat, .inl (cwat, 20, .inl gwat)), (wap, .inl (cwap, 160, .inl gwap)), (wag, .inl (cwag, 20, .inl gwag)), (wgc, .inl (cwgc, 20, .inl gwgc)), (wek, .inl (cwek, 40, .inl gwek)), (wei, .inl (cwei, 40, .inl gwei)), (wes, .inl (cwes, 40, .inl gwes)), (wez, .inl (cwez, 40, .inl gwez)), (cfi, .inl (ccfi, 31, .inl gcfi)), (clk, .inl (cclk, 30, .inl gclk)), (clt, .inl (cclt, 1800, .inl gclt)), (cop, .inl (ccop, 5000, .inl gcop)), (cva, .inl (ccva, 5000, .inr (.inl gcva))), (cpt, .inl (ccpt, 5000, .inl gcpt)), (cel, .inl (ccel, 5000, .inl gcel)), (cla, .inl (ccla, 2000, .inl gcla)), (h0, .inr (9, [.ref aw, .ref ac, .int n2, .int h0_function, .ref ty, .int h0_height, .ref bo, .ref bg, .ref bh, .ref bd, .int h0_depth])), (aw, .inr (10, law)), (waf, .inl (cwaf, 30, .inl gwaf)), (wgt, .inl (cwgt, 20, .inl gwgt)), (wft, .inl (cwft, 20, .inl gwft))] := hD
  refine lv_aload_n hx hb d_VA_check_22 rfl (lv_at hl 0 rfl) ?_
  have hPc := hP.sb (wq := (wz_93 h0 aw ac n2 h0_function ty h0_height bo bg bh bd h0_depth aw law ab ax ab_length ax cax gax wek cwek gwek wei cwei gwei wes cwes gwes wez cwez gwez)) [24, 25, 0, 2, 12, 13, 14, 15] rfl
  have hDc := hD.sb (wq := (wz_93 h0 aw ac n2 h0_function ty h0_height bo bg bh bd h0_depth aw law ab ax ab_length ax cax gax wek cwek gwek wei cwei gwei wes cwes gwes wez cwez gwez)) [24, 25, 0, 2, 12, 13, 14, 15] (by decide) rfl
  have hKc := hK.sb (tyq := [(cax, .byte), (cwek, .int), (cwei, .int), (cwes, .int), (cwez, .int)]) [0, 13, 14, 15, 16] rfl
  have hFc := va_free (wc := (wz_93 h0 aw ac n2 h0_function ty h0_height bo bg bh bd h0_depth aw law ab ax ab_length ax cax gax wek cwek gwek wei cwei gwei wes cwes gwes wez cwez gwez)) hD hS hA [24, 25, 0, 2, 12, 13, 14, 15] rfl
  refine va_callv (va_runV (As := []) (rest := []) ⟨hx, hb, hml, hown, hts⟩ (c_VA_checkExports l dC dI H.size h0 aw ac ty bo bg bh bd ab wek wei wes wez ax cax cwek cwei cwes cwez n2 h0_function h0_height h0_depth law aw_functionCount aw_hasMemory aw_globalCount aw_exportCount ab_length gax gwek gwei gwes gwez paw_0 paw_6 paw_8 paw_11 paw_16 paw_17 paw_18 paw_19 paw_20 plaw (bn2) (b_ab_length) (b_aw_functionCount) (b_aw_hasMemory) (b_aw_globalCount) (b_aw_exportCount) (hre)) (cwV 0 hts (gV kM_VA_46 kV_VA_checkExports kS_VA_checkExports kI_VA kC_VA_checkExports) rfl rfl rfl (by decide +kernel) ⟨Nat.le_of_ble_eq_true rfl, Nat.le_of_ble_eq_true rfl⟩) ⟨fun a U g mk z => by obtain ⟨z0, z1, zP, zK, zD⟩ := z; exact ⟨z0, z1, zP, va_K.moved (u := U) (U := U.calling g mk a) (Vm.Alike.refl U.vm) zK, zD⟩, va_recv hKc hPc (ci := 9) (q0 := 0) rfl rfl, fun U hU hW => ⟨rfl, by rw [hU], va_P.he hU.symm hPc, va_K.moved hW.alike hKc, hDc.weaken (fun _ _ _ _ => trivial)⟩⟩ rfl rfl hl.1 rfl (lv_room (Nat.le_of_ble_eq_true rfl)) d_VA_check_23 ⟨(Nat.zero_le _), (Nat.zero_le _)⟩) hS (fun q _ h => hFc q h) hFc (fun u t H1 locs ht hvm hw hB hz1 hk1 hS => ?_)
  obtain ⟨n4, rfl⟩ : ∃ z, z = u := ⟨_, rfl⟩
  try dsimp only at hw
  obtain ⟨bn4, xr3⟩ := hw
  try clear hw
  have tn4 := b01 bn4
  have x23 : n4.toInt = 1 → s19.toInt = 1 := by rw [es19]; exact xr3
  obtain ⟨hP1, hK1, hD1⟩ := hB
  replace hP1 := va_P.he ht hP1
  obtain ⟨hP, hD⟩ := va_join (wr := [(ac, .inr (3, [.ref cfi, .ref clk, .ref clt, .int ac_length, .ref cop, .ref cva, .ref cpt, .ref cel, .int ac_labelCount, .ref cla])), (ty, .inl (cty, 5000, .inl gty)), (bo, .inl (cbo, 101, .inl gbo)), (bg, .inl (cbg, 101, .inl gbg)), (bh, .inl (cbh, 101, .inl gbh)), (bd, .inl (cbd, 101, .inl gbd)), (wat, .inl (cwat, 20, .inl gwat)), (wap, .inl (cwap, 160, .inl gwap)), (wag, .inl (cwag, 20, .inl gwag)), (wgc, .inl (cwgc, 20, .inl gwgc)), (cfi, .inl (ccfi, 31, .inl gcfi)), (clk, .inl (cclk, 30, .inl gclk)), (clt, .inl (cclt, 1800, .inl gclt)), (cop, .inl (ccop, 5000, .inl gcop)), (cva, .inl (ccva, 5000, .inr (.inl gcva))), (cpt, .inl (ccpt, 5000, .inl gcpt)), (cel, .inl (ccel, 5000, .inl gcel)), (cla, .inl (ccla, 2000, .inl gcla)), (waf, .inl (cwaf, 30, .inl gwaf)), (wgt, .inl (cwgt, 20, .inl gwgt)), (wft, .inl (cwft, 20, .inl gwft))]) (w1 := (wz_93 h0 aw ac n4 h0_function ty h0_height bo bg bh bd h0_depth aw law ab ax ab_length ax cax gax wek cwek gwek wei cwei gwei wes cwes gwes wez cwez gwez)) hP hD [24, 25, 0, 2, 12, 13, 14, 15] [1, 3, 4, 5, 6, 7, 8, 9, 10, 11, 16, 17, 18, 19, 20, 21, 22, 23, 26, 27, 28] rfl rfl (by decide) (by decide) hk1 hFc hP1 hD1
  clear hPc hDc hKc hFc hz1 hk1 hP1 hK1 hD1
  rename Heap => H
  have hP : va_P (dC, dI) cls (wz_97 ac cfi clk clt ac_length cop cva cpt cel ac_labelCount cla ty cty gty bo cbo gbo bg cbg gbg bh cbh gbh bd cbd gbd wat cwat gwat wap cwap gwap wag cwag gwag wgc cwgc gwgc cfi ccfi gcfi clk cclk gclk clt cclt gclt cop ccop gcop cva ccva gcva cpt ccpt gcpt cel ccel gcel cla ccla gcla waf cwaf gwaf wgt cwgt gwgt wft cwft gwft h0 aw ac n4 h0_function ty h0_height bo bg bh bd h0_depth aw law ab ax ab_length ax cax gax wek cwek gwek wei cwei gwei wes cwes gwes wez cwez gwez) H := hP
  have hD : va_D A (wz_97 ac cfi clk clt ac_length cop cva cpt cel ac_labelCount cla ty cty gty bo cbo gbo bg cbg gbg bh cbh gbh bd cbd gbd wat cwat gwat wap cwap gwap wag cwag gwag wgc cwgc gwgc cfi ccfi gcfi clk cclk gclk clt cclt gclt cop ccop gcop cva ccva gcva cpt ccpt gcpt cel ccel gcel cla ccla gcla waf cwaf gwaf wgt cwgt gwgt wft cwft gwft h0 aw ac n4 h0_function ty h0_height bo bg bh bd h0_depth aw law ab ax ab_length ax cax gax wek cwek gwek wei cwei gwei wes cwes gwes wez cwez gwez) := hD
  refine lv_iconst (v := 0) hx hb d_VA_check_26 (by decide) ?_
  refine lv_istore_n (lv' := [(2, .int 0), (0, .ref h0), (1, .ref aw)]) hx hb d_VA_check_27 rfl hl (by decide) rfl (fun ls hl => ?_)
  refine w_loop (σ := Int32 × (Nat → Int32) × (Nat → Int32) × (Nat → Int32) × (Nat → Int32) × (Nat → Int32) × Int32 × Int32 × Int32 × Int32) (fun u H locs ls => match u with | (j28_l2, j28_bd, j28_bg, j28_bh, j28_bo, j28_ty, j28_h0_depth, j28_h0_function, j28_h0_height, j28_h0_sound) => (0 ≤ j28_l2.toInt ∧ j28_l2.toInt ≤ 30) ∧ (∀ j : Nat, 0 ≤ (j28_bh j).toInt ∧ (j28_bh j).toInt ≤ 5000) ∧ (∀ j : Nat, (j28_ty j).toInt ≠ 64) ∧ (0 ≤ j28_h0_depth.toInt ∧ j28_h0_depth.toInt ≤ 101) ∧ (0 ≤ j28_h0_height.toInt ∧ j28_h0_height.toInt ≤ 5000) ∧ (j28_h0_sound = 0 ∨ j28_h0_sound = 1) ∧ (j28_l2.toInt ≤ aw_functionCount.toInt) ∧ (j28_h0_sound.toInt = 1 → s19.toInt = 1) ∧ (j28_h0_sound.toInt = 1 → ∀ f : Nat, (f : Int) < j28_l2.toInt → vfin (fun f => (gwat (gwaf f).toNatClampNeg).toInt + (gclk f).toInt) (fun f => if (gwag (gwaf f).toNatClampNeg).toInt = 64 then 0 else 1) (fun f => (gwat (gwaf f).toNatClampNeg).toInt) aw_functionCount.toInt aw_globalCount.toInt f gcop gcpt gcel gcva ac_labelCount.toInt (gcfi f).toNatClampNeg ((gcfi (f + 1)).toNatClampNeg - 1)) ∧ va_P (dC, dI) cls (wz_97 ac cfi clk clt ac_length cop cva cpt cel ac_labelCount cla ty cty j28_ty bo cbo j28_bo bg cbg j28_bg bh cbh j28_bh bd cbd j28_bd wat cwat gwat wap cwap gwap wag cwag gwag wgc cwgc gwgc cfi ccfi gcfi clk cclk gclk clt cclt gclt cop ccop gcop cva ccva gcva cpt ccpt gcpt cel ccel gcel cla ccla gcla waf cwaf gwaf wgt cwgt gwgt wft cwft gwft h0 aw ac j28_h0_sound j28_h0_function ty j28_h0_height bo bg bh bd j28_h0_depth aw law ab ax ab_length ax cax gax wek cwek gwek wei cwei gwei wes cwes gwes wez cwez gwez) H ∧ va_D A (wz_97 ac cfi clk clt ac_length cop cva cpt cel ac_labelCount cla ty cty j28_ty bo cbo j28_bo bg cbg j28_bg bh cbh j28_bh bd cbd j28_bd wat cwat gwat wap cwap gwap wag cwag gwag wgc cwgc gwgc cfi ccfi gcfi clk cclk gclk clt cclt gclt cop ccop gcop cva ccva gcva cpt ccpt gcpt cel ccel gcel cla ccla gcla waf cwaf gwaf wgt cwgt gwgt wft cwft gwft h0 aw ac j28_h0_sound j28_h0_function ty j28_h0_height bo bg bh bd j28_h0_depth aw law ab ax ab_length ax cax gax wek cwek gwek wei cwei gwei wes cwes gwes wez cwez gwez) ∧ va_S A s.heap H locs ∧ lv_has ls 3 [(0, .ref h0), (2, .int j28_l2)]) (fun u => match u with | (j28_l2, j28_bd, j28_bg, j28_bh, j28_bo, j28_ty, j28_h0_depth, j28_h0_function, j28_h0_height, j28_h0_sound) => (aw_functionCount.toInt - j28_l2.toInt).toNat) ?_ (0, gbd, gbg, gbh, gbo, gty, h0_depth, h0_function, h0_height, n4) ⟨by (try dsimp only) <;> (first | (apply Int.le_antisymm <;> omega) | omega), b_gbh, b_gty, b_h0_depth, b_h0_height, bn4, by (try dsimp only) <;> (first | (apply Int.le_antisymm <;> omega) | omega), x23, fun z f q => absurd q (by (first | (apply Int.le_antisymm <;> omega) | omega)), hP, hD, hS, lv_sub hl [1, 0] rfl⟩
  intro N28 ih28 u H locs ls hN28 hI
  obtain ⟨j28_l2, j28_bd, j28_bg, j28_bh, j28_bo, j28_ty, j28_h0_depth, j28_h0_function, j28_h0_height, j28_h0_sound⟩ := u
  obtain ⟨b_j28_l2, b_j28_bh, b_j28_ty, b_j28_h0_depth, b_j28_h0_height, b_j28_h0_sound, v1, v2, v3, hP, hD, hS, hl⟩ := hI
  have tj28_h0_sound := b01 b_j28_h0_sound
  have hN28 : (aw_functionCount.toInt - j28_l2.toInt).toNat < N28 + 1 := hN28
  refine lv_iload_n hx hb d_VA_check_28 rfl (lv_at hl 1 rfl) ?_
  refine lv_aload_n hx hb d_VA_check_29 rfl (lv_at hl 0 rfl) ?_
  refine va_get (D := (dC, dI)) (ci := 9) (v := .ref aw) (C := R_VA) (T := F_VA) (N := 11) hx hb hts i_VA hown hK hP 21 rfl rfl 0 (by decide) (hts _ kF_VA_28) (fun _ h9 => h9) rfl d_VA_check_30 ?_
  refine va_get (D := (dC, dI)) (ci := 10) (v := .int aw_functionCount) (C := R_WA) (T := F_WA) (N := 21) hx hb hts i_WA hown hK hP 22 rfl rfl 6 (by decide) (hts _ kF_VA_49) (fun _ h9 => h9) paw_6 d_VA_check_33 ?_
  refine lv_icmp_ge (tgt := 57) hx hb d_VA_check_36 (by decide) (fun c36 => ?_) (fun c36 => ?_)
  · have q36 := leI c36
    refine lv_aload_n hx hb d_VA_check_57 rfl (lv_at hl 0 rfl) ?_
    refine va_get (D := (dC, dI)) (ci := 9) (v := .int j28_h0_sound) (C := R_VA) (T := F_VA) (N := 11) hx hb hts i_VA hown hK hP 21 rfl rfl 2 (by decide) (hts _ kF_VA_39) (fun _ h9 => h9) rfl d_VA_check_58 ?_
    have po : j28_h0_sound = 1 → (mo_ok aw_functionCount.toInt aw_globalCount.toInt gwaf gwat gwag gcfi gclk gcop gcpt gcel gcla gcva) ∧ aw_pagesLeast.toInt ≤ 2 := by
      intro z
      have z1 : j28_h0_sound.toInt = 1 := by rw [z]; decide
      have z2 := v2 z1
      exact ⟨mo_of (gwap := gwap) (gclt := gclt) (lc := ac_labelCount.toInt) (len := ac_length.toInt) (by (first | (apply Int.le_antisymm <;> omega) | omega)) (fun f q => by (first | (apply Int.le_antisymm <;> omega) | omega)) (hwf z2) (fun f _ => rfl) (fun f _ => rfl) (fun f _ => rfl) hrc (by (first | (apply Int.le_antisymm <;> omega) | omega)) (by (first | (apply Int.le_antisymm <;> omega) | omega)) hlb (fun f q => v3 z1 f (by (first | (apply Int.le_antisymm <;> omega) | omega))), (x19 z2).2.2⟩
    have hP9 := hP.sb (wq := (wz_95 h0 aw ac j28_h0_sound j28_h0_function ty j28_h0_height bo bg bh bd j28_h0_depth aw law ab ax ab_length ac cfi clk clt ac_length cop cva cpt cel ac_labelCount cla ax cax gax ty cty j28_ty bo cbo j28_bo bg cbg j28_bg bh cbh j28_bh bd cbd j28_bd waf cwaf gwaf wat cwat gwat wap cwap gwap wag cwag gwag wgt cwgt gwgt wft cwft gwft wgc cwgc gwgc wek cwek gwek wei cwei gwei wes cwes gwes wez cwez gwez cfi ccfi gcfi clk cclk gclk clt cclt gclt cop ccop gcop cva ccva gcva cpt ccpt gcpt cel ccel gcel cla ccla gcla)) [21, 22, 23, 0, 24, 1, 2, 3, 4, 5, 18, 6, 7, 8, 19, 20, 9, 25, 26, 27, 28, 10, 11, 12, 13, 14, 15, 16, 17] rfl
    have hD9 := hD.sb (wq := (wz_95 h0 aw ac j28_h0_sound j28_h0_function ty j28_h0_height bo bg bh bd j28_h0_depth aw law ab ax ab_length ac cfi clk clt ac_length cop cva cpt cel ac_labelCount cla ax cax gax ty cty j28_ty bo cbo j28_bo bg cbg j28_bg bh cbh j28_bh bd cbd j28_bd waf cwaf gwaf wat cwat gwat wap cwap gwap wag cwag gwag wgt cwgt gwgt wft cwft gwft wgc cwgc gwgc wek cwek gwek wei cwei gwei wes cwes gwes wez cwez gwez cfi ccfi gcfi clk cclk gclk clt cclt gclt cop ccop gcop cva ccva gcva cpt ccpt gcpt cel ccel gcel cla ccla gcla)) [21, 22, 23, 0, 24, 1, 2, 3, 4, 5, 18, 6, 7, 8, 19, 20, 9, 25, 26, 27, 28, 10, 11, 12, 13, 14, 15, 16, 17] (by decide) rfl
    exact W.zret (v := j28_h0_sound) hx hb hr (zn01 (b_j28_h0_sound)) (fun t ht hW => ⟨⟨j28_h0_sound, (j28_bd, j28_bg, j28_bh, j28_bo, j28_ty, j28_h0_depth, j28_h0_function, j28_h0_height, j28_h0_sound), rfl, ⟨b_j28_h0_sound, b_j28_bh, b_j28_ty, b_j28_h0_depth, b_j28_h0_height, b_j28_h0_sound, po⟩, va_P.he ht.symm hP9, va_K.moved hW.alike hK, hD9⟩, hS.F ht⟩) hS.2.2 d_VA_check_61
  · have q36 := nleI c36
    refine lv_aload_n hx hb d_VA_check_39 rfl (lv_at hl 0 rfl) ?_
    refine va_get (D := (dC, dI)) (ci := 9) (v := .int j28_h0_sound) (C := R_VA) (T := F_VA) (N := 11) hx hb hts i_VA hown hK hP 21 rfl rfl 2 (by decide) (hts _ kF_VA_39) (fun _ h9 => h9) rfl d_VA_check_40 ?_
    refine lv_if_eq (tgt := 57) hx hb d_VA_check_43 (by decide) (fun c43 => ?_) (fun c43 => ?_)
    · have q43 := eqI c43
      refine lv_aload_n hx hb d_VA_check_57 rfl (lv_at hl 0 rfl) ?_
      refine va_get (D := (dC, dI)) (ci := 9) (v := .int j28_h0_sound) (C := R_VA) (T := F_VA) (N := 11) hx hb hts i_VA hown hK hP 21 rfl rfl 2 (by decide) (hts _ kF_VA_39) (fun _ h9 => h9) rfl d_VA_check_58 ?_
      have po : j28_h0_sound = 1 → (mo_ok aw_functionCount.toInt aw_globalCount.toInt gwaf gwat gwag gcfi gclk gcop gcpt gcel gcla gcva) ∧ aw_pagesLeast.toInt ≤ 2 := by
        intro z
        have z1 : j28_h0_sound.toInt = 1 := by rw [z]; decide
        have z2 := v2 z1
        exact ⟨mo_of (gwap := gwap) (gclt := gclt) (lc := ac_labelCount.toInt) (len := ac_length.toInt) (by (first | (apply Int.le_antisymm <;> omega) | omega)) (fun f q => by (first | (apply Int.le_antisymm <;> omega) | omega)) (hwf z2) (fun f _ => rfl) (fun f _ => rfl) (fun f _ => rfl) hrc (by (first | (apply Int.le_antisymm <;> omega) | omega)) (by (first | (apply Int.le_antisymm <;> omega) | omega)) hlb (fun f q => v3 z1 f (by (first | (apply Int.le_antisymm <;> omega) | omega))), (x19 z2).2.2⟩
      have hP9 := hP.sb (wq := (wz_95 h0 aw ac j28_h0_sound j28_h0_function ty j28_h0_height bo bg bh bd j28_h0_depth aw law ab ax ab_length ac cfi clk clt ac_length cop cva cpt cel ac_labelCount cla ax cax gax ty cty j28_ty bo cbo j28_bo bg cbg j28_bg bh cbh j28_bh bd cbd j28_bd waf cwaf gwaf wat cwat gwat wap cwap gwap wag cwag gwag wgt cwgt gwgt wft cwft gwft wgc cwgc gwgc wek cwek gwek wei cwei gwei wes cwes gwes wez cwez gwez cfi ccfi gcfi clk cclk gclk clt cclt gclt cop ccop gcop cva ccva gcva cpt ccpt gcpt cel ccel gcel cla ccla gcla)) [21, 22, 23, 0, 24, 1, 2, 3, 4, 5, 18, 6, 7, 8, 19, 20, 9, 25, 26, 27, 28, 10, 11, 12, 13, 14, 15, 16, 17] rfl
      have hD9 := hD.sb (wq := (wz_95 h0 aw ac j28_h0_sound j28_h0_function ty j28_h0_height bo bg bh bd j28_h0_depth aw law ab ax ab_length ac cfi clk clt ac_length cop cva cpt cel ac_labelCount cla ax cax gax ty cty j28_ty bo cbo j28_bo bg cbg j28_bg bh cbh j28_bh bd cbd j28_bd waf cwaf gwaf wat cwat gwat wap cwap gwap wag cwag gwag wgt cwgt gwgt wft cwft gwft wgc cwgc gwgc wek cwek gwek wei cwei gwei wes cwes gwes wez cwez gwez cfi ccfi gcfi clk cclk gclk clt cclt gclt cop ccop gcop cva ccva gcva cpt ccpt gcpt cel ccel gcel cla ccla gcla)) [21, 22, 23, 0, 24, 1, 2, 3, 4, 5, 18, 6, 7, 8, 19, 20, 9, 25, 26, 27, 28, 10, 11, 12, 13, 14, 15, 16, 17] (by decide) rfl
      exact W.zret (v := j28_h0_sound) hx hb hr (zn01 (b_j28_h0_sound)) (fun t ht hW => ⟨⟨j28_h0_sound, (j28_bd, j28_bg, j28_bh, j28_bo, j28_ty, j28_h0_depth, j28_h0_function, j28_h0_height, j28_h0_sound), rfl, ⟨b_j28_h0_sound, b_j28_bh, b_j28_ty, b_j28_h0_depth, b_j28_h0_height, b_j28_h0_sound, po⟩, va_P.he ht.symm hP9, va_K.moved hW.alike hK, hD9⟩, hS.F ht⟩) hS.2.2 d_VA_check_61
    · have q43 := neI c43
      refine lv_aload_n hx hb d_VA_check_46 rfl (lv_at hl 0 rfl) ?_
      refine lv_iload_n hx hb d_VA_check_47 rfl (lv_at hl 1 rfl) ?_
      have c9 := i32_clamp (x := j28_l2) (by (first | (apply Int.le_antisymm <;> omega) | omega))
      have hC9 := hrc.1 j28_l2.toNatClampNeg (by (first | (apply Int.le_antisymm <;> omega) | omega))
      have hPc := hP.sb (wq := (wz_89 h0 aw ac j28_h0_sound j28_h0_function ty j28_h0_height bo bg bh bd j28_h0_depth aw law ac cfi clk clt ac_length cop cva cpt cel ac_labelCount cla ty cty j28_ty bo cbo j28_bo bg cbg j28_bg bh cbh j28_bh bd cbd j28_bd waf cwaf gwaf wat cwat gwat wap cwap gwap wag cwag gwag wgt cwgt gwgt wgc cwgc gwgc cfi ccfi gcfi clk cclk gclk clt cclt gclt cop ccop gcop cva ccva gcva cpt ccpt gcpt cel ccel gcel cla ccla gcla)) [21, 22, 0, 1, 2, 3, 4, 5, 18, 6, 7, 8, 19, 9, 10, 11, 12, 13, 14, 15, 16, 17] rfl
      have hDc := hD.sb (wq := (wz_89 h0 aw ac j28_h0_sound j28_h0_function ty j28_h0_height bo bg bh bd j28_h0_depth aw law ac cfi clk clt ac_length cop cva cpt cel ac_labelCount cla ty cty j28_ty bo cbo j28_bo bg cbg j28_bg bh cbh j28_bh bd cbd j28_bd waf cwaf gwaf wat cwat gwat wap cwap gwap wag cwag gwag wgt cwgt gwgt wgc cwgc gwgc cfi ccfi gcfi clk cclk gclk clt cclt gclt cop ccop gcop cva ccva gcva cpt ccpt gcpt cel ccel gcel cla ccla gcla)) [21, 22, 0, 1, 2, 3, 4, 5, 18, 6, 7, 8, 19, 9, 10, 11, 12, 13, 14, 15, 16, 17] (by decide) rfl
      have hKc := hK.sb (tyq := [(cty, .int), (cbo, .int), (cbg, .int), (cbh, .int), (cbd, .boolean), (cwaf, .int), (cwat, .int), (cwap, .int), (cwag, .int), (cwgt, .int), (cwgc, .boolean), (ccfi, .int), (cclk, .int), (cclt, .int), (ccop, .int), (ccva, .long), (ccpt, .int), (ccel, .int), (ccla, .int)]) [1, 2, 3, 4, 5, 6, 7, 8, 9, 10, 12, 17, 18, 19, 20, 21, 22, 23, 24] rfl
      have hFc := va_free (wc := (wz_89 h0 aw ac j28_h0_sound j28_h0_function ty j28_h0_height bo bg bh bd j28_h0_depth aw law ac cfi clk clt ac_length cop cva cpt cel ac_labelCount cla ty cty j28_ty bo cbo j28_bo bg cbg j28_bg bh cbh j28_bh bd cbd j28_bd waf cwaf gwaf wat cwat gwat wap cwap gwap wag cwag gwag wgt cwgt gwgt wgc cwgc gwgc cfi ccfi gcfi clk cclk gclk clt cclt gclt cop ccop gcop cva ccva gcva cpt ccpt gcpt cel ccel gcel cla ccla gcla)) hD hS hA [21, 22, 0, 1, 2, 3, 4, 5, 18, 6, 7, 8, 19, 9, 10, 11, 12, 13, 14, 15, 16, 17] rfl
      refine va_callv (va_runV (As := [.int j28_l2]) (rest := []) ⟨hx, hb, hml, hown, hts⟩ (c_VA_checkFunction l dC dI H.size h0 aw ac ty bo bg bh bd wat wap wag waf wgt wgc cfi clk clt cop cva cpt cel cla cty cbo cbg cbh cbd cwaf cwat cwap cwag cwgt cwgc ccfi cclk cclt ccop ccva ccpt ccel ccla j28_h0_sound j28_h0_function j28_h0_height j28_h0_depth law aw_functionCount aw_hasMemory aw_globalCount ac_length ac_labelCount j28_ty j28_bo j28_bg j28_bh j28_bd gwaf gwat gwap gwag gwgt gwgc gcfi gclk gclt gcop gcva gcpt gcel gcla ((fun f => (gwat (gwaf f).toNatClampNeg).toInt + (gclk f).toInt)) ((fun f => if (gwag (gwaf f).toNatClampNeg).toInt = 64 then 0 else 1)) ((fun f => (gwat (gwaf f).toNatClampNeg).toInt)) paw_1 paw_3 paw_4 paw_5 paw_6 paw_7 paw_8 paw_11 paw_12 paw_15 plaw (b_j28_h0_sound) (b_j28_h0_height) (b_j28_h0_depth) (b_ac_labelCount) (b_j28_ty) (b_j28_bh) (b_aw_functionCount) (b_aw_hasMemory) (b_aw_globalCount) j28_l2 (by (try dsimp only) <;> (first | (apply Int.le_antisymm <;> omega) | omega)) (by (try dsimp only) <;> (first | (apply Int.le_antisymm <;> omega) | omega)) (hwf (v2 (by (first | (apply Int.le_antisymm <;> omega) | omega)))) (hrg) (hlb) (⟨hC9.1, hC9.2.1, by have := hC9.2.2.1; (first | (apply Int.le_antisymm <;> omega) | omega)⟩) (hC9.2.2.2.1) (fun f _ => rfl) (fun f _ => rfl) (fun f _ => rfl)) (cwV 1 hts (gV kM_VA_53 kV_VA_checkFunction kS_VA_checkFunction kI_VA kC_VA_checkFunction) rfl rfl rfl (by decide +kernel) ⟨Nat.le_of_ble_eq_true rfl, Nat.le_of_ble_eq_true rfl⟩) ⟨fun a U g mk z => by obtain ⟨z0, z1, zP, zK, zD⟩ := z; exact ⟨z0, z1, zP, va_K.moved (u := U) (U := U.calling g mk a) (Vm.Alike.refl U.vm) zK, zD⟩, va_recv hKc hPc (ci := 9) (q0 := 0) rfl rfl, fun U hU hW => ⟨rfl, by rw [hU], va_P.he hU.symm hPc, va_K.moved hW.alike hKc, hDc.weaken (fun _ _ _ _ => trivial)⟩⟩ rfl rfl hl.1 rfl (lv_room (Nat.le_of_ble_eq_true rfl)) d_VA_check_48 ⟨(Nat.zero_le _), (Nat.zero_le _)⟩) hS (fun q _ h => hFc q h) hFc (fun u t H1 locs ht hvm hw hB hz1 hk1 hS => ?_)
      obtain ⟨n6, n7, n8, n9, n10, n11, n12, n13, n14⟩ := u
      try dsimp only at hw
      obtain ⟨bn8, bn10, bn11, bn13, bn14, xr5⟩ := hw
      try clear hw
      have tn14 := b01 bn14
      obtain ⟨hP1, hK1, hD1⟩ := hB
      replace hP1 := va_P.he ht hP1
      obtain ⟨hP, hD⟩ := va_join (wr := [(wft, .inl (cwft, 20, .inl gwft)), (ab, .inr (1, [.ref ax, .int ab_length])), (ax, .inl (cax, 8192, .inl gax)), (wek, .inl (cwek, 40, .inl gwek)), (wei, .inl (cwei, 40, .inl gwei)), (wes, .inl (cwes, 40, .inl gwes)), (wez, .inl (cwez, 40, .inl gwez))]) (w1 := (wz_89 h0 aw ac n14 n12 ty n13 bo bg bh bd n11 aw law ac cfi clk clt ac_length cop cva cpt cel ac_labelCount cla ty cty n10 bo cbo n9 bg cbg n7 bh cbh n8 bd cbd n6 waf cwaf gwaf wat cwat gwat wap cwap gwap wag cwag gwag wgt cwgt gwgt wgc cwgc gwgc cfi ccfi gcfi clk cclk gclk clt cclt gclt cop ccop gcop cva ccva gcva cpt ccpt gcpt cel ccel gcel cla ccla gcla)) hP hD [21, 22, 0, 1, 2, 3, 4, 5, 18, 6, 7, 8, 19, 9, 10, 11, 12, 13, 14, 15, 16, 17] [20, 23, 24, 25, 26, 27, 28] rfl rfl (by decide) (by decide) hk1 hFc hP1 hD1
      clear hPc hDc hKc hFc hz1 hk1 hP1 hK1 hD1
      rename Heap => H
      have hP : va_P (dC, dI) cls [(wft, .inl (cwft, 20, .inl gwft)), (ab, .inr (1, [.ref ax, .int ab_length])), (ax, .inl (cax, 8192, .inl gax)), (wek, .inl (cwek, 40, .inl gwek)), (wei, .inl (cwei, 40, .inl gwei)), (wes, .inl (cwes, 40, .inl gwes)), (wez, .inl (cwez, 40, .inl gwez)), (h0, .inr (9, [.ref aw, .ref ac, .int n14, .int n12, .ref ty, .int n13, .ref bo, .ref bg, .ref bh, .ref bd, .int n11])), (aw, .inr (10, law)), (ac, .inr (3, [.ref cfi, .ref clk, .ref clt, .int ac_length, .ref cop, .ref cva, .ref cpt, .ref cel, .int ac_labelCount, .ref cla])), (ty, .inl (cty, 5000, .inl n10)), (bo, .inl (cbo, 101, .inl n9)), (bg, .inl (cbg, 101, .inl n7)), (bh, .inl (cbh, 101, .inl n8)), (bd, .inl (cbd, 101, .inl n6)), (waf, .inl (cwaf, 30, .inl gwaf)), (wat, .inl (cwat, 20, .inl gwat)), (wap, .inl (cwap, 160, .inl gwap)), (wag, .inl (cwag, 20, .inl gwag)), (wgt, .inl (cwgt, 20, .inl gwgt)), (wgc, .inl (cwgc, 20, .inl gwgc)), (cfi, .inl (ccfi, 31, .inl gcfi)), (clk, .inl (cclk, 30, .inl gclk)), (clt, .inl (cclt, 1800, .inl gclt)), (cop, .inl (ccop, 5000, .inl gcop)), (cva, .inl (ccva, 5000, .inr (.inl gcva))), (cpt, .inl (ccpt, 5000, .inl gcpt)), (cel, .inl (ccel, 5000, .inl gcel)), (cla, .inl (ccla, 2000, .inl gcla))] H := hP
      have hD : va_D A [(wft, .inl (cwft, 20, .inl gwft)), (ab, .inr (1, [.ref ax, .int ab_length])), (ax, .inl (cax, 8192, .inl gax)), (wek, .inl (cwek, 40, .inl gwek)), (wei, .inl (cwei, 40, .inl gwei)), (wes, .inl (cwes, 40, .inl gwes)), (wez, .inl (cwez, 40, .inl gwez)), (h0, .inr (9, [.ref aw, .ref ac, .int n14, .int n12, .ref ty, .int n13, .ref bo, .ref bg, .ref bh, .ref bd, .int n11])), (aw, .inr (10, law)), (ac, .inr (3, [.ref cfi, .ref clk, .ref clt, .int ac_length, .ref cop, .ref cva, .ref cpt, .ref cel, .int ac_labelCount, .ref cla])), (ty, .inl (cty, 5000, .inl n10)), (bo, .inl (cbo, 101, .inl n9)), (bg, .inl (cbg, 101, .inl n7)), (bh, .inl (cbh, 101, .inl n8)), (bd, .inl (cbd, 101, .inl n6)), (waf, .inl (cwaf, 30, .inl gwaf)), (wat, .inl (cwat, 20, .inl gwat)), (wap, .inl (cwap, 160, .inl gwap)), (wag, .inl (cwag, 20, .inl gwag)), (wgt, .inl (cwgt, 20, .inl gwgt)), (wgc, .inl (cwgc, 20, .inl gwgc)), (cfi, .inl (ccfi, 31, .inl gcfi)), (clk, .inl (cclk, 30, .inl gclk)), (clt, .inl (cclt, 1800, .inl gclt)), (cop, .inl (ccop, 5000, .inl gcop)), (cva, .inl (ccva, 5000, .inr (.inl gcva))), (cpt, .inl (ccpt, 5000, .inl gcpt)), (cel, .inl (ccel, 5000, .inl gcel)), (cla, .inl (ccla, 2000, .inl gcla))] := hD
      obtain ⟨x15, ex15⟩ : ∃ z : Int32, z = j28_l2 + 1 := ⟨_, rfl⟩
      have tx15 : x15.toInt = j28_l2.toInt + 1 := by have z := i32_add ex15 (by (first | (apply Int.le_antisymm <;> omega) | omega)) (by (first | (apply Int.le_antisymm <;> omega) | omega)); first | exact z | (first | (apply Int.le_antisymm <;> omega) | omega)
      refine lv_iinc (v := x15) (lv' := [(2, .int x15), (0, .ref h0)]) hx hb d_VA_check_51 hl (k := 1) rfl (by rw [ex15]; rfl) (by decide) rfl (fun ls hl => ?_)
      refine lv_goto (tgt := 28) hx hb d_VA_check_54 (by decide) ?_
      exact ih28 (x15, n6, n7, n8, n9, n10, n11, n12, n13, n14) _ _ _ (by show (aw_functionCount.toInt - x15.toInt).toNat < N28; (first | (apply Int.le_antisymm <;> omega) | omega)) ⟨by (try dsimp only) <;> (first | (apply Int.le_antisymm <;> omega) | omega), bn8, bn10, bn11, bn13, bn14, by (try dsimp only) <;> (first | (apply Int.le_antisymm <;> omega) | omega), fun z => v2 (xr5 z).1, fun z f q => by by_cases y : (f : Int) < j28_l2.toInt; exact v3 (xr5 z).1 f y; rw [show f = j28_l2.toNatClampNeg from by (first | (apply Int.le_antisymm <;> omega) | omega)]; exact (xr5 z).2, hP.sub [9, 10, 11, 12, 13, 14, 16, 17, 18, 20, 21, 22, 23, 24, 25, 26, 27, 28, 15, 19, 0, 7, 8, 1, 2, 3, 4, 5, 6] rfl, hD.sub [9, 10, 11, 12, 13, 14, 16, 17, 18, 20, 21, 22, 23, 24, 25, 26, 27, 28, 15, 19, 0, 7, 8, 1, 2, 3, 4, 5, 6] (by decide) rfl, hS, lv_sub hl [1, 0] rfl⟩
end q_28
section q_29
/-! CONTRACTS OF METHODS THAT RETURN OR THROW, each way with its own count of new cells -/
abbrev tz_K : Type := Outcome → Nat × Nat
def tz_k (mr sr mt st : Nat) : tz_K := fun o => match o with | .returned _ => (mr, sr) | .threw _ => (mt, st)
def tz_Met (l : Launch) (y : MethodName) (ws : List Cond) (rm : Room) (Pc : Array Value → State → Prop) (Qc : Array Value → State → Outcome → State → Prop) (k : tz_K) (free : Addr → Prop) : Prop :=
  MetFree l y (headSpec ws rm) Pc (fun _ _ _ _ _ => True) (fun a st o t => Qc a st o t ∧ ∃ L, tx_End st t L (k o).1 (k o).2 ∧ ∀ q ∈ L, free q.base)
def tz_MQ (below : List Frame) (Qc : Array Value → State → Outcome → State → Prop) (a : Array Value) (s : State) (k : tz_K) (free : Addr → Prop) : State → Prop := fun t =>
  ∃ o, t.status = .running ∧ Ended t below o ∧ Qc a s o t ∧ ∃ L, tx_End s t L (k o).1 (k o).2 ∧ ∀ q ∈ L, free q.base
section TZ1
variable {p : Program} {l : Launch} {e : Env} {R : Room} {s : State} {m : MethodId} {args : Array Value} {below : List Frame} {meth : Method} {c : Code} {H : Heap} {locs : List Loc} {cells slots : Nat} {Q : State → Prop}
/-- a walk that ends in the kit's own end ends in this one -/
theorem tz_up {Qc : Array Value → State → Outcome → State → Prop} {k : tz_K} {free : Addr → Prop} {g : JFrame} {mc ms : Nat} (hk : ∀ v, k (.returned v) = (mc, ms)) (h : W p l e R s m args below meth c H locs cells slots (MQ below Qc args s mc ms free) g) :
    W p l e R s m args below meth c H locs cells slots (tz_MQ below Qc args s k free) g := by
  intro T hT X
  obtain ⟨t, h1, o, h2, h3, h4, L, hF, hL⟩ := h T hT X
  obtain ⟨⟨v, rfl⟩, hF⟩ := hF
  refine ⟨t, h1, .returned v, h2, h3, h4, L, ?_, hL⟩
  rw [hk]
  exact ⟨hF.1, hF.2⟩
/-- a contract that returns is one that may throw -/
theorem tz_of {y : MethodName} {ws : List Cond} {rm : Room} {Pc : Array Value → State → Prop} {Qc : Array Value → State → Outcome → State → Prop} {k : tz_K} {free : Addr → Prop} {mc ms : Nat} (hk : ∀ v, k (.returned v) = (mc, ms)) (h : Met l y ws rm Pc Qc mc ms free) : tz_Met l y ws rm Pc Qc k free := by
  intro p e ha hc hk2 s m args below hf happ hP hK
  obtain ⟨n, o, h1, h2, h3, h4, L, hF, hL⟩ := h p e ha hc hk2 s m args below hf happ hP hK
  obtain ⟨⟨v, rfl⟩, hF⟩ := hF
  refine ⟨n, .returned v, h1, h2, h3, h4, L, ?_, hL⟩
  rw [hk]
  exact ⟨hF.1, hF.2⟩
theorem tz_ofW {y : MethodName} {ws ws' : List Cond} {rm : Room} {Pc : Array Value → State → Prop} {Qc : Array Value → State → Outcome → State → Prop} {k : tz_K} {free : Addr → Prop} {cc : ByteArray} {maxL : Nat} {ret : Option FieldType}
    (hy : plainName y.cls = true) (hw : ws = Cond.code y cc maxL ret :: ws')
    (body : ∀ p e s m args below meth c s₁, BodyLoose p l y (headSpec ws rm) cc maxL ret e s m args below meth c s₁ → c.maxLocals = maxL → c.exceptionTable.isEmpty = true → Pc args s →
      W p l e (headSpec ws rm).room s m args below meth c s.heap [] 0 0 (tz_MQ below Qc args s k free) (entryFrame m args maxL)) : tz_Met l y ws rm Pc Qc k free := by
  refine MetFree.of_bodyS (code := cc) (maxLocals := maxL) (ret := ret) hy ?_ ?_
  · intro args s m h hn
    obtain ⟨meth, c, h1, h2, h3, h4, h5, h6, -, -⟩ := Cond.code_spec hn (atoms_spec (ws := ws) h _ (by rw [hw]; exact List.mem_cons_self))
    exact ⟨meth, c, h1, h2, h3, h4, h5, h6⟩
  · intro p e s m args below meth c s₁ B hml hP _
    have hh0 : s₁.heap = s.heap := by rw [B.state]; rfl
    have hno := B.noHandlers (atoms_spec (ws := ws) B.pre _ (by rw [hw]; exact List.mem_cons_self))
    obtain ⟨t, a1, o, b1, b2, b3⟩ := body p e s m args below meth c s₁ B hml hno hP s₁ hh0 (Stand.of_body B)
    exact ⟨t, o, a1, b1, b2, ⟨b3.1, b3.2⟩⟩
/-- athrow, where nothing catches: the method ends so -/
theorem tz_athrow {cc : ByteArray} {Qc : Array Value → State → Outcome → State → Prop} {free : Addr → Prop} {k : tz_K} {a : Addr} {rest : List Value} (hk : k (.threw a) = (cells, slots)) (hexec : p.tables.exec = Jvm.exec) (hb : c.code = cc) (hno : c.exceptionTable.isEmpty = true) (hlocks : meth.locks = false)
    (hq : ∀ t : State, t.heap = H → s.WarmedH t.vm → Qc args s (.threw a) t) (hf : ∀ q ∈ locs, free q.base) {pc : Nat} {ls : Array Slot} (hdg : decode cc pc = .ok (.athrow, 1)) :
    W p l e R s m args below meth c H locs cells slots (tz_MQ below Qc args s k free) (F0 m pc ls (.ref a :: rest)) := by
  intro T hT X
  subst hb
  obtain ⟨h1, h2, h3, h4, h5⟩ := X.athrowLeaves hexec (g := F0 m pc ls (.ref a :: rest)) rfl rfl rfl (tx_none hno _) rfl hdg hlocks
  refine ⟨_, h1, .threw a, h2, h3, hq _ hT h4, locs, ?_, hf⟩
  rw [hk]
  exact ⟨h4, h5⟩
end TZ1
def tz_Post (Qc : Array Value → State → Outcome → State → Prop) (k : tz_K) (free : Addr → Prop) : Pt → Array Value → Outcome → Pt → Prop := fun A a o B =>
  ∃ (g : JFrame) (mk : MethodId) (t : State) (L : List Loc), B.U.heap = t.heap ∧ B.U.vm = t.vm ∧ Qc a (A.U.calling g mk a) o t ∧ B.locs = A.locs ++ L ∧ (∀ q ∈ L, free q.base) ∧ B.cells = A.cells + (k o).1 ∧ B.slots = A.slots + (k o).2
section TZ2
variable {l : Launch} {R : Room} {p : Program} {e : Env} {below : List Frame} {s : State} {sargs : Array Value} {y : MethodName} {len W : Nat}
set_option maxHeartbeats 1000000 in
theorem tz_back {ws : List Cond} {rm : Room} {Pc : Array Value → State → Prop} {Qc : Array Value → State → Outcome → State → Prop} {k : tz_K} {free : Addr → Prop} {maxL : Nat}
    (hM : tz_Met l y ws rm Pc Qc k free) (hblind : FrameBlind Pc) (hframes : rm.frames + 1 ≤ R.frames) (hlocals : W + (maxL + 11) + rm.locals ≤ R.locals)
    (hws : ∀ w ∈ ws, ∀ (a' : Array Value) (U : State), s.WarmedH U.vm → w.before a' U = true)
    (hat : ∀ (U : State) (mk : MethodId), s.WarmedH U.vm → U.methodNamed? y = some mk → ∃ (methY : Method) (cY : Code), U.vm.method? mk = some methY ∧ methY.code = some cY ∧ cY.maxLocals = maxL)
    (hinit : ∀ (a' : Array Value) (U : State), s.WarmedH U.vm → (Cond.initialized y.cls).before a' U = true) :
    tx_Back l R p e below s sargs y len W (PreOf R rm.cells rm.slots Pc) (tz_Post Qc k free) := by
  intro m meth c A g ig mk a X hg hsize hdg hW hn hp
  obtain ⟨U, Ls, c0, s0⟩ := A
  obtain ⟨hp1, hp2, hp3⟩ := hp
  dsimp only [Pt.U, Pt.locs, Pt.cells, Pt.slots] at hp1 hp2 hp3 X hn ⊢
  obtain ⟨methY, cY, hmY, hcY, hlY⟩ := hat U mk X.warmed hn
  obtain ⟨kY, hkY, -⟩ := className_of_methodNamed hn
  have hinitY : kY.init = .initialized := Cond.initialized_spec (findClass_of_methodNamed hn) hkY (hinit a U X.warmed)
  have h : At U g.method c below := by rw [hg]; exact X.here
  have h1 : (headSpec ws rm).pre.before a U = true := atoms_intro fun w hw => hws w hw _ _ X.warmed
  have happ : (headSpec ws rm).appliesLoose y e.platform (U.calling g mk a) = true :=
    Spec.appliesLoose_calling (g := g) h hdg hn hkY hinitY
      (X.room_calling (g := g) (R' := rm) hsize hmY hcY hframes (by rw [hlY]; (first | (apply Int.le_antisymm <;> omega) | omega)) hp1 hp2) h1
  obtain ⟨mid, hmid⟩ := h.above
  have hfr : (U.setTop g).frames = (.java g :: mid) ++ below := by rw [State.frames_setTop' g h.top, hmid]; rfl
  obtain ⟨o, s₂, hsteps, -, hend, hq⟩ := Steps.callFree hM p X.admits X.cas X.clock (acts := []) hfr happ (hblind _ _ _ _ hp3) trivial
  have hq' : Qc a (U.calling g mk a) o s₂ ∧ ∃ L, tx_End (U.calling g mk a) s₂ L (k o).1 (k o).2 ∧ ∀ q ∈ L, free q.base := hq
  rw [State.frames_setTop' g h.top] at hend
  obtain ⟨hqc, L, ⟨hW₂, e2, q2, q3, q4, q5, q6⟩, hL⟩ := hq'
  have e3 : s₂ = ({ (U.calling g mk a).setFrames s₂.frames with heap := s₂.heap, slotsUsed := s₂.slotsUsed } : State).setVm s₂.vm := by
    have : s₂ = ({ s₂ with vm := (U.calling g mk a).vm } : State).setVm s₂.vm := rfl
    rw [e2] at this
    exact this
  have hW' : U.WarmedH s₂.vm := hW₂
  obtain ⟨g₀, hg0⟩ := Option.isSome_iff_exists.mp h.top
  obtain ⟨r, hr⟩ := State.topJava?_eq_some.mp hg0
  have hr' : (({ U with heap := s₂.heap, slotsUsed := s₂.slotsUsed } : State).setVm s₂.vm).frames = .java g₀ :: r := hr
  have hs₂ : s₂ = tx_beh (({ U with heap := s₂.heap, slotsUsed := s₂.slotsUsed } : State).setVm s₂.vm) g len o := by
    cases o with
    | returned v =>
      obtain ⟨c₂, i₂, len₂, hc₂, hd₂, hf₂⟩ := hend
      have hcc : c₂ = c := by
        have h1 : s₂.code? g.method = U.code? g.method := by
          rw [State.code?_eq, State.code?_eq, hW'.alike.method?]
        exact Option.some.inj (hc₂.symm.trans (h1.trans h.code))
      subst hcc
      have hlen : len₂ = len := by rw [hdg] at hd₂; cases hd₂; rfl
      subst hlen
      refine e3.trans ?_
      show _ = (({ U with heap := s₂.heap, slotsUsed := s₂.slotsUsed } : State).setVm s₂.vm).setTop { g with pc := g.pc + len₂, stack := v.toList ++ g.stack }
      rw [hf₂, State.calling_eq h.top, State.setFrames_setFrames, State.setTop_of_frames _ hr', hr]
      rfl
    | threw x =>
      have hf₂ : s₂.frames = .throwing x :: .java g :: U.frames.tail := hend
      refine e3.trans ?_
      show _ = ((({ U with heap := s₂.heap, slotsUsed := s₂.slotsUsed } : State).setVm s₂.vm).setTop g).pushFrame (.throwing x)
      rw [hf₂, State.calling_eq h.top, State.setFrames_setFrames, State.pushFrame, State.frames_setTop _ hr', State.setTop_of_frames _ hr', State.setFrames_setFrames, hr]
      rfl
  have hsame : U.sameButNew ({ U with heap := s₂.heap, slotsUsed := s₂.slotsUsed } : State) L (k o).1 (k o).2 := by
    refine ⟨?_, q2, q3, q4, q5, q6⟩
    obtain ⟨t, ht, -⟩ := State.frames_cons hr
    show ({ U with heap := s₂.heap, slotsUsed := s₂.slotsUsed } : State) = { U.setFrames U.frames with heap := s₂.heap, slotsUsed := s₂.slotsUsed }
    rw [State.setFrames_self ht]
  subst hg
  refine ⟨o, ⟨(({ U with heap := s₂.heap, slotsUsed := s₂.slotsUsed } : State).setVm s₂.vm), Ls ++ L, c0 + (k o).1, s0 + (k o).2⟩,
    ⟨X.admits, X.cas, X.clock, X.frames, X.room, X.hears, X.method, X.code, (X.here.setHeapUsed s₂.heap s₂.slotsUsed).setVm hW'.alike, X.tail, State.WarmedH.trans X.warmed hW', X.limits, X.bytes, X.same.trans (hsame.setVm s.vm)⟩,
    ⟨g, mk, s₂, L, rfl, rfl, hqc, rfl, hL, rfl, rfl⟩, ?_⟩
  show Steps p.tables e below _ (tx_beh (({ U with heap := s₂.heap, slotsUsed := s₂.slotsUsed } : State).setVm s₂.vm) g len o)
  rw [← hs₂]
  exact hsteps
end TZ2
def tz_Run (p : Program) (l : Launch) (e : Env) (R : Room) (s : State) (m : MethodId) (args : Array Value) (below : List Frame) (meth : Method) (c : Code) (H : Heap) (locs : List Loc) (cells slots : Nat) (k : tz_K) (g : JFrame) (rest : List Value) (Qa : State → Outcome → State → Prop) (free : Addr → Prop) : Prop :=
  ∀ T : State, T.heap = H → Stand p l e R s m args below meth c T locs cells slots → ∃ (o : Outcome) (st₀ t T' : State) (L : List Loc), st₀.heap = H ∧ Stand p l e R s m args below meth c T' (locs ++ L) (cells + (k o).1) (slots + (k o).2) ∧ (∀ q ∈ L, free q.base) ∧ T'.heap = t.heap ∧ T'.vm = t.vm ∧ Qa st₀ o t ∧
    ∀ target, Steps p.tables e below (tx_beh T' { g with stack := rest } 3 o) target → Steps p.tables e below (T.setTop g) target
section TZ3
variable {p : Program} {l : Launch} {e : Env} {R : Room} {s : State} {m : MethodId} {args : Array Value} {below : List Frame} {meth : Method} {c : Code} {H : Heap} {locs : List Loc} {cells slots : Nat}
variable {y : MethodName} {bytes cc : ByteArray} {maxL nL n index : Nat} {k : tz_K} {ret : Option FieldType} {ws : List Cond} {rm : Room} {Pc : Array Value → State → Prop} {Qc : Array Value → State → Outcome → State → Prop} {free : Addr → Prop} {Ts : List Cond} {own C : String} {b : Addr} {As rest : List Value} {g : JFrame}
theorem tz_callBack (cb : CallB R s args own index y bytes maxL ret ws rm rm.cells rm.slots n) (hM : tz_Met l y ws rm Pc Qc k free) (hbl : FrameBlind Pc) : tx_Back l R p e below s args y 3 8 (PreOf R rm.cells rm.slots Pc) (tz_Post Qc k free) := by
  obtain ⟨-, -, hfr, hlo, hws, hcw, -, hini, -⟩ := cb
  exact tz_back hM hbl hfr hlo hws (fun U mk hW hn => by
    obtain ⟨methY, cY, h1, h2, -, h4, -⟩ := Cond.code_spec hn (hws _ hcw #[] U hW)
    exact ⟨methY, cY, h1, h2, h4⟩) (fun a' U hW => word_at hW (Or.inl (by first | rfl | simp [Cond.onTables, Cond.keeps, Cond.steady])) hini)
theorem tz_runV (S : CallFix p m c cc nL s args Ts own) (hM : tz_Met l y ws rm Pc Qc k free) (cw : CallW R s args own C index y bytes maxL ret ws rm rm.cells rm.slots n) (hp : PreV s H C b Pc As)
    (hg : g.method = m) (hn : As.length = n) (hsize : g.locals.size = nL) (hstack : g.stack = As.reverse ++ .ref b :: rest) (hW : 2 * g.monitorRoom + (rest.map fun v => v.category).sum ≤ 8) (hdg : decode cc g.pc = .ok (.invokevirtual index, 3)) (hf : cells + rm.cells ≤ R.cells ∧ slots + rm.slots ≤ R.slots) :
    tz_Run p l e R s m args below meth c H locs cells slots k g rest (Qc (Value.ref b :: As).toArray) free := by
  have hK : tx_Back l R p e below s args y 3 8 (PreOf R rm.cells rm.slots Pc) (tz_Post Qc k free) := tz_callBack cw.1 hM hp.1
  obtain ⟨⟨-, -, -, -, -, -, hcode, -, hy, hlen, hl⟩, hinst, hsel⟩ := cw
  obtain ⟨hexec, hb, hml, hown, -⟩ := S
  obtain ⟨-, ⟨cellB, hcell, hobj, hcls⟩, hPc⟩ := hp
  intro T hT X
  obtain ⟨mk, methM, hnamed, hmethM, hstM, habM⟩ := Cond.instanceMethod_spec hinst
  obtain ⟨methM', cM, hmethM', -, -, -, -, -, -, hsigM⟩ := Cond.code_spec hnamed hcode
  cases hmethM.symm.trans hmethM'
  obtain ⟨c2, r2, m2, q1, q2, q3, q4, kP, hkP, hkPi⟩ := Cond.selects_spec hsel
  cases hcls.symm.trans q1
  cases (State.methodFound?_of_named hnamed hy).symm.trans q2
  cases hnamed.symm.trans q3
  have hselP : selectMethod e.platform s.vm cellB.cls mk = .method mk := by rw [Launch.admits_selectMethod X.admits]; exact q4
  subst hT
  subst hb
  obtain ⟨vm₁, X₁, hstep₁⟩ := X.invokevirtual hexec hown hl hnamed hmethM hstM hkP hkPi hy (a := b) (cell := cellB) hcell
    (fun z h => by rw [h] at hobj; cases hobj) hselP hmethM habM hkP hkPi (g := g) hg (argsL := As) (rest := rest) (hn.trans (hlen _ hsigM)) hstack hdg
  obtain ⟨o, ⟨U', l2, c2', s2⟩, X', ⟨g', mk', t, L, e1, e2, hq, h1, hL, h2, h3⟩, hsteps⟩ := hK m meth c ⟨T.setVm vm₁, locs, cells, slots⟩ { g with stack := rest } (.invokevirtual index) mk (Value.ref b :: As).toArray X₁ hg (hsize.trans hml.symm) hdg hW (X₁.named hnamed) ⟨hf.1, hf.2, hPc (T.setVm vm₁) rfl X₁.warmed⟩
  dsimp only [Pt.U, Pt.locs, Pt.cells, Pt.slots] at X' e1 e2 h1 h2 h3 hsteps
  subst h1; subst h2; subst h3
  exact ⟨o, (T.setVm vm₁).calling g' mk' (Value.ref b :: As).toArray, t, U', L, rfl, X', hL, e1, e2, hq, fun target h => hstep₁ _ fun acts => by rw [doInvoke_state]; exact hsteps.trans h⟩
/-- it goes through: nothing here catches it -/
theorem tz_leave {x : Addr} {pc : Nat} {ls : Array Slot} {st : List Value} (hk : k (.threw x) = (cells, slots)) (hno : c.exceptionTable.isEmpty = true) (hlocks : meth.locks = false)
    (hq : ∀ t : State, t.heap = H → s.WarmedH t.vm → Qc args s (.threw x) t) (hf : ∀ q ∈ locs, free q.base) : tx_T p l e R s m args below meth c H locs cells slots (tz_MQ below Qc args s k free) (F0 m pc ls st) x := by
  intro T hT X
  obtain ⟨h1, h2, h3, h4, h5⟩ := X.leaveThrown x (g := F0 m pc ls st) rfl rfl rfl (tx_none hno _) hlocks
  refine ⟨_, h1, .threw x, h2, h3, hq _ hT h4, locs, ?_, hf⟩
  rw [hk]
  exact ⟨h4, h5⟩
variable {A0 A1 : Nat → Prop} {H0 : Heap} {pc : Nat} {ls : Array Slot} {st0 : List Value} {a : Array Value} {Q : State → Prop}
theorem tz_call {S : Type} {post : Outcome → S → Prop} {B : S → State → Prop} (hr : tz_Run p l e R s m args below meth c H locs cells slots k (F0 m pc ls st0) rest (tx_Q post B A1 a) free) (hS : va_S A0 H0 H locs) (hA : ∀ q, q < H.size → A1 q → A0 q) (hf : ∀ q, free q → A0 q)
    (kr : ∀ (v : Option Value) (u : S) (t : State) (H1 : Heap) (locs1 : List Loc), t.heap = H1 → s.vm.Alike t.vm → post (.returned v) u → B u t → H.size ≤ H1.size → (∀ q : Nat, q < H.size → ¬ A1 q → H1[q]? = H[q]?) → va_S A0 H0 H1 locs1 → W p l e R s m args below meth c H1 locs1 (cells + (k (.returned v)).1) (slots + (k (.returned v)).2) Q (F0 m (pc + 3) ls (v.toList ++ rest)))
    (kt : ∀ (x : Addr) (u : S) (t : State) (H1 : Heap) (locs1 : List Loc), t.heap = H1 → s.vm.Alike t.vm → post (.threw x) u → B u t → H.size ≤ H1.size → (∀ q : Nat, q < H.size → ¬ A1 q → H1[q]? = H[q]?) → va_S A0 H0 H1 locs1 → tx_T p l e R s m args below meth c H1 locs1 (cells + (k (.threw x)).1) (slots + (k (.threw x)).2) Q (F0 m pc ls rest) x) :
    W p l e R s m args below meth c H locs cells slots Q (F0 m pc ls st0) := by
  intro T hT X
  obtain ⟨o, st₀, t, T', L, h0, X', hL, e1, e2, ⟨⟨u, hp, hb⟩, hz, hk⟩, st⟩ := hr T hT X
  rw [h0] at hz hk
  have hal : s.vm.Alike t.vm := by rw [← e2]; exact X'.warmed.alike
  have hz' : H.size ≤ T'.heap.size := by rw [e1]; exact hz
  have hk' : ∀ q : Nat, q < H.size → ¬ A1 q → T'.heap[q]? = H[q]? := fun q h1 h2 => by rw [e1]; exact hk q h1 h2
  have hS' : va_S A0 H0 T'.heap (locs ++ L) := ⟨Nat.le_trans hS.1 hz', fun q h1 h2 => by rw [hk' q (Nat.lt_of_lt_of_le h1 hS.1) (fun z => h2 (hA q (Nat.lt_of_lt_of_le h1 hS.1) z))]; exact hS.2.1 q h1 h2, fun q hq => by
      rcases List.mem_append.mp hq with h | h
      · exact hS.2.2 q h
      · exact hf _ (hL q h)⟩
  cases o with
  | returned v =>
    obtain ⟨t2, a1, b1⟩ := kr v u t T'.heap (locs ++ L) e1.symm hal hp hb hz' hk' hS' T' rfl X'
    exact ⟨t2, st t2 a1, b1⟩
  | threw x =>
    obtain ⟨t2, a1, b1⟩ := kt x u t T'.heap (locs ++ L) e1.symm hal hp hb hz' hk' hS' T' rfl X'
    exact ⟨t2, st t2 a1, b1⟩
end TZ3
end q_29
section q_30
/-! the statics that the class reads: the head of a module, the signs of the language with their texts, the table of a switch over them -/
def sgN : List String := ("END" :: "WRONG" :: "NAME" :: "INTEGER" :: "LONG_INTEGER" :: "FN" :: "GLOBAL" :: "VAR" :: "IF" :: "ELSE" :: "WHILE" :: "BREAK" :: "CONTINUE" :: "RETURN" :: "I32" :: "I64" :: "MEMORY" :: "LOAD8" :: "LOAD32" :: "LOAD64" :: "STORE8" :: "STORE32" :: "STORE64" :: [ "SIZE", "GROW", "TRAP", "LEFT", "RIGHT", "LEFT_BRACE", "RIGHT_BRACE", "COLON", "SEMICOLON", "COMMA", "ASSIGN", "NOT", "INVERT", "OR", "AND", "EQUAL", "DIFFERENT", "LESS", "GREATER", "AT_MOST", "AT_LEAST", "BIT_AND", "BIT_OR", "BIT_XOR", "SHIFT_LEFT", "SHIFT_RIGHT", "SHIFT_UNSIGNED", "PLUS", "MINUS", "TIMES", "OVER", "REMAINDER"])
def sg_ord : List Int32 := (0 :: 1 :: 2 :: 3 :: 4 :: 5 :: 6 :: 7 :: 8 :: 9 :: 10 :: 11 :: 12 :: 13 :: 14 :: 15 :: 16 :: 17 :: 18 :: 19 :: 20 :: 21 :: 22 :: [ 23, 24, 25, 26, 27, 28, 29, 30, 31, 32, 33, 34, 35, 36, 37, 38, 39, 40, 41, 42, 43, 44, 45, 46, 47, 48, 49, 50, 51, 52, 53, 54])
def sg_level : List Int32 := (0 :: 0 :: 0 :: 0 :: 0 :: 0 :: 0 :: 0 :: 0 :: 0 :: 0 :: 0 :: 0 :: 0 :: 0 :: 0 :: 0 :: 0 :: 0 :: 0 :: 0 :: 0 :: 0 :: [ 0, 0, 0, 0, 0, 0, 0, 0, 0, 0, 0, 0, 0, 1, 2, 3, 3, 3, 3, 3, 3, 4, 4, 4, 5, 5, 5, 6, 6, 7, 7, 7])
def sg_code32 : List Int32 := (0 :: 0 :: 0 :: 0 :: 0 :: 0 :: 0 :: 0 :: 0 :: 0 :: 0 :: 0 :: 0 :: 0 :: 0 :: 0 :: 0 :: 45 :: 40 :: 41 :: 58 :: 54 :: 55 :: [ 63, 64, 0, 0, 0, 0, 0, 0, 0, 0, 0, 0, 0, 71, 71, 70, 71, 72, 74, 76, 78, 113, 114, 115, 116, 117, 118, 106, 107, 108, 109, 111])
def sg_code64 : List Int32 := (0 :: 0 :: 0 :: 0 :: 0 :: 0 :: 0 :: 0 :: 0 :: 0 :: 0 :: 0 :: 0 :: 0 :: 0 :: 0 :: 0 :: 45 :: 40 :: 41 :: 58 :: 54 :: 55 :: [ 63, 64, 0, 0, 0, 0, 0, 0, 0, 0, 0, 0, 0, 71, 71, 81, 82, 83, 85, 87, 89, 131, 132, 133, 134, 135, 136, 124, 125, 126, 127, 129])
def sg_takesFirst : List Int32 := (64 :: 64 :: 64 :: 64 :: 64 :: 64 :: 64 :: 64 :: 64 :: 64 :: 64 :: 64 :: 64 :: 64 :: 64 :: 64 :: 64 :: 127 :: 127 :: 127 :: 127 :: 127 :: 127 :: [ 64, 127, 64, 64, 64, 64, 64, 64, 64, 64, 64, 64, 64, 64, 64, 64, 64, 64, 64, 64, 64, 64, 64, 64, 64, 64, 64, 64, 64, 64, 64, 64])
def sg_takesSecond : List Int32 := (64 :: 64 :: 64 :: 64 :: 64 :: 64 :: 64 :: 64 :: 64 :: 64 :: 64 :: 64 :: 64 :: 64 :: 64 :: 64 :: 64 :: 64 :: 64 :: 64 :: 127 :: 127 :: 126 :: [ 64, 64, 64, 64, 64, 64, 64, 64, 64, 64, 64, 64, 64, 64, 64, 64, 64, 64, 64, 64, 64, 64, 64, 64, 64, 64, 64, 64, 64, 64, 64, 64])
def sg_gives : List Int32 := (64 :: 64 :: 64 :: 64 :: 64 :: 64 :: 64 :: 64 :: 64 :: 64 :: 64 :: 64 :: 64 :: 64 :: 64 :: 64 :: 64 :: 127 :: 127 :: 126 :: 64 :: 64 :: 64 :: [ 127, 127, 64, 64, 64, 64, 64, 64, 64, 64, 64, 64, 64, 64, 64, 64, 64, 64, 64, 64, 64, 64, 64, 64, 64, 64, 64, 64, 64, 64, 64, 64])
def sgF : List (String × String × String × List Int32) := [("java/lang/Enum", "ordinal", "I", sg_ord), ("WaferForge$Sign", "level", "I", sg_level), ("WaferForge$Sign", "code32", "I", sg_code32), ("WaferForge$Sign", "code64", "I", sg_code64), ("WaferForge$Sign", "takesFirst", "I", sg_takesFirst), ("WaferForge$Sign", "takesSecond", "I", sg_takesSecond), ("WaferForge$Sign", "gives", "I", sg_gives)]
def sgB : List (List Int32) := ([] :: [] :: [] :: [] :: [] :: [102, 110] :: [103, 108, 111, 98, 97, 108] :: [118, 97, 114] :: [105, 102] :: [101, 108, 115, 101] :: [119, 104, 105, 108, 101] :: [98, 114, 101, 97, 107] :: [99, 111, 110, 116, 105, 110, 117, 101] :: [114, 101, 116, 117, 114, 110] :: [105, 51, 50] :: [105, 54, 52] :: [109, 101, 109, 111, 114, 121] :: [108, 111, 97, 100, 56] :: [108, 111, 97, 100, 51, 50] :: [108, 111, 97, 100, 54, 52] :: [115, 116, 111, 114, 101, 56] :: [115, 116, 111, 114, 101, 51, 50] :: [115, 116, 111, 114, 101, 54, 52] :: [ [115, 105, 122, 101], [103, 114, 111, 119], [116, 114, 97, 112], [40], [41], [123], [125], [58], [59], [44], [61], [33], [126], [124, 124], [38, 38], [61, 61], [33, 61], [60], [62], [60, 61], [62, 61], [38], [124], [94], [60, 60], [62, 62], [62, 62, 62], [43], [45], [42], [47], [37]])
def sgH : List Int32 := [0, 97, 115, 109, 1, 0, 0, 0]
def sgM : List Int32 := (0 :: 0 :: 9 :: 7 :: 8 :: 0 :: 0 :: 1 :: 2 :: 0 :: 3 :: 4 :: 5 :: 6 :: 19 :: 20 :: 0 :: 10 :: 11 :: 12 :: 13 :: 14 :: 15 :: [ 16, 17, 18, 0, 0, 0, 0, 0, 0, 0, 0, 0, 0, 0, 0, 0, 0, 0, 0, 0, 0, 0, 0, 0, 0, 0, 0, 0, 0, 0, 0, 0])
def sw_nestF : List (String × Nat × String × String × String × String) := (("WaferForge$Scanner", 102, "WaferForge", "SIGNS", "[LWaferForge$Sign;", "WaferForge") :: ("WaferForge$Coder", 72, "WaferForge", "HEAD", "[B", "WaferForge") :: ("WaferForge$Reader", 52, "WaferForge", "HEAD", "[B", "WaferForge") :: ("WaferForgeModel", 7, "WaferForgeModel$Refused", "reason", "I", "WaferForgeModel") :: ("WaferForgeModel", 13, "WaferForgeModel$Refused", "place", "I", "WaferForgeModel") :: ("WaferForgeModel", 496, "WaferForgeModel$Module", "bytes", "[B", "WaferForgeModel") :: ("WaferForgeModel", 510, "WaferForgeModel$Module", "length", "I", "WaferForgeModel") :: ("WaferForgeModel", 511, "WaferForgeModel$Module", "types", "I", "WaferForgeModel") :: ("WaferForgeModel", 533, "WaferForgeModel$Module", "parameterCount", "[I", "WaferForgeModel") :: ("WaferForgeModel", 538, "WaferForgeModel$Module", "parameterTypes", "[[I", "WaferForgeModel") :: ("WaferForgeModel", 545, "WaferForgeModel$Module", "results", "[I", "WaferForgeModel") :: ("WaferForgeModel", 513, "WaferForgeModel$Module", "functions", "I", "WaferForgeModel") :: ("WaferForgeModel", 550, "WaferForgeModel$Module", "typeOf", "[J", "WaferForgeModel") :: ("WaferForgeModel", 516, "WaferForgeModel$Module", "codes", "I", "WaferForgeModel") :: ("WaferForgeModel", 608, "WaferForgeModel$Module", "codeAt", "[I", "WaferForgeModel") :: ("WaferForgeModel", 611, "WaferForgeModel$Module", "codeEnd", "[I", "WaferForgeModel") :: ("WaferForgeModel", 602, "WaferForgeModel$Module", "localCount", "[I", "WaferForgeModel") :: ("WaferForgeModel", 605, "WaferForgeModel$Module", "localTypes", "[[I", "WaferForgeModel") :: ("WaferForgeModel", 519, "WaferForgeModel$Module", "memories", "I", "WaferForgeModel") :: ("WaferForgeModel", 557, "WaferForgeModel$Module", "least", "J", "WaferForgeModel") :: ("WaferForgeModel", 562, "WaferForgeModel$Module", "most", "J", "WaferForgeModel") :: [ ("WaferForgeModel", 554, "WaferForgeModel$Module", "hasMost", "Z", "WaferForgeModel"), ("WaferForgeModel", 522, "WaferForgeModel$Module", "globals", "I", "WaferForgeModel"), ("WaferForgeModel", 585, "WaferForgeModel$Module", "globalTypes", "[I", "WaferForgeModel"), ("WaferForgeModel", 590, "WaferForgeModel$Module", "globalKinds", "[I", "WaferForgeModel"), ("WaferForgeModel", 586, "WaferForgeModel$Module", "changes", "[Z", "WaferForgeModel"), ("WaferForgeModel", 593, "WaferForgeModel$Module", "starts", "[J", "WaferForgeModel"), ("WaferForgeModel", 525, "WaferForgeModel$Module", "exports", "I", "WaferForgeModel"), ("WaferForgeModel", 576, "WaferForgeModel$Module", "exportKinds", "[I", "WaferForgeModel"), ("WaferForgeModel", 579, "WaferForgeModel$Module", "exportOf", "[J", "WaferForgeModel"), ("WaferForgeModel", 573, "WaferForgeModel$Module", "nameAt", "[I", "WaferForgeModel"), ("WaferForgeModel", 570, "WaferForgeModel$Module", "nameLength", "[I", "WaferForgeModel"), ("WaferForgeModel", 620, "WaferForgeModel$Module", "endOf", "[I", "WaferForgeModel"), ("WaferForgeModel", 617, "WaferForgeModel$Module", "elseOf", "[I", "WaferForgeModel"), ("WaferForgeModel", 202, "WaferForgeModel$Fun", "name", "Ljava/lang/String;", "WaferForgeModel"), ("WaferForgeModel", 201, "WaferForgeModel$Fun", "place", "I", "WaferForgeModel"), ("WaferForgeModel", 214, "WaferForgeModel$Fun", "names", "[Ljava/lang/String;", "WaferForgeModel"), ("WaferForgeModel", 211, "WaferForgeModel$Fun", "places", "[I", "WaferForgeModel"), ("WaferForgeModel", 217, "WaferForgeModel$Fun", "types", "[I", "WaferForgeModel"), ("WaferForgeModel", 208, "WaferForgeModel$Fun", "parameters", "I", "WaferForgeModel"), ("WaferForgeModel", 319, "WaferForgeModel$Fun", "locals", "I", "WaferForgeModel"), ("WaferForgeModel", 222, "WaferForgeModel$Fun", "result", "I", "WaferForgeModel"), ("WaferForgeModel", 229, "WaferForgeModel$Fun", "body", "LWaferForgeModel$N;", "WaferForgeModel"), ("WaferForgeModel", 415, "WaferForgeModel$Fun", "signature", "I", "WaferForgeModel"), ("WaferForgeModel", 129, "WaferForgeModel$N", "op", "I", "WaferForgeModel"), ("WaferForgeModel", 132, "WaferForgeModel$N", "place", "I", "WaferForgeModel"), ("WaferForgeModel", 258, "WaferForgeModel$N", "name", "Ljava/lang/String;", "WaferForgeModel"), ("WaferForgeModel", 295, "WaferForgeModel$N", "value", "J", "WaferForgeModel"), ("WaferForgeModel", 259, "WaferForgeModel$N", "type", "I", "WaferForgeModel"), ("WaferForgeModel", 331, "WaferForgeModel$N", "parts", "[LWaferForgeModel$N;", "WaferForgeModel"), ("WaferForgeModel", 300, "WaferForgeModel$N", "count", "I", "WaferForgeModel"), ("WaferForgeModel", 325, "WaferForgeModel$N", "index", "I", "WaferForgeModel"), ("WaferForgeModel", 328, "WaferForgeModel$N", "global", "Z", "WaferForgeModel")])
def sw_nestM : List (String × Nat × MethodName × String) := [("WaferForge", 33, ⟨"WaferForge$Wafer", "<init>", "()V"⟩, "WaferForge"), ("WaferForge$Wafer", 22, ⟨"WaferForge$Codes", "<init>", "()V"⟩, "WaferForge"), ("WaferForge", 66, ⟨"WaferForge$Reader", "<init>", "()V"⟩, "WaferForge"), ("WaferForge", 73, ⟨"WaferForge$Validator", "<init>", "()V"⟩, "WaferForge"), ("WaferForge", 80, ⟨"WaferForge$Machine", "<init>", "()V"⟩, "WaferForge"), ("WaferForgeModel", 830, ⟨"WaferForgeModel$Module", "<init>", "()V"⟩, "WaferForgeModel"), ("WaferForgeModel", 193, ⟨"WaferForgeModel$Fun", "<init>", "()V"⟩, "WaferForgeModel"), ("WaferForgeModel", 128, ⟨"WaferForgeModel$N", "<init>", "()V"⟩, "WaferForgeModel")]
def sw_dec : List MethodName := [⟨"java/lang/RuntimeException", "<init>", "()V"⟩, ⟨"java/lang/Exception", "<init>", "()V"⟩, ⟨"java/lang/Throwable", "<init>", "()V"⟩]
def sw_cast : List String := ["java/lang/UnsupportedOperationException", "java/lang/IndexOutOfBoundsException", "java/lang/IllegalArgumentException", "java/lang/IllegalStateException", "java/lang/ArithmeticException"]
def sw_nest (U : State) : Prop := (∀ q ∈ sw_nestF, va_Nw (.fieldLinkNest q.1 q.2.1 q.2.2.1 q.2.2.2.1 q.2.2.2.2.1 q.2.2.2.2.2) U) ∧ (∀ q ∈ sw_nestM, va_Nw (.methodLinkNest q.1 q.2.1 q.2.2.1 q.2.2.2) U) ∧ (∀ y ∈ sw_dec, va_Nw (.declares y) U) ∧ ∀ q ∈ sw_cast, va_Nw (.castable q q) U
theorem sw_nest.warm {s U : State} (hW : s.WarmedH U.vm) (h : sw_nest s) : sw_nest U := ⟨fun q hq => va_Nw.warmF hW (h.1 q hq), fun q hq => va_Nw.warmM hW (h.2.1 q hq), fun y hy => va_Nw.warmD hW (h.2.2.1 y hy), fun q hq => va_Nw.warmC hW (h.2.2.2 q hq)⟩
theorem sw_nest.same {s U : State} (hv : s.vm = U.vm) (h : sw_nest s) : sw_nest U := ⟨fun q hq => va_Nw.same rfl hv (h.1 q hq), fun q hq => va_Nw.same rfl hv (h.2.1 q hq), fun y hy => va_Nw.same rfl hv (h.2.2.1 y hy), fun q hq => va_Nw.same rfl hv (h.2.2.2 q hq)⟩
def sg (sa : Nat → Nat) (k : Nat) : Nat := sa (100 + k)
def ls_Z (C n d : String) (A : Nat → Prop) (U : State) (H : Heap) : Prop := ∃ (c : ClassId) (k : Class) (i : Nat) (f : Field) (a : Nat) (cell : Cell), U.vm.findClass C = some c ∧ U.fieldFound? C n d = some (c, k, i, f) ∧ f.isStatic = true ∧ k.statics = some a ∧ H[a]? = some cell ∧ cell.vm.isStatics = true ∧ cell.cls = c ∧ f.slot < cell.slots.size ∧ k.staticTypes[f.slot]? = some f.type ∧ ¬ A a
theorem ls_Z.moved {C n d : String} {A : Nat → Prop} {u U : State} {H : Heap} (hvm : u.vm.Alike U.vm) (h : ls_Z C n d A u H) : ls_Z C n d A U H := by
  obtain ⟨c, k, i, f, a, cell, h0, h1, h2, h3, hq9r⟩ := h
  obtain ⟨h4, h5, h6, h7, h8, h9⟩ := hq9r
  obtain ⟨k', hi', he⟩ := State.fieldFound?_setVm hvm h1
  exact ⟨c, k', i, f, a, cell, by rw [hvm.findClass]; exact h0, hi', h2, by rw [he]; exact h3, h4, h5, h6, h7, by rw [he]; exact h8, h9⟩
theorem ls_Z.kept {C n d : String} {A : Nat → Prop} {U : State} {H H1 : Heap} (h : ls_Z C n d A U H) (hq : ∀ a : Nat, a < H.size → ¬ A a → H1[a]? = H[a]?) : ls_Z C n d A U H1 := by
  obtain ⟨c, k, i, f, a, cell, h0, h1, h2, h3, hq9r⟩ := h
  obtain ⟨h4, h5, h6, h7, h8, h9⟩ := hq9r
  exact ⟨c, k, i, f, a, cell, h0, h1, h2, h3, by rw [hq a (Array.getElem?_eq_some_iff.mp h4).1 h9]; exact h4, h5, h6, h7, h8, h9⟩
theorem ls_Z.narrow {C n d : String} {A B : Nat → Prop} {U : State} {H : Heap} (h : ls_Z C n d A U H) (hAB : ∀ q, B q → A q) : ls_Z C n d B U H := by
  obtain ⟨c, k, i, f, a, cell, h0, h1, h2, h3, hq9r⟩ := h
  obtain ⟨h4, h5, h6, h7, h8, h9⟩ := hq9r
  exact ⟨c, k, i, f, a, cell, h0, h1, h2, h3, h4, h5, h6, h7, h8, fun z => h9 (hAB a z)⟩
theorem ls_Z.say {C n d : String} {A : Nat → Prop} {U : State} {args : Array Value} (h : ls_Z C n d A U U.heap) : (Cond.laysStatic C n d).before args U = true := by
  obtain ⟨c, k, i, f, a, cell, h0, h1, h2, h3, hq9r⟩ := h
  obtain ⟨h4, h5, h6, h7, h8, -⟩ := hq9r
  simp [Cond.before, Cond.holds, Cond.value, h0, h1, h2, h3, h4, h5, h6, h7, h8]
def sw_str (t v : Nat) (b : List Int32) (A : Nat → Prop) (U : State) (H : Heap) : Prop :=
  va_O "java/lang/String" t A U H ∧ va_OF "java/lang/String" "coder" "B" (.int 0) t A U H ∧ va_OF "java/lang/String" "value" "[B" (.ref v) t A U H ∧ va_T .byte v b.length (fun j => .int (b.getD j 0)) A U H
def sw (sa : Nat → Nat) (A : Nat → Prop) (U : State) (H : Heap) : Prop :=
  (va_Z "WaferForge" "HEAD" "[B" (.ref (sa 0)) A U H ∧ va_T .byte (sa 0) 8 (fun j => .int (sgH.getD j 0)) A U H) ∧
  (va_Z "WaferForge" "SIGNS" "[LWaferForge$Sign;" (.ref (sa 1)) A U H ∧ va_T (.object "WaferForge$Sign") (sa 1) 55 (fun j => .ref (sg sa j)) A U H) ∧
  (va_Z "WaferForge$1" "$SwitchMap$WaferForge$Sign" "[I" (.ref (sa 2)) A U H ∧ va_T .int (sa 2) 55 (fun j => .int (sgM.getD j 0)) A U H) ∧
  va_En "WaferForge$Sign" "LWaferForge$Sign;" sgN sgF (sg sa) A U H ∧
  va_Ef 55 "WaferForge$Sign" "text" "Ljava/lang/String;" (fun k => .ref (sa (200 + k))) (sg sa) A U H ∧
  (∀ k : Nat, k < 55 → sw_str (sa (200 + k)) (sa (300 + k)) (sgB.getD k []) A U H) ∧
  va_Zq "java/lang/Throwable" "UNASSIGNED_STACK" "[Ljava/lang/StackTraceElement;" A U H ∧ va_Zq "java/lang/Throwable" "SUPPRESSED_SENTINEL" "Ljava/util/List;" A U H ∧ sw_nest U ∧ ls_Z "java/lang/Throwable" "UNASSIGNED_STACK" "[Ljava/lang/StackTraceElement;" A U H ∧ ls_Z "java/lang/Throwable" "SUPPRESSED_SENTINEL" "Ljava/util/List;" A U H ∧ va_Z "java/lang/String" "COMPACT_STRINGS" "Z" (.int 1) A U H ∧ va_Zq "jdk/internal/util/Preconditions" "SIOOBE_FORMATTER" "Ljava/util/function/BiFunction;" A U H
theorem sw_str.moved {t v : Nat} {b : List Int32} {A : Nat → Prop} {u U : State} {H : Heap} (hvm : u.vm.Alike U.vm) (h : sw_str t v b A u H) : sw_str t v b A U H := ⟨va_O.moved hvm h.1, va_OF.moved hvm h.2.1, va_OF.moved hvm h.2.2.1, va_T.moved hvm h.2.2.2⟩
theorem sw_str.kept {t v : Nat} {b : List Int32} {A : Nat → Prop} {U : State} {H H1 : Heap} (h : sw_str t v b A U H) (hq : ∀ a : Nat, a < H.size → ¬ A a → H1[a]? = H[a]?) : sw_str t v b A U H1 := ⟨h.1.kept hq, h.2.1.kept hq, h.2.2.1.kept hq, h.2.2.2.kept hq⟩
theorem sw_str.narrow {t v : Nat} {b : List Int32} {A B : Nat → Prop} {U : State} {H : Heap} (h : sw_str t v b A U H) (hAB : ∀ q, B q → A q) : sw_str t v b B U H := ⟨h.1.narrow hAB, h.2.1.narrow hAB, h.2.2.1.narrow hAB, h.2.2.2.narrow hAB⟩
theorem va_Zq.narrow9 {C n d : String} {A B : Nat → Prop} {U : State} {H : Heap} (h : va_Zq C n d A U H) (hAB : ∀ q, B q → A q) : va_Zq C n d B U H := by
  rcases h with h | ⟨t, h⟩
  · exact Or.inl (h.narrow hAB)
  · exact Or.inr ⟨t, h.narrow hAB⟩
theorem sw.to {sa : Nat → Nat} {A : Nat → Prop} {u U : State} {H : Heap} (hvm : u.vm.Alike U.vm) (hn : sw_nest u → sw_nest U) (h : sw sa A u H) : sw sa A U H := by
  obtain ⟨⟨a1, a2⟩, ⟨b1, b2⟩, ⟨c1, c2⟩, d, e, f, g1, g2, n, m1, m2, k1, k2⟩ := h
  exact ⟨⟨va_Z.moved hvm a1, va_T.moved hvm a2⟩, ⟨va_Z.moved hvm b1, va_T.moved hvm b2⟩, ⟨va_Z.moved hvm c1, va_T.moved hvm c2⟩, va_En.moved hvm d, va_Ef.moved hvm e, fun k hk => (f k hk).moved hvm, va_Zq.moved hvm g1, va_Zq.moved hvm g2, hn n, m1.moved hvm, m2.moved hvm, va_Z.moved hvm k1, va_Zq.moved hvm k2⟩
theorem sw.warm {sa : Nat → Nat} {A : Nat → Prop} {u U : State} {H : Heap} (hW : u.WarmedH U.vm) (h : sw sa A u H) : sw sa A U H := h.to hW.alike (fun n => n.warm hW)
theorem sw.same {sa : Nat → Nat} {A : Nat → Prop} {u U : State} {H : Heap} (hv : u.vm = U.vm) (h : sw sa A u H) : sw sa A U H := h.to (by rw [hv]; exact Vm.Alike.refl _) (fun n => n.same hv)
theorem sw.kept {sa : Nat → Nat} {A : Nat → Prop} {U : State} {H H1 : Heap} (h : sw sa A U H) (hq : ∀ a : Nat, a < H.size → ¬ A a → H1[a]? = H[a]?) : sw sa A U H1 := by
  obtain ⟨⟨a1, a2⟩, ⟨b1, b2⟩, ⟨c1, c2⟩, d, e, f, g1, g2, n, m1, m2, k1, k2⟩ := h
  exact ⟨⟨a1.kept hq, a2.kept hq⟩, ⟨b1.kept hq, b2.kept hq⟩, ⟨c1.kept hq, c2.kept hq⟩, d.kept hq, e.kept hq, fun k hk => (f k hk).kept hq, g1.kept hq, g2.kept hq, n, m1.kept hq, m2.kept hq, k1.kept hq, k2.kept hq⟩
theorem sw.narrow {sa : Nat → Nat} {A B : Nat → Prop} {U : State} {H : Heap} (h : sw sa A U H) (hAB : ∀ q, B q → A q) : sw sa B U H := by
  obtain ⟨⟨a1, a2⟩, ⟨b1, b2⟩, ⟨c1, c2⟩, d, e, f, g1, g2, n, m1, m2, k1, k2⟩ := h
  exact ⟨⟨a1.narrow hAB, a2.narrow hAB⟩, ⟨b1.narrow hAB, b2.narrow hAB⟩, ⟨c1.narrow hAB, c2.narrow hAB⟩, d.narrow hAB, e.narrow hAB, fun k hk => (f k hk).narrow hAB, g1.narrow9 hAB, g2.narrow9 hAB, n, m1.narrow hAB, m2.narrow hAB, k1.narrow hAB, k2.narrow9 hAB⟩
theorem sw.call {sa : Nat → Nat} {A A1 : Nat → Prop} {s U : State} {H : Heap} {locs : List Loc} (h : sw sa A s s.heap) (hS : va_S A s.heap H locs) (hA : ∀ q, A1 q → A q) (hW : s.WarmedH U.vm) (hU : U.heap = H) : sw sa A1 U U.heap := by
  rw [hU]
  exact ((h.kept hS.2.1).narrow hA).warm hW
theorem sw_str.call {t v : Nat} {b : List Int32} {A A1 : Nat → Prop} {s U : State} {H : Heap} {locs : List Loc} (h : sw_str t v b A s s.heap) (hS : va_S A s.heap H locs) (hA : ∀ q, A1 q → A q) (hW : s.WarmedH U.vm) (hU : U.heap = H) : sw_str t v b A1 U U.heap := by
  rw [hU]
  exact ((h.kept hS.2.1).narrow hA).moved hW.alike
theorem vt_call {ty : FieldType} {t N : Nat} {f : Nat → Value} {A A1 : Nat → Prop} {s U : State} {H : Heap} {locs : List Loc} (h : va_T ty t N f A s s.heap) (hS : va_S A s.heap H locs) (hA : ∀ q, A1 q → A q) (hW : s.WarmedH U.vm) (hU : U.heap = H) : va_T ty t N f A1 U U.heap := by
  rw [hU]
  exact va_T.moved hW.alike ((h.kept hS.2.1).narrow hA)
theorem so_recv {E : String} {t : Nat} {A : Nat → Prop} {s : State} {H : Heap} {locs : List Loc} (h : va_O E t A s s.heap) (hS : va_S A s.heap H locs) : ∃ cell : Cell, H[t]? = some cell ∧ cell.vm.isStatics = false ∧ s.vm.findClass E = some cell.cls := by
  obtain ⟨cell, h1, h2, h3, -⟩ := h.kept hS.2.1
  exact ⟨cell, h1, h2, h3⟩
theorem w_zq {P : Prop} {C n d : String} {A : Nat → Prop} {U : State} {H : Heap} (h : va_Zq C n d A U H) (k1 : va_Z C n d .null A U H → P) (k2 : ∀ t : Nat, va_Z C n d (.ref t) A U H → P) : P := by
  rcases h with h | ⟨t, h⟩
  · exact k1 h
  · exact k2 t h
theorem sw_nf {k : Nat} {a b n d h : String} {i : Nat} {sa : Nat → Nat} {A : Nat → Prop} {s : State} {H : Heap} {args : Array Value} (hs : sw sa A s H) (hq : sw_nestF[k]? = some (a, i, b, n, d, h)) : (Cond.fieldLinkNest a i b n d h).before args s = true := va_Nw.use rfl (hs.2.2.2.2.2.2.2.2.1.1 _ (List.mem_of_getElem? hq))
theorem sw_nm {k : Nat} {a h : String} {y : MethodName} {i : Nat} {sa : Nat → Nat} {A : Nat → Prop} {s : State} {H : Heap} (hs : sw sa A s H) (hq : sw_nestM[k]? = some (a, i, y, h)) : va_Nw (.methodLinkNest a i y h) s := hs.2.2.2.2.2.2.2.2.1.2.1 _ (List.mem_of_getElem? hq)
end q_30
section q_31
/-! Reader: a whole module -/
abbrev b_RE_read : ByteArray := prog_9_method_2_code
def y_RE_read : MethodName := ⟨R_RE, "read", "(LWaferForge$Wafer;)Z"⟩
abbrev w_RE_read : List Cond := .code y_RE_read b_RE_read 6 (Option.some .boolean) :: lw_g
theorem kC_RE_read : Cond.code y_RE_read b_RE_read 6 (Option.some .boolean) ∈ lw_g := in_c6 70 rfl rfl
theorem d_RE_read_0 : decode b_RE_read 0 = .ok (.aload_n 0, 1) := bz_c42 (by decide +kernel)
theorem d_RE_read_1 : decode b_RE_read 1 = .ok (.aload_n 1, 1) := bz_c43 (by decide +kernel)
theorem d_RE_read_2 : decode b_RE_read 2 = .ok (.putfield 15, 3) := bz_c181 (by decide +kernel)
theorem d_RE_read_5 : decode b_RE_read 5 = .ok (.aload_n 0, 1) := bz_c42 (by decide +kernel)
theorem d_RE_read_6 : decode b_RE_read 6 = .ok (.aload_n 1, 1) := bz_c43 (by decide +kernel)
theorem d_RE_read_7 : decode b_RE_read 7 = .ok (.getfield 19, 3) := bz_c180 (by decide +kernel)
theorem d_RE_read_10 : decode b_RE_read 10 = .ok (.putfield 25, 3) := bz_c181 (by decide +kernel)
theorem d_RE_read_13 : decode b_RE_read 13 = .ok (.aload_n 0, 1) := bz_c42 (by decide +kernel)
theorem d_RE_read_14 : decode b_RE_read 14 = .ok (.getfield 15, 3) := bz_c180 (by decide +kernel)
theorem d_RE_read_17 : decode b_RE_read 17 = .ok (.invokevirtual 26, 3) := bz_c182 (by decide +kernel)
theorem d_RE_read_20 : decode b_RE_read 20 = .ok (.aload_n 0, 1) := bz_c42 (by decide +kernel)
theorem d_RE_read_21 : decode b_RE_read 21 = .ok (.iconst 0, 1) := bz_c3 (by decide +kernel)
theorem d_RE_read_22 : decode b_RE_read 22 = .ok (.putfield 29, 3) := bz_c181 (by decide +kernel)
theorem d_RE_read_25 : decode b_RE_read 25 = .ok (.aload_n 0, 1) := bz_c42 (by decide +kernel)
theorem d_RE_read_26 : decode b_RE_read 26 = .ok (.aload_n 0, 1) := bz_c42 (by decide +kernel)
theorem d_RE_read_27 : decode b_RE_read 27 = .ok (.getfield 15, 3) := bz_c180 (by decide +kernel)
theorem d_RE_read_30 : decode b_RE_read 30 = .ok (.getfield 33, 3) := bz_c180 (by decide +kernel)
theorem d_RE_read_33 : decode b_RE_read 33 = .ok (.getfield 37, 3) := bz_c180 (by decide +kernel)
theorem d_RE_read_36 : decode b_RE_read 36 = .ok (.putfield 42, 3) := bz_c181 (by decide +kernel)
theorem d_RE_read_39 : decode b_RE_read 39 = .ok (.aload_n 0, 1) := bz_c42 (by decide +kernel)
theorem d_RE_read_40 : decode b_RE_read 40 = .ok (.iconst 1, 1) := bz_c4 (by decide +kernel)
theorem d_RE_read_41 : decode b_RE_read 41 = .ok (.putfield 45, 3) := bz_c181 (by decide +kernel)
theorem d_RE_read_44 : decode b_RE_read 44 = .ok (.aload_n 0, 1) := bz_c42 (by decide +kernel)
theorem d_RE_read_45 : decode b_RE_read 45 = .ok (.iconst 0, 1) := bz_c3 (by decide +kernel)
theorem d_RE_read_46 : decode b_RE_read 46 = .ok (.putfield 49, 3) := bz_c181 (by decide +kernel)
theorem d_RE_read_49 : decode b_RE_read 49 = .ok (.iconst 0, 1) := bz_c3 (by decide +kernel)
theorem d_RE_read_50 : decode b_RE_read 50 = .ok (.istore_n 2, 1) := bz_c61 (by decide +kernel)
theorem d_RE_read_51 : decode b_RE_read 51 = .ok (.iload_n 2, 1) := bz_c28 (by decide +kernel)
theorem d_RE_read_52 : decode b_RE_read 52 = .ok (.getstatic 52, 3) := bz_c178 (by decide +kernel)
theorem d_RE_read_55 : decode b_RE_read 55 = .ok (.arraylength, 1) := bz_c190 (by decide +kernel)
theorem d_RE_read_56 : decode b_RE_read 56 = .ok (.if_icmp .ge 18, 3) := bz_c162 (by decide +kernel)
theorem d_RE_read_59 : decode b_RE_read 59 = .ok (.aload_n 0, 1) := bz_c42 (by decide +kernel)
theorem d_RE_read_60 : decode b_RE_read 60 = .ok (.getstatic 52, 3) := bz_c178 (by decide +kernel)
theorem d_RE_read_63 : decode b_RE_read 63 = .ok (.iload_n 2, 1) := bz_c28 (by decide +kernel)
theorem d_RE_read_64 : decode b_RE_read 64 = .ok (.baload, 1) := bz_c51 (by decide +kernel)
theorem d_RE_read_65 : decode b_RE_read 65 = .ok (.invokevirtual 56, 3) := bz_c182 (by decide +kernel)
theorem d_RE_read_68 : decode b_RE_read 68 = .ok (.iinc 2 1, 3) := by decide +kernel
theorem d_RE_read_71 : decode b_RE_read 71 = .ok (.goto (-20), 3) := bz_c167 (by decide +kernel)
theorem d_RE_read_74 : decode b_RE_read 74 = .ok (.iconst 0, 1) := bz_c3 (by decide +kernel)
theorem d_RE_read_75 : decode b_RE_read 75 = .ok (.istore_n 2, 1) := bz_c61 (by decide +kernel)
theorem d_RE_read_76 : decode b_RE_read 76 = .ok (.iconst 0, 1) := bz_c3 (by decide +kernel)
theorem d_RE_read_77 : decode b_RE_read 77 = .ok (.istore_n 3, 1) := bz_c62 (by decide +kernel)
theorem d_RE_read_78 : decode b_RE_read 78 = .ok (.iload_n 3, 1) := bz_c29 (by decide +kernel)
theorem d_RE_read_79 : decode b_RE_read 79 = .ok (.sipush 8192, 3) := bz_c17 (by decide +kernel)
theorem d_RE_read_82 : decode b_RE_read 82 = .ok (.if_icmp .ge 181, 3) := bz_c162 (by decide +kernel)
theorem d_RE_read_85 : decode b_RE_read 85 = .ok (.aload_n 0, 1) := bz_c42 (by decide +kernel)
theorem d_RE_read_86 : decode b_RE_read 86 = .ok (.getfield 45, 3) := bz_c180 (by decide +kernel)
theorem d_RE_read_89 : decode b_RE_read 89 = .ok (.ifCond .eq 174, 3) := bz_c153 (by decide +kernel)
theorem d_RE_read_92 : decode b_RE_read 92 = .ok (.aload_n 0, 1) := bz_c42 (by decide +kernel)
theorem d_RE_read_93 : decode b_RE_read 93 = .ok (.getfield 29, 3) := bz_c180 (by decide +kernel)
theorem d_RE_read_96 : decode b_RE_read 96 = .ok (.aload_n 0, 1) := bz_c42 (by decide +kernel)
theorem d_RE_read_97 : decode b_RE_read 97 = .ok (.getfield 15, 3) := bz_c180 (by decide +kernel)
theorem d_RE_read_100 : decode b_RE_read 100 = .ok (.getfield 33, 3) := bz_c180 (by decide +kernel)
theorem d_RE_read_103 : decode b_RE_read 103 = .ok (.getfield 37, 3) := bz_c180 (by decide +kernel)
theorem d_RE_read_106 : decode b_RE_read 106 = .ok (.if_icmp .ge 157, 3) := bz_c162 (by decide +kernel)
theorem d_RE_read_109 : decode b_RE_read 109 = .ok (.aload_n 0, 1) := bz_c42 (by decide +kernel)
theorem d_RE_read_110 : decode b_RE_read 110 = .ok (.invokevirtual 60, 3) := bz_c182 (by decide +kernel)
theorem d_RE_read_113 : decode b_RE_read 113 = .ok (.istore 4, 2) := bz_c54 (by decide +kernel)
theorem d_RE_read_115 : decode b_RE_read 115 = .ok (.aload_n 0, 1) := bz_c42 (by decide +kernel)
theorem d_RE_read_116 : decode b_RE_read 116 = .ok (.aload_n 0, 1) := bz_c42 (by decide +kernel)
theorem d_RE_read_117 : decode b_RE_read 117 = .ok (.getfield 15, 3) := bz_c180 (by decide +kernel)
theorem d_RE_read_120 : decode b_RE_read 120 = .ok (.getfield 33, 3) := bz_c180 (by decide +kernel)
theorem d_RE_read_123 : decode b_RE_read 123 = .ok (.getfield 37, 3) := bz_c180 (by decide +kernel)
theorem d_RE_read_126 : decode b_RE_read 126 = .ok (.i2l, 1) := bz_c133 (by decide +kernel)
theorem d_RE_read_127 : decode b_RE_read 127 = .ok (.invokevirtual 64, 3) := bz_c182 (by decide +kernel)
theorem d_RE_read_130 : decode b_RE_read 130 = .ok (.l2i, 1) := bz_c136 (by decide +kernel)
theorem d_RE_read_131 : decode b_RE_read 131 = .ok (.istore 5, 2) := bz_c54 (by decide +kernel)
theorem d_RE_read_133 : decode b_RE_read 133 = .ok (.aload_n 0, 1) := bz_c42 (by decide +kernel)
theorem d_RE_read_134 : decode b_RE_read 134 = .ok (.aload_n 0, 1) := bz_c42 (by decide +kernel)
theorem d_RE_read_135 : decode b_RE_read 135 = .ok (.getfield 45, 3) := bz_c180 (by decide +kernel)
theorem d_RE_read_138 : decode b_RE_read 138 = .ok (.ifCond .eq 38, 3) := bz_c153 (by decide +kernel)
theorem d_RE_read_141 : decode b_RE_read 141 = .ok (.iload 5, 2) := bz_c21 (by decide +kernel)
theorem d_RE_read_143 : decode b_RE_read 143 = .ok (.aload_n 0, 1) := bz_c42 (by decide +kernel)
theorem d_RE_read_144 : decode b_RE_read 144 = .ok (.getfield 15, 3) := bz_c180 (by decide +kernel)
theorem d_RE_read_147 : decode b_RE_read 147 = .ok (.getfield 33, 3) := bz_c180 (by decide +kernel)
theorem d_RE_read_150 : decode b_RE_read 150 = .ok (.getfield 37, 3) := bz_c180 (by decide +kernel)
theorem d_RE_read_153 : decode b_RE_read 153 = .ok (.aload_n 0, 1) := bz_c42 (by decide +kernel)
theorem d_RE_read_154 : decode b_RE_read 154 = .ok (.getfield 29, 3) := bz_c180 (by decide +kernel)
theorem d_RE_read_157 : decode b_RE_read 157 = .ok (.isub, 1) := bz_c100 (by decide +kernel)
theorem d_RE_read_158 : decode b_RE_read 158 = .ok (.if_icmp .gt 18, 3) := bz_c163 (by decide +kernel)
theorem d_RE_read_161 : decode b_RE_read 161 = .ok (.iload 4, 2) := bz_c21 (by decide +kernel)
theorem d_RE_read_163 : decode b_RE_read 163 = .ok (.ifCond .eq 9, 3) := bz_c153 (by decide +kernel)
theorem d_RE_read_166 : decode b_RE_read 166 = .ok (.iload 4, 2) := bz_c21 (by decide +kernel)
theorem d_RE_read_168 : decode b_RE_read 168 = .ok (.iload_n 2, 1) := bz_c28 (by decide +kernel)
theorem d_RE_read_169 : decode b_RE_read 169 = .ok (.if_icmp .le 7, 3) := bz_c164 (by decide +kernel)
theorem d_RE_read_172 : decode b_RE_read 172 = .ok (.iconst 1, 1) := bz_c4 (by decide +kernel)
theorem d_RE_read_173 : decode b_RE_read 173 = .ok (.goto 4, 3) := bz_c167 (by decide +kernel)
theorem d_RE_read_176 : decode b_RE_read 176 = .ok (.iconst 0, 1) := bz_c3 (by decide +kernel)
theorem d_RE_read_177 : decode b_RE_read 177 = .ok (.putfield 45, 3) := bz_c181 (by decide +kernel)
theorem d_RE_read_180 : decode b_RE_read 180 = .ok (.aload_n 0, 1) := bz_c42 (by decide +kernel)
theorem d_RE_read_181 : decode b_RE_read 181 = .ok (.getfield 45, 3) := bz_c180 (by decide +kernel)
theorem d_RE_read_184 : decode b_RE_read 184 = .ok (.ifCond .eq 73, 3) := bz_c153 (by decide +kernel)
theorem d_RE_read_187 : decode b_RE_read 187 = .ok (.iload 4, 2) := bz_c21 (by decide +kernel)
theorem d_RE_read_189 : decode b_RE_read 189 = .ok (.ifCond .ne 7, 3) := bz_c154 (by decide +kernel)
theorem d_RE_read_192 : decode b_RE_read 192 = .ok (.iload_n 2, 1) := bz_c28 (by decide +kernel)
theorem d_RE_read_193 : decode b_RE_read 193 = .ok (.goto 5, 3) := bz_c167 (by decide +kernel)
theorem d_RE_read_196 : decode b_RE_read 196 = .ok (.iload 4, 2) := bz_c21 (by decide +kernel)
theorem d_RE_read_198 : decode b_RE_read 198 = .ok (.istore_n 2, 1) := bz_c61 (by decide +kernel)
theorem d_RE_read_199 : decode b_RE_read 199 = .ok (.aload_n 0, 1) := bz_c42 (by decide +kernel)
theorem d_RE_read_200 : decode b_RE_read 200 = .ok (.aload_n 0, 1) := bz_c42 (by decide +kernel)
theorem d_RE_read_201 : decode b_RE_read 201 = .ok (.getfield 29, 3) := bz_c180 (by decide +kernel)
theorem d_RE_read_204 : decode b_RE_read 204 = .ok (.iload 5, 2) := bz_c21 (by decide +kernel)
theorem d_RE_read_206 : decode b_RE_read 206 = .ok (.iadd, 1) := bz_c96 (by decide +kernel)
theorem d_RE_read_207 : decode b_RE_read 207 = .ok (.putfield 42, 3) := bz_c181 (by decide +kernel)
theorem d_RE_read_210 : decode b_RE_read 210 = .ok (.aload_n 0, 1) := bz_c42 (by decide +kernel)
theorem d_RE_read_211 : decode b_RE_read 211 = .ok (.iload 4, 2) := bz_c21 (by decide +kernel)
theorem d_RE_read_213 : decode b_RE_read 213 = .ok (.invokevirtual 68, 3) := bz_c182 (by decide +kernel)
theorem d_RE_read_216 : decode b_RE_read 216 = .ok (.aload_n 0, 1) := bz_c42 (by decide +kernel)
theorem d_RE_read_217 : decode b_RE_read 217 = .ok (.aload_n 0, 1) := bz_c42 (by decide +kernel)
theorem d_RE_read_218 : decode b_RE_read 218 = .ok (.getfield 45, 3) := bz_c180 (by decide +kernel)
theorem d_RE_read_221 : decode b_RE_read 221 = .ok (.ifCond .eq 18, 3) := bz_c153 (by decide +kernel)
theorem d_RE_read_224 : decode b_RE_read 224 = .ok (.aload_n 0, 1) := bz_c42 (by decide +kernel)
theorem d_RE_read_225 : decode b_RE_read 225 = .ok (.getfield 29, 3) := bz_c180 (by decide +kernel)
theorem d_RE_read_228 : decode b_RE_read 228 = .ok (.aload_n 0, 1) := bz_c42 (by decide +kernel)
theorem d_RE_read_229 : decode b_RE_read 229 = .ok (.getfield 42, 3) := bz_c180 (by decide +kernel)
theorem d_RE_read_232 : decode b_RE_read 232 = .ok (.if_icmp .ne 7, 3) := bz_c160 (by decide +kernel)
theorem d_RE_read_235 : decode b_RE_read 235 = .ok (.iconst 1, 1) := bz_c4 (by decide +kernel)
theorem d_RE_read_236 : decode b_RE_read 236 = .ok (.goto 4, 3) := bz_c167 (by decide +kernel)
theorem d_RE_read_239 : decode b_RE_read 239 = .ok (.iconst 0, 1) := bz_c3 (by decide +kernel)
theorem d_RE_read_240 : decode b_RE_read 240 = .ok (.putfield 45, 3) := bz_c181 (by decide +kernel)
theorem d_RE_read_243 : decode b_RE_read 243 = .ok (.aload_n 0, 1) := bz_c42 (by decide +kernel)
theorem d_RE_read_244 : decode b_RE_read 244 = .ok (.aload_n 0, 1) := bz_c42 (by decide +kernel)
theorem d_RE_read_245 : decode b_RE_read 245 = .ok (.getfield 15, 3) := bz_c180 (by decide +kernel)
theorem d_RE_read_248 : decode b_RE_read 248 = .ok (.getfield 33, 3) := bz_c180 (by decide +kernel)
theorem d_RE_read_251 : decode b_RE_read 251 = .ok (.getfield 37, 3) := bz_c180 (by decide +kernel)
theorem d_RE_read_254 : decode b_RE_read 254 = .ok (.putfield 42, 3) := bz_c181 (by decide +kernel)
theorem d_RE_read_257 : decode b_RE_read 257 = .ok (.iinc 3 1, 3) := by decide +kernel
theorem d_RE_read_260 : decode b_RE_read 260 = .ok (.goto (-182), 3) := bz_c167 (by decide +kernel)
theorem d_RE_read_263 : decode b_RE_read 263 = .ok (.aload_n 0, 1) := bz_c42 (by decide +kernel)
theorem d_RE_read_264 : decode b_RE_read 264 = .ok (.getfield 45, 3) := bz_c180 (by decide +kernel)
theorem d_RE_read_267 : decode b_RE_read 267 = .ok (.ifCond .eq 21, 3) := bz_c153 (by decide +kernel)
theorem d_RE_read_270 : decode b_RE_read 270 = .ok (.aload_n 0, 1) := bz_c42 (by decide +kernel)
theorem d_RE_read_271 : decode b_RE_read 271 = .ok (.getfield 49, 3) := bz_c180 (by decide +kernel)
theorem d_RE_read_274 : decode b_RE_read 274 = .ok (.aload_n 0, 1) := bz_c42 (by decide +kernel)
theorem d_RE_read_275 : decode b_RE_read 275 = .ok (.getfield 15, 3) := bz_c180 (by decide +kernel)
theorem d_RE_read_278 : decode b_RE_read 278 = .ok (.getfield 71, 3) := bz_c180 (by decide +kernel)
theorem d_RE_read_281 : decode b_RE_read 281 = .ok (.if_icmp .ne 7, 3) := bz_c160 (by decide +kernel)
theorem d_RE_read_284 : decode b_RE_read 284 = .ok (.iconst 1, 1) := bz_c4 (by decide +kernel)
theorem d_RE_read_285 : decode b_RE_read 285 = .ok (.goto 4, 3) := bz_c167 (by decide +kernel)
theorem d_RE_read_288 : decode b_RE_read 288 = .ok (.iconst 0, 1) := bz_c3 (by decide +kernel)
theorem d_RE_read_289 : decode b_RE_read 289 = .ok (.ireturn, 1) := bz_c172 (by decide +kernel)
theorem kM_RE_26 : Cond.methodLink R_RE 26 y_WA_clear ∈ lw_g := in_c6 71 rfl rfl
theorem kV_WA_clear : Cond.instanceMethod y_WA_clear ∈ lw_g := in_c6 72 rfl rfl
theorem kS_WA_clear : Cond.selects R_WA y_WA_clear y_WA_clear ∈ lw_g := in_c6 73 rfl rfl
theorem kM_RE_68 : Cond.methodLink R_RE 68 y_RE_readSection ∈ lw_g := in_c6 89 rfl rfl
theorem kV_RE_readSection : Cond.instanceMethod y_RE_readSection ∈ lw_g := in_c6 91 rfl rfl
theorem kS_RE_readSection : Cond.selects R_RE y_RE_readSection y_RE_readSection ∈ lw_g := in_s 64 (by decide +kernel) rfl
theorem kF_RE_19 : Cond.fieldLink R_RE 19 "WaferForge$Wafer" "codes" "LWaferForge$Codes;" ∈ lw_g := in_c1 146 rfl rfl
abbrev at_RE_read (dC : Nat → ClassId) (dI : Nat → Nat → Nat) (h0 ob aw ab ac wat wap wag waf wgt wft wfv wgc wek wei wes wez ax cfi clk clt cop cva cpt cel cla : Nat) (cax cob cwaf cwat cwap cwag cwgt cwft cwfv cwgc cwek cwei cwes cwez ccfi cclk cclt ccop ccva ccpt ccel ccla : ClassId) (h0_wafer : Value) (h0_codes : Value) (ab_length : Int32) (gax : Nat → Int32) (A : Nat → Prop) (u : (Nat → Int32) × (Nat → Int32) × (Nat → Int32) × (Nat → Int32) × (Nat → Int32) × (Nat → Int32) × (Nat → Int32) × (Nat → Int64) × (Nat → Int32) × (Nat → Int32) × (Nat → Int32) × (Nat → Int32) × (Nat → Int32) × (Nat → Int32) × (Nat → Int32) × (Nat → Int32) × (Nat → Int32) × (Nat → Int32) × (Nat → Int64) × (Nat → Int32) × (Nat → Int32) × Int32 × Int32 × Int32 × Int32 × Int32 × Int32 × Int64 × Int64 × Int32 × Int32 × Int32 × Int32 × Int32 × Int32) (t : State) : Prop := match u with | (gcel, gcfi, gcla, gclk, gclt, gcop, gcpt, gcva, gob, gwaf, gwag, gwap, gwat, gwei, gwek, gwes, gwez, gwft, gwfv, gwgc, gwgt, ac_labelCount, ac_length, aw_exportCount, aw_functionCount, aw_globalCount, aw_hasMemory, aw_pagesLeast, aw_pagesMost, aw_typeCount, h0_at, h0_codeCount, h0_limit, h0_openCount, h0_sound) => va_P (dC, dI) cls (wz_62 h0 aw ac h0_at h0_limit h0_sound h0_codeCount ob h0_openCount aw ab ac aw_typeCount wat wap wag aw_functionCount waf aw_hasMemory aw_pagesLeast aw_pagesMost aw_globalCount wgt wft wfv wgc aw_exportCount wek wei wes wez ab ax ab_length ac cfi clk clt ac_length cop cva cpt cel ac_labelCount cla ax cax gax ob cob gob waf cwaf gwaf wat cwat gwat wap cwap gwap wag cwag gwag wgt cwgt gwgt wft cwft gwft wfv cwfv gwfv wgc cwgc gwgc wek cwek gwek wei cwei gwei wes cwes gwes wez cwez gwez cfi ccfi gcfi clk cclk gclk clt cclt gclt cop ccop gcop cva ccva gcva cpt ccpt gcpt cel ccel gcel cla ccla gcla) t.heap ∧ va_K (dC, dI) cls [(cax, .byte), (cob, .int), (cwaf, .int), (cwat, .int), (cwap, .int), (cwag, .int), (cwgt, .int), (cwft, .int), (cwfv, .long), (cwgc, .boolean), (cwek, .int), (cwei, .int), (cwes, .int), (cwez, .int), (ccfi, .int), (cclk, .int), (cclt, .int), (ccop, .int), (ccva, .long), (ccpt, .int), (ccel, .int), (ccla, .int)] t ∧ va_D A (wz_62 h0 aw ac h0_at h0_limit h0_sound h0_codeCount ob h0_openCount aw ab ac aw_typeCount wat wap wag aw_functionCount waf aw_hasMemory aw_pagesLeast aw_pagesMost aw_globalCount wgt wft wfv wgc aw_exportCount wek wei wes wez ab ax ab_length ac cfi clk clt ac_length cop cva cpt cel ac_labelCount cla ax cax gax ob cob gob waf cwaf gwaf wat cwat gwat wap cwap gwap wag cwag gwag wgt cwgt gwgt wft cwft gwft wfv cwfv gwfv wgc cwgc gwgc wek cwek gwek wei cwei gwei wes cwes gwes wez cwez gwez cfi ccfi gcfi clk cclk gclk clt cclt gclt cop ccop gcop cva ccva gcva cpt ccpt gcpt cel ccel gcel cla ccla gcla)
set_option maxHeartbeats 4000000 in
set_option maxRecDepth 100000 in
theorem c_RE_read (l : Launch) (dC : Nat → ClassId) (dI : Nat → Nat → Nat) (sz : Nat) (sa : Nat → Nat) (h0 ob aw ab ac wat wap wag waf wgt wft wfv wgc wek wei wes wez ax cfi clk clt cop cva cpt cel cla : Nat) (cax cob cwaf cwat cwap cwag cwgt cwft cwfv cwgc cwek cwei cwes cwez ccfi cclk cclt ccop ccva ccpt ccel ccla : ClassId) (h0_wafer : Value) (h0_codes : Value) (h0_at : Int32) (h0_limit : Int32) (h0_sound : Int32) (h0_codeCount : Int32) (h0_openCount : Int32) (aw_typeCount : Int32) (aw_functionCount : Int32) (aw_hasMemory : Int32) (aw_pagesLeast : Int64) (aw_pagesMost : Int64) (aw_globalCount : Int32) (aw_exportCount : Int32) (ab_length : Int32) (ac_length : Int32) (ac_labelCount : Int32) (gax : Nat → Int32) (gob : Nat → Int32) (gwaf : Nat → Int32) (gwat : Nat → Int32) (gwap : Nat → Int32) (gwag : Nat → Int32) (gwgt : Nat → Int32) (gwft : Nat → Int32) (gwfv : Nat → Int64) (gwgc : Nat → Int32) (gwek : Nat → Int32) (gwei : Nat → Int32) (gwes : Nat → Int32) (gwez : Nat → Int32) (gcfi : Nat → Int32) (gclk : Nat → Int32) (gclt : Nat → Int32) (gcop : Nat → Int32) (gcva : Nat → Int64) (gcpt : Nat → Int32) (gcel : Nat → Int32) (gcla : Nat → Int32)  (b_h0_sound : h0_sound = 0 ∨ h0_sound = 1) (b_h0_codeCount : 0 ≤ h0_codeCount.toInt ∧ h0_codeCount.toInt ≤ 30) (b_h0_openCount : 0 ≤ h0_openCount.toInt ∧ h0_openCount.toInt ≤ 100) (b_aw_typeCount : 0 ≤ aw_typeCount.toInt ∧ aw_typeCount.toInt ≤ 20) (b_aw_functionCount : 0 ≤ aw_functionCount.toInt ∧ aw_functionCount.toInt ≤ 30) (b_aw_hasMemory : aw_hasMemory = 0 ∨ aw_hasMemory = 1) (b_aw_globalCount : 0 ≤ aw_globalCount.toInt ∧ aw_globalCount.toInt ≤ 20) (b_aw_exportCount : 0 ≤ aw_exportCount.toInt ∧ aw_exportCount.toInt ≤ 40) (b_ac_length : 0 ≤ ac_length.toInt ∧ ac_length.toInt ≤ 5000) (b_ac_labelCount : 0 ≤ ac_labelCount.toInt ∧ ac_labelCount.toInt ≤ 2000)   (hal : 0 ≤ ab_length.toInt ∧ ab_length.toInt ≤ 8192) (hel : ∀ j : Nat, (gcel j).toInt < 5000) : Met l y_RE_read w_RE_read ({ frames := 6, cells := 0, slots := 0, locals := 139 }) (va_Pc [.ref h0, .ref aw] (fun U => U.heap.size = sz ∧ va_P (dC, dI) cls (wz_98 h0 h0_wafer h0_codes h0_at h0_limit h0_sound h0_codeCount ob h0_openCount aw ab ac aw_typeCount wat wap wag aw_functionCount waf aw_hasMemory aw_pagesLeast aw_pagesMost aw_globalCount wgt wft wfv wgc aw_exportCount wek wei wes wez ab ax ab_length ac cfi clk clt ac_length cop cva cpt cel ac_labelCount cla ax cax gax ob cob gob waf cwaf gwaf wat cwat gwat wap cwap gwap wag cwag gwag wgt cwgt gwgt wft cwft gwft wfv cwfv gwfv wgc cwgc gwgc wek cwek gwek wei cwei gwei wes cwes gwes wez cwez gwez cfi ccfi gcfi clk cclk gclk clt cclt gclt cop ccop gcop cva ccva gcva cpt ccpt gcpt cel ccel gcel cla ccla gcla) U.heap ∧ va_K (dC, dI) cls [(cax, .byte), (cob, .int), (cwaf, .int), (cwat, .int), (cwap, .int), (cwag, .int), (cwgt, .int), (cwft, .int), (cwfv, .long), (cwgc, .boolean), (cwek, .int), (cwei, .int), (cwes, .int), (cwez, .int), (ccfi, .int), (cclk, .int), (cclt, .int), (ccop, .int), (ccva, .long), (ccpt, .int), (ccel, .int), (ccla, .int)] U ∧ va_D (fun _ => True) (wz_98 h0 h0_wafer h0_codes h0_at h0_limit h0_sound h0_codeCount ob h0_openCount aw ab ac aw_typeCount wat wap wag aw_functionCount waf aw_hasMemory aw_pagesLeast aw_pagesMost aw_globalCount wgt wft wfv wgc aw_exportCount wek wei wes wez ab ax ab_length ac cfi clk clt ac_length cop cva cpt cel ac_labelCount cla ax cax gax ob cob gob waf cwaf gwaf wat cwat gwat wap cwap gwap wag cwag gwag wgt cwgt gwgt wft cwft gwft wfv cwfv gwfv wgc cwgc gwgc wek cwek gwek wei cwei gwei wes cwes gwes wez cwez gwez cfi ccfi gcfi clk cclk gclk clt cclt gclt cop ccop gcop cva ccva gcva cpt ccpt gcpt cel ccel gcel cla ccla gcla) ∧ sw sa (va_A (wz_98 h0 h0_wafer h0_codes h0_at h0_limit h0_sound h0_codeCount ob h0_openCount aw ab ac aw_typeCount wat wap wag aw_functionCount waf aw_hasMemory aw_pagesLeast aw_pagesMost aw_globalCount wgt wft wfv wgc aw_exportCount wek wei wes wez ab ax ab_length ac cfi clk clt ac_length cop cva cpt cel ac_labelCount cla ax cax gax ob cob gob waf cwaf gwaf wat cwat gwat wap cwap gwap wag cwag gwag wgt cwgt gwgt wft cwft gwft wfv cwfv gwfv wgc cwgc gwgc wek cwek gwek wei cwei gwei wes cwes gwes wez cwez gwez cfi ccfi gcfi clk cclk gclk clt cclt gclt cop ccop gcop cva ccva gcva cpt ccpt gcpt cel ccel gcel cla ccla gcla) sz) U U.heap)) (va_Qi (fun (r : Int32) (u : (Nat → Int32) × (Nat → Int32) × (Nat → Int32) × (Nat → Int32) × (Nat → Int32) × (Nat → Int32) × (Nat → Int32) × (Nat → Int64) × (Nat → Int32) × (Nat → Int32) × (Nat → Int32) × (Nat → Int32) × (Nat → Int32) × (Nat → Int32) × (Nat → Int32) × (Nat → Int32) × (Nat → Int32) × (Nat → Int32) × (Nat → Int64) × (Nat → Int32) × (Nat → Int32) × Int32 × Int32 × Int32 × Int32 × Int32 × Int32 × Int64 × Int64 × Int32 × Int32 × Int32 × Int32 × Int32 × Int32) => match u with | (gcel2, gcfi2, gcla2, gclk2, gclt2, gcop2, gcpt2, gcva2, gob2, gwaf2, gwag2, gwap2, gwat2, gwei2, gwek2, gwes2, gwez2, gwft2, gwfv2, gwgc2, gwgt2, ac_labelCount2, ac_length2, aw_exportCount2, aw_functionCount2, aw_globalCount2, aw_hasMemory2, aw_pagesLeast2, aw_pagesMost2, aw_typeCount2, h0_at2, h0_codeCount2, h0_limit2, h0_openCount2, h0_sound2) => (r = 0 ∨ r = 1) ∧ (0 ≤ ac_labelCount2.toInt ∧ ac_labelCount2.toInt ≤ 2000) ∧ (0 ≤ ac_length2.toInt ∧ ac_length2.toInt ≤ 5000) ∧ (0 ≤ aw_exportCount2.toInt ∧ aw_exportCount2.toInt ≤ 40) ∧ (0 ≤ aw_functionCount2.toInt ∧ aw_functionCount2.toInt ≤ 30) ∧ (0 ≤ aw_globalCount2.toInt ∧ aw_globalCount2.toInt ≤ 20) ∧ (aw_hasMemory2 = 0 ∨ aw_hasMemory2 = 1) ∧ (0 ≤ aw_typeCount2.toInt ∧ aw_typeCount2.toInt ≤ 20) ∧ (0 ≤ h0_codeCount2.toInt ∧ h0_codeCount2.toInt ≤ 30) ∧ (0 ≤ h0_openCount2.toInt ∧ h0_openCount2.toInt ≤ 100) ∧ (h0_sound2 = 0 ∨ h0_sound2 = 1) ∧ ((∀ j : Nat, (gcel2 j).toInt < 5000) ∧ (r = 1 → (∀ j : Nat, (j : Int) < ac_labelCount2.toInt → 0 ≤ (gcla2 j).toInt) ∧ (rd_T aw_typeCount2.toInt gwat2 gwap2) ∧ (rd_F aw_functionCount2.toInt gwaf2) ∧ (rd_M aw_pagesLeast2 aw_pagesMost2) ∧ (rd_G aw_globalCount2.toInt gwgt2) ∧ (rd_E aw_exportCount2.toInt gwez2) ∧ (rd_C aw_functionCount2.toInt ac_length2.toInt ac_labelCount2.toInt gcfi2 gclk2 gclt2 gcop2 gcpt2 gcel2 gcva2)))) (at_RE_read dC dI h0 ob aw ab ac wat wap wag waf wgt wft wfv wgc wek wei wes wez ax cfi clk clt cop cva cpt cel cla cax cob cwaf cwat cwap cwag cwgt cwft cwfv cwgc cwek cwei cwes cwez ccfi cclk cclt ccop ccva ccpt ccel ccla h0_wafer h0_codes ab_length gax (va_A (wz_98 h0 h0_wafer h0_codes h0_at h0_limit h0_sound h0_codeCount ob h0_openCount aw ab ac aw_typeCount wat wap wag aw_functionCount waf aw_hasMemory aw_pagesLeast aw_pagesMost aw_globalCount wgt wft wfv wgc aw_exportCount wek wei wes wez ab ax ab_length ac cfi clk clt ac_length cop cva cpt cel ac_labelCount cla ax cax gax ob cob gob waf cwaf gwaf wat cwat gwat wap cwap gwap wag cwag gwag wgt cwgt gwgt wft cwft gwft wfv cwfv gwfv wgc cwgc gwgc wek cwek gwek wei cwei gwei wes cwes gwes wez cwez gwez cfi ccfi gcfi clk cclk gclk clt cclt gclt cop ccop gcop cva ccva gcva cpt ccpt gcpt cel ccel gcel cla ccla gcla) sz)) (va_A (wz_98 h0 h0_wafer h0_codes h0_at h0_limit h0_sound h0_codeCount ob h0_openCount aw ab ac aw_typeCount wat wap wag aw_functionCount waf aw_hasMemory aw_pagesLeast aw_pagesMost aw_globalCount wgt wft wfv wgc aw_exportCount wek wei wes wez ab ax ab_length ac cfi clk clt ac_length cop cva cpt cel ac_labelCount cla ax cax gax ob cob gob waf cwaf gwaf wat cwat gwat wap cwap gwap wag cwag gwag wgt cwgt gwgt wft cwft gwft wfv cwfv gwfv wgc cwgc gwgc wek cwek gwek wei cwei gwei wes cwes gwes wez cwez gwez cfi ccfi gcfi clk cclk gclk clt cclt gclt cop ccop gcop cva ccva gcva cpt ccpt gcpt cel ccel gcel cla ccla gcla) sz)) 0 0 (va_A (wz_98 h0 h0_wafer h0_codes h0_at h0_limit h0_sound h0_codeCount ob h0_openCount aw ab ac aw_typeCount wat wap wag aw_functionCount waf aw_hasMemory aw_pagesLeast aw_pagesMost aw_globalCount wgt wft wfv wgc aw_exportCount wek wei wes wez ab ax ab_length ac cfi clk clt ac_length cop cva cpt cel ac_labelCount cla ax cax gax ob cob gob waf cwaf gwaf wat cwat gwat wap cwap gwap wag cwag gwag wgt cwgt gwgt wft cwft gwft wfv cwfv gwfv wgc cwgc gwgc wek cwek gwek wei cwei gwei wes cwes gwes wez cwez gwez cfi ccfi gcfi clk cclk gclk clt cclt gclt cop ccop gcop cva ccva gcva cpt ccpt gcpt cel ccel gcel cla ccla gcla) sz) := by
  refine Met.ofW (cc := b_RE_read) (maxL := 6) (ret := (Option.some .boolean)) (by decide) rfl ?_
  intro p e s m args below meth c s₁ B hml hv
  obtain ⟨rfl, hsz, hP, hK, hD0, hSW⟩ := hv
  have hx := B.exec
  have hb := B.bytes
  have hr := B.returns
  have hts0 := atoms_spec (ws := w_RE_read) B.pre
  have hts : ∀ w ∈ lw_g, w.before _ s = true := fun w h => hts0 w (List.mem_cons_of_mem _ h)
  have hown : s.vm.findClass R_RE = some m.cls := findClass_of_methodNamed B.named
  have hlocks := B.notSynchronized
  clear hts0
  subst hsz
  have hD := hD0.self (sz := s.heap.size)
  generalize hAe : va_A (wz_98 h0 h0_wafer h0_codes h0_at h0_limit h0_sound h0_codeCount ob h0_openCount aw ab ac aw_typeCount wat wap wag aw_functionCount waf aw_hasMemory aw_pagesLeast aw_pagesMost aw_globalCount wgt wft wfv wgc aw_exportCount wek wei wes wez ab ax ab_length ac cfi clk clt ac_length cop cva cpt cel ac_labelCount cla ax cax gax ob cob gob waf cwaf gwaf wat cwat gwat wap cwap gwap wag cwag gwag wgt cwgt gwgt wft cwft gwft wfv cwfv gwfv wgc cwgc gwgc wek cwek gwek wei cwei gwei wes cwes gwes wez cwez gwez cfi ccfi gcfi clk cclk gclk clt cclt gclt cop ccop gcop cva ccva gcva cpt ccpt gcpt cel ccel gcel cla ccla gcla) s.heap.size = A at hD hSW ⊢
  have hA : ∀ q : Nat, s.heap.size ≤ q → A q := fun q h => by rw [← hAe]; exact Or.inr h
  clear hAe
  have hP : va_P (dC, dI) cls (wz_98 h0 h0_wafer h0_codes h0_at h0_limit h0_sound h0_codeCount ob h0_openCount aw ab ac aw_typeCount wat wap wag aw_functionCount waf aw_hasMemory aw_pagesLeast aw_pagesMost aw_globalCount wgt wft wfv wgc aw_exportCount wek wei wes wez ab ax ab_length ac cfi clk clt ac_length cop cva cpt cel ac_labelCount cla ax cax gax ob cob gob waf cwaf gwaf wat cwat gwat wap cwap gwap wag cwag gwag wgt cwgt gwgt wft cwft gwft wfv cwfv gwfv wgc cwgc gwgc wek cwek gwek wei cwei gwei wes cwes gwes wez cwez gwez cfi ccfi gcfi clk cclk gclk clt cclt gclt cop ccop gcop cva ccva gcva cpt ccpt gcpt cel ccel gcel cla ccla gcla) s.heap := hP
  have hl := lv_entry ([.ref h0, .ref aw]) (n := 6) (Nat.le_of_ble_eq_true rfl)
  rw [lg_entry_eq]
  generalize (lg_sl ([.ref h0, .ref aw]) ++ List.replicate (6 - (lg_sl ([.ref h0, .ref aw])).length) Slot.unset).toArray = ls at hl ⊢
  have hl : lv_has ls 6 [(0, .ref h0), (1, .ref aw)] := hl
  have k0 : (0 : Int32).toInt = 0 := by decide
  refine w_gen (A := A) hP (fun H locs hP hS => ?_)
  have k1 : (1 : Int32).toInt = 1 := by decide
  have k8192 : (8192 : Int32).toInt = 8192 := by decide
  have th0_sound := b01 b_h0_sound
  have taw_hasMemory := b01 b_aw_hasMemory
  refine lv_aload_n hx hb d_RE_read_0 rfl (lv_at hl 0 rfl) ?_
  refine lv_aload_n hx hb d_RE_read_1 rfl (lv_at hl 1 rfl) ?_
  refine va_put (D := (dC, dI)) (ci := 7) (v := .ref aw) (ty := .object "WaferForge$Wafer") (C := R_RE) (T := F_RE) (N := 8) hx hb hts i_RE t_RE t_RE_ok n_RE hown hK hP hD hS 0 rfl rfl 0 (by decide) (hts _ kF_RE_15) (fun _ h9 => h9) rfl (by decide +kernel) rfl rfl (Nat.le_of_ble_eq_true rfl) d_RE_read_2 (fun H locs hP hD hS => ?_)
  refine lv_aload_n hx hb d_RE_read_5 rfl (lv_at hl 0 rfl) ?_
  refine lv_aload_n hx hb d_RE_read_6 rfl (lv_at hl 1 rfl) ?_
  refine va_get (D := (dC, dI)) (ci := 10) (v := .ref ac) (C := R_WA) (T := F_WA) (N := 21) hx hb hts i_WA hown hK hP 1 rfl rfl 1 (by decide) (hts _ kF_RE_19) (fun _ h9 => h9) rfl d_RE_read_7 ?_
  refine va_put (D := (dC, dI)) (ci := 7) (v := .ref ac) (ty := .object "WaferForge$Codes") (C := R_RE) (T := F_RE) (N := 8) hx hb hts i_RE t_RE t_RE_ok n_RE hown hK hP hD hS 0 rfl rfl 1 (by decide) (hts _ kF_RE_25) (fun _ h9 => h9) rfl (by decide +kernel) rfl rfl (Nat.le_of_ble_eq_true rfl) d_RE_read_10 (fun H locs hP hD hS => ?_)
  refine lv_aload_n hx hb d_RE_read_13 rfl (lv_at hl 0 rfl) ?_
  refine va_get (D := (dC, dI)) (ci := 7) (v := .ref aw) (C := R_RE) (T := F_RE) (N := 8) hx hb hts i_RE hown hK hP 0 rfl rfl 0 (by decide) (hts _ kF_RE_15) (fun _ h9 => h9) rfl d_RE_read_14 ?_
  have hPc := hP.sb (wq := (wz_61 aw ab ac aw_typeCount wat wap wag aw_functionCount waf aw_hasMemory aw_pagesLeast aw_pagesMost aw_globalCount wgt wft wfv wgc aw_exportCount wek wei wes wez ac cfi clk clt ac_length cop cva cpt cel ac_labelCount cla)) [1, 3] rfl
  have hDc := hD.sb (wq := (wz_61 aw ab ac aw_typeCount wat wap wag aw_functionCount waf aw_hasMemory aw_pagesLeast aw_pagesMost aw_globalCount wgt wft wfv wgc aw_exportCount wek wei wes wez ac cfi clk clt ac_length cop cva cpt cel ac_labelCount cla)) [1, 3] (by decide) rfl
  have hKc := hK.sb (tyq := []) [] rfl
  have hFc := va_free (wc := (wz_61 aw ab ac aw_typeCount wat wap wag aw_functionCount waf aw_hasMemory aw_pagesLeast aw_pagesMost aw_globalCount wgt wft wfv wgc aw_exportCount wek wei wes wez ac cfi clk clt ac_length cop cva cpt cel ac_labelCount cla)) hD hS hA [1, 3] rfl
  refine va_callv (va_runV (As := []) (rest := []) ⟨hx, hb, hml, hown, hts⟩ (c_WA_clear l dC dI H.size aw ab ac wat wap wag waf wgt wft wfv wgc wek wei wes wez cfi clk clt cop cva cpt cel cla aw_typeCount aw_functionCount aw_hasMemory aw_pagesLeast aw_pagesMost aw_globalCount aw_exportCount ac_length ac_labelCount (b_aw_typeCount) (b_aw_functionCount) (b_aw_hasMemory) (b_aw_globalCount) (b_aw_exportCount) (b_ac_length) (b_ac_labelCount)) (cwV 0 hts (gV kM_RE_26 kV_WA_clear kS_WA_clear kI_WA kC_WA_clear) rfl rfl rfl (by decide +kernel) ⟨Nat.le_of_ble_eq_true rfl, Nat.le_of_ble_eq_true rfl⟩) ⟨fun a U g mk z => by obtain ⟨z0, z1, zP, zK, zD⟩ := z; exact ⟨z0, z1, zP, va_K.moved (u := U) (U := U.calling g mk a) (Vm.Alike.refl U.vm) zK, zD⟩, va_recv hKc hPc (ci := 10) (q0 := 0) rfl rfl, fun U hU hW => ⟨rfl, by rw [hU], va_P.he hU.symm hPc, va_K.moved hW.alike hKc, hDc.weaken (fun _ _ _ _ => trivial)⟩⟩ rfl rfl hl.1 rfl (lv_room (Nat.le_of_ble_eq_true rfl)) d_RE_read_17 ⟨(Nat.zero_le _), (Nat.zero_le _)⟩) hS (fun q _ h => hFc q h) hFc (fun u t H1 locs ht hvm hw hB hz1 hk1 hS => ?_)
  obtain ⟨n2, n3, n4, n5, n6, n7, n8, n9, n10⟩ := u
  try dsimp only at hw
  obtain ⟨bn2, bn3, bn4, bn5, bn6, bn7, bn10, xr1⟩ := hw
  try clear hw
  have tn7 := b01 bn7
  obtain ⟨z1, z2, z3, z4, z5, z6, z7, z8⟩ := xr1
  obtain ⟨hP1, hK1, hD1⟩ := hB
  replace hP1 := va_P.he ht hP1
  obtain ⟨hP, hD⟩ := va_join (wr := [(h0, .inr (7, [.ref aw, .ref ac, .int h0_at, .int h0_limit, .int h0_sound, .int h0_codeCount, .ref ob, .int h0_openCount])), (ab, .inr (1, [.ref ax, .int ab_length])), (ax, .inl (cax, 8192, .inl gax)), (ob, .inl (cob, 100, .inl gob)), (waf, .inl (cwaf, 30, .inl gwaf)), (wat, .inl (cwat, 20, .inl gwat)), (wap, .inl (cwap, 160, .inl gwap)), (wag, .inl (cwag, 20, .inl gwag)), (wgt, .inl (cwgt, 20, .inl gwgt)), (wft, .inl (cwft, 20, .inl gwft)), (wfv, .inl (cwfv, 20, .inr (.inl gwfv))), (wgc, .inl (cwgc, 20, .inl gwgc)), (wek, .inl (cwek, 40, .inl gwek)), (wei, .inl (cwei, 40, .inl gwei)), (wes, .inl (cwes, 40, .inl gwes)), (wez, .inl (cwez, 40, .inl gwez)), (cfi, .inl (ccfi, 31, .inl gcfi)), (clk, .inl (cclk, 30, .inl gclk)), (clt, .inl (cclt, 1800, .inl gclt)), (cop, .inl (ccop, 5000, .inl gcop)), (cva, .inl (ccva, 5000, .inr (.inl gcva))), (cpt, .inl (ccpt, 5000, .inl gcpt)), (cel, .inl (ccel, 5000, .inl gcel)), (cla, .inl (ccla, 2000, .inl gcla))]) (w1 := (wz_61 aw ab ac n10 wat wap wag n5 waf n7 n8 n9 n6 wgt wft wfv wgc n4 wek wei wes wez ac cfi clk clt n3 cop cva cpt cel n2 cla)) hP hD [1, 3] [0, 2, 4, 5, 6, 7, 8, 9, 10, 11, 12, 13, 14, 15, 16, 17, 18, 19, 20, 21, 22, 23, 24, 25] rfl rfl (by decide) (by decide) hk1 hFc hP1 hD1
  clear hPc hDc hKc hFc hz1 hk1 hP1 hK1 hD1
  rename Heap => H
  have hP : va_P (dC, dI) cls (wz_99 h0 aw ac h0_at h0_limit h0_sound h0_codeCount ob h0_openCount ab ax ab_length ax cax gax ob cob gob waf cwaf gwaf wat cwat gwat wap cwap gwap wag cwag gwag wgt cwgt gwgt wft cwft gwft wfv cwfv gwfv wgc cwgc gwgc wek cwek gwek wei cwei gwei wes cwes gwes wez cwez gwez cfi ccfi gcfi clk cclk gclk clt cclt gclt cop ccop gcop cva ccva gcva cpt ccpt gcpt cel ccel gcel cla ccla gcla aw ab ac n10 wat wap wag n5 waf n7 n8 n9 n6 wgt wft wfv wgc n4 wek wei wes wez ac cfi clk clt n3 cop cva cpt cel n2 cla) H := hP
  have hD : va_D A (wz_99 h0 aw ac h0_at h0_limit h0_sound h0_codeCount ob h0_openCount ab ax ab_length ax cax gax ob cob gob waf cwaf gwaf wat cwat gwat wap cwap gwap wag cwag gwag wgt cwgt gwgt wft cwft gwft wfv cwfv gwfv wgc cwgc gwgc wek cwek gwek wei cwei gwei wes cwes gwes wez cwez gwez cfi ccfi gcfi clk cclk gclk clt cclt gclt cop ccop gcop cva ccva gcva cpt ccpt gcpt cel ccel gcel cla ccla gcla aw ab ac n10 wat wap wag n5 waf n7 n8 n9 n6 wgt wft wfv wgc n4 wek wei wes wez ac cfi clk clt n3 cop cva cpt cel n2 cla) := hD
  refine lv_aload_n hx hb d_RE_read_20 rfl (lv_at hl 0 rfl) ?_
  refine lv_iconst (v := 0) hx hb d_RE_read_21 (by decide) ?_
  refine va_put (D := (dC, dI)) (ci := 7) (v := .int 0) (ty := .int) (C := R_RE) (T := F_RE) (N := 8) hx hb hts i_RE t_RE t_RE_ok n_RE hown hK hP hD hS 0 rfl rfl 2 (by decide) (hts _ kF_RE_29) (fun _ h9 => h9) rfl (by decide +kernel) rfl rfl (Nat.le_of_ble_eq_true rfl) d_RE_read_22 (fun H locs hP hD hS => ?_)
  refine lv_aload_n hx hb d_RE_read_25 rfl (lv_at hl 0 rfl) ?_
  refine lv_aload_n hx hb d_RE_read_26 rfl (lv_at hl 0 rfl) ?_
  refine va_get (D := (dC, dI)) (ci := 7) (v := .ref aw) (C := R_RE) (T := F_RE) (N := 8) hx hb hts i_RE hown hK hP 0 rfl rfl 0 (by decide) (hts _ kF_RE_15) (fun _ h9 => h9) rfl d_RE_read_27 ?_
  refine va_get (D := (dC, dI)) (ci := 10) (v := .ref ab) (C := R_WA) (T := F_WA) (N := 21) hx hb hts i_WA hown hK hP 24 rfl rfl 0 (by decide) (hts _ kF_RE_33) (fun _ h9 => h9) rfl d_RE_read_30 ?_
  refine va_get (D := (dC, dI)) (ci := 1) (v := .int ab_length) (C := R_BR) (T := F_BR) (N := 2) hx hb hts i_BR hown hK hP 1 rfl rfl 1 (by decide) (hts _ kF_RE_37) (fun _ h9 => h9) rfl d_RE_read_33 ?_
  refine va_put (D := (dC, dI)) (ci := 7) (v := .int ab_length) (ty := .int) (C := R_RE) (T := F_RE) (N := 8) hx hb hts i_RE t_RE t_RE_ok n_RE hown hK hP hD hS 0 rfl rfl 3 (by decide) (hts _ kF_RE_42) (fun _ h9 => h9) rfl (by decide +kernel) rfl rfl (Nat.le_of_ble_eq_true rfl) d_RE_read_36 (fun H locs hP hD hS => ?_)
  refine lv_aload_n hx hb d_RE_read_39 rfl (lv_at hl 0 rfl) ?_
  refine lv_iconst (v := 1) hx hb d_RE_read_40 (by decide) ?_
  refine va_put (D := (dC, dI)) (ci := 7) (v := .int 1) (ty := .boolean) (C := R_RE) (T := F_RE) (N := 8) hx hb hts i_RE t_RE t_RE_ok n_RE hown hK hP hD hS 0 rfl rfl 4 (by decide) (hts _ kF_RE_45) (fun _ h9 => h9) rfl (by decide +kernel) rfl rfl (Nat.le_of_ble_eq_true rfl) d_RE_read_41 (fun H locs hP hD hS => ?_)
  refine lv_aload_n hx hb d_RE_read_44 rfl (lv_at hl 0 rfl) ?_
  refine lv_iconst (v := 0) hx hb d_RE_read_45 (by decide) ?_
  refine va_put (D := (dC, dI)) (ci := 7) (v := .int 0) (ty := .int) (C := R_RE) (T := F_RE) (N := 8) hx hb hts i_RE t_RE t_RE_ok n_RE hown hK hP hD hS 0 rfl rfl 5 (by decide) (hts _ kF_RE_49) (fun _ h9 => h9) rfl (by decide +kernel) rfl rfl (Nat.le_of_ble_eq_true rfl) d_RE_read_46 (fun H locs hP hD hS => ?_)
  refine lv_iconst (v := 0) hx hb d_RE_read_49 (by decide) ?_
  refine lv_istore_n (lv' := [(2, .int 0), (0, .ref h0), (1, .ref aw)]) hx hb d_RE_read_50 rfl hl (by decide) rfl (fun ls hl => ?_)
  refine w_loop (σ := Int32 × Int32 × Int32) (fun u H locs ls => match u with | (j51_l2, j51_h0_at, j51_h0_sound) => (0 ≤ j51_l2.toInt ∧ j51_l2.toInt ≤ 8) ∧ (j51_h0_sound = 0 ∨ j51_h0_sound = 1) ∧ (0 ≤ j51_h0_at.toInt ∧ j51_h0_at.toInt ≤ ab_length.toInt ∧ ab_length.toInt = ab_length.toInt) ∧ va_P (dC, dI) cls (wz_99 h0 aw ac j51_h0_at ab_length j51_h0_sound 0 ob h0_openCount ab ax ab_length ax cax gax ob cob gob waf cwaf gwaf wat cwat gwat wap cwap gwap wag cwag gwag wgt cwgt gwgt wft cwft gwft wfv cwfv gwfv wgc cwgc gwgc wek cwek gwek wei cwei gwei wes cwes gwes wez cwez gwez cfi ccfi gcfi clk cclk gclk clt cclt gclt cop ccop gcop cva ccva gcva cpt ccpt gcpt cel ccel gcel cla ccla gcla aw ab ac n10 wat wap wag n5 waf n7 n8 n9 n6 wgt wft wfv wgc n4 wek wei wes wez ac cfi clk clt n3 cop cva cpt cel n2 cla) H ∧ va_D A (wz_99 h0 aw ac j51_h0_at ab_length j51_h0_sound 0 ob h0_openCount ab ax ab_length ax cax gax ob cob gob waf cwaf gwaf wat cwat gwat wap cwap gwap wag cwag gwag wgt cwgt gwgt wft cwft gwft wfv cwfv gwfv wgc cwgc gwgc wek cwek gwek wei cwei gwei wes cwes gwes wez cwez gwez cfi ccfi gcfi clk cclk gclk clt cclt gclt cop ccop gcop cva ccva gcva cpt ccpt gcpt cel ccel gcel cla ccla gcla aw ab ac n10 wat wap wag n5 waf n7 n8 n9 n6 wgt wft wfv wgc n4 wek wei wes wez ac cfi clk clt n3 cop cva cpt cel n2 cla) ∧ va_S A s.heap H locs ∧ lv_has ls 6 [(0, .ref h0), (2, .int j51_l2)]) (fun u => match u with | (j51_l2, j51_h0_at, j51_h0_sound) => (8 - j51_l2.toInt).toNat) ?_ (0, 0, 1) ⟨by (try dsimp only) <;> (first | (apply Int.le_antisymm <;> omega) | omega), Or.inr rfl, by (try dsimp only) <;> (first | (apply Int.le_antisymm <;> omega) | omega), hP, hD, hS, lv_sub hl [1, 0] rfl⟩
  intro N51 ih51 u H locs ls hN51 hI
  obtain ⟨j51_l2, j51_h0_at, j51_h0_sound⟩ := u
  obtain ⟨b_j51_l2, b_j51_h0_sound, v0, hP, hD, hS, hl⟩ := hI
  have tj51_h0_sound := b01 b_j51_h0_sound
  have hN51 : (8 - j51_l2.toInt).toNat < N51 + 1 := hN51
  refine lv_iload_n hx hb d_RE_read_51 rfl (lv_at hl 1 rfl) ?_
  refine va_getsN (C := "WaferForge") (n := "HEAD") (d := "[B") (v := .ref ((sa 0))) hx hb (hSW.1.1) hS hown (sw_nf (k := 2) hSW rfl) (fun _ h9 => h9) d_RE_read_52 ?_
  refine va_tlen (v := 8) hx hb (hSW.1.2) hS rfl d_RE_read_55 ?_
  have k955 : (8 : Int32).toInt = 8 := by decide
  refine lv_icmp_ge (tgt := 74) hx hb d_RE_read_56 (by decide) (fun c56 => ?_) (fun c56 => ?_)
  · have q56 := leI c56
    refine lv_iconst (v := 0) hx hb d_RE_read_74 (by decide) ?_
    refine lv_istore_n (lv' := [(2, .int 0), (0, .ref h0)]) hx hb d_RE_read_75 rfl hl (by decide) rfl (fun ls hl => ?_)
    refine lv_iconst (v := 0) hx hb d_RE_read_76 (by decide) ?_
    refine lv_istore_n (lv' := [(3, .int 0), (2, .int 0), (0, .ref h0)]) hx hb d_RE_read_77 rfl hl (by decide) rfl (fun ls hl => ?_)
    refine w_loop (σ := Int32 × Int32 × (Nat → Int32) × (Nat → Int32) × (Nat → Int32) × (Nat → Int32) × (Nat → Int32) × (Nat → Int32) × (Nat → Int32) × (Nat → Int64) × (Nat → Int32) × (Nat → Int32) × (Nat → Int32) × (Nat → Int32) × (Nat → Int32) × (Nat → Int32) × (Nat → Int32) × (Nat → Int32) × (Nat → Int32) × (Nat → Int32) × (Nat → Int64) × (Nat → Int32) × (Nat → Int32) × Int32 × Int32 × Int32 × Int32 × Int32 × Int32 × Int64 × Int64 × Int32 × Int32 × Int32 × Int32 × Int32 × Int32) (fun u H locs ls => match u with | (j78_l2, j78_l3, j78_cel, j78_cfi, j78_cla, j78_clk, j78_clt, j78_cop, j78_cpt, j78_cva, j78_ob, j78_waf, j78_wag, j78_wap, j78_wat, j78_wei, j78_wek, j78_wes, j78_wez, j78_wft, j78_wfv, j78_wgc, j78_wgt, j78_ac_labelCount, j78_ac_length, j78_aw_exportCount, j78_aw_functionCount, j78_aw_globalCount, j78_aw_hasMemory, j78_aw_pagesLeast, j78_aw_pagesMost, j78_aw_typeCount, j78_h0_at, j78_h0_codeCount, j78_h0_limit, j78_h0_openCount, j78_h0_sound) => (0 ≤ j78_l3.toInt ∧ j78_l3.toInt ≤ 8192) ∧ (0 ≤ j78_ac_labelCount.toInt ∧ j78_ac_labelCount.toInt ≤ 2000) ∧ (0 ≤ j78_ac_length.toInt ∧ j78_ac_length.toInt ≤ 5000) ∧ (0 ≤ j78_aw_exportCount.toInt ∧ j78_aw_exportCount.toInt ≤ 40) ∧ (0 ≤ j78_aw_functionCount.toInt ∧ j78_aw_functionCount.toInt ≤ 30) ∧ (0 ≤ j78_aw_globalCount.toInt ∧ j78_aw_globalCount.toInt ≤ 20) ∧ (j78_aw_hasMemory = 0 ∨ j78_aw_hasMemory = 1) ∧ (0 ≤ j78_aw_typeCount.toInt ∧ j78_aw_typeCount.toInt ≤ 20) ∧ (0 ≤ j78_h0_codeCount.toInt ∧ j78_h0_codeCount.toInt ≤ 30) ∧ (0 ≤ j78_h0_openCount.toInt ∧ j78_h0_openCount.toInt ≤ 100) ∧ (j78_h0_sound = 0 ∨ j78_h0_sound = 1) ∧ (0 ≤ j78_h0_at.toInt ∧ j78_h0_at.toInt ≤ ab_length.toInt ∧ j78_h0_limit.toInt = ab_length.toInt) ∧ (∀ j : Nat, (j78_cel j).toInt < 5000) ∧ (∀ j : Nat, (j : Int) < j78_ac_labelCount.toInt → 0 ≤ (j78_cla j).toInt) ∧ (j78_h0_sound.toInt = 1 → (rd_T j78_aw_typeCount.toInt j78_wat j78_wap) ∧ (rd_F j78_aw_functionCount.toInt j78_waf) ∧ (rd_M j78_aw_pagesLeast j78_aw_pagesMost) ∧ (rd_G j78_aw_globalCount.toInt j78_wgt) ∧ (rd_E j78_aw_exportCount.toInt j78_wez) ∧ (rd_C j78_h0_codeCount.toInt j78_ac_length.toInt j78_ac_labelCount.toInt j78_cfi j78_clk j78_clt j78_cop j78_cpt j78_cel j78_cva)) ∧ va_P (dC, dI) cls (wz_99 h0 aw ac j78_h0_at j78_h0_limit j78_h0_sound j78_h0_codeCount ob j78_h0_openCount ab ax ab_length ax cax gax ob cob j78_ob waf cwaf j78_waf wat cwat j78_wat wap cwap j78_wap wag cwag j78_wag wgt cwgt j78_wgt wft cwft j78_wft wfv cwfv j78_wfv wgc cwgc j78_wgc wek cwek j78_wek wei cwei j78_wei wes cwes j78_wes wez cwez j78_wez cfi ccfi j78_cfi clk cclk j78_clk clt cclt j78_clt cop ccop j78_cop cva ccva j78_cva cpt ccpt j78_cpt cel ccel j78_cel cla ccla j78_cla aw ab ac j78_aw_typeCount wat wap wag j78_aw_functionCount waf j78_aw_hasMemory j78_aw_pagesLeast j78_aw_pagesMost j78_aw_globalCount wgt wft wfv wgc j78_aw_exportCount wek wei wes wez ac cfi clk clt j78_ac_length cop cva cpt cel j78_ac_labelCount cla) H ∧ va_D A (wz_99 h0 aw ac j78_h0_at j78_h0_limit j78_h0_sound j78_h0_codeCount ob j78_h0_openCount ab ax ab_length ax cax gax ob cob j78_ob waf cwaf j78_waf wat cwat j78_wat wap cwap j78_wap wag cwag j78_wag wgt cwgt j78_wgt wft cwft j78_wft wfv cwfv j78_wfv wgc cwgc j78_wgc wek cwek j78_wek wei cwei j78_wei wes cwes j78_wes wez cwez j78_wez cfi ccfi j78_cfi clk cclk j78_clk clt cclt j78_clt cop ccop j78_cop cva ccva j78_cva cpt ccpt j78_cpt cel ccel j78_cel cla ccla j78_cla aw ab ac j78_aw_typeCount wat wap wag j78_aw_functionCount waf j78_aw_hasMemory j78_aw_pagesLeast j78_aw_pagesMost j78_aw_globalCount wgt wft wfv wgc j78_aw_exportCount wek wei wes wez ac cfi clk clt j78_ac_length cop cva cpt cel j78_ac_labelCount cla) ∧ va_S A s.heap H locs ∧ lv_has ls 6 [(0, .ref h0), (2, .int j78_l2), (3, .int j78_l3)]) (fun u => match u with | (j78_l2, j78_l3, j78_cel, j78_cfi, j78_cla, j78_clk, j78_clt, j78_cop, j78_cpt, j78_cva, j78_ob, j78_waf, j78_wag, j78_wap, j78_wat, j78_wei, j78_wek, j78_wes, j78_wez, j78_wft, j78_wfv, j78_wgc, j78_wgt, j78_ac_labelCount, j78_ac_length, j78_aw_exportCount, j78_aw_functionCount, j78_aw_globalCount, j78_aw_hasMemory, j78_aw_pagesLeast, j78_aw_pagesMost, j78_aw_typeCount, j78_h0_at, j78_h0_codeCount, j78_h0_limit, j78_h0_openCount, j78_h0_sound) => (8192 - j78_l3.toInt).toNat) ?_ (0, 0, gcel, gcfi, gcla, gclk, gclt, gcop, gcpt, gcva, gob, gwaf, gwag, gwap, gwat, gwei, gwek, gwes, gwez, gwft, gwfv, gwgc, gwgt, n2, n3, n4, n5, n6, n7, n8, n9, n10, j51_h0_at, 0, ab_length, h0_openCount, j51_h0_sound) ⟨by (try dsimp only) <;> (first | (apply Int.le_antisymm <;> omega) | omega), bn2, bn3, bn4, bn5, bn6, bn7, bn10, by (try dsimp only) <;> (first | (apply Int.le_antisymm <;> omega) | omega), b_h0_openCount, b_j51_h0_sound, by (try dsimp only) <;> (first | (apply Int.le_antisymm <;> omega) | omega), hel, fun j q => absurd q (by (try dsimp only at q); (first | (apply Int.le_antisymm <;> omega) | omega)), fun _ => ⟨⟨fun t q => absurd q (by (try dsimp only at q); (first | (apply Int.le_antisymm <;> omega) | omega)), fun j q => absurd q (by (try dsimp only at q); (first | (apply Int.le_antisymm <;> omega) | omega))⟩, fun f q => absurd q (by (try dsimp only at q); (first | (apply Int.le_antisymm <;> omega) | omega)), ⟨by (try dsimp only); (first | (apply Int.le_antisymm <;> omega) | omega), by (try dsimp only); (first | (apply Int.le_antisymm <;> omega) | omega)⟩, fun g q => absurd q (by (try dsimp only at q); (first | (apply Int.le_antisymm <;> omega) | omega)), fun e q => absurd q (by (try dsimp only at q); (first | (apply Int.le_antisymm <;> omega) | omega)), rd_C.nil⟩, hP, hD, hS, lv_sub hl [2, 1, 0] rfl⟩
    intro N78 ih78 u H locs ls hN78 hI
    obtain ⟨j78_l2, j78_l3, j78_cel, j78_cfi, j78_cla, j78_clk, j78_clt, j78_cop, j78_cpt, j78_cva, hq9r⟩ := u
    obtain ⟨j78_ob, j78_waf, j78_wag, j78_wap, j78_wat, j78_wei, j78_wek, j78_wes, j78_wez, j78_wft, hq9r⟩ := hq9r
    obtain ⟨j78_wfv, j78_wgc, j78_wgt, j78_ac_labelCount, j78_ac_length, j78_aw_exportCount, j78_aw_functionCount, j78_aw_globalCount, j78_aw_hasMemory, j78_aw_pagesLeast, hq9r⟩ := hq9r
    obtain ⟨j78_aw_pagesMost, j78_aw_typeCount, j78_h0_at, j78_h0_codeCount, j78_h0_limit, j78_h0_openCount, j78_h0_sound⟩ := hq9r
    obtain ⟨b_j78_l3, b_j78_ac_labelCount, b_j78_ac_length, b_j78_aw_exportCount, b_j78_aw_functionCount, b_j78_aw_globalCount, b_j78_aw_hasMemory, b_j78_aw_typeCount, b_j78_h0_codeCount, b_j78_h0_openCount, hq9r⟩ := hI
    obtain ⟨b_j78_h0_sound, v0, v2, v3, v6, hP, hD, hS, hl⟩ := hq9r
    have tj78_aw_hasMemory := b01 b_j78_aw_hasMemory
    have tj78_h0_sound := b01 b_j78_h0_sound
    have hN78 : (8192 - j78_l3.toInt).toNat < N78 + 1 := hN78
    refine lv_iload_n hx hb d_RE_read_78 rfl (lv_at hl 2 rfl) ?_
    refine lv_sipush (v := 8192) hx hb d_RE_read_79 (by decide) ?_
    refine w_cut (pc2 := 263) (σ := Unit) (fun u H locs ls => match u with | _ => va_P (dC, dI) cls (wz_99 h0 aw ac j78_h0_at j78_h0_limit j78_h0_sound j78_h0_codeCount ob j78_h0_openCount ab ax ab_length ax cax gax ob cob j78_ob waf cwaf j78_waf wat cwat j78_wat wap cwap j78_wap wag cwag j78_wag wgt cwgt j78_wgt wft cwft j78_wft wfv cwfv j78_wfv wgc cwgc j78_wgc wek cwek j78_wek wei cwei j78_wei wes cwes j78_wes wez cwez j78_wez cfi ccfi j78_cfi clk cclk j78_clk clt cclt j78_clt cop ccop j78_cop cva ccva j78_cva cpt ccpt j78_cpt cel ccel j78_cel cla ccla j78_cla aw ab ac j78_aw_typeCount wat wap wag j78_aw_functionCount waf j78_aw_hasMemory j78_aw_pagesLeast j78_aw_pagesMost j78_aw_globalCount wgt wft wfv wgc j78_aw_exportCount wek wei wes wez ac cfi clk clt j78_ac_length cop cva cpt cel j78_ac_labelCount cla) H ∧ va_D A (wz_99 h0 aw ac j78_h0_at j78_h0_limit j78_h0_sound j78_h0_codeCount ob j78_h0_openCount ab ax ab_length ax cax gax ob cob j78_ob waf cwaf j78_waf wat cwat j78_wat wap cwap j78_wap wag cwag j78_wag wgt cwgt j78_wgt wft cwft j78_wft wfv cwfv j78_wfv wgc cwgc j78_wgc wek cwek j78_wek wei cwei j78_wei wes cwes j78_wes wez cwez j78_wez cfi ccfi j78_cfi clk cclk j78_clk clt cclt j78_clt cop ccop j78_cop cva ccva j78_cva cpt ccpt j78_cpt cel ccel j78_cel cla ccla j78_cla aw ab ac j78_aw_typeCount wat wap wag j78_aw_functionCount waf j78_aw_hasMemory j78_aw_pagesLeast j78_aw_pagesMost j78_aw_globalCount wgt wft wfv wgc j78_aw_exportCount wek wei wes wez ac cfi clk clt j78_ac_length cop cva cpt cel j78_ac_labelCount cla) ∧ va_S A s.heap H locs ∧ lv_has ls 6 [(0, .ref h0)]) (fun u => match u with | _ => []) ?_ (fun jn263 => ?_)
    · intro u H locs ls hI
      obtain ⟨hP, hD, hS, hl⟩ := hI
      refine lv_aload_n hx hb d_RE_read_263 rfl (lv_at hl 0 rfl) ?_
      refine va_get (D := (dC, dI)) (ci := 7) (v := .int j78_h0_sound) (C := R_RE) (T := F_RE) (N := 8) hx hb hts i_RE hown hK hP 0 rfl rfl 4 (by decide) (hts _ kF_RE_45) (fun _ h9 => h9) rfl d_RE_read_264 ?_
      refine lv_if_eq (tgt := 288) hx hb d_RE_read_267 (by decide) (fun c267 => ?_) (fun c267 => ?_)
      · have q267 := eqI c267
        refine lv_iconst (v := 0) hx hb d_RE_read_288 (by decide) ?_
        have hP9 := hP.sb (wq := (wz_62 h0 aw ac j78_h0_at j78_h0_limit j78_h0_sound j78_h0_codeCount ob j78_h0_openCount aw ab ac j78_aw_typeCount wat wap wag j78_aw_functionCount waf j78_aw_hasMemory j78_aw_pagesLeast j78_aw_pagesMost j78_aw_globalCount wgt wft wfv wgc j78_aw_exportCount wek wei wes wez ab ax ab_length ac cfi clk clt j78_ac_length cop cva cpt cel j78_ac_labelCount cla ax cax gax ob cob j78_ob waf cwaf j78_waf wat cwat j78_wat wap cwap j78_wap wag cwag j78_wag wgt cwgt j78_wgt wft cwft j78_wft wfv cwfv j78_wfv wgc cwgc j78_wgc wek cwek j78_wek wei cwei j78_wei wes cwes j78_wes wez cwez j78_wez cfi ccfi j78_cfi clk cclk j78_clk clt cclt j78_clt cop ccop j78_cop cva ccva j78_cva cpt ccpt j78_cpt cel ccel j78_cel cla ccla j78_cla)) [0, 24, 1, 25, 2, 3, 4, 5, 6, 7, 8, 9, 10, 11, 12, 13, 14, 15, 16, 17, 18, 19, 20, 21, 22, 23] rfl
        have hD9 := hD.sb (wq := (wz_62 h0 aw ac j78_h0_at j78_h0_limit j78_h0_sound j78_h0_codeCount ob j78_h0_openCount aw ab ac j78_aw_typeCount wat wap wag j78_aw_functionCount waf j78_aw_hasMemory j78_aw_pagesLeast j78_aw_pagesMost j78_aw_globalCount wgt wft wfv wgc j78_aw_exportCount wek wei wes wez ab ax ab_length ac cfi clk clt j78_ac_length cop cva cpt cel j78_ac_labelCount cla ax cax gax ob cob j78_ob waf cwaf j78_waf wat cwat j78_wat wap cwap j78_wap wag cwag j78_wag wgt cwgt j78_wgt wft cwft j78_wft wfv cwfv j78_wfv wgc cwgc j78_wgc wek cwek j78_wek wei cwei j78_wei wes cwes j78_wes wez cwez j78_wez cfi ccfi j78_cfi clk cclk j78_clk clt cclt j78_clt cop ccop j78_cop cva ccva j78_cva cpt ccpt j78_cpt cel ccel j78_cel cla ccla j78_cla)) [0, 24, 1, 25, 2, 3, 4, 5, 6, 7, 8, 9, 10, 11, 12, 13, 14, 15, 16, 17, 18, 19, 20, 21, 22, 23] (by decide) rfl
        exact W.zret (v := 0) hx hb hr (zn01 (Or.inl rfl)) (fun t ht hW => ⟨⟨0, (j78_cel, j78_cfi, j78_cla, j78_clk, j78_clt, j78_cop, j78_cpt, j78_cva, j78_ob, j78_waf, j78_wag, j78_wap, j78_wat, j78_wei, j78_wek, j78_wes, j78_wez, j78_wft, j78_wfv, j78_wgc, j78_wgt, j78_ac_labelCount, j78_ac_length, j78_aw_exportCount, j78_aw_functionCount, j78_aw_globalCount, j78_aw_hasMemory, j78_aw_pagesLeast, j78_aw_pagesMost, j78_aw_typeCount, j78_h0_at, j78_h0_codeCount, j78_h0_limit, j78_h0_openCount, j78_h0_sound), rfl, ⟨Or.inl rfl, b_j78_ac_labelCount, b_j78_ac_length, b_j78_aw_exportCount, b_j78_aw_functionCount, b_j78_aw_globalCount, b_j78_aw_hasMemory, b_j78_aw_typeCount, b_j78_h0_codeCount, b_j78_h0_openCount, b_j78_h0_sound, ⟨v2, fun z => absurd z (by decide)⟩⟩, va_P.he ht.symm hP9, va_K.moved hW.alike hK, hD9⟩, hS.F ht⟩) hS.2.2 d_RE_read_289
      · have q267 := neI c267
        refine lv_aload_n hx hb d_RE_read_270 rfl (lv_at hl 0 rfl) ?_
        refine va_get (D := (dC, dI)) (ci := 7) (v := .int j78_h0_codeCount) (C := R_RE) (T := F_RE) (N := 8) hx hb hts i_RE hown hK hP 0 rfl rfl 5 (by decide) (hts _ kF_RE_49) (fun _ h9 => h9) rfl d_RE_read_271 ?_
        refine lv_aload_n hx hb d_RE_read_274 rfl (lv_at hl 0 rfl) ?_
        refine va_get (D := (dC, dI)) (ci := 7) (v := .ref aw) (C := R_RE) (T := F_RE) (N := 8) hx hb hts i_RE hown hK hP 0 rfl rfl 0 (by decide) (hts _ kF_RE_15) (fun _ h9 => h9) rfl d_RE_read_275 ?_
        refine va_get (D := (dC, dI)) (ci := 10) (v := .int j78_aw_functionCount) (C := R_WA) (T := F_WA) (N := 21) hx hb hts i_WA hown hK hP 24 rfl rfl 6 (by decide) (hts _ kF_RE_71) (fun _ h9 => h9) rfl d_RE_read_278 ?_
        refine lv_icmp_ne (tgt := 288) hx hb d_RE_read_281 (by decide) (fun c281 => ?_) (fun c281 => ?_)
        · have q281 := neI c281
          refine lv_iconst (v := 0) hx hb d_RE_read_288 (by decide) ?_
          have hP9 := hP.sb (wq := (wz_62 h0 aw ac j78_h0_at j78_h0_limit j78_h0_sound j78_h0_codeCount ob j78_h0_openCount aw ab ac j78_aw_typeCount wat wap wag j78_aw_functionCount waf j78_aw_hasMemory j78_aw_pagesLeast j78_aw_pagesMost j78_aw_globalCount wgt wft wfv wgc j78_aw_exportCount wek wei wes wez ab ax ab_length ac cfi clk clt j78_ac_length cop cva cpt cel j78_ac_labelCount cla ax cax gax ob cob j78_ob waf cwaf j78_waf wat cwat j78_wat wap cwap j78_wap wag cwag j78_wag wgt cwgt j78_wgt wft cwft j78_wft wfv cwfv j78_wfv wgc cwgc j78_wgc wek cwek j78_wek wei cwei j78_wei wes cwes j78_wes wez cwez j78_wez cfi ccfi j78_cfi clk cclk j78_clk clt cclt j78_clt cop ccop j78_cop cva ccva j78_cva cpt ccpt j78_cpt cel ccel j78_cel cla ccla j78_cla)) [0, 24, 1, 25, 2, 3, 4, 5, 6, 7, 8, 9, 10, 11, 12, 13, 14, 15, 16, 17, 18, 19, 20, 21, 22, 23] rfl
          have hD9 := hD.sb (wq := (wz_62 h0 aw ac j78_h0_at j78_h0_limit j78_h0_sound j78_h0_codeCount ob j78_h0_openCount aw ab ac j78_aw_typeCount wat wap wag j78_aw_functionCount waf j78_aw_hasMemory j78_aw_pagesLeast j78_aw_pagesMost j78_aw_globalCount wgt wft wfv wgc j78_aw_exportCount wek wei wes wez ab ax ab_length ac cfi clk clt j78_ac_length cop cva cpt cel j78_ac_labelCount cla ax cax gax ob cob j78_ob waf cwaf j78_waf wat cwat j78_wat wap cwap j78_wap wag cwag j78_wag wgt cwgt j78_wgt wft cwft j78_wft wfv cwfv j78_wfv wgc cwgc j78_wgc wek cwek j78_wek wei cwei j78_wei wes cwes j78_wes wez cwez j78_wez cfi ccfi j78_cfi clk cclk j78_clk clt cclt j78_clt cop ccop j78_cop cva ccva j78_cva cpt ccpt j78_cpt cel ccel j78_cel cla ccla j78_cla)) [0, 24, 1, 25, 2, 3, 4, 5, 6, 7, 8, 9, 10, 11, 12, 13, 14, 15, 16, 17, 18, 19, 20, 21, 22, 23] (by decide) rfl
          exact W.zret (v := 0) hx hb hr (zn01 (Or.inl rfl)) (fun t ht hW => ⟨⟨0, (j78_cel, j78_cfi, j78_cla, j78_clk, j78_clt, j78_cop, j78_cpt, j78_cva, j78_ob, j78_waf, j78_wag, j78_wap, j78_wat, j78_wei, j78_wek, j78_wes, j78_wez, j78_wft, j78_wfv, j78_wgc, j78_wgt, j78_ac_labelCount, j78_ac_length, j78_aw_exportCount, j78_aw_functionCount, j78_aw_globalCount, j78_aw_hasMemory, j78_aw_pagesLeast, j78_aw_pagesMost, j78_aw_typeCount, j78_h0_at, j78_h0_codeCount, j78_h0_limit, j78_h0_openCount, j78_h0_sound), rfl, ⟨Or.inl rfl, b_j78_ac_labelCount, b_j78_ac_length, b_j78_aw_exportCount, b_j78_aw_functionCount, b_j78_aw_globalCount, b_j78_aw_hasMemory, b_j78_aw_typeCount, b_j78_h0_codeCount, b_j78_h0_openCount, b_j78_h0_sound, ⟨v2, fun z => absurd z (by decide)⟩⟩, va_P.he ht.symm hP9, va_K.moved hW.alike hK, hD9⟩, hS.F ht⟩) hS.2.2 d_RE_read_289
        · have q281 := eqI c281
          refine lv_iconst (v := 1) hx hb d_RE_read_284 (by decide) ?_
          refine lv_goto (tgt := 289) hx hb d_RE_read_285 (by decide) ?_
          have hP9 := hP.sb (wq := (wz_62 h0 aw ac j78_h0_at j78_h0_limit j78_h0_sound j78_h0_codeCount ob j78_h0_openCount aw ab ac j78_aw_typeCount wat wap wag j78_aw_functionCount waf j78_aw_hasMemory j78_aw_pagesLeast j78_aw_pagesMost j78_aw_globalCount wgt wft wfv wgc j78_aw_exportCount wek wei wes wez ab ax ab_length ac cfi clk clt j78_ac_length cop cva cpt cel j78_ac_labelCount cla ax cax gax ob cob j78_ob waf cwaf j78_waf wat cwat j78_wat wap cwap j78_wap wag cwag j78_wag wgt cwgt j78_wgt wft cwft j78_wft wfv cwfv j78_wfv wgc cwgc j78_wgc wek cwek j78_wek wei cwei j78_wei wes cwes j78_wes wez cwez j78_wez cfi ccfi j78_cfi clk cclk j78_clk clt cclt j78_clt cop ccop j78_cop cva ccva j78_cva cpt ccpt j78_cpt cel ccel j78_cel cla ccla j78_cla)) [0, 24, 1, 25, 2, 3, 4, 5, 6, 7, 8, 9, 10, 11, 12, 13, 14, 15, 16, 17, 18, 19, 20, 21, 22, 23] rfl
          have hD9 := hD.sb (wq := (wz_62 h0 aw ac j78_h0_at j78_h0_limit j78_h0_sound j78_h0_codeCount ob j78_h0_openCount aw ab ac j78_aw_typeCount wat wap wag j78_aw_functionCount waf j78_aw_hasMemory j78_aw_pagesLeast j78_aw_pagesMost j78_aw_globalCount wgt wft wfv wgc j78_aw_exportCount wek wei wes wez ab ax ab_length ac cfi clk clt j78_ac_length cop cva cpt cel j78_ac_labelCount cla ax cax gax ob cob j78_ob waf cwaf j78_waf wat cwat j78_wat wap cwap j78_wap wag cwag j78_wag wgt cwgt j78_wgt wft cwft j78_wft wfv cwfv j78_wfv wgc cwgc j78_wgc wek cwek j78_wek wei cwei j78_wei wes cwes j78_wes wez cwez j78_wez cfi ccfi j78_cfi clk cclk j78_clk clt cclt j78_clt cop ccop j78_cop cva ccva j78_cva cpt ccpt j78_cpt cel ccel j78_cel cla ccla j78_cla)) [0, 24, 1, 25, 2, 3, 4, 5, 6, 7, 8, 9, 10, 11, 12, 13, 14, 15, 16, 17, 18, 19, 20, 21, 22, 23] (by decide) rfl
          exact W.zret (v := 1) hx hb hr (zn01 (Or.inr rfl)) (fun t ht hW => ⟨⟨1, (j78_cel, j78_cfi, j78_cla, j78_clk, j78_clt, j78_cop, j78_cpt, j78_cva, j78_ob, j78_waf, j78_wag, j78_wap, j78_wat, j78_wei, j78_wek, j78_wes, j78_wez, j78_wft, j78_wfv, j78_wgc, j78_wgt, j78_ac_labelCount, j78_ac_length, j78_aw_exportCount, j78_aw_functionCount, j78_aw_globalCount, j78_aw_hasMemory, j78_aw_pagesLeast, j78_aw_pagesMost, j78_aw_typeCount, j78_h0_at, j78_h0_codeCount, j78_h0_limit, j78_h0_openCount, j78_h0_sound), rfl, ⟨Or.inr rfl, b_j78_ac_labelCount, b_j78_ac_length, b_j78_aw_exportCount, b_j78_aw_functionCount, b_j78_aw_globalCount, b_j78_aw_hasMemory, b_j78_aw_typeCount, b_j78_h0_codeCount, b_j78_h0_openCount, b_j78_h0_sound, ⟨v2, fun _ => ⟨v3, by have a9 := v6 (by (first | (apply Int.le_antisymm <;> omega) | omega)); rw [show j78_h0_codeCount = j78_aw_functionCount from Int32.toInt_inj.mp (by (first | (apply Int.le_antisymm <;> omega) | omega))] at a9; exact a9⟩⟩⟩, va_P.he ht.symm hP9, va_K.moved hW.alike hK, hD9⟩, hS.F ht⟩) hS.2.2 d_RE_read_289
    · skip
      refine lv_icmp_ge (tgt := 263) hx hb d_RE_read_82 (by decide) (fun c82 => ?_) (fun c82 => ?_)
      · have q82 := leI c82
        exact jn263 () _ _ _ ⟨hP, hD, hS, lv_sub hl [0] rfl⟩
      · have q82 := nleI c82
        refine lv_aload_n hx hb d_RE_read_85 rfl (lv_at hl 0 rfl) ?_
        refine va_get (D := (dC, dI)) (ci := 7) (v := .int j78_h0_sound) (C := R_RE) (T := F_RE) (N := 8) hx hb hts i_RE hown hK hP 0 rfl rfl 4 (by decide) (hts _ kF_RE_45) (fun _ h9 => h9) rfl d_RE_read_86 ?_
        refine lv_if_eq (tgt := 263) hx hb d_RE_read_89 (by decide) (fun c89 => ?_) (fun c89 => ?_)
        · have q89 := eqI c89
          exact jn263 () _ _ _ ⟨hP, hD, hS, lv_sub hl [0] rfl⟩
        · have q89 := neI c89
          refine lv_aload_n hx hb d_RE_read_92 rfl (lv_at hl 0 rfl) ?_
          refine va_get (D := (dC, dI)) (ci := 7) (v := .int j78_h0_at) (C := R_RE) (T := F_RE) (N := 8) hx hb hts i_RE hown hK hP 0 rfl rfl 2 (by decide) (hts _ kF_RE_29) (fun _ h9 => h9) rfl d_RE_read_93 ?_
          refine lv_aload_n hx hb d_RE_read_96 rfl (lv_at hl 0 rfl) ?_
          refine va_get (D := (dC, dI)) (ci := 7) (v := .ref aw) (C := R_RE) (T := F_RE) (N := 8) hx hb hts i_RE hown hK hP 0 rfl rfl 0 (by decide) (hts _ kF_RE_15) (fun _ h9 => h9) rfl d_RE_read_97 ?_
          refine va_get (D := (dC, dI)) (ci := 10) (v := .ref ab) (C := R_WA) (T := F_WA) (N := 21) hx hb hts i_WA hown hK hP 24 rfl rfl 0 (by decide) (hts _ kF_RE_33) (fun _ h9 => h9) rfl d_RE_read_100 ?_
          refine va_get (D := (dC, dI)) (ci := 1) (v := .int ab_length) (C := R_BR) (T := F_BR) (N := 2) hx hb hts i_BR hown hK hP 1 rfl rfl 1 (by decide) (hts _ kF_RE_37) (fun _ h9 => h9) rfl d_RE_read_103 ?_
          refine lv_icmp_ge (tgt := 263) hx hb d_RE_read_106 (by decide) (fun c106 => ?_) (fun c106 => ?_)
          · have q106 := leI c106
            exact jn263 () _ _ _ ⟨hP, hD, hS, lv_sub hl [0] rfl⟩
          · have q106 := nleI c106
            refine lv_aload_n hx hb d_RE_read_109 rfl (lv_at hl 0 rfl) ?_
            have hPc := hP.sb (wq := (wz_46 h0 aw ac j78_h0_at j78_h0_limit j78_h0_sound j78_h0_codeCount ob j78_h0_openCount aw ab ac j78_aw_typeCount wat wap wag j78_aw_functionCount waf j78_aw_hasMemory j78_aw_pagesLeast j78_aw_pagesMost j78_aw_globalCount wgt wft wfv wgc j78_aw_exportCount wek wei wes wez ab ax ab_length ax cax gax)) [0, 24, 1, 2] rfl
            have hDc := hD.sb (wq := (wz_46 h0 aw ac j78_h0_at j78_h0_limit j78_h0_sound j78_h0_codeCount ob j78_h0_openCount aw ab ac j78_aw_typeCount wat wap wag j78_aw_functionCount waf j78_aw_hasMemory j78_aw_pagesLeast j78_aw_pagesMost j78_aw_globalCount wgt wft wfv wgc j78_aw_exportCount wek wei wes wez ab ax ab_length ax cax gax)) [0, 24, 1, 2] (by decide) rfl
            have hKc := hK.sb (tyq := [(cax, .byte)]) [0] rfl
            have hFc := va_free (wc := (wz_46 h0 aw ac j78_h0_at j78_h0_limit j78_h0_sound j78_h0_codeCount ob j78_h0_openCount aw ab ac j78_aw_typeCount wat wap wag j78_aw_functionCount waf j78_aw_hasMemory j78_aw_pagesLeast j78_aw_pagesMost j78_aw_globalCount wgt wft wfv wgc j78_aw_exportCount wek wei wes wez ab ax ab_length ax cax gax)) hD hS hA [0, 24, 1, 2] rfl
            refine va_calli (va_runV (As := []) (rest := []) ⟨hx, hb, hml, hown, hts⟩ (c_RE_next l dC dI h0 aw ac ob ab ax H.size cax 8192 j78_h0_at j78_h0_limit j78_h0_sound j78_h0_codeCount j78_h0_openCount ab_length gax [.ref ab, .ref ac, .int j78_aw_typeCount, .ref wat, .ref wap, .ref wag, .int j78_aw_functionCount, .ref waf, .int j78_aw_hasMemory, .long j78_aw_pagesLeast, .long j78_aw_pagesMost, .int j78_aw_globalCount, .ref wgt, .ref wft, .ref wfv, .ref wgc, .int j78_aw_exportCount, .ref wek, .ref wei, .ref wes, .ref wez] rfl rfl b_j78_h0_sound (by (first | (apply Int.le_antisymm <;> omega) | omega)) ) (cwV 0 hts (gV kM_RE_60 kV_RE_next kS_RE_next kI_RE kC_RE_next) rfl rfl rfl (by decide +kernel) ⟨Nat.le_of_ble_eq_true rfl, Nat.le_of_ble_eq_true rfl⟩) ⟨fun a U g mk z => by obtain ⟨z0, z1, zP, zK, zD⟩ := z; exact ⟨z0, z1, zP, va_K.moved (u := U) (U := U.calling g mk a) (Vm.Alike.refl U.vm) zK, zD⟩, va_recv hKc hPc (ci := 7) (q0 := 0) rfl rfl, fun U hU hW => ⟨rfl, by rw [hU], va_P.he hU.symm hPc, va_K.moved hW.alike hKc, hDc.weaken (fun _ _ _ _ => trivial)⟩⟩ rfl rfl hl.1 rfl (lv_room (Nat.le_of_ble_eq_true rfl)) d_RE_read_110 ⟨(Nat.zero_le _), (Nat.zero_le _)⟩) hS (fun q _ h => hFc q h) hFc (fun r11 u t H1 locs ht hvm hw hB hz1 hk1 hS => ?_)
            obtain ⟨n12, n13⟩ := u
            try dsimp only at hw
            obtain ⟨hsn13, tn12⟩ := hw
            have bsn13 := b01 hsn13
            obtain ⟨hP1, hK1, hD1⟩ := hB
            replace hP1 := va_P.he ht hP1
            obtain ⟨hP, hD⟩ := va_join (wr := (wz_100 ob cob j78_ob waf cwaf j78_waf wat cwat j78_wat wap cwap j78_wap wag cwag j78_wag wgt cwgt j78_wgt wft cwft j78_wft wfv cwfv j78_wfv wgc cwgc j78_wgc wek cwek j78_wek wei cwei j78_wei wes cwes j78_wes wez cwez j78_wez cfi ccfi j78_cfi clk cclk j78_clk clt cclt j78_clt cop ccop j78_cop cva ccva j78_cva cpt ccpt j78_cpt cel ccel j78_cel cla ccla j78_cla ac cfi clk clt j78_ac_length cop cva cpt cel j78_ac_labelCount cla)) (w1 := (wz_46 h0 aw ac n12 j78_h0_limit n13 j78_h0_codeCount ob j78_h0_openCount aw ab ac j78_aw_typeCount wat wap wag j78_aw_functionCount waf j78_aw_hasMemory j78_aw_pagesLeast j78_aw_pagesMost j78_aw_globalCount wgt wft wfv wgc j78_aw_exportCount wek wei wes wez ab ax ab_length ax cax gax)) hP hD [0, 24, 1, 2] [3, 4, 5, 6, 7, 8, 9, 10, 11, 12, 13, 14, 15, 16, 17, 18, 19, 20, 21, 22, 23, 25] rfl rfl (by decide) (by decide) hk1 hFc hP1 hD1
            clear hPc hDc hKc hFc hz1 hk1 hP1 hK1 hD1
            rename Heap => H
            have hP : va_P (dC, dI) cls (wz_101 ob cob j78_ob waf cwaf j78_waf wat cwat j78_wat wap cwap j78_wap wag cwag j78_wag wgt cwgt j78_wgt wft cwft j78_wft wfv cwfv j78_wfv wgc cwgc j78_wgc wek cwek j78_wek wei cwei j78_wei wes cwes j78_wes wez cwez j78_wez cfi ccfi j78_cfi clk cclk j78_clk clt cclt j78_clt cop ccop j78_cop cva ccva j78_cva cpt ccpt j78_cpt cel ccel j78_cel cla ccla j78_cla ac cfi clk clt j78_ac_length cop cva cpt cel j78_ac_labelCount cla h0 aw ac n12 j78_h0_limit n13 j78_h0_codeCount ob j78_h0_openCount aw ab ac j78_aw_typeCount wat wap wag j78_aw_functionCount waf j78_aw_hasMemory j78_aw_pagesLeast j78_aw_pagesMost j78_aw_globalCount wgt wft wfv wgc j78_aw_exportCount wek wei wes wez ab ax ab_length ax cax gax) H := hP
            have hD : va_D A (wz_101 ob cob j78_ob waf cwaf j78_waf wat cwat j78_wat wap cwap j78_wap wag cwag j78_wag wgt cwgt j78_wgt wft cwft j78_wft wfv cwfv j78_wfv wgc cwgc j78_wgc wek cwek j78_wek wei cwei j78_wei wes cwes j78_wes wez cwez j78_wez cfi ccfi j78_cfi clk cclk j78_clk clt cclt j78_clt cop ccop j78_cop cva ccva j78_cva cpt ccpt j78_cpt cel ccel j78_cel cla ccla j78_cla ac cfi clk clt j78_ac_length cop cva cpt cel j78_ac_labelCount cla h0 aw ac n12 j78_h0_limit n13 j78_h0_codeCount ob j78_h0_openCount aw ab ac j78_aw_typeCount wat wap wag j78_aw_functionCount waf j78_aw_hasMemory j78_aw_pagesLeast j78_aw_pagesMost j78_aw_globalCount wgt wft wfv wgc j78_aw_exportCount wek wei wes wez ab ax ab_length ax cax gax) := hD
            refine lv_istore (lv' := [(4, .int r11), (0, .ref h0), (2, .int j78_l2), (3, .int j78_l3)]) hx hb d_RE_read_113 hl (by decide) rfl (fun ls hl => ?_)
            refine lv_aload_n hx hb d_RE_read_115 rfl (lv_at hl 1 rfl) ?_
            refine lv_aload_n hx hb d_RE_read_116 rfl (lv_at hl 1 rfl) ?_
            refine va_get (D := (dC, dI)) (ci := 7) (v := .ref aw) (C := R_RE) (T := F_RE) (N := 8) hx hb hts i_RE hown hK hP 22 rfl rfl 0 (by decide) (hts _ kF_RE_15) (fun _ h9 => h9) rfl d_RE_read_117 ?_
            refine va_get (D := (dC, dI)) (ci := 10) (v := .ref ab) (C := R_WA) (T := F_WA) (N := 21) hx hb hts i_WA hown hK hP 23 rfl rfl 0 (by decide) (hts _ kF_RE_33) (fun _ h9 => h9) rfl d_RE_read_120 ?_
            refine va_get (D := (dC, dI)) (ci := 1) (v := .int ab_length) (C := R_BR) (T := F_BR) (N := 2) hx hb hts i_BR hown hK hP 24 rfl rfl 1 (by decide) (hts _ kF_RE_37) (fun _ h9 => h9) rfl d_RE_read_123 ?_
            refine lv_i2l hx hb d_RE_read_126 rfl ?_
            refine lv_topl (fun x14 ex14 => ?_)
            have tx14 := i2l_t ex14
            have hPc := hP.sb (wq := (wz_46 h0 aw ac n12 j78_h0_limit n13 j78_h0_codeCount ob j78_h0_openCount aw ab ac j78_aw_typeCount wat wap wag j78_aw_functionCount waf j78_aw_hasMemory j78_aw_pagesLeast j78_aw_pagesMost j78_aw_globalCount wgt wft wfv wgc j78_aw_exportCount wek wei wes wez ab ax ab_length ax cax gax)) [22, 23, 24, 25] rfl
            have hDc := hD.sb (wq := (wz_46 h0 aw ac n12 j78_h0_limit n13 j78_h0_codeCount ob j78_h0_openCount aw ab ac j78_aw_typeCount wat wap wag j78_aw_functionCount waf j78_aw_hasMemory j78_aw_pagesLeast j78_aw_pagesMost j78_aw_globalCount wgt wft wfv wgc j78_aw_exportCount wek wei wes wez ab ax ab_length ax cax gax)) [22, 23, 24, 25] (by decide) rfl
            have hKc := hK.sb (tyq := [(cax, .byte)]) [0] rfl
            have hFc := va_free (wc := (wz_46 h0 aw ac n12 j78_h0_limit n13 j78_h0_codeCount ob j78_h0_openCount aw ab ac j78_aw_typeCount wat wap wag j78_aw_functionCount waf j78_aw_hasMemory j78_aw_pagesLeast j78_aw_pagesMost j78_aw_globalCount wgt wft wfv wgc j78_aw_exportCount wek wei wes wez ab ax ab_length ax cax gax)) hD hS hA [22, 23, 24, 25] rfl
            refine va_calll (va_runV (As := [.long x14]) (rest := []) ⟨hx, hb, hml, hown, hts⟩ (c_RE_readUnsigned l dC dI h0 aw ac ob ab ax H.size cax 8192 n12 j78_h0_limit n13 j78_h0_codeCount j78_h0_openCount ab_length gax [.ref ab, .ref ac, .int j78_aw_typeCount, .ref wat, .ref wap, .ref wag, .int j78_aw_functionCount, .ref waf, .int j78_aw_hasMemory, .long j78_aw_pagesLeast, .long j78_aw_pagesMost, .int j78_aw_globalCount, .ref wgt, .ref wft, .ref wfv, .ref wgc, .int j78_aw_exportCount, .ref wek, .ref wei, .ref wes, .ref wez] rfl rfl hsn13 (by (first | (apply Int.le_antisymm <;> omega) | omega)) x14 (by (first | (apply Int.le_antisymm <;> omega) | omega))) (cwV 1 hts (gV kM_RE_64 kV_RE_readUnsigned kS_RE_readUnsigned kI_RE kC_RE_readUnsigned) rfl rfl rfl (by decide +kernel) ⟨Nat.le_of_ble_eq_true rfl, Nat.le_of_ble_eq_true rfl⟩) ⟨fun a U g mk z => by obtain ⟨z0, z1, zP, zK, zD⟩ := z; exact ⟨z0, z1, zP, va_K.moved (u := U) (U := U.calling g mk a) (Vm.Alike.refl U.vm) zK, zD⟩, va_recv hKc hPc (ci := 7) (q0 := 0) rfl rfl, fun U hU hW => ⟨rfl, by rw [hU], va_P.he hU.symm hPc, va_K.moved hW.alike hKc, hDc.weaken (fun _ _ _ _ => trivial)⟩⟩ rfl rfl hl.1 rfl (lv_room (Nat.le_of_ble_eq_true rfl)) d_RE_read_127 ⟨(Nat.zero_le _), (Nat.zero_le _)⟩) hS (fun q _ h => hFc q h) hFc (fun r15 u t H1 locs ht hvm hw hB hz1 hk1 hS => ?_)
            obtain ⟨n16, n17⟩ := u
            try dsimp only at hw
            obtain ⟨hsn17, tn16⟩ := hw
            have bsn17 := b01 hsn17
            obtain ⟨hP1, hK1, hD1⟩ := hB
            replace hP1 := va_P.he ht hP1
            obtain ⟨hP, hD⟩ := va_join (wr := (wz_100 ob cob j78_ob waf cwaf j78_waf wat cwat j78_wat wap cwap j78_wap wag cwag j78_wag wgt cwgt j78_wgt wft cwft j78_wft wfv cwfv j78_wfv wgc cwgc j78_wgc wek cwek j78_wek wei cwei j78_wei wes cwes j78_wes wez cwez j78_wez cfi ccfi j78_cfi clk cclk j78_clk clt cclt j78_clt cop ccop j78_cop cva ccva j78_cva cpt ccpt j78_cpt cel ccel j78_cel cla ccla j78_cla ac cfi clk clt j78_ac_length cop cva cpt cel j78_ac_labelCount cla)) (w1 := (wz_46 h0 aw ac n16 j78_h0_limit n17 j78_h0_codeCount ob j78_h0_openCount aw ab ac j78_aw_typeCount wat wap wag j78_aw_functionCount waf j78_aw_hasMemory j78_aw_pagesLeast j78_aw_pagesMost j78_aw_globalCount wgt wft wfv wgc j78_aw_exportCount wek wei wes wez ab ax ab_length ax cax gax)) hP hD [22, 23, 24, 25] [0, 1, 2, 3, 4, 5, 6, 7, 8, 9, 10, 11, 12, 13, 14, 15, 16, 17, 18, 19, 20, 21] rfl rfl (by decide) (by decide) hk1 hFc hP1 hD1
            clear hPc hDc hKc hFc hz1 hk1 hP1 hK1 hD1
            rename Heap => H
            have hP : va_P (dC, dI) cls (wz_101 ob cob j78_ob waf cwaf j78_waf wat cwat j78_wat wap cwap j78_wap wag cwag j78_wag wgt cwgt j78_wgt wft cwft j78_wft wfv cwfv j78_wfv wgc cwgc j78_wgc wek cwek j78_wek wei cwei j78_wei wes cwes j78_wes wez cwez j78_wez cfi ccfi j78_cfi clk cclk j78_clk clt cclt j78_clt cop ccop j78_cop cva ccva j78_cva cpt ccpt j78_cpt cel ccel j78_cel cla ccla j78_cla ac cfi clk clt j78_ac_length cop cva cpt cel j78_ac_labelCount cla h0 aw ac n16 j78_h0_limit n17 j78_h0_codeCount ob j78_h0_openCount aw ab ac j78_aw_typeCount wat wap wag j78_aw_functionCount waf j78_aw_hasMemory j78_aw_pagesLeast j78_aw_pagesMost j78_aw_globalCount wgt wft wfv wgc j78_aw_exportCount wek wei wes wez ab ax ab_length ax cax gax) H := hP
            have hD : va_D A (wz_101 ob cob j78_ob waf cwaf j78_waf wat cwat j78_wat wap cwap j78_wap wag cwag j78_wag wgt cwgt j78_wgt wft cwft j78_wft wfv cwfv j78_wfv wgc cwgc j78_wgc wek cwek j78_wek wei cwei j78_wei wes cwes j78_wes wez cwez j78_wez cfi ccfi j78_cfi clk cclk j78_clk clt cclt j78_clt cop ccop j78_cop cva ccva j78_cva cpt ccpt j78_cpt cel ccel j78_cel cla ccla j78_cla ac cfi clk clt j78_ac_length cop cva cpt cel j78_ac_labelCount cla h0 aw ac n16 j78_h0_limit n17 j78_h0_codeCount ob j78_h0_openCount aw ab ac j78_aw_typeCount wat wap wag j78_aw_functionCount waf j78_aw_hasMemory j78_aw_pagesLeast j78_aw_pagesMost j78_aw_globalCount wgt wft wfv wgc j78_aw_exportCount wek wei wes wez ab ax ab_length ax cax gax) := hD
            refine lv_l2i hx hb d_RE_read_130 rfl ?_
            refine lv_topi (fun x18 ex18 => ?_)
            have tx18 := l2i_t ex18 (by (first | (apply Int.le_antisymm <;> omega) | omega)) (by (first | (apply Int.le_antisymm <;> omega) | omega))
            refine lv_istore (lv' := [(5, .int x18), (4, .int r11), (0, .ref h0), (2, .int j78_l2), (3, .int j78_l3)]) hx hb d_RE_read_131 hl (by decide) rfl (fun ls hl => ?_)
            refine lv_aload_n hx hb d_RE_read_133 rfl (lv_at hl 2 rfl) ?_
            refine lv_aload_n hx hb d_RE_read_134 rfl (lv_at hl 2 rfl) ?_
            refine va_get (D := (dC, dI)) (ci := 7) (v := .int n17) (C := R_RE) (T := F_RE) (N := 8) hx hb hts i_RE hown hK hP 22 rfl rfl 4 (by decide) (hts _ kF_RE_45) (fun _ h9 => h9) rfl d_RE_read_135 ?_
            refine w_cut (pc2 := 177) (σ := Int32) (fun u H locs ls => match u with | j177_s0 => (j177_s0 = 0 ∨ j177_s0 = 1) ∧ (j177_s0.toInt = 1 → n17.toInt = 1 ∧ x18.toInt ≤ ab_length.toInt - n16.toInt) ∧ va_P (dC, dI) cls (wz_101 ob cob j78_ob waf cwaf j78_waf wat cwat j78_wat wap cwap j78_wap wag cwag j78_wag wgt cwgt j78_wgt wft cwft j78_wft wfv cwfv j78_wfv wgc cwgc j78_wgc wek cwek j78_wek wei cwei j78_wei wes cwes j78_wes wez cwez j78_wez cfi ccfi j78_cfi clk cclk j78_clk clt cclt j78_clt cop ccop j78_cop cva ccva j78_cva cpt ccpt j78_cpt cel ccel j78_cel cla ccla j78_cla ac cfi clk clt j78_ac_length cop cva cpt cel j78_ac_labelCount cla h0 aw ac n16 j78_h0_limit n17 j78_h0_codeCount ob j78_h0_openCount aw ab ac j78_aw_typeCount wat wap wag j78_aw_functionCount waf j78_aw_hasMemory j78_aw_pagesLeast j78_aw_pagesMost j78_aw_globalCount wgt wft wfv wgc j78_aw_exportCount wek wei wes wez ab ax ab_length ax cax gax) H ∧ va_D A (wz_101 ob cob j78_ob waf cwaf j78_waf wat cwat j78_wat wap cwap j78_wap wag cwag j78_wag wgt cwgt j78_wgt wft cwft j78_wft wfv cwfv j78_wfv wgc cwgc j78_wgc wek cwek j78_wek wei cwei j78_wei wes cwes j78_wes wez cwez j78_wez cfi ccfi j78_cfi clk cclk j78_clk clt cclt j78_clt cop ccop j78_cop cva ccva j78_cva cpt ccpt j78_cpt cel ccel j78_cel cla ccla j78_cla ac cfi clk clt j78_ac_length cop cva cpt cel j78_ac_labelCount cla h0 aw ac n16 j78_h0_limit n17 j78_h0_codeCount ob j78_h0_openCount aw ab ac j78_aw_typeCount wat wap wag j78_aw_functionCount waf j78_aw_hasMemory j78_aw_pagesLeast j78_aw_pagesMost j78_aw_globalCount wgt wft wfv wgc j78_aw_exportCount wek wei wes wez ab ax ab_length ax cax gax) ∧ va_S A s.heap H locs ∧ lv_has ls 6 [(0, .ref h0), (2, .int j78_l2), (3, .int j78_l3), (4, .int r11), (5, .int x18)]) (fun u => match u with | j177_s0 => [.int j177_s0, .ref h0]) ?_ (fun jn177 => ?_)
            · intro u H locs ls hI
              obtain ⟨j177_s0, rfl⟩ : ∃ z, z = u := ⟨_, rfl⟩
              obtain ⟨b_j177_s0, x0, hP, hD, hS, hl⟩ := hI
              have tj177_s0 := b01 b_j177_s0
              refine va_put (D := (dC, dI)) (ci := 7) (v := .int j177_s0) (ty := .boolean) (C := R_RE) (T := F_RE) (N := 8) hx hb hts i_RE t_RE t_RE_ok n_RE hown hK hP hD hS 22 rfl rfl 4 (by decide) (hts _ kF_RE_45) (fun _ h9 => h9) rfl (by decide +kernel) (zn01 (b_j177_s0)) (fz01 (b_j177_s0)) (Nat.le_of_ble_eq_true rfl) d_RE_read_177 (fun H locs hP hD hS => ?_)
              refine lv_aload_n hx hb d_RE_read_180 rfl (lv_at hl 0 rfl) ?_
              refine va_get (D := (dC, dI)) (ci := 7) (v := .int j177_s0) (C := R_RE) (T := F_RE) (N := 8) hx hb hts i_RE hown hK hP 22 rfl rfl 4 (by decide) (hts _ kF_RE_45) (fun _ h9 => h9) rfl d_RE_read_181 ?_
              refine lv_if_eq (tgt := 257) hx hb d_RE_read_184 (by decide) (fun c184 => ?_) (fun c184 => ?_)
              · have q184 := eqI c184
                obtain ⟨x19, ex19⟩ : ∃ z : Int32, z = j78_l3 + 1 := ⟨_, rfl⟩
                have tx19 : x19.toInt = j78_l3.toInt + 1 := by have z := i32_add ex19 (by (first | (apply Int.le_antisymm <;> omega) | omega)) (by (first | (apply Int.le_antisymm <;> omega) | omega)); first | exact z | (first | (apply Int.le_antisymm <;> omega) | omega)
                refine lv_iinc (v := x19) (lv' := [(3, .int x19), (0, .ref h0), (2, .int j78_l2), (4, .int r11), (5, .int x18)]) hx hb d_RE_read_257 hl (k := 2) rfl (by rw [ex19]; rfl) (by decide) rfl (fun ls hl => ?_)
                refine lv_goto (tgt := 78) hx hb d_RE_read_260 (by decide) ?_
                exact ih78 (j78_l2, x19, j78_cel, j78_cfi, j78_cla, j78_clk, j78_clt, j78_cop, j78_cpt, j78_cva, j78_ob, j78_waf, j78_wag, j78_wap, j78_wat, j78_wei, j78_wek, j78_wes, j78_wez, j78_wft, j78_wfv, j78_wgc, j78_wgt, j78_ac_labelCount, j78_ac_length, j78_aw_exportCount, j78_aw_functionCount, j78_aw_globalCount, j78_aw_hasMemory, j78_aw_pagesLeast, j78_aw_pagesMost, j78_aw_typeCount, n16, j78_h0_codeCount, j78_h0_limit, j78_h0_openCount, j177_s0) _ _ _ (by show (8192 - x19.toInt).toNat < N78; (first | (apply Int.le_antisymm <;> omega) | omega)) ⟨by (try dsimp only) <;> (first | (apply Int.le_antisymm <;> omega) | omega), b_j78_ac_labelCount, b_j78_ac_length, b_j78_aw_exportCount, b_j78_aw_functionCount, b_j78_aw_globalCount, b_j78_aw_hasMemory, b_j78_aw_typeCount, b_j78_h0_codeCount, b_j78_h0_openCount, b_j177_s0, by (try dsimp only) <;> (first | (apply Int.le_antisymm <;> omega) | omega), v2, v3, fun z => absurd z (by (try dsimp only); (first | (apply Int.le_antisymm <;> omega) | omega)), hP.sub [22, 24, 25, 0, 1, 2, 3, 4, 5, 6, 7, 8, 9, 10, 11, 12, 13, 14, 15, 16, 17, 18, 19, 20, 23, 21] rfl, hD.sub [22, 24, 25, 0, 1, 2, 3, 4, 5, 6, 7, 8, 9, 10, 11, 12, 13, 14, 15, 16, 17, 18, 19, 20, 23, 21] (by decide) rfl, hS, lv_sub hl [1, 2, 0] rfl⟩
              · have q184 := neI c184
                refine lv_iload hx hb d_RE_read_187 (lv_at hl 3 rfl) ?_
                refine w_cut (pc2 := 198) (σ := Int32) (fun u H locs ls => match u with | j198_s0 => va_P (dC, dI) cls (wz_101 ob cob j78_ob waf cwaf j78_waf wat cwat j78_wat wap cwap j78_wap wag cwag j78_wag wgt cwgt j78_wgt wft cwft j78_wft wfv cwfv j78_wfv wgc cwgc j78_wgc wek cwek j78_wek wei cwei j78_wei wes cwes j78_wes wez cwez j78_wez cfi ccfi j78_cfi clk cclk j78_clk clt cclt j78_clt cop ccop j78_cop cva ccva j78_cva cpt ccpt j78_cpt cel ccel j78_cel cla ccla j78_cla ac cfi clk clt j78_ac_length cop cva cpt cel j78_ac_labelCount cla h0 aw ac n16 j78_h0_limit j177_s0 j78_h0_codeCount ob j78_h0_openCount aw ab ac j78_aw_typeCount wat wap wag j78_aw_functionCount waf j78_aw_hasMemory j78_aw_pagesLeast j78_aw_pagesMost j78_aw_globalCount wgt wft wfv wgc j78_aw_exportCount wek wei wes wez ab ax ab_length ax cax gax) H ∧ va_D A (wz_101 ob cob j78_ob waf cwaf j78_waf wat cwat j78_wat wap cwap j78_wap wag cwag j78_wag wgt cwgt j78_wgt wft cwft j78_wft wfv cwfv j78_wfv wgc cwgc j78_wgc wek cwek j78_wek wei cwei j78_wei wes cwes j78_wes wez cwez j78_wez cfi ccfi j78_cfi clk cclk j78_clk clt cclt j78_clt cop ccop j78_cop cva ccva j78_cva cpt ccpt j78_cpt cel ccel j78_cel cla ccla j78_cla ac cfi clk clt j78_ac_length cop cva cpt cel j78_ac_labelCount cla h0 aw ac n16 j78_h0_limit j177_s0 j78_h0_codeCount ob j78_h0_openCount aw ab ac j78_aw_typeCount wat wap wag j78_aw_functionCount waf j78_aw_hasMemory j78_aw_pagesLeast j78_aw_pagesMost j78_aw_globalCount wgt wft wfv wgc j78_aw_exportCount wek wei wes wez ab ax ab_length ax cax gax) ∧ va_S A s.heap H locs ∧ lv_has ls 6 [(0, .ref h0), (3, .int j78_l3), (4, .int r11), (5, .int x18)]) (fun u => match u with | j198_s0 => [.int j198_s0]) ?_ (fun jn198 => ?_)
                · intro u H locs ls hI
                  obtain ⟨j198_s0, rfl⟩ : ∃ z, z = u := ⟨_, rfl⟩
                  obtain ⟨hP, hD, hS, hl⟩ := hI
                  refine lv_istore_n (lv' := [(2, .int j198_s0), (0, .ref h0), (3, .int j78_l3), (4, .int r11), (5, .int x18)]) hx hb d_RE_read_198 rfl hl (by decide) rfl (fun ls hl => ?_)
                  refine lv_aload_n hx hb d_RE_read_199 rfl (lv_at hl 1 rfl) ?_
                  refine lv_aload_n hx hb d_RE_read_200 rfl (lv_at hl 1 rfl) ?_
                  refine va_get (D := (dC, dI)) (ci := 7) (v := .int n16) (C := R_RE) (T := F_RE) (N := 8) hx hb hts i_RE hown hK hP 22 rfl rfl 2 (by decide) (hts _ kF_RE_29) (fun _ h9 => h9) rfl d_RE_read_201 ?_
                  refine lv_iload hx hb d_RE_read_204 (lv_at hl 4 rfl) ?_
                  refine lv_iadd hx hb d_RE_read_206 ?_
                  refine lv_topi (fun x20 ex20 => ?_)
                  have tx20 : x20.toInt = n16.toInt + x18.toInt := by have z := i32_add ex20 (by (first | (apply Int.le_antisymm <;> omega) | omega)) (by (first | (apply Int.le_antisymm <;> omega) | omega)); first | exact z | (first | (apply Int.le_antisymm <;> omega) | omega)
                  refine va_put (D := (dC, dI)) (ci := 7) (v := .int x20) (ty := .int) (C := R_RE) (T := F_RE) (N := 8) hx hb hts i_RE t_RE t_RE_ok n_RE hown hK hP hD hS 22 rfl rfl 3 (by decide) (hts _ kF_RE_42) (fun _ h9 => h9) rfl (by decide +kernel) rfl rfl (Nat.le_of_ble_eq_true rfl) d_RE_read_207 (fun H locs hP hD hS => ?_)
                  refine lv_aload_n hx hb d_RE_read_210 rfl (lv_at hl 1 rfl) ?_
                  refine lv_iload hx hb d_RE_read_211 (lv_at hl 3 rfl) ?_
                  have hPc := hP.sb (wq := (wz_62 h0 aw ac n16 x20 j177_s0 j78_h0_codeCount ob j78_h0_openCount aw ab ac j78_aw_typeCount wat wap wag j78_aw_functionCount waf j78_aw_hasMemory j78_aw_pagesLeast j78_aw_pagesMost j78_aw_globalCount wgt wft wfv wgc j78_aw_exportCount wek wei wes wez ab ax ab_length ac cfi clk clt j78_ac_length cop cva cpt cel j78_ac_labelCount cla ax cax gax ob cob j78_ob waf cwaf j78_waf wat cwat j78_wat wap cwap j78_wap wag cwag j78_wag wgt cwgt j78_wgt wft cwft j78_wft wfv cwfv j78_wfv wgc cwgc j78_wgc wek cwek j78_wek wei cwei j78_wei wes cwes j78_wes wez cwez j78_wez cfi ccfi j78_cfi clk cclk j78_clk clt cclt j78_clt cop ccop j78_cop cva ccva j78_cva cpt ccpt j78_cpt cel ccel j78_cel cla ccla j78_cla)) [22, 23, 24, 21, 25, 0, 1, 2, 3, 4, 5, 6, 7, 8, 9, 10, 11, 12, 13, 14, 15, 16, 17, 18, 19, 20] rfl
                  have hDc := hD.sb (wq := (wz_62 h0 aw ac n16 x20 j177_s0 j78_h0_codeCount ob j78_h0_openCount aw ab ac j78_aw_typeCount wat wap wag j78_aw_functionCount waf j78_aw_hasMemory j78_aw_pagesLeast j78_aw_pagesMost j78_aw_globalCount wgt wft wfv wgc j78_aw_exportCount wek wei wes wez ab ax ab_length ac cfi clk clt j78_ac_length cop cva cpt cel j78_ac_labelCount cla ax cax gax ob cob j78_ob waf cwaf j78_waf wat cwat j78_wat wap cwap j78_wap wag cwag j78_wag wgt cwgt j78_wgt wft cwft j78_wft wfv cwfv j78_wfv wgc cwgc j78_wgc wek cwek j78_wek wei cwei j78_wei wes cwes j78_wes wez cwez j78_wez cfi ccfi j78_cfi clk cclk j78_clk clt cclt j78_clt cop ccop j78_cop cva ccva j78_cva cpt ccpt j78_cpt cel ccel j78_cel cla ccla j78_cla)) [22, 23, 24, 21, 25, 0, 1, 2, 3, 4, 5, 6, 7, 8, 9, 10, 11, 12, 13, 14, 15, 16, 17, 18, 19, 20] (by decide) rfl
                  have hKc := hK.sb (tyq := [(cax, .byte), (cob, .int), (cwaf, .int), (cwat, .int), (cwap, .int), (cwag, .int), (cwgt, .int), (cwft, .int), (cwfv, .long), (cwgc, .boolean), (cwek, .int), (cwei, .int), (cwes, .int), (cwez, .int), (ccfi, .int), (cclk, .int), (cclt, .int), (ccop, .int), (ccva, .long), (ccpt, .int), (ccel, .int), (ccla, .int)]) [0, 1, 2, 3, 4, 5, 6, 7, 8, 9, 10, 11, 12, 13, 14, 15, 16, 17, 18, 19, 20, 21] rfl
                  have hFc := va_free (wc := (wz_62 h0 aw ac n16 x20 j177_s0 j78_h0_codeCount ob j78_h0_openCount aw ab ac j78_aw_typeCount wat wap wag j78_aw_functionCount waf j78_aw_hasMemory j78_aw_pagesLeast j78_aw_pagesMost j78_aw_globalCount wgt wft wfv wgc j78_aw_exportCount wek wei wes wez ab ax ab_length ac cfi clk clt j78_ac_length cop cva cpt cel j78_ac_labelCount cla ax cax gax ob cob j78_ob waf cwaf j78_waf wat cwat j78_wat wap cwap j78_wap wag cwag j78_wag wgt cwgt j78_wgt wft cwft j78_wft wfv cwfv j78_wfv wgc cwgc j78_wgc wek cwek j78_wek wei cwei j78_wei wes cwes j78_wes wez cwez j78_wez cfi ccfi j78_cfi clk cclk j78_clk clt cclt j78_clt cop ccop j78_cop cva ccva j78_cva cpt ccpt j78_cpt cel ccel j78_cel cla ccla j78_cla)) hD hS hA [22, 23, 24, 21, 25, 0, 1, 2, 3, 4, 5, 6, 7, 8, 9, 10, 11, 12, 13, 14, 15, 16, 17, 18, 19, 20] rfl
                  refine va_callv (va_runV (As := [.int r11]) (rest := []) ⟨hx, hb, hml, hown, hts⟩ (c_RE_readSection l dC dI H.size h0 aw ac ob ab wat wap wag waf wgt wft wfv wgc wek wei wes wez ax cfi clk clt cop cva cpt cel cla cax cob cwaf cwat cwap cwag cwgt cwft cwfv cwgc cwek cwei cwes cwez ccfi cclk cclt ccop ccva ccpt ccel ccla n16 x20 j177_s0 j78_h0_codeCount j78_h0_openCount j78_aw_typeCount j78_aw_functionCount j78_aw_hasMemory j78_aw_pagesLeast j78_aw_pagesMost j78_aw_globalCount j78_aw_exportCount ab_length j78_ac_length j78_ac_labelCount gax j78_ob j78_waf j78_wat j78_wap j78_wag j78_wgt j78_wft j78_wfv j78_wgc j78_wek j78_wei j78_wes j78_wez j78_cfi j78_clk j78_clt j78_cop j78_cva j78_cpt j78_cel j78_cla (b_j177_s0) (b_j78_h0_codeCount) (b_j78_h0_openCount) (b_j78_aw_typeCount) (b_j78_aw_functionCount) (b_j78_aw_hasMemory) (b_j78_aw_globalCount) (b_j78_aw_exportCount) (b_j78_ac_length) (b_j78_ac_labelCount) r11 (by (first | (apply Int.le_antisymm <;> omega) | omega)) (v2) (v3)) (cwV 1 hts (gV kM_RE_68 kV_RE_readSection kS_RE_readSection kI_RE kC_RE_readSection) rfl rfl rfl (by decide +kernel) ⟨Nat.le_of_ble_eq_true rfl, Nat.le_of_ble_eq_true rfl⟩) ⟨fun a U g mk z => by obtain ⟨z0, z1, zP, zK, zD⟩ := z; exact ⟨z0, z1, zP, va_K.moved (u := U) (U := U.calling g mk a) (Vm.Alike.refl U.vm) zK, zD⟩, va_recv hKc hPc (ci := 7) (q0 := 0) rfl rfl, fun U hU hW => ⟨rfl, by rw [hU], va_P.he hU.symm hPc, va_K.moved hW.alike hKc, hDc.weaken (fun _ _ _ _ => trivial)⟩⟩ rfl rfl hl.1 rfl (lv_room (Nat.le_of_ble_eq_true rfl)) d_RE_read_213 ⟨(Nat.zero_le _), (Nat.zero_le _)⟩) hS (fun q _ h => hFc q h) hFc (fun u t H1 locs ht hvm hw hB hz1 hk1 hS => ?_)
                  obtain ⟨n22, n23, n24, n25, n26, n27, n28, n29, n30, n31, hq9r⟩ := u
                  obtain ⟨n32, n33, n34, n35, n36, n37, n38, n39, n40, n41, hq9r⟩ := hq9r
                  obtain ⟨n42, n43, n44, n45, n46, n47, n48, n49, n50, n51, hq9r⟩ := hq9r
                  obtain ⟨n52, n53, n54, n55, n56⟩ := hq9r
                  try dsimp only at hw
                  obtain ⟨bn43, bn44, bn45, bn46, bn47, bn48, bn51, bn53, bn55, bn56, xr21⟩ := hw
                  try clear hw
                  have tn48 := b01 bn48
                  have tn56 := b01 bn56
                  have g1 := xr21.1
                  have g2 := xr21.2.1
                  replace xr21 : bx _ := xr21
                  obtain ⟨hP1, hK1, hD1⟩ := hB
                  replace hP1 := va_P.he ht hP1
                  obtain ⟨hP, hD⟩ := va_join (wr := []) (w1 := (wz_62 h0 aw ac n52 n54 n56 n53 ob n55 aw ab ac n51 wat wap wag n46 waf n48 n49 n50 n47 wgt wft wfv wgc n45 wek wei wes wez ab ax ab_length ac cfi clk clt n44 cop cva cpt cel n43 cla ax cax gax ob cob n30 waf cwaf n31 wat cwat n34 wap cwap n33 wag cwag n32 wgt cwgt n42 wft cwft n39 wfv cwfv n40 wgc cwgc n41 wek cwek n36 wei cwei n35 wes cwes n37 wez cwez n38 cfi ccfi n23 clk cclk n25 clt cclt n26 cop ccop n27 cva ccva n29 cpt ccpt n28 cel ccel n22 cla ccla n24)) hP hD [22, 23, 24, 21, 25, 0, 1, 2, 3, 4, 5, 6, 7, 8, 9, 10, 11, 12, 13, 14, 15, 16, 17, 18, 19, 20] [] rfl rfl (by decide) (by decide) hk1 hFc hP1 hD1
                  clear hPc hDc hKc hFc hz1 hk1 hP1 hK1 hD1
                  rename Heap => H
                  have hP : va_P (dC, dI) cls (wz_62 h0 aw ac n52 n54 n56 n53 ob n55 aw ab ac n51 wat wap wag n46 waf n48 n49 n50 n47 wgt wft wfv wgc n45 wek wei wes wez ab ax ab_length ac cfi clk clt n44 cop cva cpt cel n43 cla ax cax gax ob cob n30 waf cwaf n31 wat cwat n34 wap cwap n33 wag cwag n32 wgt cwgt n42 wft cwft n39 wfv cwfv n40 wgc cwgc n41 wek cwek n36 wei cwei n35 wes cwes n37 wez cwez n38 cfi ccfi n23 clk cclk n25 clt cclt n26 cop ccop n27 cva ccva n29 cpt ccpt n28 cel ccel n22 cla ccla n24) H := hP
                  have hD : va_D A (wz_62 h0 aw ac n52 n54 n56 n53 ob n55 aw ab ac n51 wat wap wag n46 waf n48 n49 n50 n47 wgt wft wfv wgc n45 wek wei wes wez ab ax ab_length ac cfi clk clt n44 cop cva cpt cel n43 cla ax cax gax ob cob n30 waf cwaf n31 wat cwat n34 wap cwap n33 wag cwag n32 wgt cwgt n42 wft cwft n39 wfv cwfv n40 wgc cwgc n41 wek cwek n36 wei cwei n35 wes cwes n37 wez cwez n38 cfi ccfi n23 clk cclk n25 clt cclt n26 cop ccop n27 cva ccva n29 cpt ccpt n28 cel ccel n22 cla ccla n24) := hD
                  refine lv_aload_n hx hb d_RE_read_216 rfl (lv_at hl 1 rfl) ?_
                  refine lv_aload_n hx hb d_RE_read_217 rfl (lv_at hl 1 rfl) ?_
                  refine va_get (D := (dC, dI)) (ci := 7) (v := .int n56) (C := R_RE) (T := F_RE) (N := 8) hx hb hts i_RE hown hK hP 0 rfl rfl 4 (by decide) (hts _ kF_RE_45) (fun _ h9 => h9) rfl d_RE_read_218 ?_
                  refine w_cut (pc2 := 240) (σ := Int32) (fun u H locs ls => match u with | j240_s0 => (j240_s0 = 0 ∨ j240_s0 = 1) ∧ (j240_s0.toInt = 1 → n56.toInt = 1) ∧ va_P (dC, dI) cls (wz_62 h0 aw ac n52 n54 n56 n53 ob n55 aw ab ac n51 wat wap wag n46 waf n48 n49 n50 n47 wgt wft wfv wgc n45 wek wei wes wez ab ax ab_length ac cfi clk clt n44 cop cva cpt cel n43 cla ax cax gax ob cob n30 waf cwaf n31 wat cwat n34 wap cwap n33 wag cwag n32 wgt cwgt n42 wft cwft n39 wfv cwfv n40 wgc cwgc n41 wek cwek n36 wei cwei n35 wes cwes n37 wez cwez n38 cfi ccfi n23 clk cclk n25 clt cclt n26 cop ccop n27 cva ccva n29 cpt ccpt n28 cel ccel n22 cla ccla n24) H ∧ va_D A (wz_62 h0 aw ac n52 n54 n56 n53 ob n55 aw ab ac n51 wat wap wag n46 waf n48 n49 n50 n47 wgt wft wfv wgc n45 wek wei wes wez ab ax ab_length ac cfi clk clt n44 cop cva cpt cel n43 cla ax cax gax ob cob n30 waf cwaf n31 wat cwat n34 wap cwap n33 wag cwag n32 wgt cwgt n42 wft cwft n39 wfv cwfv n40 wgc cwgc n41 wek cwek n36 wei cwei n35 wes cwes n37 wez cwez n38 cfi ccfi n23 clk cclk n25 clt cclt n26 cop ccop n27 cva ccva n29 cpt ccpt n28 cel ccel n22 cla ccla n24) ∧ va_S A s.heap H locs ∧ lv_has ls 6 [(0, .ref h0), (2, .int j198_s0), (3, .int j78_l3)]) (fun u => match u with | j240_s0 => [.int j240_s0, .ref h0]) ?_ (fun jn240 => ?_)
                  · intro u H locs ls hI
                    obtain ⟨j240_s0, rfl⟩ : ∃ z, z = u := ⟨_, rfl⟩
                    obtain ⟨b_j240_s0, x1, hP, hD, hS, hl⟩ := hI
                    have tj240_s0 := b01 b_j240_s0
                    refine va_put (D := (dC, dI)) (ci := 7) (v := .int j240_s0) (ty := .boolean) (C := R_RE) (T := F_RE) (N := 8) hx hb hts i_RE t_RE t_RE_ok n_RE hown hK hP hD hS 0 rfl rfl 4 (by decide) (hts _ kF_RE_45) (fun _ h9 => h9) rfl (by decide +kernel) (zn01 (b_j240_s0)) (fz01 (b_j240_s0)) (Nat.le_of_ble_eq_true rfl) d_RE_read_240 (fun H locs hP hD hS => ?_)
                    refine lv_aload_n hx hb d_RE_read_243 rfl (lv_at hl 0 rfl) ?_
                    refine lv_aload_n hx hb d_RE_read_244 rfl (lv_at hl 0 rfl) ?_
                    refine va_get (D := (dC, dI)) (ci := 7) (v := .ref aw) (C := R_RE) (T := F_RE) (N := 8) hx hb hts i_RE hown hK hP 0 rfl rfl 0 (by decide) (hts _ kF_RE_15) (fun _ h9 => h9) rfl d_RE_read_245 ?_
                    refine va_get (D := (dC, dI)) (ci := 10) (v := .ref ab) (C := R_WA) (T := F_WA) (N := 21) hx hb hts i_WA hown hK hP 1 rfl rfl 0 (by decide) (hts _ kF_RE_33) (fun _ h9 => h9) rfl d_RE_read_248 ?_
                    refine va_get (D := (dC, dI)) (ci := 1) (v := .int ab_length) (C := R_BR) (T := F_BR) (N := 2) hx hb hts i_BR hown hK hP 2 rfl rfl 1 (by decide) (hts _ kF_RE_37) (fun _ h9 => h9) rfl d_RE_read_251 ?_
                    refine va_put (D := (dC, dI)) (ci := 7) (v := .int ab_length) (ty := .int) (C := R_RE) (T := F_RE) (N := 8) hx hb hts i_RE t_RE t_RE_ok n_RE hown hK hP hD hS 0 rfl rfl 3 (by decide) (hts _ kF_RE_42) (fun _ h9 => h9) rfl (by decide +kernel) rfl rfl (Nat.le_of_ble_eq_true rfl) d_RE_read_254 (fun H locs hP hD hS => ?_)
                    obtain ⟨x57, ex57⟩ : ∃ z : Int32, z = j78_l3 + 1 := ⟨_, rfl⟩
                    have tx57 : x57.toInt = j78_l3.toInt + 1 := by have z := i32_add ex57 (by (first | (apply Int.le_antisymm <;> omega) | omega)) (by (first | (apply Int.le_antisymm <;> omega) | omega)); first | exact z | (first | (apply Int.le_antisymm <;> omega) | omega)
                    refine lv_iinc (v := x57) (lv' := [(3, .int x57), (0, .ref h0), (2, .int j198_s0)]) hx hb d_RE_read_257 hl (k := 2) rfl (by rw [ex57]; rfl) (by decide) rfl (fun ls hl => ?_)
                    refine lv_goto (tgt := 78) hx hb d_RE_read_260 (by decide) ?_
                    exact ih78 (j198_s0, x57, n22, n23, n24, n25, n26, n27, n28, n29, n30, n31, n32, n33, n34, n35, n36, n37, n38, n39, n40, n41, n42, n43, n44, n45, n46, n47, n48, n49, n50, n51, n52, n53, ab_length, n55, j240_s0) _ _ _ (by show (8192 - x57.toInt).toNat < N78; (first | (apply Int.le_antisymm <;> omega) | omega)) ⟨by (try dsimp only) <;> (first | (apply Int.le_antisymm <;> omega) | omega), bn43, bn44, bn45, bn46, bn47, bn48, bn51, bn53, bn55, b_j240_s0, by (try dsimp only) <;> (first | (apply Int.le_antisymm <;> omega) | omega), xr21.out.2.2.1, xr21.out.2.2.2.1, fun z => by obtain ⟨i1, i2, i3, i4, i5, i6⟩ := xr21.out.2.2.2.2 (x1 z); obtain ⟨a1, a2, a3, a4, a5, a6⟩ := v6 (by have := x1 z; (first | (apply Int.le_antisymm <;> omega) | omega)); exact ⟨i1 a1, i2 a2, i3 a3, i4 a4, i5 a5, i6 a6⟩, hP.sub [0, 2, 4, 5, 6, 7, 8, 9, 10, 11, 12, 13, 14, 15, 16, 17, 18, 19, 20, 21, 22, 23, 24, 25, 1, 3] rfl, hD.sub [0, 2, 4, 5, 6, 7, 8, 9, 10, 11, 12, 13, 14, 15, 16, 17, 18, 19, 20, 21, 22, 23, 24, 25, 1, 3] (by decide) rfl, hS, lv_sub hl [1, 2, 0] rfl⟩
                  · skip
                    refine lv_if_eq (tgt := 239) hx hb d_RE_read_221 (by decide) (fun c221 => ?_) (fun c221 => ?_)
                    · have q221 := eqI c221
                      refine lv_iconst (v := 0) hx hb d_RE_read_239 (by decide) ?_
                      exact jn240 0 _ _ _ ⟨Or.inl rfl, by (try dsimp only) <;> (first | (apply Int.le_antisymm <;> omega) | omega), hP, hD, hS, lv_sub hl [1, 0, 2] rfl⟩
                    · have q221 := neI c221
                      refine lv_aload_n hx hb d_RE_read_224 rfl (lv_at hl 1 rfl) ?_
                      refine va_get (D := (dC, dI)) (ci := 7) (v := .int n52) (C := R_RE) (T := F_RE) (N := 8) hx hb hts i_RE hown hK hP 0 rfl rfl 2 (by decide) (hts _ kF_RE_29) (fun _ h9 => h9) rfl d_RE_read_225 ?_
                      refine lv_aload_n hx hb d_RE_read_228 rfl (lv_at hl 1 rfl) ?_
                      refine va_get (D := (dC, dI)) (ci := 7) (v := .int n54) (C := R_RE) (T := F_RE) (N := 8) hx hb hts i_RE hown hK hP 0 rfl rfl 3 (by decide) (hts _ kF_RE_42) (fun _ h9 => h9) rfl d_RE_read_229 ?_
                      refine lv_icmp_ne (tgt := 239) hx hb d_RE_read_232 (by decide) (fun c232 => ?_) (fun c232 => ?_)
                      · have q232 := neI c232
                        refine lv_iconst (v := 0) hx hb d_RE_read_239 (by decide) ?_
                        exact jn240 0 _ _ _ ⟨Or.inl rfl, by (try dsimp only) <;> (first | (apply Int.le_antisymm <;> omega) | omega), hP, hD, hS, lv_sub hl [1, 0, 2] rfl⟩
                      · have q232 := eqI c232
                        refine lv_iconst (v := 1) hx hb d_RE_read_235 (by decide) ?_
                        refine lv_goto (tgt := 240) hx hb d_RE_read_236 (by decide) ?_
                        exact jn240 1 _ _ _ ⟨Or.inr rfl, by (try dsimp only) <;> (first | (apply Int.le_antisymm <;> omega) | omega), hP, hD, hS, lv_sub hl [1, 0, 2] rfl⟩
                · skip
                  refine lv_if_ne (tgt := 196) hx hb d_RE_read_189 (by decide) (fun c189 => ?_) (fun c189 => ?_)
                  · have q189 := neI c189
                    refine lv_iload hx hb d_RE_read_196 (lv_at hl 3 rfl) ?_
                    exact jn198 r11 _ _ _ ⟨hP, hD, hS, lv_sub hl [0, 2, 3, 4] rfl⟩
                  · have q189 := eqI c189
                    refine lv_iload_n hx hb d_RE_read_192 rfl (lv_at hl 1 rfl) ?_
                    refine lv_goto (tgt := 198) hx hb d_RE_read_193 (by decide) ?_
                    exact jn198 j78_l2 _ _ _ ⟨hP, hD, hS, lv_sub hl [0, 2, 3, 4] rfl⟩
            · skip
              refine lv_if_eq (tgt := 176) hx hb d_RE_read_138 (by decide) (fun c138 => ?_) (fun c138 => ?_)
              · have q138 := eqI c138
                refine lv_iconst (v := 0) hx hb d_RE_read_176 (by decide) ?_
                exact jn177 0 _ _ _ ⟨Or.inl rfl, by (try dsimp only) <;> (first | (apply Int.le_antisymm <;> omega) | omega), hP, hD, hS, lv_sub hl [2, 3, 4, 1, 0] rfl⟩
              · have q138 := neI c138
                refine lv_iload hx hb d_RE_read_141 (lv_at hl 0 rfl) ?_
                refine lv_aload_n hx hb d_RE_read_143 rfl (lv_at hl 2 rfl) ?_
                refine va_get (D := (dC, dI)) (ci := 7) (v := .ref aw) (C := R_RE) (T := F_RE) (N := 8) hx hb hts i_RE hown hK hP 22 rfl rfl 0 (by decide) (hts _ kF_RE_15) (fun _ h9 => h9) rfl d_RE_read_144 ?_
                refine va_get (D := (dC, dI)) (ci := 10) (v := .ref ab) (C := R_WA) (T := F_WA) (N := 21) hx hb hts i_WA hown hK hP 23 rfl rfl 0 (by decide) (hts _ kF_RE_33) (fun _ h9 => h9) rfl d_RE_read_147 ?_
                refine va_get (D := (dC, dI)) (ci := 1) (v := .int ab_length) (C := R_BR) (T := F_BR) (N := 2) hx hb hts i_BR hown hK hP 24 rfl rfl 1 (by decide) (hts _ kF_RE_37) (fun _ h9 => h9) rfl d_RE_read_150 ?_
                refine lv_aload_n hx hb d_RE_read_153 rfl (lv_at hl 2 rfl) ?_
                refine va_get (D := (dC, dI)) (ci := 7) (v := .int n16) (C := R_RE) (T := F_RE) (N := 8) hx hb hts i_RE hown hK hP 22 rfl rfl 2 (by decide) (hts _ kF_RE_29) (fun _ h9 => h9) rfl d_RE_read_154 ?_
                refine lv_isub hx hb d_RE_read_157 ?_
                refine lv_topi (fun x58 ex58 => ?_)
                have tx58 : x58.toInt = ab_length.toInt - n16.toInt := by have z := i32_sub ex58 (by (first | (apply Int.le_antisymm <;> omega) | omega)) (by (first | (apply Int.le_antisymm <;> omega) | omega)); first | exact z | (first | (apply Int.le_antisymm <;> omega) | omega)
                refine lv_icmp_gt (tgt := 176) hx hb d_RE_read_158 (by decide) (fun c158 => ?_) (fun c158 => ?_)
                · have q158 := ltI c158
                  refine lv_iconst (v := 0) hx hb d_RE_read_176 (by decide) ?_
                  exact jn177 0 _ _ _ ⟨Or.inl rfl, by (try dsimp only) <;> (first | (apply Int.le_antisymm <;> omega) | omega), hP, hD, hS, lv_sub hl [2, 3, 4, 1, 0] rfl⟩
                · have q158 := nltI c158
                  refine lv_iload hx hb d_RE_read_161 (lv_at hl 1 rfl) ?_
                  refine lv_if_eq (tgt := 172) hx hb d_RE_read_163 (by decide) (fun c163 => ?_) (fun c163 => ?_)
                  · have q163 := eqI c163
                    refine lv_iconst (v := 1) hx hb d_RE_read_172 (by decide) ?_
                    refine lv_goto (tgt := 177) hx hb d_RE_read_173 (by decide) ?_
                    exact jn177 1 _ _ _ ⟨Or.inr rfl, by (try dsimp only) <;> (first | (apply Int.le_antisymm <;> omega) | omega), hP, hD, hS, lv_sub hl [2, 3, 4, 1, 0] rfl⟩
                  · have q163 := neI c163
                    refine lv_iload hx hb d_RE_read_166 (lv_at hl 1 rfl) ?_
                    refine lv_iload_n hx hb d_RE_read_168 rfl (lv_at hl 3 rfl) ?_
                    refine lv_icmp_le (tgt := 176) hx hb d_RE_read_169 (by decide) (fun c169 => ?_) (fun c169 => ?_)
                    · have q169 := leI c169
                      refine lv_iconst (v := 0) hx hb d_RE_read_176 (by decide) ?_
                      exact jn177 0 _ _ _ ⟨Or.inl rfl, by (try dsimp only) <;> (first | (apply Int.le_antisymm <;> omega) | omega), hP, hD, hS, lv_sub hl [2, 3, 4, 1, 0] rfl⟩
                    · have q169 := nleI c169
                      refine lv_iconst (v := 1) hx hb d_RE_read_172 (by decide) ?_
                      refine lv_goto (tgt := 177) hx hb d_RE_read_173 (by decide) ?_
                      exact jn177 1 _ _ _ ⟨Or.inr rfl, by (try dsimp only) <;> (first | (apply Int.le_antisymm <;> omega) | omega), hP, hD, hS, lv_sub hl [2, 3, 4, 1, 0] rfl⟩
  · have q56 := nleI c56
    refine lv_aload_n hx hb d_RE_read_59 rfl (lv_at hl 0 rfl) ?_
    refine va_getsN (C := "WaferForge") (n := "HEAD") (d := "[B") (v := .ref ((sa 0))) hx hb (hSW.1.1) hS hown (sw_nf (k := 2) hSW rfl) (fun _ h9 => h9) d_RE_read_60 ?_
    refine lv_iload_n hx hb d_RE_read_63 rfl (lv_at hl 1 rfl) ?_
    have g64 : vp_in j51_l2 8 := vp_in_iff.mpr ⟨by (first | (apply Int.le_antisymm <;> omega) | omega), by (first | (apply Int.le_antisymm <;> omega) | omega)⟩
    refine va_tb hx hb (hSW.1.2) hS g64 rfl d_RE_read_64 ?_
    refine lv_topi (fun x59 ex59 => ?_)
    have hPc := hP.sb (wq := (wz_46 h0 aw ac j51_h0_at ab_length j51_h0_sound 0 ob h0_openCount aw ab ac n10 wat wap wag n5 waf n7 n8 n9 n6 wgt wft wfv wgc n4 wek wei wes wez ab ax ab_length ax cax gax)) [0, 24, 1, 2] rfl
    have hDc := hD.sb (wq := (wz_46 h0 aw ac j51_h0_at ab_length j51_h0_sound 0 ob h0_openCount aw ab ac n10 wat wap wag n5 waf n7 n8 n9 n6 wgt wft wfv wgc n4 wek wei wes wez ab ax ab_length ax cax gax)) [0, 24, 1, 2] (by decide) rfl
    have hKc := hK.sb (tyq := [(cax, .byte)]) [0] rfl
    have hFc := va_free (wc := (wz_46 h0 aw ac j51_h0_at ab_length j51_h0_sound 0 ob h0_openCount aw ab ac n10 wat wap wag n5 waf n7 n8 n9 n6 wgt wft wfv wgc n4 wek wei wes wez ab ax ab_length ax cax gax)) hD hS hA [0, 24, 1, 2] rfl
    refine va_callv (va_runV (As := [.int x59]) (rest := []) ⟨hx, hb, hml, hown, hts⟩ (c_RE_expect l dC dI h0 aw ac ob ab ax H.size cax 8192 j51_h0_at ab_length j51_h0_sound 0 h0_openCount ab_length gax [.ref ab, .ref ac, .int n10, .ref wat, .ref wap, .ref wag, .int n5, .ref waf, .int n7, .long n8, .long n9, .int n6, .ref wgt, .ref wft, .ref wfv, .ref wgc, .int n4, .ref wek, .ref wei, .ref wes, .ref wez] rfl rfl b_j51_h0_sound (by (first | (apply Int.le_antisymm <;> omega) | omega)) x59) (cwV 1 hts (gV kM_RE_56 kV_RE_expect kS_RE_expect kI_RE kC_RE_expect) rfl rfl rfl (by decide +kernel) ⟨Nat.le_of_ble_eq_true rfl, Nat.le_of_ble_eq_true rfl⟩) ⟨fun a U g mk z => by obtain ⟨z0, z1, zP, zK, zD⟩ := z; exact ⟨z0, z1, zP, va_K.moved (u := U) (U := U.calling g mk a) (Vm.Alike.refl U.vm) zK, zD⟩, va_recv hKc hPc (ci := 7) (q0 := 0) rfl rfl, fun U hU hW => ⟨rfl, by rw [hU], va_P.he hU.symm hPc, va_K.moved hW.alike hKc, hDc.weaken (fun _ _ _ _ => trivial)⟩⟩ rfl rfl hl.1 rfl (lv_room (Nat.le_of_ble_eq_true rfl)) d_RE_read_65 ⟨(Nat.zero_le _), (Nat.zero_le _)⟩) hS (fun q _ h => hFc q h) hFc (fun u t H1 locs ht hvm hw hB hz1 hk1 hS => ?_)
    obtain ⟨n61, n62⟩ := u
    try dsimp only at hw
    obtain ⟨hsn62, tn61⟩ := hw
    have bsn62 := b01 hsn62
    obtain ⟨hP1, hK1, hD1⟩ := hB
    replace hP1 := va_P.he ht hP1
    obtain ⟨hP, hD⟩ := va_join (wr := (wz_100 ob cob gob waf cwaf gwaf wat cwat gwat wap cwap gwap wag cwag gwag wgt cwgt gwgt wft cwft gwft wfv cwfv gwfv wgc cwgc gwgc wek cwek gwek wei cwei gwei wes cwes gwes wez cwez gwez cfi ccfi gcfi clk cclk gclk clt cclt gclt cop ccop gcop cva ccva gcva cpt ccpt gcpt cel ccel gcel cla ccla gcla ac cfi clk clt n3 cop cva cpt cel n2 cla)) (w1 := (wz_46 h0 aw ac n61 ab_length n62 0 ob h0_openCount aw ab ac n10 wat wap wag n5 waf n7 n8 n9 n6 wgt wft wfv wgc n4 wek wei wes wez ab ax ab_length ax cax gax)) hP hD [0, 24, 1, 2] [3, 4, 5, 6, 7, 8, 9, 10, 11, 12, 13, 14, 15, 16, 17, 18, 19, 20, 21, 22, 23, 25] rfl rfl (by decide) (by decide) hk1 hFc hP1 hD1
    clear hPc hDc hKc hFc hz1 hk1 hP1 hK1 hD1
    rename Heap => H
    have hP : va_P (dC, dI) cls (wz_101 ob cob gob waf cwaf gwaf wat cwat gwat wap cwap gwap wag cwag gwag wgt cwgt gwgt wft cwft gwft wfv cwfv gwfv wgc cwgc gwgc wek cwek gwek wei cwei gwei wes cwes gwes wez cwez gwez cfi ccfi gcfi clk cclk gclk clt cclt gclt cop ccop gcop cva ccva gcva cpt ccpt gcpt cel ccel gcel cla ccla gcla ac cfi clk clt n3 cop cva cpt cel n2 cla h0 aw ac n61 ab_length n62 0 ob h0_openCount aw ab ac n10 wat wap wag n5 waf n7 n8 n9 n6 wgt wft wfv wgc n4 wek wei wes wez ab ax ab_length ax cax gax) H := hP
    have hD : va_D A (wz_101 ob cob gob waf cwaf gwaf wat cwat gwat wap cwap gwap wag cwag gwag wgt cwgt gwgt wft cwft gwft wfv cwfv gwfv wgc cwgc gwgc wek cwek gwek wei cwei gwei wes cwes gwes wez cwez gwez cfi ccfi gcfi clk cclk gclk clt cclt gclt cop ccop gcop cva ccva gcva cpt ccpt gcpt cel ccel gcel cla ccla gcla ac cfi clk clt n3 cop cva cpt cel n2 cla h0 aw ac n61 ab_length n62 0 ob h0_openCount aw ab ac n10 wat wap wag n5 waf n7 n8 n9 n6 wgt wft wfv wgc n4 wek wei wes wez ab ax ab_length ax cax gax) := hD
    obtain ⟨x63, ex63⟩ : ∃ z : Int32, z = j51_l2 + 1 := ⟨_, rfl⟩
    have tx63 : x63.toInt = j51_l2.toInt + 1 := by have z := i32_add ex63 (by (first | (apply Int.le_antisymm <;> omega) | omega)) (by (first | (apply Int.le_antisymm <;> omega) | omega)); first | exact z | (first | (apply Int.le_antisymm <;> omega) | omega)
    refine lv_iinc (v := x63) (lv' := [(2, .int x63), (0, .ref h0)]) hx hb d_RE_read_68 hl (k := 1) rfl (by rw [ex63]; rfl) (by decide) rfl (fun ls hl => ?_)
    refine lv_goto (tgt := 51) hx hb d_RE_read_71 (by decide) ?_
    exact ih51 (x63, n61, n62) _ _ _ (by show (8 - x63.toInt).toNat < N51; (first | (apply Int.le_antisymm <;> omega) | omega)) ⟨by (try dsimp only) <;> (first | (apply Int.le_antisymm <;> omega) | omega), hsn62, by (try dsimp only) <;> (first | (apply Int.le_antisymm <;> omega) | omega), hP.sub [22, 24, 25, 0, 1, 2, 3, 4, 5, 6, 7, 8, 9, 10, 11, 12, 13, 14, 15, 16, 17, 18, 19, 20, 23, 21] rfl, hD.sub [22, 24, 25, 0, 1, 2, 3, 4, 5, 6, 7, 8, 9, 10, 11, 12, 13, 14, 15, 16, 17, 18, 19, 20, 23, 21] (by decide) rfl, hS, lv_sub hl [1, 0] rfl⟩
end q_31
section q_32
/-! 'throw new X()': the method ends so; what was there stays as it is -/
section TR1
variable {p : Program} {l : Launch} {e : Env} {R : Room} {s : State} {m : MethodId} {args : Array Value} {below : List Frame} {meth : Method} {c : Code} {T : State} {locs : List Loc} {cells slots : Nat}
theorem tz_hears {s T : State} {m : MethodId} {below : List Frame} (hv : s.vm.Alike T.vm) (h : s.hears m below = true) : T.hears m below = true := by
  have e1 : ∀ g, T.code? g = s.code? g := fun g => by rw [State.code?_eq, State.code?_eq, hv.method?]
  have e2 : T.vm.method? m = s.vm.method? m := hv.method? ..
  unfold State.hears at h ⊢
  split at h
  · rw [e1]
    exact h
  · rfl
  · rfl
  · rw [e2]
    exact h
theorem tz_rebase (X : Stand p l e R s m args below meth c T locs cells slots) {R' : Room} (h1 : R'.frames ≤ R.frames) (h2 : R'.locals ≤ R.locals) (h3 : cells + R'.cells ≤ R.cells) (h4 : slots + R'.slots ≤ R.slots) :
    Stand p l e R' (T.setFrames (.invoking m args :: below)) m args below meth c T [] 0 0 := by
  obtain ⟨g₀, hg0⟩ := Option.isSome_iff_exists.mp X.here.top
  obtain ⟨r, hr⟩ := State.topJava?_eq_some.mp hg0
  have hcur : T.cur < T.threads.size := State.cur_lt_of_frames hr
  have hF : (T.setFrames (.invoking m args :: below)).frames = .invoking m args :: below := State.frames_setFrames _ hcur
  have hm' : (T.setFrames (.invoking m args :: below)).vm.method? m = some meth := X.method'
  refine ⟨X.admits, X.cas, X.clock, hF, ?_, tz_hears X.warmed.alike X.hears, hm', X.code, X.here, X.tail, State.WarmedH.refl _, (State.stackLimits_setFrames _ _ _).symm, (State.stackBytes_setFrames _ _).symm, ?_⟩
  · have hr0 := X.room
    have hl0 := State.localsInUse_invoking X.frames X.method X.code
    have hl1 := State.localsInUse_invoking hF hm' X.code
    have hb := X.book
    have hz := X.heapSize
    have hu := X.used
    simp only [State.hasRoom, Bool.and_eq_true, decide_eq_true_eq] at hr0 ⊢
    rw [hl1, hF, State.stackLimits_setFrames, State.stackBytes_setFrames, X.limits, X.bytes]
    rw [hl0, X.frames] at hr0
    obtain ⟨⟨⟨⟨q1, q2, q3, q4, q5, q6⟩, q7⟩, q8⟩, q9⟩ := hr0
    have e1 : (T.setFrames (.invoking m args :: below)).heap.size = T.heap.size := rfl
    have e2 : (T.setFrames (.invoking m args :: below)).slotsUsed = T.slotsUsed := rfl
    refine ⟨⟨⟨⟨by (first | (apply Int.le_antisymm <;> omega) | omega), by (first | (apply Int.le_antisymm <;> omega) | omega), by (first | (apply Int.le_antisymm <;> omega) | omega), by (first | (apply Int.le_antisymm <;> omega) | omega), by (first | (apply Int.le_antisymm <;> omega) | omega), q6⟩, by (first | (apply Int.le_antisymm <;> omega) | omega)⟩, by (first | (apply Int.le_antisymm <;> omega) | omega)⟩, hb⟩
  · obtain ⟨t, ht, -⟩ := State.frames_cons hF
    obtain ⟨t0, ht0, -⟩ := State.frames_cons hr
    have h := (State.sameButNew.refl (T.setFrames (.invoking m args :: below)) ht).setFrames T.frames (State.cur_lt_of_frames hF)
    rw [State.setFrames_setFrames, State.setFrames_self ht0] at h
    exact h
end TR1
def xo (C : String) (x : Nat) (U : State) (H : Heap) : Prop := ∃ cell : Cell, H[x]? = some cell ∧ cell.vm.isStatics = false ∧ U.vm.findClass C = some cell.cls
theorem xo.moved {C : String} {x : Nat} {u U : State} {H : Heap} (hv : u.vm.Alike U.vm) (h : xo C x u H) : xo C x U H := by
  obtain ⟨cell, h1, h2, h3⟩ := h
  exact ⟨cell, h1, h2, by rw [hv.findClass]; exact h3⟩
theorem xo.back {C : String} {x : Nat} {u U : State} {H : Heap} (hv : u.vm.Alike U.vm) (h : xo C x U H) : xo C x u H := by
  obtain ⟨cell, h1, h2, h3⟩ := h
  exact ⟨cell, h1, h2, by rw [← hv.findClass]; exact h3⟩
theorem sb_frames {A B : State} {F : List Frame} {locs : List Loc} {cells slots : Nat} (h : (A.setFrames F).sameButNew B locs cells slots) : A.sameButNew B locs cells slots := by
  obtain ⟨h1, h2⟩ := h
  refine ⟨?_, h2⟩
  rw [State.setFrames_setFrames] at h1
  exact h1
theorem sb_old {A B : State} {cells slots : Nat} (h : A.sameButNew B [] cells slots) {q : Nat} (hq : q < A.heap.size) : B.heap[q]? = A.heap[q]? := by
  obtain ⟨c, hc⟩ : ∃ c, A.heap[q]? = some c := ⟨A.heap[q], Array.getElem?_eq_getElem hq⟩
  obtain ⟨c', h1, h2, h3, h4⟩ := h.2.2.2.2.2 q c hc
  have e : c'.slots = c.slots := by
    apply Array.ext_getElem?
    intro i
    exact h4 i (by simp)
  rw [h1, hc, h2, e]
section TR2
variable {p : Program} {l : Launch} {e : Env} {R : Room} {s : State} {m : MethodId} {args : Array Value} {below : List Frame} {meth : Method} {c : Code} {H : Heap} {locs : List Loc} {cells slots : Nat}
set_option maxHeartbeats 2000000 in
theorem tz_throwNew {cc : ByteArray} {Qc : Array Value → State → Outcome → State → Prop} {free : Addr → Prop} {k : tz_K} {own X : String} {names : List String} {ix ic pc : Nat} {ls : Array Slot} {rest : List Value}
    (hexec : p.tables.exec = Jvm.exec) (hb : c.code = cc) (hno : c.exceptionTable.isEmpty = true) (hlocks : meth.locks = false) (htr : l.stackTraces = false) (hml : ls.size = c.maxLocals) (hown : s.vm.findClass own = some m.cls)
    (hX : Bundle.fit X = true) (hnm : ∀ n ∈ names, Bundle.fit n = true)
    (hat : ∀ U : State, U.heap = H → s.WarmedH U.vm → (∀ a ∈ Bundle.ownAtoms0 own ic X names, a.before args U = true) ∧ (Cond.classLink own ix X).before args U = true ∧ (Cond.instantiable X 6).before args U = true ∧ (Cond.initialized X).before args U = true)
    (hd0 : decode cc pc = .ok (.new ix, 3)) (hd3 : decode cc (pc + 3) = .ok (.dup, 1)) (hd4 : decode cc (pc + 4) = .ok (.invokespecial ic, 3)) (hd7 : decode cc (pc + 7) = .ok (.athrow, 1))
    (hfr : names.length + 3 < R.frames) (hlo : 1 + (rest.map fun v => v.category).sum + (13 * (names.length + 1) + 41) ≤ R.locals) (hc : cells + 1 ≤ R.cells) (hs : slots + 6 ≤ R.slots)
    (hk : ∀ x, k (.threw x) = (cells + 1, slots + 6))
    (hq : ∀ (x : Nat) (t : State), H.size ≤ t.heap.size → (∀ q, q < H.size → t.heap[q]? = H[q]?) → xo X x t t.heap → s.WarmedH t.vm → Qc args s (.threw x) t) (hf : ∀ q ∈ locs, free q.base) :
    W p l e R s m args below meth c H locs cells slots (tz_MQ below Qc args s k free) (F0 m pc ls rest) := by
  intro T hT X0
  subst hb
  subst hT
  have htr' : e.platform.stackTraces = false := by rw [X0.admits.platform]; exact htr
  have X1 := tz_rebase X0 (R' := { frames := R.frames, cells := 1, slots := 6, locals := R.locals }) (Nat.le_refl _) (Nat.le_refl _) hc hs
  have hW0 : s.WarmedH (T.setFrames (.invoking m args :: below)).vm := X0.warmed
  obtain ⟨ha, hcl, hin, hini⟩ := hat (T.setFrames (.invoking m args :: below)) rfl hW0
  have hown' : (T.setFrames (.invoking m args :: below)).vm.findClass own = some m.cls := by
    have := X0.warmed.alike.findClass own
    show T.vm.findClass own = _
    rw [this]
    exact hown
  obtain ⟨vm₁, cX, kX, hfX, hkX, -, -, X2, st1⟩ := X1.newCold hexec (own := own) (C := X) (index := ix) (n := 6) hown' hcl hin hini (g := F0 m pc ls rest) rfl hd0 (Nat.le_refl _) (Nat.le_refl _)
  generalize hT2 : (T.setVm vm₁).pushCell { cls := cX, slots := kX.instanceTypes.map defaultValue, vm := .none } = T2 at X2 st1
  have hcellA : T2.heap[T.heap.size]? = some (freshCell cX kX) := by rw [← hT2]; exact State.heap_pushCell_size _ _
  obtain ⟨U, hsteps, hrun, hend, hW, hsame, ce, hce, K⟩ := X2.ctorThrow0 hexec htr' (own := own) (cls := X) (names := names) (ic := ic) hown' hX hnm ha (fun y hy => by cases hy) hfX hkX hcellA (Nat.le_refl _)
    (g := F0 m (pc + 4) ls (.ref T.heap.size :: .ref T.heap.size :: rest)) rfl hml rfl rfl (rest := rest) rfl hd4 hd7 (tx_none hno _) hfr (by
      show 2 * 0 + ((Value.ref T.heap.size :: rest).map fun v => v.category).sum + (13 * (names.length + 1) + 41) ≤ R.locals
      rw [List.map_cons, List.sum_cons]
      show 2 * 0 + (1 + (rest.map fun v => v.category).sum) + (13 * (names.length + 1) + 41) ≤ R.locals
      (first | (apply Int.le_antisymm <;> omega) | omega)) hlocks
  have hsT : T.sameButNew ({ U with vm := T.vm } : State) [] 1 6 := sb_frames (F := .invoking m args :: below) hsame
  have hall : s.sameButNew ({ U with vm := s.vm } : State) (locs ++ []) (cells + 1) (slots + 6) := X0.same.trans (hsT.setVm s.vm)
  rw [List.append_nil] at hall
  have hWs : s.WarmedH U.vm := State.WarmedH.trans X0.warmed hW
  refine ⟨U, ?_, .threw T.heap.size, hrun, hend, hq _ U hsT.2.1 (fun q h => sb_old hsT h) ⟨ce, hce, by rw [K.vm]; rfl, ?_⟩ hWs, locs, ?_, hf⟩
  · refine st1 _ ?_
    show Steps p.tables e below (T2.setTop (F0 m (pc + 3) ls (.ref T.heap.size :: rest))) _
    jvm_step X2.here [X2.here.top, hexec, hd3, Value.category]
    exact hsteps
  · have h1 := K.cls
    have h2 := hW.alike.findClass X
    rw [h2]
    exact h1
  · rw [hk]
    exact ⟨hWs, hall⟩
end TR2
end q_32

/-! Validator: tables, exports, the whole -/
abbrev b_VA_checkTables : ByteArray := prog_12_method_3_code
def y_VA_checkTables : MethodName := ⟨R_VA, "checkTables", "()V"⟩
abbrev w_VA_checkTables : List Cond := .code y_VA_checkTables b_VA_checkTables 2 none :: lw_g
theorem kC_VA_checkTables : Cond.code y_VA_checkTables b_VA_checkTables 2 none ∈ lw_g := in_g 1396 (by decide +kernel) rfl
theorem d_VA_checkTables_0 : decode b_VA_checkTables 0 = .ok (.iconst 0, 1) := by decide +kernel
theorem d_VA_checkTables_1 : decode b_VA_checkTables 1 = .ok (.istore_n 1, 1) := by decide +kernel
theorem d_VA_checkTables_2 : decode b_VA_checkTables 2 = .ok (.iload_n 1, 1) := by decide +kernel
theorem d_VA_checkTables_3 : decode b_VA_checkTables 3 = .ok (.aload_n 0, 1) := by decide +kernel
theorem d_VA_checkTables_4 : decode b_VA_checkTables 4 = .ok (.getfield 28, 3) := by decide +kernel
theorem d_VA_checkTables_7 : decode b_VA_checkTables 7 = .ok (.getfield 49, 3) := by decide +kernel
theorem d_VA_checkTables_10 : decode b_VA_checkTables 10 = .ok (.if_icmp .ge 44, 3) := by decide +kernel
theorem d_VA_checkTables_13 : decode b_VA_checkTables 13 = .ok (.aload_n 0, 1) := by decide +kernel
theorem d_VA_checkTables_14 : decode b_VA_checkTables 14 = .ok (.aload_n 0, 1) := by decide +kernel
theorem d_VA_checkTables_15 : decode b_VA_checkTables 15 = .ok (.getfield 39, 3) := by decide +kernel
theorem d_VA_checkTables_18 : decode b_VA_checkTables 18 = .ok (.ifCond .eq 26, 3) := by decide +kernel
theorem d_VA_checkTables_21 : decode b_VA_checkTables 21 = .ok (.aload_n 0, 1) := by decide +kernel
theorem d_VA_checkTables_22 : decode b_VA_checkTables 22 = .ok (.getfield 28, 3) := by decide +kernel
theorem d_VA_checkTables_25 : decode b_VA_checkTables 25 = .ok (.getfield 57, 3) := by decide +kernel
theorem d_VA_checkTables_28 : decode b_VA_checkTables 28 = .ok (.iload_n 1, 1) := by decide +kernel
theorem d_VA_checkTables_29 : decode b_VA_checkTables 29 = .ok (.iaload, 1) := by decide +kernel
theorem d_VA_checkTables_30 : decode b_VA_checkTables 30 = .ok (.aload_n 0, 1) := by decide +kernel
theorem d_VA_checkTables_31 : decode b_VA_checkTables 31 = .ok (.getfield 28, 3) := by decide +kernel
theorem d_VA_checkTables_34 : decode b_VA_checkTables 34 = .ok (.getfield 60, 3) := by decide +kernel
theorem d_VA_checkTables_37 : decode b_VA_checkTables 37 = .ok (.if_icmp .ge 7, 3) := by decide +kernel
theorem d_VA_checkTables_40 : decode b_VA_checkTables 40 = .ok (.iconst 1, 1) := by decide +kernel
theorem d_VA_checkTables_41 : decode b_VA_checkTables 41 = .ok (.goto 4, 3) := by decide +kernel
theorem d_VA_checkTables_44 : decode b_VA_checkTables 44 = .ok (.iconst 0, 1) := by decide +kernel
theorem d_VA_checkTables_45 : decode b_VA_checkTables 45 = .ok (.putfield 39, 3) := by decide +kernel
theorem d_VA_checkTables_48 : decode b_VA_checkTables 48 = .ok (.iinc 1 1, 3) := by decide +kernel
theorem d_VA_checkTables_51 : decode b_VA_checkTables 51 = .ok (.goto (-49), 3) := by decide +kernel
theorem d_VA_checkTables_54 : decode b_VA_checkTables 54 = .ok (.iconst 0, 1) := by decide +kernel
theorem d_VA_checkTables_55 : decode b_VA_checkTables 55 = .ok (.istore_n 1, 1) := by decide +kernel
theorem d_VA_checkTables_56 : decode b_VA_checkTables 56 = .ok (.iload_n 1, 1) := by decide +kernel
theorem d_VA_checkTables_57 : decode b_VA_checkTables 57 = .ok (.aload_n 0, 1) := by decide +kernel
theorem d_VA_checkTables_58 : decode b_VA_checkTables 58 = .ok (.getfield 28, 3) := by decide +kernel
theorem d_VA_checkTables_61 : decode b_VA_checkTables 61 = .ok (.getfield 63, 3) := by decide +kernel
theorem d_VA_checkTables_64 : decode b_VA_checkTables 64 = .ok (.if_icmp .ge 46, 3) := by decide +kernel
theorem d_VA_checkTables_67 : decode b_VA_checkTables 67 = .ok (.aload_n 0, 1) := by decide +kernel
theorem d_VA_checkTables_68 : decode b_VA_checkTables 68 = .ok (.aload_n 0, 1) := by decide +kernel
theorem d_VA_checkTables_69 : decode b_VA_checkTables 69 = .ok (.getfield 39, 3) := by decide +kernel
theorem d_VA_checkTables_72 : decode b_VA_checkTables 72 = .ok (.ifCond .eq 28, 3) := by decide +kernel
theorem d_VA_checkTables_75 : decode b_VA_checkTables 75 = .ok (.aload_n 0, 1) := by decide +kernel
theorem d_VA_checkTables_76 : decode b_VA_checkTables 76 = .ok (.getfield 28, 3) := by decide +kernel
theorem d_VA_checkTables_79 : decode b_VA_checkTables 79 = .ok (.getfield 66, 3) := by decide +kernel
theorem d_VA_checkTables_82 : decode b_VA_checkTables 82 = .ok (.iload_n 1, 1) := by decide +kernel
theorem d_VA_checkTables_83 : decode b_VA_checkTables 83 = .ok (.iaload, 1) := by decide +kernel
theorem d_VA_checkTables_84 : decode b_VA_checkTables 84 = .ok (.aload_n 0, 1) := by decide +kernel
theorem d_VA_checkTables_85 : decode b_VA_checkTables 85 = .ok (.getfield 28, 3) := by decide +kernel
theorem d_VA_checkTables_88 : decode b_VA_checkTables 88 = .ok (.getfield 69, 3) := by decide +kernel
theorem d_VA_checkTables_91 : decode b_VA_checkTables 91 = .ok (.iload_n 1, 1) := by decide +kernel
theorem d_VA_checkTables_92 : decode b_VA_checkTables 92 = .ok (.iaload, 1) := by decide +kernel
theorem d_VA_checkTables_93 : decode b_VA_checkTables 93 = .ok (.if_icmp .ne 7, 3) := by decide +kernel
theorem d_VA_checkTables_96 : decode b_VA_checkTables 96 = .ok (.iconst 1, 1) := by decide +kernel
theorem d_VA_checkTables_97 : decode b_VA_checkTables 97 = .ok (.goto 4, 3) := by decide +kernel
theorem d_VA_checkTables_100 : decode b_VA_checkTables 100 = .ok (.iconst 0, 1) := by decide +kernel
theorem d_VA_checkTables_101 : decode b_VA_checkTables 101 = .ok (.putfield 39, 3) := by decide +kernel
theorem d_VA_checkTables_104 : decode b_VA_checkTables 104 = .ok (.iinc 1 1, 3) := by decide +kernel
theorem d_VA_checkTables_107 : decode b_VA_checkTables 107 = .ok (.goto (-51), 3) := by decide +kernel
theorem d_VA_checkTables_110 : decode b_VA_checkTables 110 = .ok (.aload_n 0, 1) := by decide +kernel
theorem d_VA_checkTables_111 : decode b_VA_checkTables 111 = .ok (.aload_n 0, 1) := by decide +kernel
theorem d_VA_checkTables_112 : decode b_VA_checkTables 112 = .ok (.getfield 39, 3) := by decide +kernel
theorem d_VA_checkTables_115 : decode b_VA_checkTables 115 = .ok (.ifCond .eq 65, 3) := by decide +kernel
theorem d_VA_checkTables_118 : decode b_VA_checkTables 118 = .ok (.aload_n 0, 1) := by decide +kernel
theorem d_VA_checkTables_119 : decode b_VA_checkTables 119 = .ok (.getfield 28, 3) := by decide +kernel
theorem d_VA_checkTables_122 : decode b_VA_checkTables 122 = .ok (.getfield 72, 3) := by decide +kernel
theorem d_VA_checkTables_125 : decode b_VA_checkTables 125 = .ok (.ldc2_w 76, 3) := by decide +kernel
theorem d_VA_checkTables_128 : decode b_VA_checkTables 128 = .ok (.lcmp, 1) := by decide +kernel
theorem d_VA_checkTables_129 : decode b_VA_checkTables 129 = .ok (.ifCond .gt 51, 3) := by decide +kernel
theorem d_VA_checkTables_132 : decode b_VA_checkTables 132 = .ok (.aload_n 0, 1) := by decide +kernel
theorem d_VA_checkTables_133 : decode b_VA_checkTables 133 = .ok (.getfield 28, 3) := by decide +kernel
theorem d_VA_checkTables_136 : decode b_VA_checkTables 136 = .ok (.getfield 78, 3) := by decide +kernel
theorem d_VA_checkTables_139 : decode b_VA_checkTables 139 = .ok (.ldc2_w 81, 3) := by decide +kernel
theorem d_VA_checkTables_142 : decode b_VA_checkTables 142 = .ok (.lcmp, 1) := by decide +kernel
theorem d_VA_checkTables_143 : decode b_VA_checkTables 143 = .ok (.ifCond .gt 37, 3) := by decide +kernel
theorem d_VA_checkTables_146 : decode b_VA_checkTables 146 = .ok (.aload_n 0, 1) := by decide +kernel
theorem d_VA_checkTables_147 : decode b_VA_checkTables 147 = .ok (.getfield 28, 3) := by decide +kernel
theorem d_VA_checkTables_150 : decode b_VA_checkTables 150 = .ok (.getfield 78, 3) := by decide +kernel
theorem d_VA_checkTables_153 : decode b_VA_checkTables 153 = .ok (.lconst 0, 1) := by decide +kernel
theorem d_VA_checkTables_154 : decode b_VA_checkTables 154 = .ok (.lcmp, 1) := by decide +kernel
theorem d_VA_checkTables_155 : decode b_VA_checkTables 155 = .ok (.ifCond .lt 21, 3) := by decide +kernel
theorem d_VA_checkTables_158 : decode b_VA_checkTables 158 = .ok (.aload_n 0, 1) := by decide +kernel
theorem d_VA_checkTables_159 : decode b_VA_checkTables 159 = .ok (.getfield 28, 3) := by decide +kernel
theorem d_VA_checkTables_162 : decode b_VA_checkTables 162 = .ok (.getfield 78, 3) := by decide +kernel
theorem d_VA_checkTables_165 : decode b_VA_checkTables 165 = .ok (.aload_n 0, 1) := by decide +kernel
theorem d_VA_checkTables_166 : decode b_VA_checkTables 166 = .ok (.getfield 28, 3) := by decide +kernel
theorem d_VA_checkTables_169 : decode b_VA_checkTables 169 = .ok (.getfield 72, 3) := by decide +kernel
theorem d_VA_checkTables_172 : decode b_VA_checkTables 172 = .ok (.lcmp, 1) := by decide +kernel
theorem d_VA_checkTables_173 : decode b_VA_checkTables 173 = .ok (.ifCond .lt 7, 3) := by decide +kernel
theorem d_VA_checkTables_176 : decode b_VA_checkTables 176 = .ok (.iconst 1, 1) := by decide +kernel
theorem d_VA_checkTables_177 : decode b_VA_checkTables 177 = .ok (.goto 4, 3) := by decide +kernel
theorem d_VA_checkTables_180 : decode b_VA_checkTables 180 = .ok (.iconst 0, 1) := by decide +kernel
theorem d_VA_checkTables_181 : decode b_VA_checkTables 181 = .ok (.putfield 39, 3) := by decide +kernel
theorem d_VA_checkTables_184 : decode b_VA_checkTables 184 = .ok (.return_, 1) := by decide +kernel
theorem kF_VA_72 : Cond.fieldLink R_VA 72 "WaferForge$Wafer" "pagesLeast" "J" ∈ lw_g := in_g 170 (by decide +kernel) rfl
theorem kL_VA_76 : Cond.constantLong R_VA 76 (2) ∈ lw_g := in_g 1397 (by decide +kernel) rfl
theorem kF_VA_78 : Cond.fieldLink R_VA 78 "WaferForge$Wafer" "pagesMost" "J" ∈ lw_g := in_g 173 (by decide +kernel) rfl
theorem kL_VA_81 : Cond.constantLong R_VA 81 (65536) ∈ lw_g := in_g 1398 (by decide +kernel) rfl
theorem kF_VA_69 : Cond.fieldLink R_VA 69 "WaferForge$Wafer" "firstTypes" "[I" ∈ lw_g := in_g 185 (by decide +kernel) rfl
theorem kF_VA_57 : Cond.fieldLink R_VA 57 "WaferForge$Wafer" "functionType" "[I" ∈ lw_g := in_g 163 (by decide +kernel) rfl
theorem kF_VA_60 : Cond.fieldLink R_VA 60 "WaferForge$Wafer" "typeCount" "I" ∈ lw_g := in_g 150 (by decide +kernel) rfl
abbrev at_VA_checkTables (dC : Nat → ClassId) (dI : Nat → Nat → Nat) (h0 aw ac ty bo bg bh bd waf wgt wft : Nat) (cwaf cwgt cwft : ClassId) (h0_function : Int32) (h0_height : Int32) (h0_depth : Int32) (law : List Value) (aw_typeCount : Int32) (aw_functionCount : Int32) (aw_pagesLeast : Int64) (aw_pagesMost : Int64) (aw_globalCount : Int32) (gwaf : Nat → Int32) (gwgt : Nat → Int32) (gwft : Nat → Int32) (A : Nat → Prop) (u : Int32) (t : State) : Prop := match u with | h0_sound => va_P (dC, dI) cls [(h0, .inr (9, [.ref aw, .ref ac, .int h0_sound, .int h0_function, .ref ty, .int h0_height, .ref bo, .ref bg, .ref bh, .ref bd, .int h0_depth])), (aw, .inr (10, law)), (waf, .inl (cwaf, 30, .inl gwaf)), (wgt, .inl (cwgt, 20, .inl gwgt)), (wft, .inl (cwft, 20, .inl gwft))] t.heap ∧ va_K (dC, dI) cls [(cwaf, .int), (cwgt, .int), (cwft, .int)] t ∧ va_D A [(h0, .inr (9, [.ref aw, .ref ac, .int h0_sound, .int h0_function, .ref ty, .int h0_height, .ref bo, .ref bg, .ref bh, .ref bd, .int h0_depth])), (aw, .inr (10, law)), (waf, .inl (cwaf, 30, .inl gwaf)), (wgt, .inl (cwgt, 20, .inl gwgt)), (wft, .inl (cwft, 20, .inl gwft))]
set_option maxHeartbeats 4000000 in
set_option maxRecDepth 100000 in
theorem c_VA_checkTables (l : Launch) (dC : Nat → ClassId) (dI : Nat → Nat → Nat) (sz : Nat) (h0 aw ac ty bo bg bh bd waf wgt wft : Nat) (cwaf cwgt cwft : ClassId) (h0_sound : Int32) (h0_function : Int32) (h0_height : Int32) (h0_depth : Int32) (law : List Value) (aw_typeCount : Int32) (aw_functionCount : Int32) (aw_pagesLeast : Int64) (aw_pagesMost : Int64) (aw_globalCount : Int32) (gwaf : Nat → Int32) (gwgt : Nat → Int32) (gwft : Nat → Int32) (paw_2 : law[2]? = some (.int aw_typeCount)) (paw_6 : law[6]? = some (.int aw_functionCount)) (paw_7 : law[7]? = some (.ref waf)) (paw_9 : law[9]? = some (.long aw_pagesLeast)) (paw_10 : law[10]? = some (.long aw_pagesMost)) (paw_11 : law[11]? = some (.int aw_globalCount)) (paw_12 : law[12]? = some (.ref wgt)) (paw_13 : law[13]? = some (.ref wft)) (plaw : law.length = 21) (b_h0_sound : h0_sound = 0 ∨ h0_sound = 1) (b_aw_typeCount : 0 ≤ aw_typeCount.toInt ∧ aw_typeCount.toInt ≤ 20) (b_aw_functionCount : 0 ≤ aw_functionCount.toInt ∧ aw_functionCount.toInt ≤ 30) (b_aw_globalCount : 0 ≤ aw_globalCount.toInt ∧ aw_globalCount.toInt ≤ 20)    : Met l y_VA_checkTables w_VA_checkTables ({ frames := 0, cells := 0, slots := 0, locals := 0 }) (va_Pc [.ref h0] (fun U => U.heap.size = sz ∧ va_P (dC, dI) cls [(h0, .inr (9, [.ref aw, .ref ac, .int h0_sound, .int h0_function, .ref ty, .int h0_height, .ref bo, .ref bg, .ref bh, .ref bd, .int h0_depth])), (aw, .inr (10, law)), (waf, .inl (cwaf, 30, .inl gwaf)), (wgt, .inl (cwgt, 20, .inl gwgt)), (wft, .inl (cwft, 20, .inl gwft))] U.heap ∧ va_K (dC, dI) cls [(cwaf, .int), (cwgt, .int), (cwft, .int)] U ∧ va_D (fun _ => True) [(h0, .inr (9, [.ref aw, .ref ac, .int h0_sound, .int h0_function, .ref ty, .int h0_height, .ref bo, .ref bg, .ref bh, .ref bd, .int h0_depth])), (aw, .inr (10, law)), (waf, .inl (cwaf, 30, .inl gwaf)), (wgt, .inl (cwgt, 20, .inl gwgt)), (wft, .inl (cwft, 20, .inl gwft))])) (va_Qv (fun (u : Int32) => match u with | h0_sound2 => (h0_sound2 = 0 ∨ h0_sound2 = 1) ∧ (h0_sound2.toInt = 1 → h0_sound.toInt = 1 ∧ (∀ f : Nat, (f : Int) < aw_functionCount.toInt → (gwaf f).toInt < aw_typeCount.toInt) ∧ aw_pagesLeast.toInt ≤ 2)) (at_VA_checkTables dC dI h0 aw ac ty bo bg bh bd waf wgt wft cwaf cwgt cwft h0_function h0_height h0_depth law aw_typeCount aw_functionCount aw_pagesLeast aw_pagesMost aw_globalCount gwaf gwgt gwft (va_A [(h0, .inr (9, [.ref aw, .ref ac, .int h0_sound, .int h0_function, .ref ty, .int h0_height, .ref bo, .ref bg, .ref bh, .ref bd, .int h0_depth])), (aw, .inr (10, law)), (waf, .inl (cwaf, 30, .inl gwaf)), (wgt, .inl (cwgt, 20, .inl gwgt)), (wft, .inl (cwft, 20, .inl gwft))] sz)) (va_A [(h0, .inr (9, [.ref aw, .ref ac, .int h0_sound, .int h0_function, .ref ty, .int h0_height, .ref bo, .ref bg, .ref bh, .ref bd, .int h0_depth])), (aw, .inr (10, law)), (waf, .inl (cwaf, 30, .inl gwaf)), (wgt, .inl (cwgt, 20, .inl gwgt)), (wft, .inl (cwft, 20, .inl gwft))] sz)) 0 0 (va_A [(h0, .inr (9, [.ref aw, .ref ac, .int h0_sound, .int h0_function, .ref ty, .int h0_height, .ref bo, .ref bg, .ref bh, .ref bd, .int h0_depth])), (aw, .inr (10, law)), (waf, .inl (cwaf, 30, .inl gwaf)), (wgt, .inl (cwgt, 20, .inl gwgt)), (wft, .inl (cwft, 20, .inl gwft))] sz) := by
  refine Met.ofW (cc := b_VA_checkTables) (maxL := 2) (ret := none) (by decide) rfl ?_
  intro p e s m args below meth c s₁ B hml hv
  obtain ⟨rfl, hsz, hP, hK, hD0⟩ := hv
  have hx := B.exec
  have hb := B.bytes
  have hr := B.returns
  have hts0 := atoms_spec (ws := w_VA_checkTables) B.pre
  have hts : ∀ w ∈ lw_g, w.before _ s = true := fun w h => hts0 w (List.mem_cons_of_mem _ h)
  have hown : s.vm.findClass R_VA = some m.cls := findClass_of_methodNamed B.named
  have hlocks := B.notSynchronized
  clear hts0
  subst hsz
  have hD := hD0.self (sz := s.heap.size)
  generalize hAe : va_A [(h0, .inr (9, [.ref aw, .ref ac, .int h0_sound, .int h0_function, .ref ty, .int h0_height, .ref bo, .ref bg, .ref bh, .ref bd, .int h0_depth])), (aw, .inr (10, law)), (waf, .inl (cwaf, 30, .inl gwaf)), (wgt, .inl (cwgt, 20, .inl gwgt)), (wft, .inl (cwft, 20, .inl gwft))] s.heap.size = A at hD ⊢
  have hA : ∀ q : Nat, s.heap.size ≤ q → A q := fun q h => by rw [← hAe]; exact Or.inr h
  clear hAe
  have hP : va_P (dC, dI) cls [(h0, .inr (9, [.ref aw, .ref ac, .int h0_sound, .int h0_function, .ref ty, .int h0_height, .ref bo, .ref bg, .ref bh, .ref bd, .int h0_depth])), (aw, .inr (10, law)), (waf, .inl (cwaf, 30, .inl gwaf)), (wgt, .inl (cwgt, 20, .inl gwgt)), (wft, .inl (cwft, 20, .inl gwft))] s.heap := hP
  have hl := lv_entry ([.ref h0]) (n := 2) (Nat.le_of_ble_eq_true rfl)
  rw [lg_entry_eq]
  generalize (lg_sl ([.ref h0]) ++ List.replicate (2 - (lg_sl ([.ref h0])).length) Slot.unset).toArray = ls at hl ⊢
  have hl : lv_has ls 2 [(0, .ref h0)] := hl
  have k0 : (0 : Int32).toInt = 0 := by decide
  refine w_gen (A := A) hP (fun H locs hP hS => ?_)
  have k1 : (1 : Int32).toInt = 1 := by decide
  have th0_sound := b01 b_h0_sound
  refine lv_iconst (v := 0) hx hb d_VA_checkTables_0 (by decide) ?_
  refine lv_istore_n (lv' := [(1, .int 0), (0, .ref h0)]) hx hb d_VA_checkTables_1 rfl hl (by decide) rfl (fun ls hl => ?_)
  refine w_loop (σ := Int32 × Int32) (fun u H locs ls => match u with | (j2_l1, j2_h0_sound) => (0 ≤ j2_l1.toInt ∧ j2_l1.toInt ≤ 30) ∧ (j2_h0_sound = 0 ∨ j2_h0_sound = 1) ∧ (j2_l1.toInt ≤ aw_functionCount.toInt) ∧ (j2_h0_sound.toInt = 1 → h0_sound.toInt = 1) ∧ (j2_h0_sound.toInt = 1 → ∀ f : Nat, (f : Int) < j2_l1.toInt → (gwaf f).toInt < aw_typeCount.toInt) ∧ va_P (dC, dI) cls [(h0, .inr (9, [.ref aw, .ref ac, .int j2_h0_sound, .int h0_function, .ref ty, .int h0_height, .ref bo, .ref bg, .ref bh, .ref bd, .int h0_depth])), (aw, .inr (10, law)), (waf, .inl (cwaf, 30, .inl gwaf)), (wgt, .inl (cwgt, 20, .inl gwgt)), (wft, .inl (cwft, 20, .inl gwft))] H ∧ va_D A [(h0, .inr (9, [.ref aw, .ref ac, .int j2_h0_sound, .int h0_function, .ref ty, .int h0_height, .ref bo, .ref bg, .ref bh, .ref bd, .int h0_depth])), (aw, .inr (10, law)), (waf, .inl (cwaf, 30, .inl gwaf)), (wgt, .inl (cwgt, 20, .inl gwgt)), (wft, .inl (cwft, 20, .inl gwft))] ∧ va_S A s.heap H locs ∧ lv_has ls 2 [(0, .ref h0), (1, .int j2_l1)]) (fun u => match u with | (j2_l1, j2_h0_sound) => (aw_functionCount.toInt - j2_l1.toInt).toNat) ?_ (0, h0_sound) ⟨by (try dsimp only) <;> omega, b_h0_sound, by (try dsimp only) <;> omega, by (try dsimp only) <;> omega, fun z f q => absurd q (by omega), hP, hD, hS, lv_sub hl [1, 0] rfl⟩
  intro N2 ih2 u H locs ls hN2 hI
  obtain ⟨j2_l1, j2_h0_sound⟩ := u
  obtain ⟨b_j2_l1, b_j2_h0_sound, v1, v2, v3, hP, hD, hS, hl⟩ := hI
  have tj2_h0_sound := b01 b_j2_h0_sound
  have hN2 : (aw_functionCount.toInt - j2_l1.toInt).toNat < N2 + 1 := hN2
  refine lv_iload_n hx hb d_VA_checkTables_2 rfl (lv_at hl 1 rfl) ?_
  refine lv_aload_n hx hb d_VA_checkTables_3 rfl (lv_at hl 0 rfl) ?_
  refine va_get (D := (dC, dI)) (ci := 9) (v := .ref aw) (C := R_VA) (T := F_VA) (N := 11) hx hb hts i_VA hown hK hP 0 rfl rfl 0 (by decide) (hts _ kF_VA_28) (fun _ h9 => h9) rfl d_VA_checkTables_4 ?_
  refine va_get (D := (dC, dI)) (ci := 10) (v := .int aw_functionCount) (C := R_WA) (T := F_WA) (N := 21) hx hb hts i_WA hown hK hP 1 rfl rfl 6 (by decide) (hts _ kF_VA_49) (fun _ h9 => h9) paw_6 d_VA_checkTables_7 ?_
  refine lv_icmp_ge (tgt := 54) hx hb d_VA_checkTables_10 (by decide) (fun c10 => ?_) (fun c10 => ?_)
  · have q10 := leI c10
    refine lv_iconst (v := 0) hx hb d_VA_checkTables_54 (by decide) ?_
    refine lv_istore_n (lv' := [(1, .int 0), (0, .ref h0)]) hx hb d_VA_checkTables_55 rfl hl (by decide) rfl (fun ls hl => ?_)
    refine w_loop (σ := Int32 × Int32) (fun u H locs ls => match u with | (j56_l1, j56_h0_sound) => (0 ≤ j56_l1.toInt ∧ j56_l1.toInt ≤ 20) ∧ (j56_h0_sound = 0 ∨ j56_h0_sound = 1) ∧ (j56_l1.toInt ≤ aw_globalCount.toInt) ∧ (j56_h0_sound.toInt = 1 → j2_h0_sound.toInt = 1) ∧ va_P (dC, dI) cls [(h0, .inr (9, [.ref aw, .ref ac, .int j56_h0_sound, .int h0_function, .ref ty, .int h0_height, .ref bo, .ref bg, .ref bh, .ref bd, .int h0_depth])), (aw, .inr (10, law)), (waf, .inl (cwaf, 30, .inl gwaf)), (wgt, .inl (cwgt, 20, .inl gwgt)), (wft, .inl (cwft, 20, .inl gwft))] H ∧ va_D A [(h0, .inr (9, [.ref aw, .ref ac, .int j56_h0_sound, .int h0_function, .ref ty, .int h0_height, .ref bo, .ref bg, .ref bh, .ref bd, .int h0_depth])), (aw, .inr (10, law)), (waf, .inl (cwaf, 30, .inl gwaf)), (wgt, .inl (cwgt, 20, .inl gwgt)), (wft, .inl (cwft, 20, .inl gwft))] ∧ va_S A s.heap H locs ∧ lv_has ls 2 [(0, .ref h0), (1, .int j56_l1)]) (fun u => match u with | (j56_l1, j56_h0_sound) => (aw_globalCount.toInt - j56_l1.toInt).toNat) ?_ (0, j2_h0_sound) ⟨by (try dsimp only) <;> omega, b_j2_h0_sound, by (try dsimp only) <;> omega, by (try dsimp only) <;> omega, hP, hD, hS, lv_sub hl [1, 0] rfl⟩
    intro N56 ih56 u H locs ls hN56 hI
    obtain ⟨j56_l1, j56_h0_sound⟩ := u
    obtain ⟨b_j56_l1, b_j56_h0_sound, u1, u2, hP, hD, hS, hl⟩ := hI
    have tj56_h0_sound := b01 b_j56_h0_sound
    have hN56 : (aw_globalCount.toInt - j56_l1.toInt).toNat < N56 + 1 := hN56
    refine lv_iload_n hx hb d_VA_checkTables_56 rfl (lv_at hl 1 rfl) ?_
    refine lv_aload_n hx hb d_VA_checkTables_57 rfl (lv_at hl 0 rfl) ?_
    refine va_get (D := (dC, dI)) (ci := 9) (v := .ref aw) (C := R_VA) (T := F_VA) (N := 11) hx hb hts i_VA hown hK hP 0 rfl rfl 0 (by decide) (hts _ kF_VA_28) (fun _ h9 => h9) rfl d_VA_checkTables_58 ?_
    refine va_get (D := (dC, dI)) (ci := 10) (v := .int aw_globalCount) (C := R_WA) (T := F_WA) (N := 21) hx hb hts i_WA hown hK hP 1 rfl rfl 11 (by decide) (hts _ kF_VA_63) (fun _ h9 => h9) paw_11 d_VA_checkTables_61 ?_
    refine lv_icmp_ge (tgt := 110) hx hb d_VA_checkTables_64 (by decide) (fun c64 => ?_) (fun c64 => ?_)
    · have q64 := leI c64
      refine lv_aload_n hx hb d_VA_checkTables_110 rfl (lv_at hl 0 rfl) ?_
      refine lv_aload_n hx hb d_VA_checkTables_111 rfl (lv_at hl 0 rfl) ?_
      refine va_get (D := (dC, dI)) (ci := 9) (v := .int j56_h0_sound) (C := R_VA) (T := F_VA) (N := 11) hx hb hts i_VA hown hK hP 0 rfl rfl 2 (by decide) (hts _ kF_VA_39) (fun _ h9 => h9) rfl d_VA_checkTables_112 ?_
      refine w_cut (pc2 := 181) (σ := Int32) (fun u H locs ls => match u with | j181_s0 => (j181_s0 = 0 ∨ j181_s0 = 1) ∧ (j181_s0.toInt = 1 → j2_h0_sound.toInt = 1 ∧ aw_pagesLeast.toInt ≤ 2) ∧ va_P (dC, dI) cls [(h0, .inr (9, [.ref aw, .ref ac, .int j56_h0_sound, .int h0_function, .ref ty, .int h0_height, .ref bo, .ref bg, .ref bh, .ref bd, .int h0_depth])), (aw, .inr (10, law)), (waf, .inl (cwaf, 30, .inl gwaf)), (wgt, .inl (cwgt, 20, .inl gwgt)), (wft, .inl (cwft, 20, .inl gwft))] H ∧ va_D A [(h0, .inr (9, [.ref aw, .ref ac, .int j56_h0_sound, .int h0_function, .ref ty, .int h0_height, .ref bo, .ref bg, .ref bh, .ref bd, .int h0_depth])), (aw, .inr (10, law)), (waf, .inl (cwaf, 30, .inl gwaf)), (wgt, .inl (cwgt, 20, .inl gwgt)), (wft, .inl (cwft, 20, .inl gwft))] ∧ va_S A s.heap H locs ∧ lv_has ls 2 []) (fun u => match u with | j181_s0 => [.int j181_s0, .ref h0]) ?_ (fun jn181 => ?_)
      · intro u H locs ls hI
        obtain ⟨j181_s0, rfl⟩ : ∃ z, z = u := ⟨_, rfl⟩
        obtain ⟨b_j181_s0, x2, hP, hD, hS, hl⟩ := hI
        have tj181_s0 := b01 b_j181_s0
        refine va_put (D := (dC, dI)) (ci := 9) (v := .int j181_s0) (ty := .boolean) (C := R_VA) (T := F_VA) (N := 11) hx hb hts i_VA t_VA t_VA_ok n_VA hown hK hP hD hS 0 rfl rfl 2 (by decide) (hts _ kF_VA_39) (fun _ h9 => h9) rfl (by decide +kernel) (zn01 (b_j181_s0)) (fz01 (b_j181_s0)) (Nat.le_of_ble_eq_true rfl) d_VA_checkTables_181 (fun H locs hP hD hS => ?_)
        have hP9 := hP.sub (ws' := [(h0, .inr (9, [.ref aw, .ref ac, .int j181_s0, .int h0_function, .ref ty, .int h0_height, .ref bo, .ref bg, .ref bh, .ref bd, .int h0_depth])), (aw, .inr (10, law)), (waf, .inl (cwaf, 30, .inl gwaf)), (wgt, .inl (cwgt, 20, .inl gwgt)), (wft, .inl (cwft, 20, .inl gwft))]) [0, 1, 2, 3, 4] rfl
        have hD9 := hD.sub (ws' := [(h0, .inr (9, [.ref aw, .ref ac, .int j181_s0, .int h0_function, .ref ty, .int h0_height, .ref bo, .ref bg, .ref bh, .ref bd, .int h0_depth])), (aw, .inr (10, law)), (waf, .inl (cwaf, 30, .inl gwaf)), (wgt, .inl (cwgt, 20, .inl gwgt)), (wft, .inl (cwft, 20, .inl gwft))]) [0, 1, 2, 3, 4] (by decide) rfl
        exact W.vret hx hb hr (fun t ht hW => ⟨⟨j181_s0, rfl, ⟨b_j181_s0, fun z => ⟨v2 (x2 z).1, fun f q => v3 (x2 z).1 f (by omega), (x2 z).2⟩⟩, by rw [ht]; exact hP9, va_K.moved hW.alike hK, hD9⟩, hS.F ht⟩) hS.2.2 d_VA_checkTables_184
      · skip
        refine lv_if_eq (tgt := 180) hx hb d_VA_checkTables_115 (by decide) (fun c115 => ?_) (fun c115 => ?_)
        · have q115 := eqI c115
          refine lv_iconst (v := 0) hx hb d_VA_checkTables_180 (by decide) ?_
          exact jn181 0 _ _ _ ⟨Or.inl rfl, by (try dsimp only) <;> omega, hP, hD, hS, lv_sub hl [] rfl⟩
        · have q115 := neI c115
          refine lv_aload_n hx hb d_VA_checkTables_118 rfl (lv_at hl 0 rfl) ?_
          refine va_get (D := (dC, dI)) (ci := 9) (v := .ref aw) (C := R_VA) (T := F_VA) (N := 11) hx hb hts i_VA hown hK hP 0 rfl rfl 0 (by decide) (hts _ kF_VA_28) (fun _ h9 => h9) rfl d_VA_checkTables_119 ?_
          refine va_get (D := (dC, dI)) (ci := 10) (v := .long aw_pagesLeast) (C := R_WA) (T := F_WA) (N := 21) hx hb hts i_WA hown hK hP 1 rfl rfl 9 (by decide) (hts _ kF_VA_72) (fun _ h9 => h9) paw_9 d_VA_checkTables_122 ?_
          refine lv_ldc2 hx hb hown (hts _ kL_VA_76) d_VA_checkTables_125 ?_
          refine lv_topl (fun x1 ex1 => ?_)
          have tx1 : x1.toInt = 2 := by rw [ex1]; decide
          refine W.lcmp hx hb d_VA_checkTables_128 ?_
          refine lv_topi (fun x2 ex2 => ?_)
          have tx2 := lgc ex2
          refine lv_if_gt (tgt := 180) hx hb d_VA_checkTables_129 (by decide) (fun c129 => ?_) (fun c129 => ?_)
          · have q129 := ltI c129
            refine lv_iconst (v := 0) hx hb d_VA_checkTables_180 (by decide) ?_
            exact jn181 0 _ _ _ ⟨Or.inl rfl, by (try dsimp only) <;> omega, hP, hD, hS, lv_sub hl [] rfl⟩
          · have q129 := nltI c129
            refine lv_aload_n hx hb d_VA_checkTables_132 rfl (lv_at hl 0 rfl) ?_
            refine va_get (D := (dC, dI)) (ci := 9) (v := .ref aw) (C := R_VA) (T := F_VA) (N := 11) hx hb hts i_VA hown hK hP 0 rfl rfl 0 (by decide) (hts _ kF_VA_28) (fun _ h9 => h9) rfl d_VA_checkTables_133 ?_
            refine va_get (D := (dC, dI)) (ci := 10) (v := .long aw_pagesMost) (C := R_WA) (T := F_WA) (N := 21) hx hb hts i_WA hown hK hP 1 rfl rfl 10 (by decide) (hts _ kF_VA_78) (fun _ h9 => h9) paw_10 d_VA_checkTables_136 ?_
            refine lv_ldc2 hx hb hown (hts _ kL_VA_81) d_VA_checkTables_139 ?_
            refine lv_topl (fun x3 ex3 => ?_)
            have tx3 : x3.toInt = 65536 := by rw [ex3]; decide
            refine W.lcmp hx hb d_VA_checkTables_142 ?_
            refine lv_topi (fun x4 ex4 => ?_)
            have tx4 := lgc ex4
            refine lv_if_gt (tgt := 180) hx hb d_VA_checkTables_143 (by decide) (fun c143 => ?_) (fun c143 => ?_)
            · have q143 := ltI c143
              refine lv_iconst (v := 0) hx hb d_VA_checkTables_180 (by decide) ?_
              exact jn181 0 _ _ _ ⟨Or.inl rfl, by (try dsimp only) <;> omega, hP, hD, hS, lv_sub hl [] rfl⟩
            · have q143 := nltI c143
              refine lv_aload_n hx hb d_VA_checkTables_146 rfl (lv_at hl 0 rfl) ?_
              refine va_get (D := (dC, dI)) (ci := 9) (v := .ref aw) (C := R_VA) (T := F_VA) (N := 11) hx hb hts i_VA hown hK hP 0 rfl rfl 0 (by decide) (hts _ kF_VA_28) (fun _ h9 => h9) rfl d_VA_checkTables_147 ?_
              refine va_get (D := (dC, dI)) (ci := 10) (v := .long aw_pagesMost) (C := R_WA) (T := F_WA) (N := 21) hx hb hts i_WA hown hK hP 1 rfl rfl 10 (by decide) (hts _ kF_VA_78) (fun _ h9 => h9) paw_10 d_VA_checkTables_150 ?_
              refine lv_lconst (v := 0) hx hb d_VA_checkTables_153 (by decide) ?_
              have kl0 : (0 : Int64).toInt = 0 := by decide
              refine W.lcmp hx hb d_VA_checkTables_154 ?_
              refine lv_topi (fun x5 ex5 => ?_)
              have tx5 := lgc ex5
              refine lv_if_lt (tgt := 176) hx hb d_VA_checkTables_155 (by decide) (fun c155 => ?_) (fun c155 => ?_)
              · have q155 := ltI c155
                refine lv_iconst (v := 1) hx hb d_VA_checkTables_176 (by decide) ?_
                refine lv_goto (tgt := 181) hx hb d_VA_checkTables_177 (by decide) ?_
                exact jn181 1 _ _ _ ⟨Or.inr rfl, by (try dsimp only) <;> omega, hP, hD, hS, lv_sub hl [] rfl⟩
              · have q155 := nltI c155
                refine lv_aload_n hx hb d_VA_checkTables_158 rfl (lv_at hl 0 rfl) ?_
                refine va_get (D := (dC, dI)) (ci := 9) (v := .ref aw) (C := R_VA) (T := F_VA) (N := 11) hx hb hts i_VA hown hK hP 0 rfl rfl 0 (by decide) (hts _ kF_VA_28) (fun _ h9 => h9) rfl d_VA_checkTables_159 ?_
                refine va_get (D := (dC, dI)) (ci := 10) (v := .long aw_pagesMost) (C := R_WA) (T := F_WA) (N := 21) hx hb hts i_WA hown hK hP 1 rfl rfl 10 (by decide) (hts _ kF_VA_78) (fun _ h9 => h9) paw_10 d_VA_checkTables_162 ?_
                refine lv_aload_n hx hb d_VA_checkTables_165 rfl (lv_at hl 0 rfl) ?_
                refine va_get (D := (dC, dI)) (ci := 9) (v := .ref aw) (C := R_VA) (T := F_VA) (N := 11) hx hb hts i_VA hown hK hP 0 rfl rfl 0 (by decide) (hts _ kF_VA_28) (fun _ h9 => h9) rfl d_VA_checkTables_166 ?_
                refine va_get (D := (dC, dI)) (ci := 10) (v := .long aw_pagesLeast) (C := R_WA) (T := F_WA) (N := 21) hx hb hts i_WA hown hK hP 1 rfl rfl 9 (by decide) (hts _ kF_VA_72) (fun _ h9 => h9) paw_9 d_VA_checkTables_169 ?_
                refine W.lcmp hx hb d_VA_checkTables_172 ?_
                refine lv_topi (fun x6 ex6 => ?_)
                have tx6 := lgc ex6
                refine lv_if_lt (tgt := 180) hx hb d_VA_checkTables_173 (by decide) (fun c173 => ?_) (fun c173 => ?_)
                · have q173 := ltI c173
                  refine lv_iconst (v := 0) hx hb d_VA_checkTables_180 (by decide) ?_
                  exact jn181 0 _ _ _ ⟨Or.inl rfl, by (try dsimp only) <;> omega, hP, hD, hS, lv_sub hl [] rfl⟩
                · have q173 := nltI c173
                  refine lv_iconst (v := 1) hx hb d_VA_checkTables_176 (by decide) ?_
                  refine lv_goto (tgt := 181) hx hb d_VA_checkTables_177 (by decide) ?_
                  exact jn181 1 _ _ _ ⟨Or.inr rfl, by (try dsimp only) <;> omega, hP, hD, hS, lv_sub hl [] rfl⟩
    · have q64 := nleI c64
      refine lv_aload_n hx hb d_VA_checkTables_67 rfl (lv_at hl 0 rfl) ?_
      refine lv_aload_n hx hb d_VA_checkTables_68 rfl (lv_at hl 0 rfl) ?_
      refine va_get (D := (dC, dI)) (ci := 9) (v := .int j56_h0_sound) (C := R_VA) (T := F_VA) (N := 11) hx hb hts i_VA hown hK hP 0 rfl rfl 2 (by decide) (hts _ kF_VA_39) (fun _ h9 => h9) rfl d_VA_checkTables_69 ?_
      refine w_cut (pc2 := 101) (σ := Int32) (fun u H locs ls => match u with | j101_s0 => (j101_s0 = 0 ∨ j101_s0 = 1) ∧ (j101_s0.toInt = 1 → j56_h0_sound.toInt = 1) ∧ va_P (dC, dI) cls [(h0, .inr (9, [.ref aw, .ref ac, .int j56_h0_sound, .int h0_function, .ref ty, .int h0_height, .ref bo, .ref bg, .ref bh, .ref bd, .int h0_depth])), (aw, .inr (10, law)), (waf, .inl (cwaf, 30, .inl gwaf)), (wgt, .inl (cwgt, 20, .inl gwgt)), (wft, .inl (cwft, 20, .inl gwft))] H ∧ va_D A [(h0, .inr (9, [.ref aw, .ref ac, .int j56_h0_sound, .int h0_function, .ref ty, .int h0_height, .ref bo, .ref bg, .ref bh, .ref bd, .int h0_depth])), (aw, .inr (10, law)), (waf, .inl (cwaf, 30, .inl gwaf)), (wgt, .inl (cwgt, 20, .inl gwgt)), (wft, .inl (cwft, 20, .inl gwft))] ∧ va_S A s.heap H locs ∧ lv_has ls 2 [(0, .ref h0), (1, .int j56_l1)]) (fun u => match u with | j101_s0 => [.int j101_s0, .ref h0]) ?_ (fun jn101 => ?_)
      · intro u H locs ls hI
        obtain ⟨j101_s0, rfl⟩ : ∃ z, z = u := ⟨_, rfl⟩
        obtain ⟨b_j101_s0, x1, hP, hD, hS, hl⟩ := hI
        have tj101_s0 := b01 b_j101_s0
        refine va_put (D := (dC, dI)) (ci := 9) (v := .int j101_s0) (ty := .boolean) (C := R_VA) (T := F_VA) (N := 11) hx hb hts i_VA t_VA t_VA_ok n_VA hown hK hP hD hS 0 rfl rfl 2 (by decide) (hts _ kF_VA_39) (fun _ h9 => h9) rfl (by decide +kernel) (zn01 (b_j101_s0)) (fz01 (b_j101_s0)) (Nat.le_of_ble_eq_true rfl) d_VA_checkTables_101 (fun H locs hP hD hS => ?_)
        obtain ⟨x7, ex7⟩ : ∃ z : Int32, z = j56_l1 + 1 := ⟨_, rfl⟩
        have tx7 : x7.toInt = j56_l1.toInt + 1 := by have z := i32_add ex7 (by omega) (by omega); omega
        refine lv_iinc (v := x7) (lv' := [(1, .int x7), (0, .ref h0)]) hx hb d_VA_checkTables_104 hl (k := 1) rfl (by rw [ex7]; rfl) (by decide) rfl (fun ls hl => ?_)
        refine lv_goto (tgt := 56) hx hb d_VA_checkTables_107 (by decide) ?_
        exact ih56 (x7, j101_s0) _ _ _ (by show (aw_globalCount.toInt - x7.toInt).toNat < N56; omega) ⟨by (try dsimp only) <;> omega, b_j101_s0, by (try dsimp only) <;> omega, by (try dsimp only) <;> omega, hP, hD, hS, lv_sub hl [1, 0] rfl⟩
      · skip
        refine w_cut (pc2 := 100) (σ := Unit) (fun u H locs ls => match u with | _ => va_P (dC, dI) cls [(h0, .inr (9, [.ref aw, .ref ac, .int j56_h0_sound, .int h0_function, .ref ty, .int h0_height, .ref bo, .ref bg, .ref bh, .ref bd, .int h0_depth])), (aw, .inr (10, law)), (waf, .inl (cwaf, 30, .inl gwaf)), (wgt, .inl (cwgt, 20, .inl gwgt)), (wft, .inl (cwft, 20, .inl gwft))] H ∧ va_D A [(h0, .inr (9, [.ref aw, .ref ac, .int j56_h0_sound, .int h0_function, .ref ty, .int h0_height, .ref bo, .ref bg, .ref bh, .ref bd, .int h0_depth])), (aw, .inr (10, law)), (waf, .inl (cwaf, 30, .inl gwaf)), (wgt, .inl (cwgt, 20, .inl gwgt)), (wft, .inl (cwft, 20, .inl gwft))] ∧ va_S A s.heap H locs ∧ lv_has ls 2 [(0, .ref h0), (1, .int j56_l1)]) (fun u => match u with | _ => [.ref h0]) ?_ (fun jn100 => ?_)
        · intro u H locs ls hI
          obtain ⟨hP, hD, hS, hl⟩ := hI
          refine lv_iconst (v := 0) hx hb d_VA_checkTables_100 (by decide) ?_
          exact jn101 0 _ _ _ ⟨Or.inl rfl, by (try dsimp only) <;> omega, hP, hD, hS, lv_sub hl [0, 1] rfl⟩
        · skip
          refine lv_if_eq (tgt := 100) hx hb d_VA_checkTables_72 (by decide) (fun c72 => ?_) (fun c72 => ?_)
          · have q72 := eqI c72
            exact jn100 () _ _ _ ⟨hP, hD, hS, lv_sub hl [0, 1] rfl⟩
          · have q72 := neI c72
            refine lv_aload_n hx hb d_VA_checkTables_75 rfl (lv_at hl 0 rfl) ?_
            refine va_get (D := (dC, dI)) (ci := 9) (v := .ref aw) (C := R_VA) (T := F_VA) (N := 11) hx hb hts i_VA hown hK hP 0 rfl rfl 0 (by decide) (hts _ kF_VA_28) (fun _ h9 => h9) rfl d_VA_checkTables_76 ?_
            refine va_get (D := (dC, dI)) (ci := 10) (v := .ref wgt) (C := R_WA) (T := F_WA) (N := 21) hx hb hts i_WA hown hK hP 1 rfl rfl 12 (by decide) (hts _ kF_VA_66) (fun _ h9 => h9) paw_12 d_VA_checkTables_79 ?_
            refine lv_iload_n hx hb d_VA_checkTables_82 rfl (lv_at hl 1 rfl) ?_
            have g83 : vp_in j56_l1 20 := vp_in_iff.mpr ⟨by omega, by omega⟩
            refine va_iald hx hb hK hP 3 1 rfl rfl g83 d_VA_checkTables_83 ?_
            refine lv_topi (fun x8 ex8 => ?_)
            refine lv_aload_n hx hb d_VA_checkTables_84 rfl (lv_at hl 0 rfl) ?_
            refine va_get (D := (dC, dI)) (ci := 9) (v := .ref aw) (C := R_VA) (T := F_VA) (N := 11) hx hb hts i_VA hown hK hP 0 rfl rfl 0 (by decide) (hts _ kF_VA_28) (fun _ h9 => h9) rfl d_VA_checkTables_85 ?_
            refine va_get (D := (dC, dI)) (ci := 10) (v := .ref wft) (C := R_WA) (T := F_WA) (N := 21) hx hb hts i_WA hown hK hP 1 rfl rfl 13 (by decide) (hts _ kF_VA_69) (fun _ h9 => h9) paw_13 d_VA_checkTables_88 ?_
            refine lv_iload_n hx hb d_VA_checkTables_91 rfl (lv_at hl 1 rfl) ?_
            have g92 : vp_in j56_l1 20 := vp_in_iff.mpr ⟨by omega, by omega⟩
            refine va_iald hx hb hK hP 4 2 rfl rfl g92 d_VA_checkTables_92 ?_
            refine lv_topi (fun x9 ex9 => ?_)
            refine lv_icmp_ne (tgt := 100) hx hb d_VA_checkTables_93 (by decide) (fun c93 => ?_) (fun c93 => ?_)
            · have q93 := neI c93
              exact jn100 () _ _ _ ⟨hP, hD, hS, lv_sub hl [0, 1] rfl⟩
            · have q93 := eqI c93
              refine lv_iconst (v := 1) hx hb d_VA_checkTables_96 (by decide) ?_
              refine lv_goto (tgt := 101) hx hb d_VA_checkTables_97 (by decide) ?_
              exact jn101 1 _ _ _ ⟨Or.inr rfl, by (try dsimp only) <;> omega, hP, hD, hS, lv_sub hl [0, 1] rfl⟩
  · have q10 := nleI c10
    refine lv_aload_n hx hb d_VA_checkTables_13 rfl (lv_at hl 0 rfl) ?_
    refine lv_aload_n hx hb d_VA_checkTables_14 rfl (lv_at hl 0 rfl) ?_
    refine va_get (D := (dC, dI)) (ci := 9) (v := .int j2_h0_sound) (C := R_VA) (T := F_VA) (N := 11) hx hb hts i_VA hown hK hP 0 rfl rfl 2 (by decide) (hts _ kF_VA_39) (fun _ h9 => h9) rfl d_VA_checkTables_15 ?_
    refine w_cut (pc2 := 45) (σ := Int32) (fun u H locs ls => match u with | j45_s0 => (j45_s0 = 0 ∨ j45_s0 = 1) ∧ (j45_s0.toInt = 1 → j2_h0_sound.toInt = 1 ∧ (gwaf j2_l1.toNatClampNeg).toInt < aw_typeCount.toInt) ∧ va_P (dC, dI) cls [(h0, .inr (9, [.ref aw, .ref ac, .int j2_h0_sound, .int h0_function, .ref ty, .int h0_height, .ref bo, .ref bg, .ref bh, .ref bd, .int h0_depth])), (aw, .inr (10, law)), (waf, .inl (cwaf, 30, .inl gwaf)), (wgt, .inl (cwgt, 20, .inl gwgt)), (wft, .inl (cwft, 20, .inl gwft))] H ∧ va_D A [(h0, .inr (9, [.ref aw, .ref ac, .int j2_h0_sound, .int h0_function, .ref ty, .int h0_height, .ref bo, .ref bg, .ref bh, .ref bd, .int h0_depth])), (aw, .inr (10, law)), (waf, .inl (cwaf, 30, .inl gwaf)), (wgt, .inl (cwgt, 20, .inl gwgt)), (wft, .inl (cwft, 20, .inl gwft))] ∧ va_S A s.heap H locs ∧ lv_has ls 2 [(0, .ref h0), (1, .int j2_l1)]) (fun u => match u with | j45_s0 => [.int j45_s0, .ref h0]) ?_ (fun jn45 => ?_)
    · intro u H locs ls hI
      obtain ⟨j45_s0, rfl⟩ : ∃ z, z = u := ⟨_, rfl⟩
      obtain ⟨b_j45_s0, x0, hP, hD, hS, hl⟩ := hI
      have tj45_s0 := b01 b_j45_s0
      refine va_put (D := (dC, dI)) (ci := 9) (v := .int j45_s0) (ty := .boolean) (C := R_VA) (T := F_VA) (N := 11) hx hb hts i_VA t_VA t_VA_ok n_VA hown hK hP hD hS 0 rfl rfl 2 (by decide) (hts _ kF_VA_39) (fun _ h9 => h9) rfl (by decide +kernel) (zn01 (b_j45_s0)) (fz01 (b_j45_s0)) (Nat.le_of_ble_eq_true rfl) d_VA_checkTables_45 (fun H locs hP hD hS => ?_)
      obtain ⟨x10, ex10⟩ : ∃ z : Int32, z = j2_l1 + 1 := ⟨_, rfl⟩
      have tx10 : x10.toInt = j2_l1.toInt + 1 := by have z := i32_add ex10 (by omega) (by omega); omega
      refine lv_iinc (v := x10) (lv' := [(1, .int x10), (0, .ref h0)]) hx hb d_VA_checkTables_48 hl (k := 1) rfl (by rw [ex10]; rfl) (by decide) rfl (fun ls hl => ?_)
      refine lv_goto (tgt := 2) hx hb d_VA_checkTables_51 (by decide) ?_
      have c9 := i32_clamp (x := j2_l1) (by omega)
      exact ih2 (x10, j45_s0) _ _ _ (by show (aw_functionCount.toInt - x10.toInt).toNat < N2; omega) ⟨by (try dsimp only) <;> omega, b_j45_s0, by (try dsimp only) <;> omega, by (try dsimp only) <;> omega, fun z f q => by by_cases y : (f : Int) < j2_l1.toInt; exact v3 (x0 z).1 f y; rw [show f = j2_l1.toNatClampNeg from by omega]; exact (x0 z).2, hP, hD, hS, lv_sub hl [1, 0] rfl⟩
    · skip
      refine w_cut (pc2 := 44) (σ := Unit) (fun u H locs ls => match u with | _ => va_P (dC, dI) cls [(h0, .inr (9, [.ref aw, .ref ac, .int j2_h0_sound, .int h0_function, .ref ty, .int h0_height, .ref bo, .ref bg, .ref bh, .ref bd, .int h0_depth])), (aw, .inr (10, law)), (waf, .inl (cwaf, 30, .inl gwaf)), (wgt, .inl (cwgt, 20, .inl gwgt)), (wft, .inl (cwft, 20, .inl gwft))] H ∧ va_D A [(h0, .inr (9, [.ref aw, .ref ac, .int j2_h0_sound, .int h0_function, .ref ty, .int h0_height, .ref bo, .ref bg, .ref bh, .ref bd, .int h0_depth])), (aw, .inr (10, law)), (waf, .inl (cwaf, 30, .inl gwaf)), (wgt, .inl (cwgt, 20, .inl gwgt)), (wft, .inl (cwft, 20, .inl gwft))] ∧ va_S A s.heap H locs ∧ lv_has ls 2 [(0, .ref h0), (1, .int j2_l1)]) (fun u => match u with | _ => [.ref h0]) ?_ (fun jn44 => ?_)
      · intro u H locs ls hI
        obtain ⟨hP, hD, hS, hl⟩ := hI
        refine lv_iconst (v := 0) hx hb d_VA_checkTables_44 (by decide) ?_
        exact jn45 0 _ _ _ ⟨Or.inl rfl, by (try dsimp only) <;> omega, hP, hD, hS, lv_sub hl [0, 1] rfl⟩
      · skip
        refine lv_if_eq (tgt := 44) hx hb d_VA_checkTables_18 (by decide) (fun c18 => ?_) (fun c18 => ?_)
        · have q18 := eqI c18
          exact jn44 () _ _ _ ⟨hP, hD, hS, lv_sub hl [0, 1] rfl⟩
        · have q18 := neI c18
          refine lv_aload_n hx hb d_VA_checkTables_21 rfl (lv_at hl 0 rfl) ?_
          refine va_get (D := (dC, dI)) (ci := 9) (v := .ref aw) (C := R_VA) (T := F_VA) (N := 11) hx hb hts i_VA hown hK hP 0 rfl rfl 0 (by decide) (hts _ kF_VA_28) (fun _ h9 => h9) rfl d_VA_checkTables_22 ?_
          refine va_get (D := (dC, dI)) (ci := 10) (v := .ref waf) (C := R_WA) (T := F_WA) (N := 21) hx hb hts i_WA hown hK hP 1 rfl rfl 7 (by decide) (hts _ kF_VA_57) (fun _ h9 => h9) paw_7 d_VA_checkTables_25 ?_
          refine lv_iload_n hx hb d_VA_checkTables_28 rfl (lv_at hl 1 rfl) ?_
          have g29 : vp_in j2_l1 30 := vp_in_iff.mpr ⟨by omega, by omega⟩
          refine va_iald hx hb hK hP 2 0 rfl rfl g29 d_VA_checkTables_29 ?_
          refine lv_topi (fun x11 ex11 => ?_)
          have tx11 : x11.toInt = (gwaf j2_l1.toNatClampNeg).toInt := by rw [ex11]
          refine lv_aload_n hx hb d_VA_checkTables_30 rfl (lv_at hl 0 rfl) ?_
          refine va_get (D := (dC, dI)) (ci := 9) (v := .ref aw) (C := R_VA) (T := F_VA) (N := 11) hx hb hts i_VA hown hK hP 0 rfl rfl 0 (by decide) (hts _ kF_VA_28) (fun _ h9 => h9) rfl d_VA_checkTables_31 ?_
          refine va_get (D := (dC, dI)) (ci := 10) (v := .int aw_typeCount) (C := R_WA) (T := F_WA) (N := 21) hx hb hts i_WA hown hK hP 1 rfl rfl 2 (by decide) (hts _ kF_VA_60) (fun _ h9 => h9) paw_2 d_VA_checkTables_34 ?_
          refine lv_icmp_ge (tgt := 44) hx hb d_VA_checkTables_37 (by decide) (fun c37 => ?_) (fun c37 => ?_)
          · have q37 := leI c37
            exact jn44 () _ _ _ ⟨hP, hD, hS, lv_sub hl [0, 1] rfl⟩
          · have q37 := nleI c37
            refine lv_iconst (v := 1) hx hb d_VA_checkTables_40 (by decide) ?_
            refine lv_goto (tgt := 45) hx hb d_VA_checkTables_41 (by decide) ?_
            exact jn45 1 _ _ _ ⟨Or.inr rfl, by (try dsimp only) <;> omega, hP, hD, hS, lv_sub hl [0, 1] rfl⟩
abbrev b_VA_checkExports : ByteArray := prog_12_method_4_code
def y_VA_checkExports : MethodName := ⟨R_VA, "checkExports", "()V"⟩
abbrev w_VA_checkExports : List Cond := .code y_VA_checkExports b_VA_checkExports 4 none :: lw_g
theorem kC_VA_checkExports : Cond.code y_VA_checkExports b_VA_checkExports 4 none ∈ lw_g := in_g 1402 (by decide +kernel) rfl
theorem d_VA_checkExports_0 : decode b_VA_checkExports 0 = .ok (.iconst 0, 1) := by decide +kernel
theorem d_VA_checkExports_1 : decode b_VA_checkExports 1 = .ok (.istore_n 1, 1) := by decide +kernel
theorem d_VA_checkExports_2 : decode b_VA_checkExports 2 = .ok (.iload_n 1, 1) := by decide +kernel
theorem d_VA_checkExports_3 : decode b_VA_checkExports 3 = .ok (.aload_n 0, 1) := by decide +kernel
theorem d_VA_checkExports_4 : decode b_VA_checkExports 4 = .ok (.getfield 28, 3) := by decide +kernel
theorem d_VA_checkExports_7 : decode b_VA_checkExports 7 = .ok (.getfield 83, 3) := by decide +kernel
theorem d_VA_checkExports_10 : decode b_VA_checkExports 10 = .ok (.if_icmp .ge 189, 3) := by decide +kernel
theorem d_VA_checkExports_13 : decode b_VA_checkExports 13 = .ok (.aload_n 0, 1) := by decide +kernel
theorem d_VA_checkExports_14 : decode b_VA_checkExports 14 = .ok (.getfield 28, 3) := by decide +kernel
theorem d_VA_checkExports_17 : decode b_VA_checkExports 17 = .ok (.getfield 86, 3) := by decide +kernel
theorem d_VA_checkExports_20 : decode b_VA_checkExports 20 = .ok (.iload_n 1, 1) := by decide +kernel
theorem d_VA_checkExports_21 : decode b_VA_checkExports 21 = .ok (.iaload, 1) := by decide +kernel
theorem d_VA_checkExports_22 : decode b_VA_checkExports 22 = .ok (.ifCond .ne 13, 3) := by decide +kernel
theorem d_VA_checkExports_25 : decode b_VA_checkExports 25 = .ok (.aload_n 0, 1) := by decide +kernel
theorem d_VA_checkExports_26 : decode b_VA_checkExports 26 = .ok (.getfield 28, 3) := by decide +kernel
theorem d_VA_checkExports_29 : decode b_VA_checkExports 29 = .ok (.getfield 49, 3) := by decide +kernel
theorem d_VA_checkExports_32 : decode b_VA_checkExports 32 = .ok (.goto 41, 3) := by decide +kernel
theorem d_VA_checkExports_35 : decode b_VA_checkExports 35 = .ok (.aload_n 0, 1) := by decide +kernel
theorem d_VA_checkExports_36 : decode b_VA_checkExports 36 = .ok (.getfield 28, 3) := by decide +kernel
theorem d_VA_checkExports_39 : decode b_VA_checkExports 39 = .ok (.getfield 86, 3) := by decide +kernel
theorem d_VA_checkExports_42 : decode b_VA_checkExports 42 = .ok (.iload_n 1, 1) := by decide +kernel
theorem d_VA_checkExports_43 : decode b_VA_checkExports 43 = .ok (.iaload, 1) := by decide +kernel
theorem d_VA_checkExports_44 : decode b_VA_checkExports 44 = .ok (.iconst 3, 1) := by decide +kernel
theorem d_VA_checkExports_45 : decode b_VA_checkExports 45 = .ok (.if_icmp .ne 13, 3) := by decide +kernel
theorem d_VA_checkExports_48 : decode b_VA_checkExports 48 = .ok (.aload_n 0, 1) := by decide +kernel
theorem d_VA_checkExports_49 : decode b_VA_checkExports 49 = .ok (.getfield 28, 3) := by decide +kernel
theorem d_VA_checkExports_52 : decode b_VA_checkExports 52 = .ok (.getfield 63, 3) := by decide +kernel
theorem d_VA_checkExports_55 : decode b_VA_checkExports 55 = .ok (.goto 18, 3) := by decide +kernel
theorem d_VA_checkExports_58 : decode b_VA_checkExports 58 = .ok (.aload_n 0, 1) := by decide +kernel
theorem d_VA_checkExports_59 : decode b_VA_checkExports 59 = .ok (.getfield 28, 3) := by decide +kernel
theorem d_VA_checkExports_62 : decode b_VA_checkExports 62 = .ok (.getfield 89, 3) := by decide +kernel
theorem d_VA_checkExports_65 : decode b_VA_checkExports 65 = .ok (.ifCond .eq 7, 3) := by decide +kernel
theorem d_VA_checkExports_68 : decode b_VA_checkExports 68 = .ok (.iconst 1, 1) := by decide +kernel
theorem d_VA_checkExports_69 : decode b_VA_checkExports 69 = .ok (.goto 4, 3) := by decide +kernel
theorem d_VA_checkExports_72 : decode b_VA_checkExports 72 = .ok (.iconst 0, 1) := by decide +kernel
theorem d_VA_checkExports_73 : decode b_VA_checkExports 73 = .ok (.istore_n 2, 1) := by decide +kernel
theorem d_VA_checkExports_74 : decode b_VA_checkExports 74 = .ok (.aload_n 0, 1) := by decide +kernel
theorem d_VA_checkExports_75 : decode b_VA_checkExports 75 = .ok (.aload_n 0, 1) := by decide +kernel
theorem d_VA_checkExports_76 : decode b_VA_checkExports 76 = .ok (.getfield 39, 3) := by decide +kernel
theorem d_VA_checkExports_79 : decode b_VA_checkExports 79 = .ok (.ifCond .eq 20, 3) := by decide +kernel
theorem d_VA_checkExports_82 : decode b_VA_checkExports 82 = .ok (.aload_n 0, 1) := by decide +kernel
theorem d_VA_checkExports_83 : decode b_VA_checkExports 83 = .ok (.getfield 28, 3) := by decide +kernel
theorem d_VA_checkExports_86 : decode b_VA_checkExports 86 = .ok (.getfield 92, 3) := by decide +kernel
theorem d_VA_checkExports_89 : decode b_VA_checkExports 89 = .ok (.iload_n 1, 1) := by decide +kernel
theorem d_VA_checkExports_90 : decode b_VA_checkExports 90 = .ok (.iaload, 1) := by decide +kernel
theorem d_VA_checkExports_91 : decode b_VA_checkExports 91 = .ok (.iload_n 2, 1) := by decide +kernel
theorem d_VA_checkExports_92 : decode b_VA_checkExports 92 = .ok (.if_icmp .ge 7, 3) := by decide +kernel
theorem d_VA_checkExports_95 : decode b_VA_checkExports 95 = .ok (.iconst 1, 1) := by decide +kernel
theorem d_VA_checkExports_96 : decode b_VA_checkExports 96 = .ok (.goto 4, 3) := by decide +kernel
theorem d_VA_checkExports_99 : decode b_VA_checkExports 99 = .ok (.iconst 0, 1) := by decide +kernel
theorem d_VA_checkExports_100 : decode b_VA_checkExports 100 = .ok (.putfield 39, 3) := by decide +kernel
theorem d_VA_checkExports_103 : decode b_VA_checkExports 103 = .ok (.iconst 0, 1) := by decide +kernel
theorem d_VA_checkExports_104 : decode b_VA_checkExports 104 = .ok (.istore_n 3, 1) := by decide +kernel
theorem d_VA_checkExports_105 : decode b_VA_checkExports 105 = .ok (.iload_n 3, 1) := by decide +kernel
theorem d_VA_checkExports_106 : decode b_VA_checkExports 106 = .ok (.iload_n 1, 1) := by decide +kernel
theorem d_VA_checkExports_107 : decode b_VA_checkExports 107 = .ok (.if_icmp .ge 86, 3) := by decide +kernel
theorem d_VA_checkExports_110 : decode b_VA_checkExports 110 = .ok (.aload_n 0, 1) := by decide +kernel
theorem d_VA_checkExports_111 : decode b_VA_checkExports 111 = .ok (.aload_n 0, 1) := by decide +kernel
theorem d_VA_checkExports_112 : decode b_VA_checkExports 112 = .ok (.getfield 39, 3) := by decide +kernel
theorem d_VA_checkExports_115 : decode b_VA_checkExports 115 = .ok (.ifCond .eq 68, 3) := by decide +kernel
theorem d_VA_checkExports_118 : decode b_VA_checkExports 118 = .ok (.aload_n 0, 1) := by decide +kernel
theorem d_VA_checkExports_119 : decode b_VA_checkExports 119 = .ok (.getfield 28, 3) := by decide +kernel
theorem d_VA_checkExports_122 : decode b_VA_checkExports 122 = .ok (.getfield 95, 3) := by decide +kernel
theorem d_VA_checkExports_125 : decode b_VA_checkExports 125 = .ok (.iload_n 1, 1) := by decide +kernel
theorem d_VA_checkExports_126 : decode b_VA_checkExports 126 = .ok (.iaload, 1) := by decide +kernel
theorem d_VA_checkExports_127 : decode b_VA_checkExports 127 = .ok (.aload_n 0, 1) := by decide +kernel
theorem d_VA_checkExports_128 : decode b_VA_checkExports 128 = .ok (.getfield 28, 3) := by decide +kernel
theorem d_VA_checkExports_131 : decode b_VA_checkExports 131 = .ok (.getfield 95, 3) := by decide +kernel
theorem d_VA_checkExports_134 : decode b_VA_checkExports 134 = .ok (.iload_n 3, 1) := by decide +kernel
theorem d_VA_checkExports_135 : decode b_VA_checkExports 135 = .ok (.iaload, 1) := by decide +kernel
theorem d_VA_checkExports_136 : decode b_VA_checkExports 136 = .ok (.if_icmp .ne 43, 3) := by decide +kernel
theorem d_VA_checkExports_139 : decode b_VA_checkExports 139 = .ok (.aload_n 0, 1) := by decide +kernel
theorem d_VA_checkExports_140 : decode b_VA_checkExports 140 = .ok (.getfield 28, 3) := by decide +kernel
theorem d_VA_checkExports_143 : decode b_VA_checkExports 143 = .ok (.getfield 98, 3) := by decide +kernel
theorem d_VA_checkExports_146 : decode b_VA_checkExports 146 = .ok (.aload_n 0, 1) := by decide +kernel
theorem d_VA_checkExports_147 : decode b_VA_checkExports 147 = .ok (.getfield 28, 3) := by decide +kernel
theorem d_VA_checkExports_150 : decode b_VA_checkExports 150 = .ok (.getfield 102, 3) := by decide +kernel
theorem d_VA_checkExports_153 : decode b_VA_checkExports 153 = .ok (.iload_n 1, 1) := by decide +kernel
theorem d_VA_checkExports_154 : decode b_VA_checkExports 154 = .ok (.iaload, 1) := by decide +kernel
theorem d_VA_checkExports_155 : decode b_VA_checkExports 155 = .ok (.aload_n 0, 1) := by decide +kernel
theorem d_VA_checkExports_156 : decode b_VA_checkExports 156 = .ok (.getfield 28, 3) := by decide +kernel
theorem d_VA_checkExports_159 : decode b_VA_checkExports 159 = .ok (.getfield 102, 3) := by decide +kernel
theorem d_VA_checkExports_162 : decode b_VA_checkExports 162 = .ok (.iload_n 3, 1) := by decide +kernel
theorem d_VA_checkExports_163 : decode b_VA_checkExports 163 = .ok (.iaload, 1) := by decide +kernel
theorem d_VA_checkExports_164 : decode b_VA_checkExports 164 = .ok (.aload_n 0, 1) := by decide +kernel
theorem d_VA_checkExports_165 : decode b_VA_checkExports 165 = .ok (.getfield 28, 3) := by decide +kernel
theorem d_VA_checkExports_168 : decode b_VA_checkExports 168 = .ok (.getfield 95, 3) := by decide +kernel
theorem d_VA_checkExports_171 : decode b_VA_checkExports 171 = .ok (.iload_n 1, 1) := by decide +kernel
theorem d_VA_checkExports_172 : decode b_VA_checkExports 172 = .ok (.iaload, 1) := by decide +kernel
theorem d_VA_checkExports_173 : decode b_VA_checkExports 173 = .ok (.invokevirtual 105, 3) := by decide +kernel
theorem d_VA_checkExports_176 : decode b_VA_checkExports 176 = .ok (.ifCond .ne 7, 3) := by decide +kernel
theorem d_VA_checkExports_179 : decode b_VA_checkExports 179 = .ok (.iconst 1, 1) := by decide +kernel
theorem d_VA_checkExports_180 : decode b_VA_checkExports 180 = .ok (.goto 4, 3) := by decide +kernel
theorem d_VA_checkExports_183 : decode b_VA_checkExports 183 = .ok (.iconst 0, 1) := by decide +kernel
theorem d_VA_checkExports_184 : decode b_VA_checkExports 184 = .ok (.putfield 39, 3) := by decide +kernel
theorem d_VA_checkExports_187 : decode b_VA_checkExports 187 = .ok (.iinc 3 1, 3) := by decide +kernel
theorem d_VA_checkExports_190 : decode b_VA_checkExports 190 = .ok (.goto (-85), 3) := by decide +kernel
theorem d_VA_checkExports_193 : decode b_VA_checkExports 193 = .ok (.iinc 1 1, 3) := by decide +kernel
theorem d_VA_checkExports_196 : decode b_VA_checkExports 196 = .ok (.goto (-194), 3) := by decide +kernel
theorem d_VA_checkExports_199 : decode b_VA_checkExports 199 = .ok (.return_, 1) := by decide +kernel
theorem kM_VA_105 : Cond.methodLink R_VA 105 y_BR_samePart ∈ lw_g := in_g 1403 (by decide +kernel) rfl
theorem kV_BR_samePart : Cond.instanceMethod y_BR_samePart ∈ lw_g := in_g 1091 (by decide +kernel) rfl
theorem kS_BR_samePart : Cond.selects R_BR y_BR_samePart y_BR_samePart ∈ lw_g := in_g 1092 (by decide +kernel) rfl
theorem kF_VA_83 : Cond.fieldLink R_VA 83 "WaferForge$Wafer" "exportCount" "I" ∈ lw_g := in_g 194 (by decide +kernel) rfl
theorem kF_VA_86 : Cond.fieldLink R_VA 86 "WaferForge$Wafer" "exportKinds" "[I" ∈ lw_g := in_g 197 (by decide +kernel) rfl
theorem kF_VA_95 : Cond.fieldLink R_VA 95 "WaferForge$Wafer" "exportSizes" "[I" ∈ lw_g := in_g 206 (by decide +kernel) rfl
theorem kF_VA_98 : Cond.fieldLink R_VA 98 "WaferForge$Wafer" "bytes" "LWaferForge$ByteRow;" ∈ lw_g := in_g 144 (by decide +kernel) rfl
theorem kF_VA_102 : Cond.fieldLink R_VA 102 "WaferForge$Wafer" "exportStarts" "[I" ∈ lw_g := in_g 203 (by decide +kernel) rfl
theorem kF_VA_92 : Cond.fieldLink R_VA 92 "WaferForge$Wafer" "exportIndices" "[I" ∈ lw_g := in_g 200 (by decide +kernel) rfl
abbrev at_VA_checkExports (dC : Nat → ClassId) (dI : Nat → Nat → Nat) (h0 aw ac ty bo bg bh bd ab wek wei wes wez ax : Nat) (cax cwek cwei cwes cwez : ClassId) (h0_function : Int32) (h0_height : Int32) (h0_depth : Int32) (law : List Value) (aw_functionCount : Int32) (aw_hasMemory : Int32) (aw_globalCount : Int32) (aw_exportCount : Int32) (ab_length : Int32) (gax : Nat → Int32) (gwek : Nat → Int32) (gwei : Nat → Int32) (gwes : Nat → Int32) (gwez : Nat → Int32) (A : Nat → Prop) (u : Int32) (t : State) : Prop := match u with | h0_sound => va_P (dC, dI) cls [(h0, .inr (9, [.ref aw, .ref ac, .int h0_sound, .int h0_function, .ref ty, .int h0_height, .ref bo, .ref bg, .ref bh, .ref bd, .int h0_depth])), (aw, .inr (10, law)), (ab, .inr (1, [.ref ax, .int ab_length])), (ax, .inl (cax, 8192, .inl gax)), (wek, .inl (cwek, 40, .inl gwek)), (wei, .inl (cwei, 40, .inl gwei)), (wes, .inl (cwes, 40, .inl gwes)), (wez, .inl (cwez, 40, .inl gwez))] t.heap ∧ va_K (dC, dI) cls [(cax, .byte), (cwek, .int), (cwei, .int), (cwes, .int), (cwez, .int)] t ∧ va_D A [(h0, .inr (9, [.ref aw, .ref ac, .int h0_sound, .int h0_function, .ref ty, .int h0_height, .ref bo, .ref bg, .ref bh, .ref bd, .int h0_depth])), (aw, .inr (10, law)), (ab, .inr (1, [.ref ax, .int ab_length])), (ax, .inl (cax, 8192, .inl gax)), (wek, .inl (cwek, 40, .inl gwek)), (wei, .inl (cwei, 40, .inl gwei)), (wes, .inl (cwes, 40, .inl gwes)), (wez, .inl (cwez, 40, .inl gwez))]
set_option maxHeartbeats 4000000 in
set_option maxRecDepth 100000 in
theorem c_VA_checkExports (l : Launch) (dC : Nat → ClassId) (dI : Nat → Nat → Nat) (sz : Nat) (h0 aw ac ty bo bg bh bd ab wek wei wes wez ax : Nat) (cax cwek cwei cwes cwez : ClassId) (h0_sound : Int32) (h0_function : Int32) (h0_height : Int32) (h0_depth : Int32) (law : List Value) (aw_functionCount : Int32) (aw_hasMemory : Int32) (aw_globalCount : Int32) (aw_exportCount : Int32) (ab_length : Int32) (gax : Nat → Int32) (gwek : Nat → Int32) (gwei : Nat → Int32) (gwes : Nat → Int32) (gwez : Nat → Int32) (paw_0 : law[0]? = some (.ref ab)) (paw_6 : law[6]? = some (.int aw_functionCount)) (paw_8 : law[8]? = some (.int aw_hasMemory)) (paw_11 : law[11]? = some (.int aw_globalCount)) (paw_16 : law[16]? = some (.int aw_exportCount)) (paw_17 : law[17]? = some (.ref wek)) (paw_18 : law[18]? = some (.ref wei)) (paw_19 : law[19]? = some (.ref wes)) (paw_20 : law[20]? = some (.ref wez)) (plaw : law.length = 21) (b_h0_sound : h0_sound = 0 ∨ h0_sound = 1) (b_ab_length : 0 ≤ ab_length.toInt ∧ ab_length.toInt ≤ 8192) (b_aw_functionCount : 0 ≤ aw_functionCount.toInt ∧ aw_functionCount.toInt ≤ 30) (b_aw_hasMemory : aw_hasMemory = 0 ∨ aw_hasMemory = 1) (b_aw_globalCount : 0 ≤ aw_globalCount.toInt ∧ aw_globalCount.toInt ≤ 20) (b_aw_exportCount : 0 ≤ aw_exportCount.toInt ∧ aw_exportCount.toInt ≤ 40)   (hre : rd_E aw_exportCount.toInt gwez) : Met l y_VA_checkExports w_VA_checkExports ({ frames := 1, cells := 0, slots := 0, locals := 24 }) (va_Pc [.ref h0] (fun U => U.heap.size = sz ∧ va_P (dC, dI) cls [(h0, .inr (9, [.ref aw, .ref ac, .int h0_sound, .int h0_function, .ref ty, .int h0_height, .ref bo, .ref bg, .ref bh, .ref bd, .int h0_depth])), (aw, .inr (10, law)), (ab, .inr (1, [.ref ax, .int ab_length])), (ax, .inl (cax, 8192, .inl gax)), (wek, .inl (cwek, 40, .inl gwek)), (wei, .inl (cwei, 40, .inl gwei)), (wes, .inl (cwes, 40, .inl gwes)), (wez, .inl (cwez, 40, .inl gwez))] U.heap ∧ va_K (dC, dI) cls [(cax, .byte), (cwek, .int), (cwei, .int), (cwes, .int), (cwez, .int)] U ∧ va_D (fun _ => True) [(h0, .inr (9, [.ref aw, .ref ac, .int h0_sound, .int h0_function, .ref ty, .int h0_height, .ref bo, .ref bg, .ref bh, .ref bd, .int h0_depth])), (aw, .inr (10, law)), (ab, .inr (1, [.ref ax, .int ab_length])), (ax, .inl (cax, 8192, .inl gax)), (wek, .inl (cwek, 40, .inl gwek)), (wei, .inl (cwei, 40, .inl gwei)), (wes, .inl (cwes, 40, .inl gwes)), (wez, .inl (cwez, 40, .inl gwez))])) (va_Qv (fun (u : Int32) => match u with | h0_sound2 => (h0_sound2 = 0 ∨ h0_sound2 = 1) ∧ (h0_sound2.toInt = 1 → h0_sound.toInt = 1)) (at_VA_checkExports dC dI h0 aw ac ty bo bg bh bd ab wek wei wes wez ax cax cwek cwei cwes cwez h0_function h0_height h0_depth law aw_functionCount aw_hasMemory aw_globalCount aw_exportCount ab_length gax gwek gwei gwes gwez (va_A [(h0, .inr (9, [.ref aw, .ref ac, .int h0_sound, .int h0_function, .ref ty, .int h0_height, .ref bo, .ref bg, .ref bh, .ref bd, .int h0_depth])), (aw, .inr (10, law)), (ab, .inr (1, [.ref ax, .int ab_length])), (ax, .inl (cax, 8192, .inl gax)), (wek, .inl (cwek, 40, .inl gwek)), (wei, .inl (cwei, 40, .inl gwei)), (wes, .inl (cwes, 40, .inl gwes)), (wez, .inl (cwez, 40, .inl gwez))] sz)) (va_A [(h0, .inr (9, [.ref aw, .ref ac, .int h0_sound, .int h0_function, .ref ty, .int h0_height, .ref bo, .ref bg, .ref bh, .ref bd, .int h0_depth])), (aw, .inr (10, law)), (ab, .inr (1, [.ref ax, .int ab_length])), (ax, .inl (cax, 8192, .inl gax)), (wek, .inl (cwek, 40, .inl gwek)), (wei, .inl (cwei, 40, .inl gwei)), (wes, .inl (cwes, 40, .inl gwes)), (wez, .inl (cwez, 40, .inl gwez))] sz)) 0 0 (va_A [(h0, .inr (9, [.ref aw, .ref ac, .int h0_sound, .int h0_function, .ref ty, .int h0_height, .ref bo, .ref bg, .ref bh, .ref bd, .int h0_depth])), (aw, .inr (10, law)), (ab, .inr (1, [.ref ax, .int ab_length])), (ax, .inl (cax, 8192, .inl gax)), (wek, .inl (cwek, 40, .inl gwek)), (wei, .inl (cwei, 40, .inl gwei)), (wes, .inl (cwes, 40, .inl gwes)), (wez, .inl (cwez, 40, .inl gwez))] sz) := by
  refine Met.ofW (cc := b_VA_checkExports) (maxL := 4) (ret := none) (by decide) rfl ?_
  intro p e s m args below meth c s₁ B hml hv
  obtain ⟨rfl, hsz, hP, hK, hD0⟩ := hv
  have hx := B.exec
  have hb := B.bytes
  have hr := B.returns
  have hts0 := atoms_spec (ws := w_VA_checkExports) B.pre
  have hts : ∀ w ∈ lw_g, w.before _ s = true := fun w h => hts0 w (List.mem_cons_of_mem _ h)
  have hown : s.vm.findClass R_VA = some m.cls := findClass_of_methodNamed B.named
  have hlocks := B.notSynchronized
  clear hts0
  subst hsz
  have hD := hD0.self (sz := s.heap.size)
  generalize hAe : va_A [(h0, .inr (9, [.ref aw, .ref ac, .int h0_sound, .int h0_function, .ref ty, .int h0_height, .ref bo, .ref bg, .ref bh, .ref bd, .int h0_depth])), (aw, .inr (10, law)), (ab, .inr (1, [.ref ax, .int ab_length])), (ax, .inl (cax, 8192, .inl gax)), (wek, .inl (cwek, 40, .inl gwek)), (wei, .inl (cwei, 40, .inl gwei)), (wes, .inl (cwes, 40, .inl gwes)), (wez, .inl (cwez, 40, .inl gwez))] s.heap.size = A at hD ⊢
  have hA : ∀ q : Nat, s.heap.size ≤ q → A q := fun q h => by rw [← hAe]; exact Or.inr h
  clear hAe
  have hP : va_P (dC, dI) cls [(h0, .inr (9, [.ref aw, .ref ac, .int h0_sound, .int h0_function, .ref ty, .int h0_height, .ref bo, .ref bg, .ref bh, .ref bd, .int h0_depth])), (aw, .inr (10, law)), (ab, .inr (1, [.ref ax, .int ab_length])), (ax, .inl (cax, 8192, .inl gax)), (wek, .inl (cwek, 40, .inl gwek)), (wei, .inl (cwei, 40, .inl gwei)), (wes, .inl (cwes, 40, .inl gwes)), (wez, .inl (cwez, 40, .inl gwez))] s.heap := hP
  have hl := lv_entry ([.ref h0]) (n := 4) (Nat.le_of_ble_eq_true rfl)
  rw [lg_entry_eq]
  generalize (lg_sl ([.ref h0]) ++ List.replicate (4 - (lg_sl ([.ref h0])).length) Slot.unset).toArray = ls at hl ⊢
  have hl : lv_has ls 4 [(0, .ref h0)] := hl
  have k0 : (0 : Int32).toInt = 0 := by decide
  refine w_gen (A := A) hP (fun H locs hP hS => ?_)
  have k1 : (1 : Int32).toInt = 1 := by decide
  have k3 : (3 : Int32).toInt = 3 := by decide
  have th0_sound := b01 b_h0_sound
  have taw_hasMemory := b01 b_aw_hasMemory
  refine lv_iconst (v := 0) hx hb d_VA_checkExports_0 (by decide) ?_
  refine lv_istore_n (lv' := [(1, .int 0), (0, .ref h0)]) hx hb d_VA_checkExports_1 rfl hl (by decide) rfl (fun ls hl => ?_)
  refine w_loop (σ := Int32 × Int32) (fun u H locs ls => match u with | (j2_l1, j2_h0_sound) => (0 ≤ j2_l1.toInt ∧ j2_l1.toInt ≤ 40) ∧ (j2_h0_sound = 0 ∨ j2_h0_sound = 1) ∧ (j2_l1.toInt ≤ aw_exportCount.toInt) ∧ (j2_h0_sound.toInt = 1 → h0_sound.toInt = 1) ∧ va_P (dC, dI) cls [(h0, .inr (9, [.ref aw, .ref ac, .int j2_h0_sound, .int h0_function, .ref ty, .int h0_height, .ref bo, .ref bg, .ref bh, .ref bd, .int h0_depth])), (aw, .inr (10, law)), (ab, .inr (1, [.ref ax, .int ab_length])), (ax, .inl (cax, 8192, .inl gax)), (wek, .inl (cwek, 40, .inl gwek)), (wei, .inl (cwei, 40, .inl gwei)), (wes, .inl (cwes, 40, .inl gwes)), (wez, .inl (cwez, 40, .inl gwez))] H ∧ va_D A [(h0, .inr (9, [.ref aw, .ref ac, .int j2_h0_sound, .int h0_function, .ref ty, .int h0_height, .ref bo, .ref bg, .ref bh, .ref bd, .int h0_depth])), (aw, .inr (10, law)), (ab, .inr (1, [.ref ax, .int ab_length])), (ax, .inl (cax, 8192, .inl gax)), (wek, .inl (cwek, 40, .inl gwek)), (wei, .inl (cwei, 40, .inl gwei)), (wes, .inl (cwes, 40, .inl gwes)), (wez, .inl (cwez, 40, .inl gwez))] ∧ va_S A s.heap H locs ∧ lv_has ls 4 [(0, .ref h0), (1, .int j2_l1)]) (fun u => match u with | (j2_l1, j2_h0_sound) => (aw_exportCount.toInt - j2_l1.toInt).toNat) ?_ (0, h0_sound) ⟨by (try dsimp only) <;> omega, b_h0_sound, by (try dsimp only) <;> omega, by (try dsimp only) <;> omega, hP, hD, hS, lv_sub hl [1, 0] rfl⟩
  intro N2 ih2 u H locs ls hN2 hI
  obtain ⟨j2_l1, j2_h0_sound⟩ := u
  obtain ⟨b_j2_l1, b_j2_h0_sound, v1, v2, hP, hD, hS, hl⟩ := hI
  have tj2_h0_sound := b01 b_j2_h0_sound
  have hN2 : (aw_exportCount.toInt - j2_l1.toInt).toNat < N2 + 1 := hN2
  refine lv_iload_n hx hb d_VA_checkExports_2 rfl (lv_at hl 1 rfl) ?_
  refine lv_aload_n hx hb d_VA_checkExports_3 rfl (lv_at hl 0 rfl) ?_
  refine va_get (D := (dC, dI)) (ci := 9) (v := .ref aw) (C := R_VA) (T := F_VA) (N := 11) hx hb hts i_VA hown hK hP 0 rfl rfl 0 (by decide) (hts _ kF_VA_28) (fun _ h9 => h9) rfl d_VA_checkExports_4 ?_
  refine va_get (D := (dC, dI)) (ci := 10) (v := .int aw_exportCount) (C := R_WA) (T := F_WA) (N := 21) hx hb hts i_WA hown hK hP 1 rfl rfl 16 (by decide) (hts _ kF_VA_83) (fun _ h9 => h9) paw_16 d_VA_checkExports_7 ?_
  refine lv_icmp_ge (tgt := 199) hx hb d_VA_checkExports_10 (by decide) (fun c10 => ?_) (fun c10 => ?_)
  · have q10 := leI c10
    have hP9 := hP.sub (ws' := [(h0, .inr (9, [.ref aw, .ref ac, .int j2_h0_sound, .int h0_function, .ref ty, .int h0_height, .ref bo, .ref bg, .ref bh, .ref bd, .int h0_depth])), (aw, .inr (10, law)), (ab, .inr (1, [.ref ax, .int ab_length])), (ax, .inl (cax, 8192, .inl gax)), (wek, .inl (cwek, 40, .inl gwek)), (wei, .inl (cwei, 40, .inl gwei)), (wes, .inl (cwes, 40, .inl gwes)), (wez, .inl (cwez, 40, .inl gwez))]) [0, 1, 2, 3, 4, 5, 6, 7] rfl
    have hD9 := hD.sub (ws' := [(h0, .inr (9, [.ref aw, .ref ac, .int j2_h0_sound, .int h0_function, .ref ty, .int h0_height, .ref bo, .ref bg, .ref bh, .ref bd, .int h0_depth])), (aw, .inr (10, law)), (ab, .inr (1, [.ref ax, .int ab_length])), (ax, .inl (cax, 8192, .inl gax)), (wek, .inl (cwek, 40, .inl gwek)), (wei, .inl (cwei, 40, .inl gwei)), (wes, .inl (cwes, 40, .inl gwes)), (wez, .inl (cwez, 40, .inl gwez))]) [0, 1, 2, 3, 4, 5, 6, 7] (by decide) rfl
    exact W.vret hx hb hr (fun t ht hW => ⟨⟨j2_h0_sound, rfl, ⟨b_j2_h0_sound, by (try dsimp only) <;> omega⟩, by rw [ht]; exact hP9, va_K.moved hW.alike hK, hD9⟩, hS.F ht⟩) hS.2.2 d_VA_checkExports_199
  · have q10 := nleI c10
    refine lv_aload_n hx hb d_VA_checkExports_13 rfl (lv_at hl 0 rfl) ?_
    refine va_get (D := (dC, dI)) (ci := 9) (v := .ref aw) (C := R_VA) (T := F_VA) (N := 11) hx hb hts i_VA hown hK hP 0 rfl rfl 0 (by decide) (hts _ kF_VA_28) (fun _ h9 => h9) rfl d_VA_checkExports_14 ?_
    refine va_get (D := (dC, dI)) (ci := 10) (v := .ref wek) (C := R_WA) (T := F_WA) (N := 21) hx hb hts i_WA hown hK hP 1 rfl rfl 17 (by decide) (hts _ kF_VA_86) (fun _ h9 => h9) paw_17 d_VA_checkExports_17 ?_
    refine lv_iload_n hx hb d_VA_checkExports_20 rfl (lv_at hl 1 rfl) ?_
    have g21 : vp_in j2_l1 40 := vp_in_iff.mpr ⟨by omega, by omega⟩
    refine va_iald hx hb hK hP 4 1 rfl rfl g21 d_VA_checkExports_21 ?_
    refine lv_topi (fun x1 ex1 => ?_)
    refine w_cut (pc2 := 73) (σ := Int32) (fun u H locs ls => match u with | j73_s0 => va_P (dC, dI) cls [(h0, .inr (9, [.ref aw, .ref ac, .int j2_h0_sound, .int h0_function, .ref ty, .int h0_height, .ref bo, .ref bg, .ref bh, .ref bd, .int h0_depth])), (aw, .inr (10, law)), (ab, .inr (1, [.ref ax, .int ab_length])), (ax, .inl (cax, 8192, .inl gax)), (wek, .inl (cwek, 40, .inl gwek)), (wei, .inl (cwei, 40, .inl gwei)), (wes, .inl (cwes, 40, .inl gwes)), (wez, .inl (cwez, 40, .inl gwez))] H ∧ va_D A [(h0, .inr (9, [.ref aw, .ref ac, .int j2_h0_sound, .int h0_function, .ref ty, .int h0_height, .ref bo, .ref bg, .ref bh, .ref bd, .int h0_depth])), (aw, .inr (10, law)), (ab, .inr (1, [.ref ax, .int ab_length])), (ax, .inl (cax, 8192, .inl gax)), (wek, .inl (cwek, 40, .inl gwek)), (wei, .inl (cwei, 40, .inl gwei)), (wes, .inl (cwes, 40, .inl gwes)), (wez, .inl (cwez, 40, .inl gwez))] ∧ va_S A s.heap H locs ∧ lv_has ls 4 [(0, .ref h0), (1, .int j2_l1)]) (fun u => match u with | j73_s0 => [.int j73_s0]) ?_ (fun jn73 => ?_)
    · intro u H locs ls hI
      obtain ⟨j73_s0, rfl⟩ : ∃ z, z = u := ⟨_, rfl⟩
      obtain ⟨hP, hD, hS, hl⟩ := hI
      refine lv_istore_n (lv' := [(2, .int j73_s0), (0, .ref h0), (1, .int j2_l1)]) hx hb d_VA_checkExports_73 rfl hl (by decide) rfl (fun ls hl => ?_)
      refine lv_aload_n hx hb d_VA_checkExports_74 rfl (lv_at hl 1 rfl) ?_
      refine lv_aload_n hx hb d_VA_checkExports_75 rfl (lv_at hl 1 rfl) ?_
      refine va_get (D := (dC, dI)) (ci := 9) (v := .int j2_h0_sound) (C := R_VA) (T := F_VA) (N := 11) hx hb hts i_VA hown hK hP 0 rfl rfl 2 (by decide) (hts _ kF_VA_39) (fun _ h9 => h9) rfl d_VA_checkExports_76 ?_
      refine w_cut (pc2 := 100) (σ := Int32) (fun u H locs ls => match u with | j100_s0 => (j100_s0 = 0 ∨ j100_s0 = 1) ∧ (j100_s0.toInt = 1 → j2_h0_sound.toInt = 1) ∧ va_P (dC, dI) cls [(h0, .inr (9, [.ref aw, .ref ac, .int j2_h0_sound, .int h0_function, .ref ty, .int h0_height, .ref bo, .ref bg, .ref bh, .ref bd, .int h0_depth])), (aw, .inr (10, law)), (ab, .inr (1, [.ref ax, .int ab_length])), (ax, .inl (cax, 8192, .inl gax)), (wek, .inl (cwek, 40, .inl gwek)), (wei, .inl (cwei, 40, .inl gwei)), (wes, .inl (cwes, 40, .inl gwes)), (wez, .inl (cwez, 40, .inl gwez))] H ∧ va_D A [(h0, .inr (9, [.ref aw, .ref ac, .int j2_h0_sound, .int h0_function, .ref ty, .int h0_height, .ref bo, .ref bg, .ref bh, .ref bd, .int h0_depth])), (aw, .inr (10, law)), (ab, .inr (1, [.ref ax, .int ab_length])), (ax, .inl (cax, 8192, .inl gax)), (wek, .inl (cwek, 40, .inl gwek)), (wei, .inl (cwei, 40, .inl gwei)), (wes, .inl (cwes, 40, .inl gwes)), (wez, .inl (cwez, 40, .inl gwez))] ∧ va_S A s.heap H locs ∧ lv_has ls 4 [(0, .ref h0), (1, .int j2_l1)]) (fun u => match u with | j100_s0 => [.int j100_s0, .ref h0]) ?_ (fun jn100 => ?_)
      · intro u H locs ls hI
        obtain ⟨j100_s0, rfl⟩ : ∃ z, z = u := ⟨_, rfl⟩
        obtain ⟨b_j100_s0, x0, hP, hD, hS, hl⟩ := hI
        have tj100_s0 := b01 b_j100_s0
        refine va_put (D := (dC, dI)) (ci := 9) (v := .int j100_s0) (ty := .boolean) (C := R_VA) (T := F_VA) (N := 11) hx hb hts i_VA t_VA t_VA_ok n_VA hown hK hP hD hS 0 rfl rfl 2 (by decide) (hts _ kF_VA_39) (fun _ h9 => h9) rfl (by decide +kernel) (zn01 (b_j100_s0)) (fz01 (b_j100_s0)) (Nat.le_of_ble_eq_true rfl) d_VA_checkExports_100 (fun H locs hP hD hS => ?_)
        refine lv_iconst (v := 0) hx hb d_VA_checkExports_103 (by decide) ?_
        refine lv_istore_n (lv' := [(3, .int 0), (0, .ref h0), (1, .int j2_l1)]) hx hb d_VA_checkExports_104 rfl hl (by decide) rfl (fun ls hl => ?_)
        refine w_loop (σ := Int32 × Int32) (fun u H locs ls => match u with | (j105_l3, j105_h0_sound) => (0 ≤ j105_l3.toInt ∧ j105_l3.toInt ≤ 40) ∧ (j105_h0_sound = 0 ∨ j105_h0_sound = 1) ∧ (j105_l3.toInt ≤ j2_l1.toInt) ∧ (j105_h0_sound.toInt = 1 → j100_s0.toInt = 1) ∧ va_P (dC, dI) cls [(h0, .inr (9, [.ref aw, .ref ac, .int j105_h0_sound, .int h0_function, .ref ty, .int h0_height, .ref bo, .ref bg, .ref bh, .ref bd, .int h0_depth])), (aw, .inr (10, law)), (ab, .inr (1, [.ref ax, .int ab_length])), (ax, .inl (cax, 8192, .inl gax)), (wek, .inl (cwek, 40, .inl gwek)), (wei, .inl (cwei, 40, .inl gwei)), (wes, .inl (cwes, 40, .inl gwes)), (wez, .inl (cwez, 40, .inl gwez))] H ∧ va_D A [(h0, .inr (9, [.ref aw, .ref ac, .int j105_h0_sound, .int h0_function, .ref ty, .int h0_height, .ref bo, .ref bg, .ref bh, .ref bd, .int h0_depth])), (aw, .inr (10, law)), (ab, .inr (1, [.ref ax, .int ab_length])), (ax, .inl (cax, 8192, .inl gax)), (wek, .inl (cwek, 40, .inl gwek)), (wei, .inl (cwei, 40, .inl gwei)), (wes, .inl (cwes, 40, .inl gwes)), (wez, .inl (cwez, 40, .inl gwez))] ∧ va_S A s.heap H locs ∧ lv_has ls 4 [(0, .ref h0), (1, .int j2_l1), (3, .int j105_l3)]) (fun u => match u with | (j105_l3, j105_h0_sound) => (j2_l1.toInt - j105_l3.toInt).toNat) ?_ (0, j100_s0) ⟨by (try dsimp only) <;> omega, b_j100_s0, by (try dsimp only) <;> omega, by (try dsimp only) <;> omega, hP, hD, hS, lv_sub hl [1, 2, 0] rfl⟩
        intro N105 ih105 u H locs ls hN105 hI
        obtain ⟨j105_l3, j105_h0_sound⟩ := u
        obtain ⟨b_j105_l3, b_j105_h0_sound, u1, u2, hP, hD, hS, hl⟩ := hI
        have tj105_h0_sound := b01 b_j105_h0_sound
        have hN105 : (j2_l1.toInt - j105_l3.toInt).toNat < N105 + 1 := hN105
        refine lv_iload_n hx hb d_VA_checkExports_105 rfl (lv_at hl 2 rfl) ?_
        refine lv_iload_n hx hb d_VA_checkExports_106 rfl (lv_at hl 1 rfl) ?_
        refine lv_icmp_ge (tgt := 193) hx hb d_VA_checkExports_107 (by decide) (fun c107 => ?_) (fun c107 => ?_)
        · have q107 := leI c107
          obtain ⟨x2, ex2⟩ : ∃ z : Int32, z = j2_l1 + 1 := ⟨_, rfl⟩
          have tx2 : x2.toInt = j2_l1.toInt + 1 := by have z := i32_add ex2 (by omega) (by omega); omega
          refine lv_iinc (v := x2) (lv' := [(1, .int x2), (0, .ref h0), (3, .int j105_l3)]) hx hb d_VA_checkExports_193 hl (k := 1) rfl (by rw [ex2]; rfl) (by decide) rfl (fun ls hl => ?_)
          refine lv_goto (tgt := 2) hx hb d_VA_checkExports_196 (by decide) ?_
          exact ih2 (x2, j105_h0_sound) _ _ _ (by show (aw_exportCount.toInt - x2.toInt).toNat < N2; omega) ⟨by (try dsimp only) <;> omega, b_j105_h0_sound, by (try dsimp only) <;> omega, by (try dsimp only) <;> omega, hP, hD, hS, lv_sub hl [1, 0] rfl⟩
        · have q107 := nleI c107
          refine lv_aload_n hx hb d_VA_checkExports_110 rfl (lv_at hl 0 rfl) ?_
          refine lv_aload_n hx hb d_VA_checkExports_111 rfl (lv_at hl 0 rfl) ?_
          refine va_get (D := (dC, dI)) (ci := 9) (v := .int j105_h0_sound) (C := R_VA) (T := F_VA) (N := 11) hx hb hts i_VA hown hK hP 0 rfl rfl 2 (by decide) (hts _ kF_VA_39) (fun _ h9 => h9) rfl d_VA_checkExports_112 ?_
          refine w_cut (pc2 := 184) (σ := Int32) (fun u H locs ls => match u with | j184_s0 => (j184_s0 = 0 ∨ j184_s0 = 1) ∧ (j184_s0.toInt = 1 → j105_h0_sound.toInt = 1) ∧ va_P (dC, dI) cls [(h0, .inr (9, [.ref aw, .ref ac, .int j105_h0_sound, .int h0_function, .ref ty, .int h0_height, .ref bo, .ref bg, .ref bh, .ref bd, .int h0_depth])), (aw, .inr (10, law)), (ab, .inr (1, [.ref ax, .int ab_length])), (ax, .inl (cax, 8192, .inl gax)), (wek, .inl (cwek, 40, .inl gwek)), (wei, .inl (cwei, 40, .inl gwei)), (wes, .inl (cwes, 40, .inl gwes)), (wez, .inl (cwez, 40, .inl gwez))] H ∧ va_D A [(h0, .inr (9, [.ref aw, .ref ac, .int j105_h0_sound, .int h0_function, .ref ty, .int h0_height, .ref bo, .ref bg, .ref bh, .ref bd, .int h0_depth])), (aw, .inr (10, law)), (ab, .inr (1, [.ref ax, .int ab_length])), (ax, .inl (cax, 8192, .inl gax)), (wek, .inl (cwek, 40, .inl gwek)), (wei, .inl (cwei, 40, .inl gwei)), (wes, .inl (cwes, 40, .inl gwes)), (wez, .inl (cwez, 40, .inl gwez))] ∧ va_S A s.heap H locs ∧ lv_has ls 4 [(0, .ref h0), (1, .int j2_l1), (3, .int j105_l3)]) (fun u => match u with | j184_s0 => [.int j184_s0, .ref h0]) ?_ (fun jn184 => ?_)
          · intro u H locs ls hI
            obtain ⟨j184_s0, rfl⟩ : ∃ z, z = u := ⟨_, rfl⟩
            obtain ⟨b_j184_s0, x1, hP, hD, hS, hl⟩ := hI
            have tj184_s0 := b01 b_j184_s0
            refine va_put (D := (dC, dI)) (ci := 9) (v := .int j184_s0) (ty := .boolean) (C := R_VA) (T := F_VA) (N := 11) hx hb hts i_VA t_VA t_VA_ok n_VA hown hK hP hD hS 0 rfl rfl 2 (by decide) (hts _ kF_VA_39) (fun _ h9 => h9) rfl (by decide +kernel) (zn01 (b_j184_s0)) (fz01 (b_j184_s0)) (Nat.le_of_ble_eq_true rfl) d_VA_checkExports_184 (fun H locs hP hD hS => ?_)
            obtain ⟨x3, ex3⟩ : ∃ z : Int32, z = j105_l3 + 1 := ⟨_, rfl⟩
            have tx3 : x3.toInt = j105_l3.toInt + 1 := by have z := i32_add ex3 (by omega) (by omega); omega
            refine lv_iinc (v := x3) (lv' := [(3, .int x3), (0, .ref h0), (1, .int j2_l1)]) hx hb d_VA_checkExports_187 hl (k := 2) rfl (by rw [ex3]; rfl) (by decide) rfl (fun ls hl => ?_)
            refine lv_goto (tgt := 105) hx hb d_VA_checkExports_190 (by decide) ?_
            exact ih105 (x3, j184_s0) _ _ _ (by show (j2_l1.toInt - x3.toInt).toNat < N105; omega) ⟨by (try dsimp only) <;> omega, b_j184_s0, by (try dsimp only) <;> omega, by (try dsimp only) <;> omega, hP, hD, hS, lv_sub hl [1, 2, 0] rfl⟩
          · skip
            refine lv_if_eq (tgt := 183) hx hb d_VA_checkExports_115 (by decide) (fun c115 => ?_) (fun c115 => ?_)
            · have q115 := eqI c115
              refine lv_iconst (v := 0) hx hb d_VA_checkExports_183 (by decide) ?_
              exact jn184 0 _ _ _ ⟨Or.inl rfl, by (try dsimp only) <;> omega, hP, hD, hS, lv_sub hl [0, 1, 2] rfl⟩
            · have q115 := neI c115
              refine lv_aload_n hx hb d_VA_checkExports_118 rfl (lv_at hl 0 rfl) ?_
              refine va_get (D := (dC, dI)) (ci := 9) (v := .ref aw) (C := R_VA) (T := F_VA) (N := 11) hx hb hts i_VA hown hK hP 0 rfl rfl 0 (by decide) (hts _ kF_VA_28) (fun _ h9 => h9) rfl d_VA_checkExports_119 ?_
              refine va_get (D := (dC, dI)) (ci := 10) (v := .ref wez) (C := R_WA) (T := F_WA) (N := 21) hx hb hts i_WA hown hK hP 1 rfl rfl 20 (by decide) (hts _ kF_VA_95) (fun _ h9 => h9) paw_20 d_VA_checkExports_122 ?_
              refine lv_iload_n hx hb d_VA_checkExports_125 rfl (lv_at hl 1 rfl) ?_
              have g126 : vp_in j2_l1 40 := vp_in_iff.mpr ⟨by omega, by omega⟩
              refine va_iald hx hb hK hP 7 4 rfl rfl g126 d_VA_checkExports_126 ?_
              refine lv_topi (fun x4 ex4 => ?_)
              refine lv_aload_n hx hb d_VA_checkExports_127 rfl (lv_at hl 0 rfl) ?_
              refine va_get (D := (dC, dI)) (ci := 9) (v := .ref aw) (C := R_VA) (T := F_VA) (N := 11) hx hb hts i_VA hown hK hP 0 rfl rfl 0 (by decide) (hts _ kF_VA_28) (fun _ h9 => h9) rfl d_VA_checkExports_128 ?_
              refine va_get (D := (dC, dI)) (ci := 10) (v := .ref wez) (C := R_WA) (T := F_WA) (N := 21) hx hb hts i_WA hown hK hP 1 rfl rfl 20 (by decide) (hts _ kF_VA_95) (fun _ h9 => h9) paw_20 d_VA_checkExports_131 ?_
              refine lv_iload_n hx hb d_VA_checkExports_134 rfl (lv_at hl 2 rfl) ?_
              have g135 : vp_in j105_l3 40 := vp_in_iff.mpr ⟨by omega, by omega⟩
              refine va_iald hx hb hK hP 7 4 rfl rfl g135 d_VA_checkExports_135 ?_
              refine lv_topi (fun x5 ex5 => ?_)
              refine lv_icmp_ne (tgt := 179) hx hb d_VA_checkExports_136 (by decide) (fun c136 => ?_) (fun c136 => ?_)
              · have q136 := neI c136
                refine lv_iconst (v := 1) hx hb d_VA_checkExports_179 (by decide) ?_
                refine lv_goto (tgt := 184) hx hb d_VA_checkExports_180 (by decide) ?_
                exact jn184 1 _ _ _ ⟨Or.inr rfl, by (try dsimp only) <;> omega, hP, hD, hS, lv_sub hl [0, 1, 2] rfl⟩
              · have q136 := eqI c136
                refine lv_aload_n hx hb d_VA_checkExports_139 rfl (lv_at hl 0 rfl) ?_
                refine va_get (D := (dC, dI)) (ci := 9) (v := .ref aw) (C := R_VA) (T := F_VA) (N := 11) hx hb hts i_VA hown hK hP 0 rfl rfl 0 (by decide) (hts _ kF_VA_28) (fun _ h9 => h9) rfl d_VA_checkExports_140 ?_
                refine va_get (D := (dC, dI)) (ci := 10) (v := .ref ab) (C := R_WA) (T := F_WA) (N := 21) hx hb hts i_WA hown hK hP 1 rfl rfl 0 (by decide) (hts _ kF_VA_98) (fun _ h9 => h9) paw_0 d_VA_checkExports_143 ?_
                refine lv_aload_n hx hb d_VA_checkExports_146 rfl (lv_at hl 0 rfl) ?_
                refine va_get (D := (dC, dI)) (ci := 9) (v := .ref aw) (C := R_VA) (T := F_VA) (N := 11) hx hb hts i_VA hown hK hP 0 rfl rfl 0 (by decide) (hts _ kF_VA_28) (fun _ h9 => h9) rfl d_VA_checkExports_147 ?_
                refine va_get (D := (dC, dI)) (ci := 10) (v := .ref wes) (C := R_WA) (T := F_WA) (N := 21) hx hb hts i_WA hown hK hP 1 rfl rfl 19 (by decide) (hts _ kF_VA_102) (fun _ h9 => h9) paw_19 d_VA_checkExports_150 ?_
                refine lv_iload_n hx hb d_VA_checkExports_153 rfl (lv_at hl 1 rfl) ?_
                have g154 : vp_in j2_l1 40 := vp_in_iff.mpr ⟨by omega, by omega⟩
                refine va_iald hx hb hK hP 6 3 rfl rfl g154 d_VA_checkExports_154 ?_
                refine lv_topi (fun x6 ex6 => ?_)
                refine lv_aload_n hx hb d_VA_checkExports_155 rfl (lv_at hl 0 rfl) ?_
                refine va_get (D := (dC, dI)) (ci := 9) (v := .ref aw) (C := R_VA) (T := F_VA) (N := 11) hx hb hts i_VA hown hK hP 0 rfl rfl 0 (by decide) (hts _ kF_VA_28) (fun _ h9 => h9) rfl d_VA_checkExports_156 ?_
                refine va_get (D := (dC, dI)) (ci := 10) (v := .ref wes) (C := R_WA) (T := F_WA) (N := 21) hx hb hts i_WA hown hK hP 1 rfl rfl 19 (by decide) (hts _ kF_VA_102) (fun _ h9 => h9) paw_19 d_VA_checkExports_159 ?_
                refine lv_iload_n hx hb d_VA_checkExports_162 rfl (lv_at hl 2 rfl) ?_
                have g163 : vp_in j105_l3 40 := vp_in_iff.mpr ⟨by omega, by omega⟩
                refine va_iald hx hb hK hP 6 3 rfl rfl g163 d_VA_checkExports_163 ?_
                refine lv_topi (fun x7 ex7 => ?_)
                refine lv_aload_n hx hb d_VA_checkExports_164 rfl (lv_at hl 0 rfl) ?_
                refine va_get (D := (dC, dI)) (ci := 9) (v := .ref aw) (C := R_VA) (T := F_VA) (N := 11) hx hb hts i_VA hown hK hP 0 rfl rfl 0 (by decide) (hts _ kF_VA_28) (fun _ h9 => h9) rfl d_VA_checkExports_165 ?_
                refine va_get (D := (dC, dI)) (ci := 10) (v := .ref wez) (C := R_WA) (T := F_WA) (N := 21) hx hb hts i_WA hown hK hP 1 rfl rfl 20 (by decide) (hts _ kF_VA_95) (fun _ h9 => h9) paw_20 d_VA_checkExports_168 ?_
                refine lv_iload_n hx hb d_VA_checkExports_171 rfl (lv_at hl 1 rfl) ?_
                have g172 : vp_in j2_l1 40 := vp_in_iff.mpr ⟨by omega, by omega⟩
                refine va_iald hx hb hK hP 7 4 rfl rfl g172 d_VA_checkExports_172 ?_
                refine lv_topi (fun x8 ex8 => ?_)
                have tx8 := hre j2_l1.toNatClampNeg (by have := i32_clamp (x := j2_l1) (by omega); omega)
                rw [← ex8] at tx8
                have hPc := hP.sub (ws' := [(ab, .inr (1, [.ref ax, .int ab_length])), (ax, .inl (cax, 8192, .inl gax))]) [2, 3] rfl
                have hDc := hD.sub (ws' := [(ab, .inr (1, [.ref ax, .int ab_length])), (ax, .inl (cax, 8192, .inl gax))]) [2, 3] (by decide) rfl
                have hKc := hK.sub (tys' := [(cax, .byte)]) [0] rfl
                have hFc := va_free (wc := [(ab, .inr (1, [.ref ax, .int ab_length])), (ax, .inl (cax, 8192, .inl gax))]) hD hS hA [2, 3] rfl
                refine va_calli (va_runV (As := [.int x6, .int x7, .int x8]) (rest := [.ref h0]) ⟨hx, hb, hml, hown, hts⟩ (c_BR_samePart l dC dI ab ax H.size cax 8192 ab_length gax (by omega) (by omega) (by omega) x6 x7 x8 (by omega)) (cwV 3 hts (gV kM_VA_105 kV_BR_samePart kS_BR_samePart kI_BR kC_BR_samePart) rfl rfl rfl (by decide +kernel) ⟨Nat.le_of_ble_eq_true rfl, Nat.le_of_ble_eq_true rfl⟩) ⟨fun a U g mk z => by obtain ⟨z0, z1, zP, zK, zD⟩ := z; exact ⟨z0, z1, zP, va_K.moved (u := U) (U := U.calling g mk a) (Vm.Alike.refl U.vm) zK, zD⟩, va_recv hKc hPc (ci := 1) (q0 := 0) rfl rfl, fun U hU hW => ⟨rfl, by rw [hU], by rw [hU]; exact hPc, va_K.moved hW.alike hKc, hDc.weaken (fun _ _ _ _ => trivial)⟩⟩ rfl rfl hl.1 rfl (lv_room (Nat.le_of_ble_eq_true rfl)) d_VA_checkExports_173 ⟨(Nat.zero_le _), (Nat.zero_le _)⟩) hS (fun q _ h => hFc q h) hFc (fun r9 u t H1 locs ht hvm hw hB hz1 hk1 hS => ?_)
                obtain ⟨er9, rfl⟩ := hw
                obtain ⟨hP1, hK1, hD1⟩ := hB
                rw [ht] at hP1
                obtain ⟨hP, hD⟩ := va_join (wr := [(h0, .inr (9, [.ref aw, .ref ac, .int j105_h0_sound, .int h0_function, .ref ty, .int h0_height, .ref bo, .ref bg, .ref bh, .ref bd, .int h0_depth])), (aw, .inr (10, law)), (wek, .inl (cwek, 40, .inl gwek)), (wei, .inl (cwei, 40, .inl gwei)), (wes, .inl (cwes, 40, .inl gwes)), (wez, .inl (cwez, 40, .inl gwez))]) (w1 := [(ab, .inr (1, [.ref ax, .int ab_length])), (ax, .inl (cax, 8192, .inl gax))]) hP hD [2, 3] [0, 1, 4, 5, 6, 7] rfl rfl (by decide) (by decide) hk1 hFc hP1 hD1
                clear hPc hDc hKc hFc hz1 hk1 hP1 hK1 hD1
                generalize H1 = H at hP hS ⊢
                have hP : va_P (dC, dI) cls [(h0, .inr (9, [.ref aw, .ref ac, .int j105_h0_sound, .int h0_function, .ref ty, .int h0_height, .ref bo, .ref bg, .ref bh, .ref bd, .int h0_depth])), (aw, .inr (10, law)), (wek, .inl (cwek, 40, .inl gwek)), (wei, .inl (cwei, 40, .inl gwei)), (wes, .inl (cwes, 40, .inl gwes)), (wez, .inl (cwez, 40, .inl gwez)), (ab, .inr (1, [.ref ax, .int ab_length])), (ax, .inl (cax, 8192, .inl gax))] H := hP
                have hD : va_D A [(h0, .inr (9, [.ref aw, .ref ac, .int j105_h0_sound, .int h0_function, .ref ty, .int h0_height, .ref bo, .ref bg, .ref bh, .ref bd, .int h0_depth])), (aw, .inr (10, law)), (wek, .inl (cwek, 40, .inl gwek)), (wei, .inl (cwei, 40, .inl gwei)), (wes, .inl (cwes, 40, .inl gwes)), (wez, .inl (cwez, 40, .inl gwez)), (ab, .inr (1, [.ref ax, .int ab_length])), (ax, .inl (cax, 8192, .inl gax))] := hD
                refine lv_if_ne (tgt := 183) hx hb d_VA_checkExports_176 (by decide) (fun c176 => ?_) (fun c176 => ?_)
                · have q176 := neI c176
                  refine lv_iconst (v := 0) hx hb d_VA_checkExports_183 (by decide) ?_
                  exact jn184 0 _ _ _ ⟨Or.inl rfl, by (try dsimp only) <;> omega, hP.sub [0, 1, 6, 7, 2, 3, 4, 5] rfl, hD.sub [0, 1, 6, 7, 2, 3, 4, 5] (by decide) rfl, hS, lv_sub hl [0, 1, 2] rfl⟩
                · have q176 := eqI c176
                  refine lv_iconst (v := 1) hx hb d_VA_checkExports_179 (by decide) ?_
                  refine lv_goto (tgt := 184) hx hb d_VA_checkExports_180 (by decide) ?_
                  exact jn184 1 _ _ _ ⟨Or.inr rfl, by (try dsimp only) <;> omega, hP.sub [0, 1, 6, 7, 2, 3, 4, 5] rfl, hD.sub [0, 1, 6, 7, 2, 3, 4, 5] (by decide) rfl, hS, lv_sub hl [0, 1, 2] rfl⟩
      · skip
        refine w_cut (pc2 := 99) (σ := Unit) (fun u H locs ls => match u with | _ => va_P (dC, dI) cls [(h0, .inr (9, [.ref aw, .ref ac, .int j2_h0_sound, .int h0_function, .ref ty, .int h0_height, .ref bo, .ref bg, .ref bh, .ref bd, .int h0_depth])), (aw, .inr (10, law)), (ab, .inr (1, [.ref ax, .int ab_length])), (ax, .inl (cax, 8192, .inl gax)), (wek, .inl (cwek, 40, .inl gwek)), (wei, .inl (cwei, 40, .inl gwei)), (wes, .inl (cwes, 40, .inl gwes)), (wez, .inl (cwez, 40, .inl gwez))] H ∧ va_D A [(h0, .inr (9, [.ref aw, .ref ac, .int j2_h0_sound, .int h0_function, .ref ty, .int h0_height, .ref bo, .ref bg, .ref bh, .ref bd, .int h0_depth])), (aw, .inr (10, law)), (ab, .inr (1, [.ref ax, .int ab_length])), (ax, .inl (cax, 8192, .inl gax)), (wek, .inl (cwek, 40, .inl gwek)), (wei, .inl (cwei, 40, .inl gwei)), (wes, .inl (cwes, 40, .inl gwes)), (wez, .inl (cwez, 40, .inl gwez))] ∧ va_S A s.heap H locs ∧ lv_has ls 4 [(0, .ref h0), (1, .int j2_l1)]) (fun u => match u with | _ => [.ref h0]) ?_ (fun jn99 => ?_)
        · intro u H locs ls hI
          obtain ⟨hP, hD, hS, hl⟩ := hI
          refine lv_iconst (v := 0) hx hb d_VA_checkExports_99 (by decide) ?_
          exact jn100 0 _ _ _ ⟨Or.inl rfl, by (try dsimp only) <;> omega, hP, hD, hS, lv_sub hl [0, 1] rfl⟩
        · skip
          refine lv_if_eq (tgt := 99) hx hb d_VA_checkExports_79 (by decide) (fun c79 => ?_) (fun c79 => ?_)
          · have q79 := eqI c79
            exact jn99 () _ _ _ ⟨hP, hD, hS, lv_sub hl [1, 2] rfl⟩
          · have q79 := neI c79
            refine lv_aload_n hx hb d_VA_checkExports_82 rfl (lv_at hl 1 rfl) ?_
            refine va_get (D := (dC, dI)) (ci := 9) (v := .ref aw) (C := R_VA) (T := F_VA) (N := 11) hx hb hts i_VA hown hK hP 0 rfl rfl 0 (by decide) (hts _ kF_VA_28) (fun _ h9 => h9) rfl d_VA_checkExports_83 ?_
            refine va_get (D := (dC, dI)) (ci := 10) (v := .ref wei) (C := R_WA) (T := F_WA) (N := 21) hx hb hts i_WA hown hK hP 1 rfl rfl 18 (by decide) (hts _ kF_VA_92) (fun _ h9 => h9) paw_18 d_VA_checkExports_86 ?_
            refine lv_iload_n hx hb d_VA_checkExports_89 rfl (lv_at hl 2 rfl) ?_
            have g90 : vp_in j2_l1 40 := vp_in_iff.mpr ⟨by omega, by omega⟩
            refine va_iald hx hb hK hP 5 2 rfl rfl g90 d_VA_checkExports_90 ?_
            refine lv_topi (fun x10 ex10 => ?_)
            refine lv_iload_n hx hb d_VA_checkExports_91 rfl (lv_at hl 0 rfl) ?_
            refine lv_icmp_ge (tgt := 99) hx hb d_VA_checkExports_92 (by decide) (fun c92 => ?_) (fun c92 => ?_)
            · have q92 := leI c92
              exact jn99 () _ _ _ ⟨hP, hD, hS, lv_sub hl [1, 2] rfl⟩
            · have q92 := nleI c92
              refine lv_iconst (v := 1) hx hb d_VA_checkExports_95 (by decide) ?_
              refine lv_goto (tgt := 100) hx hb d_VA_checkExports_96 (by decide) ?_
              exact jn100 1 _ _ _ ⟨Or.inr rfl, by (try dsimp only) <;> omega, hP, hD, hS, lv_sub hl [1, 2] rfl⟩
    · skip
      refine lv_if_ne (tgt := 35) hx hb d_VA_checkExports_22 (by decide) (fun c22 => ?_) (fun c22 => ?_)
      · have q22 := neI c22
        refine lv_aload_n hx hb d_VA_checkExports_35 rfl (lv_at hl 0 rfl) ?_
        refine va_get (D := (dC, dI)) (ci := 9) (v := .ref aw) (C := R_VA) (T := F_VA) (N := 11) hx hb hts i_VA hown hK hP 0 rfl rfl 0 (by decide) (hts _ kF_VA_28) (fun _ h9 => h9) rfl d_VA_checkExports_36 ?_
        refine va_get (D := (dC, dI)) (ci := 10) (v := .ref wek) (C := R_WA) (T := F_WA) (N := 21) hx hb hts i_WA hown hK hP 1 rfl rfl 17 (by decide) (hts _ kF_VA_86) (fun _ h9 => h9) paw_17 d_VA_checkExports_39 ?_
        refine lv_iload_n hx hb d_VA_checkExports_42 rfl (lv_at hl 1 rfl) ?_
        have g43 : vp_in j2_l1 40 := vp_in_iff.mpr ⟨by omega, by omega⟩
        refine va_iald hx hb hK hP 4 1 rfl rfl g43 d_VA_checkExports_43 ?_
        refine lv_topi (fun x11 ex11 => ?_)
        refine lv_iconst (v := 3) hx hb d_VA_checkExports_44 (by decide) ?_
        refine lv_icmp_ne (tgt := 58) hx hb d_VA_checkExports_45 (by decide) (fun c45 => ?_) (fun c45 => ?_)
        · have q45 := neI c45
          refine lv_aload_n hx hb d_VA_checkExports_58 rfl (lv_at hl 0 rfl) ?_
          refine va_get (D := (dC, dI)) (ci := 9) (v := .ref aw) (C := R_VA) (T := F_VA) (N := 11) hx hb hts i_VA hown hK hP 0 rfl rfl 0 (by decide) (hts _ kF_VA_28) (fun _ h9 => h9) rfl d_VA_checkExports_59 ?_
          refine va_get (D := (dC, dI)) (ci := 10) (v := .int aw_hasMemory) (C := R_WA) (T := F_WA) (N := 21) hx hb hts i_WA hown hK hP 1 rfl rfl 8 (by decide) (hts _ kF_VA_89) (fun _ h9 => h9) paw_8 d_VA_checkExports_62 ?_
          refine lv_if_eq (tgt := 72) hx hb d_VA_checkExports_65 (by decide) (fun c65 => ?_) (fun c65 => ?_)
          · have q65 := eqI c65
            refine lv_iconst (v := 0) hx hb d_VA_checkExports_72 (by decide) ?_
            exact jn73 0 _ _ _ ⟨hP, hD, hS, lv_sub hl [0, 1] rfl⟩
          · have q65 := neI c65
            refine lv_iconst (v := 1) hx hb d_VA_checkExports_68 (by decide) ?_
            refine lv_goto (tgt := 73) hx hb d_VA_checkExports_69 (by decide) ?_
            exact jn73 1 _ _ _ ⟨hP, hD, hS, lv_sub hl [0, 1] rfl⟩
        · have q45 := eqI c45
          refine lv_aload_n hx hb d_VA_checkExports_48 rfl (lv_at hl 0 rfl) ?_
          refine va_get (D := (dC, dI)) (ci := 9) (v := .ref aw) (C := R_VA) (T := F_VA) (N := 11) hx hb hts i_VA hown hK hP 0 rfl rfl 0 (by decide) (hts _ kF_VA_28) (fun _ h9 => h9) rfl d_VA_checkExports_49 ?_
          refine va_get (D := (dC, dI)) (ci := 10) (v := .int aw_globalCount) (C := R_WA) (T := F_WA) (N := 21) hx hb hts i_WA hown hK hP 1 rfl rfl 11 (by decide) (hts _ kF_VA_63) (fun _ h9 => h9) paw_11 d_VA_checkExports_52 ?_
          refine lv_goto (tgt := 73) hx hb d_VA_checkExports_55 (by decide) ?_
          exact jn73 aw_globalCount _ _ _ ⟨hP, hD, hS, lv_sub hl [0, 1] rfl⟩
      · have q22 := eqI c22
        refine lv_aload_n hx hb d_VA_checkExports_25 rfl (lv_at hl 0 rfl) ?_
        refine va_get (D := (dC, dI)) (ci := 9) (v := .ref aw) (C := R_VA) (T := F_VA) (N := 11) hx hb hts i_VA hown hK hP 0 rfl rfl 0 (by decide) (hts _ kF_VA_28) (fun _ h9 => h9) rfl d_VA_checkExports_26 ?_
        refine va_get (D := (dC, dI)) (ci := 10) (v := .int aw_functionCount) (C := R_WA) (T := F_WA) (N := 21) hx hb hts i_WA hown hK hP 1 rfl rfl 6 (by decide) (hts _ kF_VA_49) (fun _ h9 => h9) paw_6 d_VA_checkExports_29 ?_
        refine lv_goto (tgt := 73) hx hb d_VA_checkExports_32 (by decide) ?_
        exact jn73 aw_functionCount _ _ _ ⟨hP, hD, hS, lv_sub hl [0, 1] rfl⟩
abbrev b_VA_check : ByteArray := prog_12_method_2_code
def y_VA_check : MethodName := ⟨R_VA, "check", "(LWaferForge$Wafer;)Z"⟩
abbrev w_VA_check : List Cond := .code y_VA_check b_VA_check 3 (Option.some .boolean) :: lw_g
theorem kC_VA_check : Cond.code y_VA_check b_VA_check 3 (Option.some .boolean) ∈ lw_g := in_g 1392 (by decide +kernel) rfl
theorem d_VA_check_0 : decode b_VA_check 0 = .ok (.aload_n 0, 1) := by decide +kernel
theorem d_VA_check_1 : decode b_VA_check 1 = .ok (.aload_n 1, 1) := by decide +kernel
theorem d_VA_check_2 : decode b_VA_check 2 = .ok (.putfield 28, 3) := by decide +kernel
theorem d_VA_check_5 : decode b_VA_check 5 = .ok (.aload_n 0, 1) := by decide +kernel
theorem d_VA_check_6 : decode b_VA_check 6 = .ok (.aload_n 1, 1) := by decide +kernel
theorem d_VA_check_7 : decode b_VA_check 7 = .ok (.getfield 32, 3) := by decide +kernel
theorem d_VA_check_10 : decode b_VA_check 10 = .ok (.putfield 38, 3) := by decide +kernel
theorem d_VA_check_13 : decode b_VA_check 13 = .ok (.aload_n 0, 1) := by decide +kernel
theorem d_VA_check_14 : decode b_VA_check 14 = .ok (.iconst 1, 1) := by decide +kernel
theorem d_VA_check_15 : decode b_VA_check 15 = .ok (.putfield 39, 3) := by decide +kernel
theorem d_VA_check_18 : decode b_VA_check 18 = .ok (.aload_n 0, 1) := by decide +kernel
theorem d_VA_check_19 : decode b_VA_check 19 = .ok (.invokevirtual 43, 3) := by decide +kernel
theorem d_VA_check_22 : decode b_VA_check 22 = .ok (.aload_n 0, 1) := by decide +kernel
theorem d_VA_check_23 : decode b_VA_check 23 = .ok (.invokevirtual 46, 3) := by decide +kernel
theorem d_VA_check_26 : decode b_VA_check 26 = .ok (.iconst 0, 1) := by decide +kernel
theorem d_VA_check_27 : decode b_VA_check 27 = .ok (.istore_n 2, 1) := by decide +kernel
theorem d_VA_check_28 : decode b_VA_check 28 = .ok (.iload_n 2, 1) := by decide +kernel
theorem d_VA_check_29 : decode b_VA_check 29 = .ok (.aload_n 0, 1) := by decide +kernel
theorem d_VA_check_30 : decode b_VA_check 30 = .ok (.getfield 28, 3) := by decide +kernel
theorem d_VA_check_33 : decode b_VA_check 33 = .ok (.getfield 49, 3) := by decide +kernel
theorem d_VA_check_36 : decode b_VA_check 36 = .ok (.if_icmp .ge 21, 3) := by decide +kernel
theorem d_VA_check_39 : decode b_VA_check 39 = .ok (.aload_n 0, 1) := by decide +kernel
theorem d_VA_check_40 : decode b_VA_check 40 = .ok (.getfield 39, 3) := by decide +kernel
theorem d_VA_check_43 : decode b_VA_check 43 = .ok (.ifCond .eq 14, 3) := by decide +kernel
theorem d_VA_check_46 : decode b_VA_check 46 = .ok (.aload_n 0, 1) := by decide +kernel
theorem d_VA_check_47 : decode b_VA_check 47 = .ok (.iload_n 2, 1) := by decide +kernel
theorem d_VA_check_48 : decode b_VA_check 48 = .ok (.invokevirtual 53, 3) := by decide +kernel
theorem d_VA_check_51 : decode b_VA_check 51 = .ok (.iinc 2 1, 3) := by decide +kernel
theorem d_VA_check_54 : decode b_VA_check 54 = .ok (.goto (-26), 3) := by decide +kernel
theorem d_VA_check_57 : decode b_VA_check 57 = .ok (.aload_n 0, 1) := by decide +kernel
theorem d_VA_check_58 : decode b_VA_check 58 = .ok (.getfield 39, 3) := by decide +kernel
theorem d_VA_check_61 : decode b_VA_check 61 = .ok (.ireturn, 1) := by decide +kernel
theorem kM_VA_43 : Cond.methodLink R_VA 43 y_VA_checkTables ∈ lw_g := in_g 1393 (by decide +kernel) rfl
theorem kV_VA_checkTables : Cond.instanceMethod y_VA_checkTables ∈ lw_g := in_g 1395 (by decide +kernel) rfl
theorem kS_VA_checkTables : Cond.selects R_VA y_VA_checkTables y_VA_checkTables ∈ lw_g := in_s 81 (by decide +kernel) rfl
theorem kM_VA_46 : Cond.methodLink R_VA 46 y_VA_checkExports ∈ lw_g := in_g 1399 (by decide +kernel) rfl
theorem kV_VA_checkExports : Cond.instanceMethod y_VA_checkExports ∈ lw_g := in_g 1401 (by decide +kernel) rfl
theorem kS_VA_checkExports : Cond.selects R_VA y_VA_checkExports y_VA_checkExports ∈ lw_g := in_s 82 (by decide +kernel) rfl
theorem kM_VA_53 : Cond.methodLink R_VA 53 y_VA_checkFunction ∈ lw_g := in_g 1404 (by decide +kernel) rfl
theorem kV_VA_checkFunction : Cond.instanceMethod y_VA_checkFunction ∈ lw_g := in_g 1406 (by decide +kernel) rfl
theorem kS_VA_checkFunction : Cond.selects R_VA y_VA_checkFunction y_VA_checkFunction ∈ lw_g := in_s 83 (by decide +kernel) rfl
theorem kF_VA_32 : Cond.fieldLink R_VA 32 "WaferForge$Wafer" "codes" "LWaferForge$Codes;" ∈ lw_g := in_g 148 (by decide +kernel) rfl
abbrev at_VA_check (dC : Nat → ClassId) (dI : Nat → Nat → Nat) (h0 ty bo bg bh bd aw ab ac wat wap wag waf wgt wft wgc wek wei wes wez ax cfi clk clt cop cva cpt cel cla : Nat) (cax cty cbo cbg cbh cbd cwaf cwat cwap cwag cwgt cwft cwgc cwek cwei cwes cwez ccfi cclk cclt ccop ccva ccpt ccel ccla : ClassId) (h0_wafer : Value) (h0_codes : Value) (law : List Value) (aw_typeCount : Int32) (aw_functionCount : Int32) (aw_hasMemory : Int32) (aw_pagesLeast : Int64) (aw_pagesMost : Int64) (aw_globalCount : Int32) (aw_exportCount : Int32) (ab_length : Int32) (ac_length : Int32) (ac_labelCount : Int32) (gax : Nat → Int32) (gwaf : Nat → Int32) (gwat : Nat → Int32) (gwap : Nat → Int32) (gwag : Nat → Int32) (gwgt : Nat → Int32) (gwft : Nat → Int32) (gwgc : Nat → Int32) (gwek : Nat → Int32) (gwei : Nat → Int32) (gwes : Nat → Int32) (gwez : Nat → Int32) (gcfi : Nat → Int32) (gclk : Nat → Int32) (gclt : Nat → Int32) (gcop : Nat → Int32) (gcva : Nat → Int64) (gcpt : Nat → Int32) (gcel : Nat → Int32) (gcla : Nat → Int32) (A : Nat → Prop) (u : (Nat → Int32) × (Nat → Int32) × (Nat → Int32) × (Nat → Int32) × (Nat → Int32) × Int32 × Int32 × Int32 × Int32) (t : State) : Prop := match u with | (gbd, gbg, gbh, gbo, gty, h0_depth, h0_function, h0_height, h0_sound) => va_P (dC, dI) cls [(h0, .inr (9, [.ref aw, .ref ac, .int h0_sound, .int h0_function, .ref ty, .int h0_height, .ref bo, .ref bg, .ref bh, .ref bd, .int h0_depth])), (aw, .inr (10, law)), (ab, .inr (1, [.ref ax, .int ab_length])), (ac, .inr (3, [.ref cfi, .ref clk, .ref clt, .int ac_length, .ref cop, .ref cva, .ref cpt, .ref cel, .int ac_labelCount, .ref cla])), (ax, .inl (cax, 8192, .inl gax)), (ty, .inl (cty, 5000, .inl gty)), (bo, .inl (cbo, 101, .inl gbo)), (bg, .inl (cbg, 101, .inl gbg)), (bh, .inl (cbh, 101, .inl gbh)), (bd, .inl (cbd, 101, .inl gbd)), (waf, .inl (cwaf, 30, .inl gwaf)), (wat, .inl (cwat, 20, .inl gwat)), (wap, .inl (cwap, 160, .inl gwap)), (wag, .inl (cwag, 20, .inl gwag)), (wgt, .inl (cwgt, 20, .inl gwgt)), (wft, .inl (cwft, 20, .inl gwft)), (wgc, .inl (cwgc, 20, .inl gwgc)), (wek, .inl (cwek, 40, .inl gwek)), (wei, .inl (cwei, 40, .inl gwei)), (wes, .inl (cwes, 40, .inl gwes)), (wez, .inl (cwez, 40, .inl gwez)), (cfi, .inl (ccfi, 31, .inl gcfi)), (clk, .inl (cclk, 30, .inl gclk)), (clt, .inl (cclt, 1800, .inl gclt)), (cop, .inl (ccop, 5000, .inl gcop)), (cva, .inl (ccva, 5000, .inr (.inl gcva))), (cpt, .inl (ccpt, 5000, .inl gcpt)), (cel, .inl (ccel, 5000, .inl gcel)), (cla, .inl (ccla, 2000, .inl gcla))] t.heap ∧ va_K (dC, dI) cls [(cax, .byte), (cty, .int), (cbo, .int), (cbg, .int), (cbh, .int), (cbd, .boolean), (cwaf, .int), (cwat, .int), (cwap, .int), (cwag, .int), (cwgt, .int), (cwft, .int), (cwgc, .boolean), (cwek, .int), (cwei, .int), (cwes, .int), (cwez, .int), (ccfi, .int), (cclk, .int), (cclt, .int), (ccop, .int), (ccva, .long), (ccpt, .int), (ccel, .int), (ccla, .int)] t ∧ va_D A [(h0, .inr (9, [.ref aw, .ref ac, .int h0_sound, .int h0_function, .ref ty, .int h0_height, .ref bo, .ref bg, .ref bh, .ref bd, .int h0_depth])), (aw, .inr (10, law)), (ab, .inr (1, [.ref ax, .int ab_length])), (ac, .inr (3, [.ref cfi, .ref clk, .ref clt, .int ac_length, .ref cop, .ref cva, .ref cpt, .ref cel, .int ac_labelCount, .ref cla])), (ax, .inl (cax, 8192, .inl gax)), (ty, .inl (cty, 5000, .inl gty)), (bo, .inl (cbo, 101, .inl gbo)), (bg, .inl (cbg, 101, .inl gbg)), (bh, .inl (cbh, 101, .inl gbh)), (bd, .inl (cbd, 101, .inl gbd)), (waf, .inl (cwaf, 30, .inl gwaf)), (wat, .inl (cwat, 20, .inl gwat)), (wap, .inl (cwap, 160, .inl gwap)), (wag, .inl (cwag, 20, .inl gwag)), (wgt, .inl (cwgt, 20, .inl gwgt)), (wft, .inl (cwft, 20, .inl gwft)), (wgc, .inl (cwgc, 20, .inl gwgc)), (wek, .inl (cwek, 40, .inl gwek)), (wei, .inl (cwei, 40, .inl gwei)), (wes, .inl (cwes, 40, .inl gwes)), (wez, .inl (cwez, 40, .inl gwez)), (cfi, .inl (ccfi, 31, .inl gcfi)), (clk, .inl (cclk, 30, .inl gclk)), (clt, .inl (cclt, 1800, .inl gclt)), (cop, .inl (ccop, 5000, .inl gcop)), (cva, .inl (ccva, 5000, .inr (.inl gcva))), (cpt, .inl (ccpt, 5000, .inl gcpt)), (cel, .inl (ccel, 5000, .inl gcel)), (cla, .inl (ccla, 2000, .inl gcla))]
set_option maxHeartbeats 4000000 in
set_option maxRecDepth 100000 in
theorem c_VA_check (l : Launch) (dC : Nat → ClassId) (dI : Nat → Nat → Nat) (sz : Nat) (h0 ty bo bg bh bd aw ab ac wat wap wag waf wgt wft wgc wek wei wes wez ax cfi clk clt cop cva cpt cel cla : Nat) (cax cty cbo cbg cbh cbd cwaf cwat cwap cwag cwgt cwft cwgc cwek cwei cwes cwez ccfi cclk cclt ccop ccva ccpt ccel ccla : ClassId) (h0_wafer : Value) (h0_codes : Value) (h0_sound : Int32) (h0_function : Int32) (h0_height : Int32) (h0_depth : Int32) (law : List Value) (aw_typeCount : Int32) (aw_functionCount : Int32) (aw_hasMemory : Int32) (aw_pagesLeast : Int64) (aw_pagesMost : Int64) (aw_globalCount : Int32) (aw_exportCount : Int32) (ab_length : Int32) (ac_length : Int32) (ac_labelCount : Int32) (gax : Nat → Int32) (gty : Nat → Int32) (gbo : Nat → Int32) (gbg : Nat → Int32) (gbh : Nat → Int32) (gbd : Nat → Int32) (gwaf : Nat → Int32) (gwat : Nat → Int32) (gwap : Nat → Int32) (gwag : Nat → Int32) (gwgt : Nat → Int32) (gwft : Nat → Int32) (gwgc : Nat → Int32) (gwek : Nat → Int32) (gwei : Nat → Int32) (gwes : Nat → Int32) (gwez : Nat → Int32) (gcfi : Nat → Int32) (gclk : Nat → Int32) (gclt : Nat → Int32) (gcop : Nat → Int32) (gcva : Nat → Int64) (gcpt : Nat → Int32) (gcel : Nat → Int32) (gcla : Nat → Int32) (paw_0 : law[0]? = some (.ref ab)) (paw_1 : law[1]? = some (.ref ac)) (paw_2 : law[2]? = some (.int aw_typeCount)) (paw_3 : law[3]? = some (.ref wat)) (paw_4 : law[4]? = some (.ref wap)) (paw_5 : law[5]? = some (.ref wag)) (paw_6 : law[6]? = some (.int aw_functionCount)) (paw_7 : law[7]? = some (.ref waf)) (paw_8 : law[8]? = some (.int aw_hasMemory)) (paw_9 : law[9]? = some (.long aw_pagesLeast)) (paw_10 : law[10]? = some (.long aw_pagesMost)) (paw_11 : law[11]? = some (.int aw_globalCount)) (paw_12 : law[12]? = some (.ref wgt)) (paw_13 : law[13]? = some (.ref wft)) (paw_15 : law[15]? = some (.ref wgc)) (paw_16 : law[16]? = some (.int aw_exportCount)) (paw_17 : law[17]? = some (.ref wek)) (paw_18 : law[18]? = some (.ref wei)) (paw_19 : law[19]? = some (.ref wes)) (paw_20 : law[20]? = some (.ref wez)) (plaw : law.length = 21) (b_h0_sound : h0_sound = 0 ∨ h0_sound = 1) (b_h0_height : 0 ≤ h0_height.toInt ∧ h0_height.toInt ≤ 5000) (b_h0_depth : 0 ≤ h0_depth.toInt ∧ h0_depth.toInt ≤ 101) (b_ab_length : 0 ≤ ab_length.toInt ∧ ab_length.toInt ≤ 8192) (b_ac_length : 0 ≤ ac_length.toInt ∧ ac_length.toInt ≤ 5000) (b_ac_labelCount : 0 ≤ ac_labelCount.toInt ∧ ac_labelCount.toInt ≤ 2000) (b_gty : ∀ j : Nat, (gty j).toInt ≠ 64) (b_gbh : ∀ j : Nat, 0 ≤ (gbh j).toInt ∧ (gbh j).toInt ≤ 5000) (b_aw_typeCount : 0 ≤ aw_typeCount.toInt ∧ aw_typeCount.toInt ≤ 20) (b_aw_functionCount : 0 ≤ aw_functionCount.toInt ∧ aw_functionCount.toInt ≤ 30) (b_aw_hasMemory : aw_hasMemory = 0 ∨ aw_hasMemory = 1) (b_aw_globalCount : 0 ≤ aw_globalCount.toInt ∧ aw_globalCount.toInt ≤ 20) (b_aw_exportCount : 0 ≤ aw_exportCount.toInt ∧ aw_exportCount.toInt ≤ 40)   (hrt : rd_T aw_typeCount.toInt gwat gwap) (hrf : rd_F aw_functionCount.toInt gwaf) (hrg : rd_G aw_globalCount.toInt gwgt) (hre : rd_E aw_exportCount.toInt gwez) (hrc : rd_C aw_functionCount.toInt ac_length.toInt ac_labelCount.toInt gcfi gclk gclt gcop gcpt gcel gcva) (hlb : ∀ j : Nat, (j : Int) < ac_labelCount.toInt → 0 ≤ (gcla j).toInt) : Met l y_VA_check w_VA_check ({ frames := 5, cells := 0, slots := 0, locals := 113 }) (va_Pc [.ref h0, .ref aw] (fun U => U.heap.size = sz ∧ va_P (dC, dI) cls [(h0, .inr (9, [h0_wafer, h0_codes, .int h0_sound, .int h0_function, .ref ty, .int h0_height, .ref bo, .ref bg, .ref bh, .ref bd, .int h0_depth])), (aw, .inr (10, law)), (ab, .inr (1, [.ref ax, .int ab_length])), (ac, .inr (3, [.ref cfi, .ref clk, .ref clt, .int ac_length, .ref cop, .ref cva, .ref cpt, .ref cel, .int ac_labelCount, .ref cla])), (ax, .inl (cax, 8192, .inl gax)), (ty, .inl (cty, 5000, .inl gty)), (bo, .inl (cbo, 101, .inl gbo)), (bg, .inl (cbg, 101, .inl gbg)), (bh, .inl (cbh, 101, .inl gbh)), (bd, .inl (cbd, 101, .inl gbd)), (waf, .inl (cwaf, 30, .inl gwaf)), (wat, .inl (cwat, 20, .inl gwat)), (wap, .inl (cwap, 160, .inl gwap)), (wag, .inl (cwag, 20, .inl gwag)), (wgt, .inl (cwgt, 20, .inl gwgt)), (wft, .inl (cwft, 20, .inl gwft)), (wgc, .inl (cwgc, 20, .inl gwgc)), (wek, .inl (cwek, 40, .inl gwek)), (wei, .inl (cwei, 40, .inl gwei)), (wes, .inl (cwes, 40, .inl gwes)), (wez, .inl (cwez, 40, .inl gwez)), (cfi, .inl (ccfi, 31, .inl gcfi)), (clk, .inl (cclk, 30, .inl gclk)), (clt, .inl (cclt, 1800, .inl gclt)), (cop, .inl (ccop, 5000, .inl gcop)), (cva, .inl (ccva, 5000, .inr (.inl gcva))), (cpt, .inl (ccpt, 5000, .inl gcpt)), (cel, .inl (ccel, 5000, .inl gcel)), (cla, .inl (ccla, 2000, .inl gcla))] U.heap ∧ va_K (dC, dI) cls [(cax, .byte), (cty, .int), (cbo, .int), (cbg, .int), (cbh, .int), (cbd, .boolean), (cwaf, .int), (cwat, .int), (cwap, .int), (cwag, .int), (cwgt, .int), (cwft, .int), (cwgc, .boolean), (cwek, .int), (cwei, .int), (cwes, .int), (cwez, .int), (ccfi, .int), (cclk, .int), (cclt, .int), (ccop, .int), (ccva, .long), (ccpt, .int), (ccel, .int), (ccla, .int)] U ∧ va_D (fun _ => True) [(h0, .inr (9, [h0_wafer, h0_codes, .int h0_sound, .int h0_function, .ref ty, .int h0_height, .ref bo, .ref bg, .ref bh, .ref bd, .int h0_depth])), (aw, .inr (10, law)), (ab, .inr (1, [.ref ax, .int ab_length])), (ac, .inr (3, [.ref cfi, .ref clk, .ref clt, .int ac_length, .ref cop, .ref cva, .ref cpt, .ref cel, .int ac_labelCount, .ref cla])), (ax, .inl (cax, 8192, .inl gax)), (ty, .inl (cty, 5000, .inl gty)), (bo, .inl (cbo, 101, .inl gbo)), (bg, .inl (cbg, 101, .inl gbg)), (bh, .inl (cbh, 101, .inl gbh)), (bd, .inl (cbd, 101, .inl gbd)), (waf, .inl (cwaf, 30, .inl gwaf)), (wat, .inl (cwat, 20, .inl gwat)), (wap, .inl (cwap, 160, .inl gwap)), (wag, .inl (cwag, 20, .inl gwag)), (wgt, .inl (cwgt, 20, .inl gwgt)), (wft, .inl (cwft, 20, .inl gwft)), (wgc, .inl (cwgc, 20, .inl gwgc)), (wek, .inl (cwek, 40, .inl gwek)), (wei, .inl (cwei, 40, .inl gwei)), (wes, .inl (cwes, 40, .inl gwes)), (wez, .inl (cwez, 40, .inl gwez)), (cfi, .inl (ccfi, 31, .inl gcfi)), (clk, .inl (cclk, 30, .inl gclk)), (clt, .inl (cclt, 1800, .inl gclt)), (cop, .inl (ccop, 5000, .inl gcop)), (cva, .inl (ccva, 5000, .inr (.inl gcva))), (cpt, .inl (ccpt, 5000, .inl gcpt)), (cel, .inl (ccel, 5000, .inl gcel)), (cla, .inl (ccla, 2000, .inl gcla))])) (va_Qi (fun (r : Int32) (u : (Nat → Int32) × (Nat → Int32) × (Nat → Int32) × (Nat → Int32) × (Nat → Int32) × Int32 × Int32 × Int32 × Int32) => match u with | (gbd2, gbg2, gbh2, gbo2, gty2, h0_depth2, h0_function2, h0_height2, h0_sound2) => (r = 0 ∨ r = 1) ∧ (∀ j : Nat, 0 ≤ (gbh2 j).toInt ∧ (gbh2 j).toInt ≤ 5000) ∧ (∀ j : Nat, (gty2 j).toInt ≠ 64) ∧ (0 ≤ h0_depth2.toInt ∧ h0_depth2.toInt ≤ 101) ∧ (0 ≤ h0_height2.toInt ∧ h0_height2.toInt ≤ 5000) ∧ (h0_sound2 = 0 ∨ h0_sound2 = 1) ∧ (r = 1 → (mo_ok aw_functionCount.toInt aw_globalCount.toInt gwaf gwat gwag gcfi gclk gcop gcpt gcel gcla gcva) ∧ aw_pagesLeast.toInt ≤ 2)) (at_VA_check dC dI h0 ty bo bg bh bd aw ab ac wat wap wag waf wgt wft wgc wek wei wes wez ax cfi clk clt cop cva cpt cel cla cax cty cbo cbg cbh cbd cwaf cwat cwap cwag cwgt cwft cwgc cwek cwei cwes cwez ccfi cclk cclt ccop ccva ccpt ccel ccla h0_wafer h0_codes law aw_typeCount aw_functionCount aw_hasMemory aw_pagesLeast aw_pagesMost aw_globalCount aw_exportCount ab_length ac_length ac_labelCount gax gwaf gwat gwap gwag gwgt gwft gwgc gwek gwei gwes gwez gcfi gclk gclt gcop gcva gcpt gcel gcla (va_A [(h0, .inr (9, [h0_wafer, h0_codes, .int h0_sound, .int h0_function, .ref ty, .int h0_height, .ref bo, .ref bg, .ref bh, .ref bd, .int h0_depth])), (aw, .inr (10, law)), (ab, .inr (1, [.ref ax, .int ab_length])), (ac, .inr (3, [.ref cfi, .ref clk, .ref clt, .int ac_length, .ref cop, .ref cva, .ref cpt, .ref cel, .int ac_labelCount, .ref cla])), (ax, .inl (cax, 8192, .inl gax)), (ty, .inl (cty, 5000, .inl gty)), (bo, .inl (cbo, 101, .inl gbo)), (bg, .inl (cbg, 101, .inl gbg)), (bh, .inl (cbh, 101, .inl gbh)), (bd, .inl (cbd, 101, .inl gbd)), (waf, .inl (cwaf, 30, .inl gwaf)), (wat, .inl (cwat, 20, .inl gwat)), (wap, .inl (cwap, 160, .inl gwap)), (wag, .inl (cwag, 20, .inl gwag)), (wgt, .inl (cwgt, 20, .inl gwgt)), (wft, .inl (cwft, 20, .inl gwft)), (wgc, .inl (cwgc, 20, .inl gwgc)), (wek, .inl (cwek, 40, .inl gwek)), (wei, .inl (cwei, 40, .inl gwei)), (wes, .inl (cwes, 40, .inl gwes)), (wez, .inl (cwez, 40, .inl gwez)), (cfi, .inl (ccfi, 31, .inl gcfi)), (clk, .inl (cclk, 30, .inl gclk)), (clt, .inl (cclt, 1800, .inl gclt)), (cop, .inl (ccop, 5000, .inl gcop)), (cva, .inl (ccva, 5000, .inr (.inl gcva))), (cpt, .inl (ccpt, 5000, .inl gcpt)), (cel, .inl (ccel, 5000, .inl gcel)), (cla, .inl (ccla, 2000, .inl gcla))] sz)) (va_A [(h0, .inr (9, [h0_wafer, h0_codes, .int h0_sound, .int h0_function, .ref ty, .int h0_height, .ref bo, .ref bg, .ref bh, .ref bd, .int h0_depth])), (aw, .inr (10, law)), (ab, .inr (1, [.ref ax, .int ab_length])), (ac, .inr (3, [.ref cfi, .ref clk, .ref clt, .int ac_length, .ref cop, .ref cva, .ref cpt, .ref cel, .int ac_labelCount, .ref cla])), (ax, .inl (cax, 8192, .inl gax)), (ty, .inl (cty, 5000, .inl gty)), (bo, .inl (cbo, 101, .inl gbo)), (bg, .inl (cbg, 101, .inl gbg)), (bh, .inl (cbh, 101, .inl gbh)), (bd, .inl (cbd, 101, .inl gbd)), (waf, .inl (cwaf, 30, .inl gwaf)), (wat, .inl (cwat, 20, .inl gwat)), (wap, .inl (cwap, 160, .inl gwap)), (wag, .inl (cwag, 20, .inl gwag)), (wgt, .inl (cwgt, 20, .inl gwgt)), (wft, .inl (cwft, 20, .inl gwft)), (wgc, .inl (cwgc, 20, .inl gwgc)), (wek, .inl (cwek, 40, .inl gwek)), (wei, .inl (cwei, 40, .inl gwei)), (wes, .inl (cwes, 40, .inl gwes)), (wez, .inl (cwez, 40, .inl gwez)), (cfi, .inl (ccfi, 31, .inl gcfi)), (clk, .inl (cclk, 30, .inl gclk)), (clt, .inl (cclt, 1800, .inl gclt)), (cop, .inl (ccop, 5000, .inl gcop)), (cva, .inl (ccva, 5000, .inr (.inl gcva))), (cpt, .inl (ccpt, 5000, .inl gcpt)), (cel, .inl (ccel, 5000, .inl gcel)), (cla, .inl (ccla, 2000, .inl gcla))] sz)) 0 0 (va_A [(h0, .inr (9, [h0_wafer, h0_codes, .int h0_sound, .int h0_function, .ref ty, .int h0_height, .ref bo, .ref bg, .ref bh, .ref bd, .int h0_depth])), (aw, .inr (10, law)), (ab, .inr (1, [.ref ax, .int ab_length])), (ac, .inr (3, [.ref cfi, .ref clk, .ref clt, .int ac_length, .ref cop, .ref cva, .ref cpt, .ref cel, .int ac_labelCount, .ref cla])), (ax, .inl (cax, 8192, .inl gax)), (ty, .inl (cty, 5000, .inl gty)), (bo, .inl (cbo, 101, .inl gbo)), (bg, .inl (cbg, 101, .inl gbg)), (bh, .inl (cbh, 101, .inl gbh)), (bd, .inl (cbd, 101, .inl gbd)), (waf, .inl (cwaf, 30, .inl gwaf)), (wat, .inl (cwat, 20, .inl gwat)), (wap, .inl (cwap, 160, .inl gwap)), (wag, .inl (cwag, 20, .inl gwag)), (wgt, .inl (cwgt, 20, .inl gwgt)), (wft, .inl (cwft, 20, .inl gwft)), (wgc, .inl (cwgc, 20, .inl gwgc)), (wek, .inl (cwek, 40, .inl gwek)), (wei, .inl (cwei, 40, .inl gwei)), (wes, .inl (cwes, 40, .inl gwes)), (wez, .inl (cwez, 40, .inl gwez)), (cfi, .inl (ccfi, 31, .inl gcfi)), (clk, .inl (cclk, 30, .inl gclk)), (clt, .inl (cclt, 1800, .inl gclt)), (cop, .inl (ccop, 5000, .inl gcop)), (cva, .inl (ccva, 5000, .inr (.inl gcva))), (cpt, .inl (ccpt, 5000, .inl gcpt)), (cel, .inl (ccel, 5000, .inl gcel)), (cla, .inl (ccla, 2000, .inl gcla))] sz) := by
  refine Met.ofW (cc := b_VA_check) (maxL := 3) (ret := (Option.some .boolean)) (by decide) rfl ?_
  intro p e s m args below meth c s₁ B hml hv
  obtain ⟨rfl, hsz, hP, hK, hD0⟩ := hv
  have hx := B.exec
  have hb := B.bytes
  have hr := B.returns
  have hts0 := atoms_spec (ws := w_VA_check) B.pre
  have hts : ∀ w ∈ lw_g, w.before _ s = true := fun w h => hts0 w (List.mem_cons_of_mem _ h)
  have hown : s.vm.findClass R_VA = some m.cls := findClass_of_methodNamed B.named
  have hlocks := B.notSynchronized
  clear hts0
  subst hsz
  have hD := hD0.self (sz := s.heap.size)
  generalize hAe : va_A [(h0, .inr (9, [h0_wafer, h0_codes, .int h0_sound, .int h0_function, .ref ty, .int h0_height, .ref bo, .ref bg, .ref bh, .ref bd, .int h0_depth])), (aw, .inr (10, law)), (ab, .inr (1, [.ref ax, .int ab_length])), (ac, .inr (3, [.ref cfi, .ref clk, .ref clt, .int ac_length, .ref cop, .ref cva, .ref cpt, .ref cel, .int ac_labelCount, .ref cla])), (ax, .inl (cax, 8192, .inl gax)), (ty, .inl (cty, 5000, .inl gty)), (bo, .inl (cbo, 101, .inl gbo)), (bg, .inl (cbg, 101, .inl gbg)), (bh, .inl (cbh, 101, .inl gbh)), (bd, .inl (cbd, 101, .inl gbd)), (waf, .inl (cwaf, 30, .inl gwaf)), (wat, .inl (cwat, 20, .inl gwat)), (wap, .inl (cwap, 160, .inl gwap)), (wag, .inl (cwag, 20, .inl gwag)), (wgt, .inl (cwgt, 20, .inl gwgt)), (wft, .inl (cwft, 20, .inl gwft)), (wgc, .inl (cwgc, 20, .inl gwgc)), (wek, .inl (cwek, 40, .inl gwek)), (wei, .inl (cwei, 40, .inl gwei)), (wes, .inl (cwes, 40, .inl gwes)), (wez, .inl (cwez, 40, .inl gwez)), (cfi, .inl (ccfi, 31, .inl gcfi)), (clk, .inl (cclk, 30, .inl gclk)), (clt, .inl (cclt, 1800, .inl gclt)), (cop, .inl (ccop, 5000, .inl gcop)), (cva, .inl (ccva, 5000, .inr (.inl gcva))), (cpt, .inl (ccpt, 5000, .inl gcpt)), (cel, .inl (ccel, 5000, .inl gcel)), (cla, .inl (ccla, 2000, .inl gcla))] s.heap.size = A at hD ⊢
  have hA : ∀ q : Nat, s.heap.size ≤ q → A q := fun q h => by rw [← hAe]; exact Or.inr h
  clear hAe
  have hP : va_P (dC, dI) cls [(h0, .inr (9, [h0_wafer, h0_codes, .int h0_sound, .int h0_function, .ref ty, .int h0_height, .ref bo, .ref bg, .ref bh, .ref bd, .int h0_depth])), (aw, .inr (10, law)), (ab, .inr (1, [.ref ax, .int ab_length])), (ac, .inr (3, [.ref cfi, .ref clk, .ref clt, .int ac_length, .ref cop, .ref cva, .ref cpt, .ref cel, .int ac_labelCount, .ref cla])), (ax, .inl (cax, 8192, .inl gax)), (ty, .inl (cty, 5000, .inl gty)), (bo, .inl (cbo, 101, .inl gbo)), (bg, .inl (cbg, 101, .inl gbg)), (bh, .inl (cbh, 101, .inl gbh)), (bd, .inl (cbd, 101, .inl gbd)), (waf, .inl (cwaf, 30, .inl gwaf)), (wat, .inl (cwat, 20, .inl gwat)), (wap, .inl (cwap, 160, .inl gwap)), (wag, .inl (cwag, 20, .inl gwag)), (wgt, .inl (cwgt, 20, .inl gwgt)), (wft, .inl (cwft, 20, .inl gwft)), (wgc, .inl (cwgc, 20, .inl gwgc)), (wek, .inl (cwek, 40, .inl gwek)), (wei, .inl (cwei, 40, .inl gwei)), (wes, .inl (cwes, 40, .inl gwes)), (wez, .inl (cwez, 40, .inl gwez)), (cfi, .inl (ccfi, 31, .inl gcfi)), (clk, .inl (cclk, 30, .inl gclk)), (clt, .inl (cclt, 1800, .inl gclt)), (cop, .inl (ccop, 5000, .inl gcop)), (cva, .inl (ccva, 5000, .inr (.inl gcva))), (cpt, .inl (ccpt, 5000, .inl gcpt)), (cel, .inl (ccel, 5000, .inl gcel)), (cla, .inl (ccla, 2000, .inl gcla))] s.heap := hP
  have hl := lv_entry ([.ref h0, .ref aw]) (n := 3) (Nat.le_of_ble_eq_true rfl)
  rw [lg_entry_eq]
  generalize (lg_sl ([.ref h0, .ref aw]) ++ List.replicate (3 - (lg_sl ([.ref h0, .ref aw])).length) Slot.unset).toArray = ls at hl ⊢
  have hl : lv_has ls 3 [(0, .ref h0), (1, .ref aw)] := hl
  have k0 : (0 : Int32).toInt = 0 := by decide
  refine w_gen (A := A) hP (fun H locs hP hS => ?_)
  have k1 : (1 : Int32).toInt = 1 := by decide
  have th0_sound := b01 b_h0_sound
  have taw_hasMemory := b01 b_aw_hasMemory
  refine lv_aload_n hx hb d_VA_check_0 rfl (lv_at hl 0 rfl) ?_
  refine lv_aload_n hx hb d_VA_check_1 rfl (lv_at hl 1 rfl) ?_
  refine va_put (D := (dC, dI)) (ci := 9) (v := .ref aw) (ty := .object "WaferForge$Wafer") (C := R_VA) (T := F_VA) (N := 11) hx hb hts i_VA t_VA t_VA_ok n_VA hown hK hP hD hS 0 rfl rfl 0 (by decide) (hts _ kF_VA_28) (fun _ h9 => h9) rfl (by decide +kernel) rfl rfl (Nat.le_of_ble_eq_true rfl) d_VA_check_2 (fun H locs hP hD hS => ?_)
  refine lv_aload_n hx hb d_VA_check_5 rfl (lv_at hl 0 rfl) ?_
  refine lv_aload_n hx hb d_VA_check_6 rfl (lv_at hl 1 rfl) ?_
  refine va_get (D := (dC, dI)) (ci := 10) (v := .ref ac) (C := R_WA) (T := F_WA) (N := 21) hx hb hts i_WA hown hK hP 1 rfl rfl 1 (by decide) (hts _ kF_VA_32) (fun _ h9 => h9) paw_1 d_VA_check_7 ?_
  refine va_put (D := (dC, dI)) (ci := 9) (v := .ref ac) (ty := .object "WaferForge$Codes") (C := R_VA) (T := F_VA) (N := 11) hx hb hts i_VA t_VA t_VA_ok n_VA hown hK hP hD hS 0 rfl rfl 1 (by decide) (hts _ kF_VA_38) (fun _ h9 => h9) rfl (by decide +kernel) rfl rfl (Nat.le_of_ble_eq_true rfl) d_VA_check_10 (fun H locs hP hD hS => ?_)
  refine lv_aload_n hx hb d_VA_check_13 rfl (lv_at hl 0 rfl) ?_
  refine lv_iconst (v := 1) hx hb d_VA_check_14 (by decide) ?_
  refine va_put (D := (dC, dI)) (ci := 9) (v := .int 1) (ty := .boolean) (C := R_VA) (T := F_VA) (N := 11) hx hb hts i_VA t_VA t_VA_ok n_VA hown hK hP hD hS 0 rfl rfl 2 (by decide) (hts _ kF_VA_39) (fun _ h9 => h9) rfl (by decide +kernel) rfl rfl (Nat.le_of_ble_eq_true rfl) d_VA_check_15 (fun H locs hP hD hS => ?_)
  refine lv_aload_n hx hb d_VA_check_18 rfl (lv_at hl 0 rfl) ?_
  have hPc := hP.sub (ws' := [(h0, .inr (9, [.ref aw, .ref ac, .int 1, .int h0_function, .ref ty, .int h0_height, .ref bo, .ref bg, .ref bh, .ref bd, .int h0_depth])), (aw, .inr (10, law)), (waf, .inl (cwaf, 30, .inl gwaf)), (wgt, .inl (cwgt, 20, .inl gwgt)), (wft, .inl (cwft, 20, .inl gwft))]) [0, 1, 10, 14, 15] rfl
  have hDc := hD.sub (ws' := [(h0, .inr (9, [.ref aw, .ref ac, .int 1, .int h0_function, .ref ty, .int h0_height, .ref bo, .ref bg, .ref bh, .ref bd, .int h0_depth])), (aw, .inr (10, law)), (waf, .inl (cwaf, 30, .inl gwaf)), (wgt, .inl (cwgt, 20, .inl gwgt)), (wft, .inl (cwft, 20, .inl gwft))]) [0, 1, 10, 14, 15] (by decide) rfl
  have hKc := hK.sub (tys' := [(cwaf, .int), (cwgt, .int), (cwft, .int)]) [6, 10, 11] rfl
  have hFc := va_free (wc := [(h0, .inr (9, [.ref aw, .ref ac, .int 1, .int h0_function, .ref ty, .int h0_height, .ref bo, .ref bg, .ref bh, .ref bd, .int h0_depth])), (aw, .inr (10, law)), (waf, .inl (cwaf, 30, .inl gwaf)), (wgt, .inl (cwgt, 20, .inl gwgt)), (wft, .inl (cwft, 20, .inl gwft))]) hD hS hA [0, 1, 10, 14, 15] rfl
  refine va_callv (va_runV (As := []) (rest := []) ⟨hx, hb, hml, hown, hts⟩ (c_VA_checkTables l dC dI H.size h0 aw ac ty bo bg bh bd waf wgt wft cwaf cwgt cwft 1 h0_function h0_height h0_depth law aw_typeCount aw_functionCount aw_pagesLeast aw_pagesMost aw_globalCount gwaf gwgt gwft paw_2 paw_6 paw_7 paw_9 paw_10 paw_11 paw_12 paw_13 plaw (Or.inr rfl) (b_aw_typeCount) (b_aw_functionCount) (b_aw_globalCount)) (cwV 0 hts (gV kM_VA_43 kV_VA_checkTables kS_VA_checkTables kI_VA kC_VA_checkTables) rfl rfl rfl (by decide +kernel) ⟨Nat.le_of_ble_eq_true rfl, Nat.le_of_ble_eq_true rfl⟩) ⟨fun a U g mk z => by obtain ⟨z0, z1, zP, zK, zD⟩ := z; exact ⟨z0, z1, zP, va_K.moved (u := U) (U := U.calling g mk a) (Vm.Alike.refl U.vm) zK, zD⟩, va_recv hKc hPc (ci := 9) (q0 := 0) rfl rfl, fun U hU hW => ⟨rfl, by rw [hU], by rw [hU]; exact hPc, va_K.moved hW.alike hKc, hDc.weaken (fun _ _ _ _ => trivial)⟩⟩ rfl rfl hl.1 rfl (lv_room (Nat.le_of_ble_eq_true rfl)) d_VA_check_19 ⟨(Nat.zero_le _), (Nat.zero_le _)⟩) hS (fun q _ h => hFc q h) hFc (fun u t H1 locs ht hvm hw hB hz1 hk1 hS => ?_)
  obtain ⟨n2, rfl⟩ : ∃ z, z = u := ⟨_, rfl⟩
  try dsimp only at hw
  obtain ⟨bn2, xr1⟩ := hw
  try clear hw
  have tn2 := b01 bn2
  have x19 := xr1
  obtain ⟨s19, es19⟩ : ∃ z, z = n2 := ⟨_, rfl⟩
  rw [← es19] at x19
  have hwf : s19.toInt = 1 → ∀ f : Nat, (f : Int) < aw_functionCount.toInt → vw_fun gwaf gwat gwap gclk gclt f := fun z => vw_of hrt (by omega) hrf hrc (x19 z).2.1
  obtain ⟨hP1, hK1, hD1⟩ := hB
  rw [ht] at hP1
  obtain ⟨hP, hD⟩ := va_join (wr := [(ab, .inr (1, [.ref ax, .int ab_length])), (ac, .inr (3, [.ref cfi, .ref clk, .ref clt, .int ac_length, .ref cop, .ref cva, .ref cpt, .ref cel, .int ac_labelCount, .ref cla])), (ax, .inl (cax, 8192, .inl gax)), (ty, .inl (cty, 5000, .inl gty)), (bo, .inl (cbo, 101, .inl gbo)), (bg, .inl (cbg, 101, .inl gbg)), (bh, .inl (cbh, 101, .inl gbh)), (bd, .inl (cbd, 101, .inl gbd)), (wat, .inl (cwat, 20, .inl gwat)), (wap, .inl (cwap, 160, .inl gwap)), (wag, .inl (cwag, 20, .inl gwag)), (wgc, .inl (cwgc, 20, .inl gwgc)), (wek, .inl (cwek, 40, .inl gwek)), (wei, .inl (cwei, 40, .inl gwei)), (wes, .inl (cwes, 40, .inl gwes)), (wez, .inl (cwez, 40, .inl gwez)), (cfi, .inl (ccfi, 31, .inl gcfi)), (clk, .inl (cclk, 30, .inl gclk)), (clt, .inl (cclt, 1800, .inl gclt)), (cop, .inl (ccop, 5000, .inl gcop)), (cva, .inl (ccva, 5000, .inr (.inl gcva))), (cpt, .inl (ccpt, 5000, .inl gcpt)), (cel, .inl (ccel, 5000, .inl gcel)), (cla, .inl (ccla, 2000, .inl gcla))]) (w1 := [(h0, .inr (9, [.ref aw, .ref ac, .int n2, .int h0_function, .ref ty, .int h0_height, .ref bo, .ref bg, .ref bh, .ref bd, .int h0_depth])), (aw, .inr (10, law)), (waf, .inl (cwaf, 30, .inl gwaf)), (wgt, .inl (cwgt, 20, .inl gwgt)), (wft, .inl (cwft, 20, .inl gwft))]) hP hD [0, 1, 10, 14, 15] [2, 3, 4, 5, 6, 7, 8, 9, 11, 12, 13, 16, 17, 18, 19, 20, 21, 22, 23, 24, 25, 26, 27, 28] rfl rfl (by decide) (by decide) hk1 hFc hP1 hD1
  clear hPc hDc hKc hFc hz1 hk1 hP1 hK1 hD1
  generalize H1 = H at hP hS ⊢
  have hP : va_P (dC, dI) cls [(ab, .inr (1, [.ref ax, .int ab_length])), (ac, .inr (3, [.ref cfi, .ref clk, .ref clt, .int ac_length, .ref cop, .ref cva, .ref cpt, .ref cel, .int ac_labelCount, .ref cla])), (ax, .inl (cax, 8192, .inl gax)), (ty, .inl (cty, 5000, .inl gty)), (bo, .inl (cbo, 101, .inl gbo)), (bg, .inl (cbg, 101, .inl gbg)), (bh, .inl (cbh, 101, .inl gbh)), (bd, .inl (cbd, 101, .inl gbd)), (wat, .inl (cwat, 20, .inl gwat)), (wap, .inl (cwap, 160, .inl gwap)), (wag, .inl (cwag, 20, .inl gwag)), (wgc, .inl (cwgc, 20, .inl gwgc)), (wek, .inl (cwek, 40, .inl gwek)), (wei, .inl (cwei, 40, .inl gwei)), (wes, .inl (cwes, 40, .inl gwes)), (wez, .inl (cwez, 40, .inl gwez)), (cfi, .inl (ccfi, 31, .inl gcfi)), (clk, .inl (cclk, 30, .inl gclk)), (clt, .inl (cclt, 1800, .inl gclt)), (cop, .inl (ccop, 5000, .inl gcop)), (cva, .inl (ccva, 5000, .inr (.inl gcva))), (cpt, .inl (ccpt, 5000, .inl gcpt)), (cel, .inl (ccel, 5000, .inl gcel)), (cla, .inl (ccla, 2000, .inl gcla)), (h0, .inr (9, [.ref aw, .ref ac, .int n2, .int h0_function, .ref ty, .int h0_height, .ref bo, .ref bg, .ref bh, .ref bd, .int h0_depth])), (aw, .inr (10, law)), (waf, .inl (cwaf, 30, .inl gwaf)), (wgt, .inl (cwgt, 20, .inl gwgt)), (wft, .inl (cwft, 20, .inl gwft))] H := hP
  have hD : va_D A [(ab, .inr (1, [.ref ax, .int ab_length])), (ac, .inr (3, [.ref cfi, .ref clk, .ref clt, .int ac_length, .ref cop, .ref cva, .ref cpt, .ref cel, .int ac_labelCount, .ref cla])), (ax, .inl (cax, 8192, .inl gax)), (ty, .inl (cty, 5000, .inl gty)), (bo, .inl (cbo, 101, .inl gbo)), (bg, .inl (cbg, 101, .inl gbg)), (bh, .inl (cbh, 101, .inl gbh)), (bd, .inl (cbd, 101, .inl gbd)), (wat, .inl (cwat, 20, .inl gwat)), (wap, .inl (cwap, 160, .inl gwap)), (wag, .inl (cwag, 20, .inl gwag)), (wgc, .inl (cwgc, 20, .inl gwgc)), (wek, .inl (cwek, 40, .inl gwek)), (wei, .inl (cwei, 40, .inl gwei)), (wes, .inl (cwes, 40, .inl gwes)), (wez, .inl (cwez, 40, .inl gwez)), (cfi, .inl (ccfi, 31, .inl gcfi)), (clk, .inl (cclk, 30, .inl gclk)), (clt, .inl (cclt, 1800, .inl gclt)), (cop, .inl (ccop, 5000, .inl gcop)), (cva, .inl (ccva, 5000, .inr (.inl gcva))), (cpt, .inl (ccpt, 5000, .inl gcpt)), (cel, .inl (ccel, 5000, .inl gcel)), (cla, .inl (ccla, 2000, .inl gcla)), (h0, .inr (9, [.ref aw, .ref ac, .int n2, .int h0_function, .ref ty, .int h0_height, .ref bo, .ref bg, .ref bh, .ref bd, .int h0_depth])), (aw, .inr (10, law)), (waf, .inl (cwaf, 30, .inl gwaf)), (wgt, .inl (cwgt, 20, .inl gwgt)), (wft, .inl (cwft, 20, .inl gwft))] := hD
  refine lv_aload_n hx hb d_VA_check_22 rfl (lv_at hl 0 rfl) ?_
  have hPc := hP.sub (ws' := [(h0, .inr (9, [.ref aw, .ref ac, .int n2, .int h0_function, .ref ty, .int h0_height, .ref bo, .ref bg, .ref bh, .ref bd, .int h0_depth])), (aw, .inr (10, law)), (ab, .inr (1, [.ref ax, .int ab_length])), (ax, .inl (cax, 8192, .inl gax)), (wek, .inl (cwek, 40, .inl gwek)), (wei, .inl (cwei, 40, .inl gwei)), (wes, .inl (cwes, 40, .inl gwes)), (wez, .inl (cwez, 40, .inl gwez))]) [24, 25, 0, 2, 12, 13, 14, 15] rfl
  have hDc := hD.sub (ws' := [(h0, .inr (9, [.ref aw, .ref ac, .int n2, .int h0_function, .ref ty, .int h0_height, .ref bo, .ref bg, .ref bh, .ref bd, .int h0_depth])), (aw, .inr (10, law)), (ab, .inr (1, [.ref ax, .int ab_length])), (ax, .inl (cax, 8192, .inl gax)), (wek, .inl (cwek, 40, .inl gwek)), (wei, .inl (cwei, 40, .inl gwei)), (wes, .inl (cwes, 40, .inl gwes)), (wez, .inl (cwez, 40, .inl gwez))]) [24, 25, 0, 2, 12, 13, 14, 15] (by decide) rfl
  have hKc := hK.sub (tys' := [(cax, .byte), (cwek, .int), (cwei, .int), (cwes, .int), (cwez, .int)]) [0, 13, 14, 15, 16] rfl
  have hFc := va_free (wc := [(h0, .inr (9, [.ref aw, .ref ac, .int n2, .int h0_function, .ref ty, .int h0_height, .ref bo, .ref bg, .ref bh, .ref bd, .int h0_depth])), (aw, .inr (10, law)), (ab, .inr (1, [.ref ax, .int ab_length])), (ax, .inl (cax, 8192, .inl gax)), (wek, .inl (cwek, 40, .inl gwek)), (wei, .inl (cwei, 40, .inl gwei)), (wes, .inl (cwes, 40, .inl gwes)), (wez, .inl (cwez, 40, .inl gwez))]) hD hS hA [24, 25, 0, 2, 12, 13, 14, 15] rfl
  refine va_callv (va_runV (As := []) (rest := []) ⟨hx, hb, hml, hown, hts⟩ (c_VA_checkExports l dC dI H.size h0 aw ac ty bo bg bh bd ab wek wei wes wez ax cax cwek cwei cwes cwez n2 h0_function h0_height h0_depth law aw_functionCount aw_hasMemory aw_globalCount aw_exportCount ab_length gax gwek gwei gwes gwez paw_0 paw_6 paw_8 paw_11 paw_16 paw_17 paw_18 paw_19 paw_20 plaw (bn2) (b_ab_length) (b_aw_functionCount) (b_aw_hasMemory) (b_aw_globalCount) (b_aw_exportCount) (hre)) (cwV 0 hts (gV kM_VA_46 kV_VA_checkExports kS_VA_checkExports kI_VA kC_VA_checkExports) rfl rfl rfl (by decide +kernel) ⟨Nat.le_of_ble_eq_true rfl, Nat.le_of_ble_eq_true rfl⟩) ⟨fun a U g mk z => by obtain ⟨z0, z1, zP, zK, zD⟩ := z; exact ⟨z0, z1, zP, va_K.moved (u := U) (U := U.calling g mk a) (Vm.Alike.refl U.vm) zK, zD⟩, va_recv hKc hPc (ci := 9) (q0 := 0) rfl rfl, fun U hU hW => ⟨rfl, by rw [hU], by rw [hU]; exact hPc, va_K.moved hW.alike hKc, hDc.weaken (fun _ _ _ _ => trivial)⟩⟩ rfl rfl hl.1 rfl (lv_room (Nat.le_of_ble_eq_true rfl)) d_VA_check_23 ⟨(Nat.zero_le _), (Nat.zero_le _)⟩) hS (fun q _ h => hFc q h) hFc (fun u t H1 locs ht hvm hw hB hz1 hk1 hS => ?_)
  obtain ⟨n4, rfl⟩ : ∃ z, z = u := ⟨_, rfl⟩
  try dsimp only at hw
  obtain ⟨bn4, xr3⟩ := hw
  try clear hw
  have tn4 := b01 bn4
  have x23 : n4.toInt = 1 → s19.toInt = 1 := by rw [es19]; exact xr3
  obtain ⟨hP1, hK1, hD1⟩ := hB
  rw [ht] at hP1
  obtain ⟨hP, hD⟩ := va_join (wr := [(ac, .inr (3, [.ref cfi, .ref clk, .ref clt, .int ac_length, .ref cop, .ref cva, .ref cpt, .ref cel, .int ac_labelCount, .ref cla])), (ty, .inl (cty, 5000, .inl gty)), (bo, .inl (cbo, 101, .inl gbo)), (bg, .inl (cbg, 101, .inl gbg)), (bh, .inl (cbh, 101, .inl gbh)), (bd, .inl (cbd, 101, .inl gbd)), (wat, .inl (cwat, 20, .inl gwat)), (wap, .inl (cwap, 160, .inl gwap)), (wag, .inl (cwag, 20, .inl gwag)), (wgc, .inl (cwgc, 20, .inl gwgc)), (cfi, .inl (ccfi, 31, .inl gcfi)), (clk, .inl (cclk, 30, .inl gclk)), (clt, .inl (cclt, 1800, .inl gclt)), (cop, .inl (ccop, 5000, .inl gcop)), (cva, .inl (ccva, 5000, .inr (.inl gcva))), (cpt, .inl (ccpt, 5000, .inl gcpt)), (cel, .inl (ccel, 5000, .inl gcel)), (cla, .inl (ccla, 2000, .inl gcla)), (waf, .inl (cwaf, 30, .inl gwaf)), (wgt, .inl (cwgt, 20, .inl gwgt)), (wft, .inl (cwft, 20, .inl gwft))]) (w1 := [(h0, .inr (9, [.ref aw, .ref ac, .int n4, .int h0_function, .ref ty, .int h0_height, .ref bo, .ref bg, .ref bh, .ref bd, .int h0_depth])), (aw, .inr (10, law)), (ab, .inr (1, [.ref ax, .int ab_length])), (ax, .inl (cax, 8192, .inl gax)), (wek, .inl (cwek, 40, .inl gwek)), (wei, .inl (cwei, 40, .inl gwei)), (wes, .inl (cwes, 40, .inl gwes)), (wez, .inl (cwez, 40, .inl gwez))]) hP hD [24, 25, 0, 2, 12, 13, 14, 15] [1, 3, 4, 5, 6, 7, 8, 9, 10, 11, 16, 17, 18, 19, 20, 21, 22, 23, 26, 27, 28] rfl rfl (by decide) (by decide) hk1 hFc hP1 hD1
  clear hPc hDc hKc hFc hz1 hk1 hP1 hK1 hD1
  generalize H1 = H at hP hS ⊢
  have hP : va_P (dC, dI) cls [(ac, .inr (3, [.ref cfi, .ref clk, .ref clt, .int ac_length, .ref cop, .ref cva, .ref cpt, .ref cel, .int ac_labelCount, .ref cla])), (ty, .inl (cty, 5000, .inl gty)), (bo, .inl (cbo, 101, .inl gbo)), (bg, .inl (cbg, 101, .inl gbg)), (bh, .inl (cbh, 101, .inl gbh)), (bd, .inl (cbd, 101, .inl gbd)), (wat, .inl (cwat, 20, .inl gwat)), (wap, .inl (cwap, 160, .inl gwap)), (wag, .inl (cwag, 20, .inl gwag)), (wgc, .inl (cwgc, 20, .inl gwgc)), (cfi, .inl (ccfi, 31, .inl gcfi)), (clk, .inl (cclk, 30, .inl gclk)), (clt, .inl (cclt, 1800, .inl gclt)), (cop, .inl (ccop, 5000, .inl gcop)), (cva, .inl (ccva, 5000, .inr (.inl gcva))), (cpt, .inl (ccpt, 5000, .inl gcpt)), (cel, .inl (ccel, 5000, .inl gcel)), (cla, .inl (ccla, 2000, .inl gcla)), (waf, .inl (cwaf, 30, .inl gwaf)), (wgt, .inl (cwgt, 20, .inl gwgt)), (wft, .inl (cwft, 20, .inl gwft)), (h0, .inr (9, [.ref aw, .ref ac, .int n4, .int h0_function, .ref ty, .int h0_height, .ref bo, .ref bg, .ref bh, .ref bd, .int h0_depth])), (aw, .inr (10, law)), (ab, .inr (1, [.ref ax, .int ab_length])), (ax, .inl (cax, 8192, .inl gax)), (wek, .inl (cwek, 40, .inl gwek)), (wei, .inl (cwei, 40, .inl gwei)), (wes, .inl (cwes, 40, .inl gwes)), (wez, .inl (cwez, 40, .inl gwez))] H := hP
  have hD : va_D A [(ac, .inr (3, [.ref cfi, .ref clk, .ref clt, .int ac_length, .ref cop, .ref cva, .ref cpt, .ref cel, .int ac_labelCount, .ref cla])), (ty, .inl (cty, 5000, .inl gty)), (bo, .inl (cbo, 101, .inl gbo)), (bg, .inl (cbg, 101, .inl gbg)), (bh, .inl (cbh, 101, .inl gbh)), (bd, .inl (cbd, 101, .inl gbd)), (wat, .inl (cwat, 20, .inl gwat)), (wap, .inl (cwap, 160, .inl gwap)), (wag, .inl (cwag, 20, .inl gwag)), (wgc, .inl (cwgc, 20, .inl gwgc)), (cfi, .inl (ccfi, 31, .inl gcfi)), (clk, .inl (cclk, 30, .inl gclk)), (clt, .inl (cclt, 1800, .inl gclt)), (cop, .inl (ccop, 5000, .inl gcop)), (cva, .inl (ccva, 5000, .inr (.inl gcva))), (cpt, .inl (ccpt, 5000, .inl gcpt)), (cel, .inl (ccel, 5000, .inl gcel)), (cla, .inl (ccla, 2000, .inl gcla)), (waf, .inl (cwaf, 30, .inl gwaf)), (wgt, .inl (cwgt, 20, .inl gwgt)), (wft, .inl (cwft, 20, .inl gwft)), (h0, .inr (9, [.ref aw, .ref ac, .int n4, .int h0_function, .ref ty, .int h0_height, .ref bo, .ref bg, .ref bh, .ref bd, .int h0_depth])), (aw, .inr (10, law)), (ab, .inr (1, [.ref ax, .int ab_length])), (ax, .inl (cax, 8192, .inl gax)), (wek, .inl (cwek, 40, .inl gwek)), (wei, .inl (cwei, 40, .inl gwei)), (wes, .inl (cwes, 40, .inl gwes)), (wez, .inl (cwez, 40, .inl gwez))] := hD
  refine lv_iconst (v := 0) hx hb d_VA_check_26 (by decide) ?_
  refine lv_istore_n (lv' := [(2, .int 0), (0, .ref h0), (1, .ref aw)]) hx hb d_VA_check_27 rfl hl (by decide) rfl (fun ls hl => ?_)
  refine w_loop (σ := Int32 × (Nat → Int32) × (Nat → Int32) × (Nat → Int32) × (Nat → Int32) × (Nat → Int32) × Int32 × Int32 × Int32 × Int32) (fun u H locs ls => match u with | (j28_l2, j28_bd, j28_bg, j28_bh, j28_bo, j28_ty, j28_h0_depth, j28_h0_function, j28_h0_height, j28_h0_sound) => (0 ≤ j28_l2.toInt ∧ j28_l2.toInt ≤ 30) ∧ (∀ j : Nat, 0 ≤ (j28_bh j).toInt ∧ (j28_bh j).toInt ≤ 5000) ∧ (∀ j : Nat, (j28_ty j).toInt ≠ 64) ∧ (0 ≤ j28_h0_depth.toInt ∧ j28_h0_depth.toInt ≤ 101) ∧ (0 ≤ j28_h0_height.toInt ∧ j28_h0_height.toInt ≤ 5000) ∧ (j28_h0_sound = 0 ∨ j28_h0_sound = 1) ∧ (j28_l2.toInt ≤ aw_functionCount.toInt) ∧ (j28_h0_sound.toInt = 1 → s19.toInt = 1) ∧ (j28_h0_sound.toInt = 1 → ∀ f : Nat, (f : Int) < j28_l2.toInt → vfin (fun f => (gwat (gwaf f).toNatClampNeg).toInt + (gclk f).toInt) (fun f => if (gwag (gwaf f).toNatClampNeg).toInt = 64 then 0 else 1) (fun f => (gwat (gwaf f).toNatClampNeg).toInt) aw_functionCount.toInt aw_globalCount.toInt f gcop gcpt gcel gcva ac_labelCount.toInt (gcfi f).toNatClampNeg ((gcfi (f + 1)).toNatClampNeg - 1)) ∧ va_P (dC, dI) cls [(ac, .inr (3, [.ref cfi, .ref clk, .ref clt, .int ac_length, .ref cop, .ref cva, .ref cpt, .ref cel, .int ac_labelCount, .ref cla])), (ty, .inl (cty, 5000, .inl j28_ty)), (bo, .inl (cbo, 101, .inl j28_bo)), (bg, .inl (cbg, 101, .inl j28_bg)), (bh, .inl (cbh, 101, .inl j28_bh)), (bd, .inl (cbd, 101, .inl j28_bd)), (wat, .inl (cwat, 20, .inl gwat)), (wap, .inl (cwap, 160, .inl gwap)), (wag, .inl (cwag, 20, .inl gwag)), (wgc, .inl (cwgc, 20, .inl gwgc)), (cfi, .inl (ccfi, 31, .inl gcfi)), (clk, .inl (cclk, 30, .inl gclk)), (clt, .inl (cclt, 1800, .inl gclt)), (cop, .inl (ccop, 5000, .inl gcop)), (cva, .inl (ccva, 5000, .inr (.inl gcva))), (cpt, .inl (ccpt, 5000, .inl gcpt)), (cel, .inl (ccel, 5000, .inl gcel)), (cla, .inl (ccla, 2000, .inl gcla)), (waf, .inl (cwaf, 30, .inl gwaf)), (wgt, .inl (cwgt, 20, .inl gwgt)), (wft, .inl (cwft, 20, .inl gwft)), (h0, .inr (9, [.ref aw, .ref ac, .int j28_h0_sound, .int j28_h0_function, .ref ty, .int j28_h0_height, .ref bo, .ref bg, .ref bh, .ref bd, .int j28_h0_depth])), (aw, .inr (10, law)), (ab, .inr (1, [.ref ax, .int ab_length])), (ax, .inl (cax, 8192, .inl gax)), (wek, .inl (cwek, 40, .inl gwek)), (wei, .inl (cwei, 40, .inl gwei)), (wes, .inl (cwes, 40, .inl gwes)), (wez, .inl (cwez, 40, .inl gwez))] H ∧ va_D A [(ac, .inr (3, [.ref cfi, .ref clk, .ref clt, .int ac_length, .ref cop, .ref cva, .ref cpt, .ref cel, .int ac_labelCount, .ref cla])), (ty, .inl (cty, 5000, .inl j28_ty)), (bo, .inl (cbo, 101, .inl j28_bo)), (bg, .inl (cbg, 101, .inl j28_bg)), (bh, .inl (cbh, 101, .inl j28_bh)), (bd, .inl (cbd, 101, .inl j28_bd)), (wat, .inl (cwat, 20, .inl gwat)), (wap, .inl (cwap, 160, .inl gwap)), (wag, .inl (cwag, 20, .inl gwag)), (wgc, .inl (cwgc, 20, .inl gwgc)), (cfi, .inl (ccfi, 31, .inl gcfi)), (clk, .inl (cclk, 30, .inl gclk)), (clt, .inl (cclt, 1800, .inl gclt)), (cop, .inl (ccop, 5000, .inl gcop)), (cva, .inl (ccva, 5000, .inr (.inl gcva))), (cpt, .inl (ccpt, 5000, .inl gcpt)), (cel, .inl (ccel, 5000, .inl gcel)), (cla, .inl (ccla, 2000, .inl gcla)), (waf, .inl (cwaf, 30, .inl gwaf)), (wgt, .inl (cwgt, 20, .inl gwgt)), (wft, .inl (cwft, 20, .inl gwft)), (h0, .inr (9, [.ref aw, .ref ac, .int j28_h0_sound, .int j28_h0_function, .ref ty, .int j28_h0_height, .ref bo, .ref bg, .ref bh, .ref bd, .int j28_h0_depth])), (aw, .inr (10, law)), (ab, .inr (1, [.ref ax, .int ab_length])), (ax, .inl (cax, 8192, .inl gax)), (wek, .inl (cwek, 40, .inl gwek)), (wei, .inl (cwei, 40, .inl gwei)), (wes, .inl (cwes, 40, .inl gwes)), (wez, .inl (cwez, 40, .inl gwez))] ∧ va_S A s.heap H locs ∧ lv_has ls 3 [(0, .ref h0), (2, .int j28_l2)]) (fun u => match u with | (j28_l2, j28_bd, j28_bg, j28_bh, j28_bo, j28_ty, j28_h0_depth, j28_h0_function, j28_h0_height, j28_h0_sound) => (aw_functionCount.toInt - j28_l2.toInt).toNat) ?_ (0, gbd, gbg, gbh, gbo, gty, h0_depth, h0_function, h0_height, n4) ⟨by (try dsimp only) <;> omega, b_gbh, b_gty, b_h0_depth, b_h0_height, bn4, by (try dsimp only) <;> omega, x23, fun z f q => absurd q (by omega), hP, hD, hS, lv_sub hl [1, 0] rfl⟩
  intro N28 ih28 u H locs ls hN28 hI
  obtain ⟨j28_l2, j28_bd, j28_bg, j28_bh, j28_bo, j28_ty, j28_h0_depth, j28_h0_function, j28_h0_height, j28_h0_sound⟩ := u
  obtain ⟨b_j28_l2, b_j28_bh, b_j28_ty, b_j28_h0_depth, b_j28_h0_height, b_j28_h0_sound, v1, v2, v3, hP, hD, hS, hl⟩ := hI
  have tj28_h0_sound := b01 b_j28_h0_sound
  have hN28 : (aw_functionCount.toInt - j28_l2.toInt).toNat < N28 + 1 := hN28
  refine lv_iload_n hx hb d_VA_check_28 rfl (lv_at hl 1 rfl) ?_
  refine lv_aload_n hx hb d_VA_check_29 rfl (lv_at hl 0 rfl) ?_
  refine va_get (D := (dC, dI)) (ci := 9) (v := .ref aw) (C := R_VA) (T := F_VA) (N := 11) hx hb hts i_VA hown hK hP 21 rfl rfl 0 (by decide) (hts _ kF_VA_28) (fun _ h9 => h9) rfl d_VA_check_30 ?_
  refine va_get (D := (dC, dI)) (ci := 10) (v := .int aw_functionCount) (C := R_WA) (T := F_WA) (N := 21) hx hb hts i_WA hown hK hP 22 rfl rfl 6 (by decide) (hts _ kF_VA_49) (fun _ h9 => h9) paw_6 d_VA_check_33 ?_
  refine lv_icmp_ge (tgt := 57) hx hb d_VA_check_36 (by decide) (fun c36 => ?_) (fun c36 => ?_)
  · have q36 := leI c36
    refine lv_aload_n hx hb d_VA_check_57 rfl (lv_at hl 0 rfl) ?_
    refine va_get (D := (dC, dI)) (ci := 9) (v := .int j28_h0_sound) (C := R_VA) (T := F_VA) (N := 11) hx hb hts i_VA hown hK hP 21 rfl rfl 2 (by decide) (hts _ kF_VA_39) (fun _ h9 => h9) rfl d_VA_check_58 ?_
    have po : j28_h0_sound = 1 → (mo_ok aw_functionCount.toInt aw_globalCount.toInt gwaf gwat gwag gcfi gclk gcop gcpt gcel gcla gcva) ∧ aw_pagesLeast.toInt ≤ 2 := by
      intro z
      have z1 : j28_h0_sound.toInt = 1 := by rw [z]; decide
      have z2 := v2 z1
      exact ⟨mo_of (gwap := gwap) (gclt := gclt) (lc := ac_labelCount.toInt) (len := ac_length.toInt) (by omega) (fun f q => by omega) (hwf z2) (fun f _ => rfl) (fun f _ => rfl) (fun f _ => rfl) hrc (by omega) (by omega) hlb (fun f q => v3 z1 f (by omega)), (x19 z2).2.2⟩
    have hP9 := hP.sub (ws' := [(h0, .inr (9, [.ref aw, .ref ac, .int j28_h0_sound, .int j28_h0_function, .ref ty, .int j28_h0_height, .ref bo, .ref bg, .ref bh, .ref bd, .int j28_h0_depth])), (aw, .inr (10, law)), (ab, .inr (1, [.ref ax, .int ab_length])), (ac, .inr (3, [.ref cfi, .ref clk, .ref clt, .int ac_length, .ref cop, .ref cva, .ref cpt, .ref cel, .int ac_labelCount, .ref cla])), (ax, .inl (cax, 8192, .inl gax)), (ty, .inl (cty, 5000, .inl j28_ty)), (bo, .inl (cbo, 101, .inl j28_bo)), (bg, .inl (cbg, 101, .inl j28_bg)), (bh, .inl (cbh, 101, .inl j28_bh)), (bd, .inl (cbd, 101, .inl j28_bd)), (waf, .inl (cwaf, 30, .inl gwaf)), (wat, .inl (cwat, 20, .inl gwat)), (wap, .inl (cwap, 160, .inl gwap)), (wag, .inl (cwag, 20, .inl gwag)), (wgt, .inl (cwgt, 20, .inl gwgt)), (wft, .inl (cwft, 20, .inl gwft)), (wgc, .inl (cwgc, 20, .inl gwgc)), (wek, .inl (cwek, 40, .inl gwek)), (wei, .inl (cwei, 40, .inl gwei)), (wes, .inl (cwes, 40, .inl gwes)), (wez, .inl (cwez, 40, .inl gwez)), (cfi, .inl (ccfi, 31, .inl gcfi)), (clk, .inl (cclk, 30, .inl gclk)), (clt, .inl (cclt, 1800, .inl gclt)), (cop, .inl (ccop, 5000, .inl gcop)), (cva, .inl (ccva, 5000, .inr (.inl gcva))), (cpt, .inl (ccpt, 5000, .inl gcpt)), (cel, .inl (ccel, 5000, .inl gcel)), (cla, .inl (ccla, 2000, .inl gcla))]) [21, 22, 23, 0, 24, 1, 2, 3, 4, 5, 18, 6, 7, 8, 19, 20, 9, 25, 26, 27, 28, 10, 11, 12, 13, 14, 15, 16, 17] rfl
    have hD9 := hD.sub (ws' := [(h0, .inr (9, [.ref aw, .ref ac, .int j28_h0_sound, .int j28_h0_function, .ref ty, .int j28_h0_height, .ref bo, .ref bg, .ref bh, .ref bd, .int j28_h0_depth])), (aw, .inr (10, law)), (ab, .inr (1, [.ref ax, .int ab_length])), (ac, .inr (3, [.ref cfi, .ref clk, .ref clt, .int ac_length, .ref cop, .ref cva, .ref cpt, .ref cel, .int ac_labelCount, .ref cla])), (ax, .inl (cax, 8192, .inl gax)), (ty, .inl (cty, 5000, .inl j28_ty)), (bo, .inl (cbo, 101, .inl j28_bo)), (bg, .inl (cbg, 101, .inl j28_bg)), (bh, .inl (cbh, 101, .inl j28_bh)), (bd, .inl (cbd, 101, .inl j28_bd)), (waf, .inl (cwaf, 30, .inl gwaf)), (wat, .inl (cwat, 20, .inl gwat)), (wap, .inl (cwap, 160, .inl gwap)), (wag, .inl (cwag, 20, .inl gwag)), (wgt, .inl (cwgt, 20, .inl gwgt)), (wft, .inl (cwft, 20, .inl gwft)), (wgc, .inl (cwgc, 20, .inl gwgc)), (wek, .inl (cwek, 40, .inl gwek)), (wei, .inl (cwei, 40, .inl gwei)), (wes, .inl (cwes, 40, .inl gwes)), (wez, .inl (cwez, 40, .inl gwez)), (cfi, .inl (ccfi, 31, .inl gcfi)), (clk, .inl (cclk, 30, .inl gclk)), (clt, .inl (cclt, 1800, .inl gclt)), (cop, .inl (ccop, 5000, .inl gcop)), (cva, .inl (ccva, 5000, .inr (.inl gcva))), (cpt, .inl (ccpt, 5000, .inl gcpt)), (cel, .inl (ccel, 5000, .inl gcel)), (cla, .inl (ccla, 2000, .inl gcla))]) [21, 22, 23, 0, 24, 1, 2, 3, 4, 5, 18, 6, 7, 8, 19, 20, 9, 25, 26, 27, 28, 10, 11, 12, 13, 14, 15, 16, 17] (by decide) rfl
    exact W.zret (v := j28_h0_sound) hx hb hr (zn01 (b_j28_h0_sound)) (fun t ht hW => ⟨⟨j28_h0_sound, (j28_bd, j28_bg, j28_bh, j28_bo, j28_ty, j28_h0_depth, j28_h0_function, j28_h0_height, j28_h0_sound), rfl, ⟨b_j28_h0_sound, b_j28_bh, b_j28_ty, b_j28_h0_depth, b_j28_h0_height, b_j28_h0_sound, po⟩, by rw [ht]; exact hP9, va_K.moved hW.alike hK, hD9⟩, hS.F ht⟩) hS.2.2 d_VA_check_61
  · have q36 := nleI c36
    refine lv_aload_n hx hb d_VA_check_39 rfl (lv_at hl 0 rfl) ?_
    refine va_get (D := (dC, dI)) (ci := 9) (v := .int j28_h0_sound) (C := R_VA) (T := F_VA) (N := 11) hx hb hts i_VA hown hK hP 21 rfl rfl 2 (by decide) (hts _ kF_VA_39) (fun _ h9 => h9) rfl d_VA_check_40 ?_
    refine lv_if_eq (tgt := 57) hx hb d_VA_check_43 (by decide) (fun c43 => ?_) (fun c43 => ?_)
    · have q43 := eqI c43
      refine lv_aload_n hx hb d_VA_check_57 rfl (lv_at hl 0 rfl) ?_
      refine va_get (D := (dC, dI)) (ci := 9) (v := .int j28_h0_sound) (C := R_VA) (T := F_VA) (N := 11) hx hb hts i_VA hown hK hP 21 rfl rfl 2 (by decide) (hts _ kF_VA_39) (fun _ h9 => h9) rfl d_VA_check_58 ?_
      have po : j28_h0_sound = 1 → (mo_ok aw_functionCount.toInt aw_globalCount.toInt gwaf gwat gwag gcfi gclk gcop gcpt gcel gcla gcva) ∧ aw_pagesLeast.toInt ≤ 2 := by
        intro z
        have z1 : j28_h0_sound.toInt = 1 := by rw [z]; decide
        have z2 := v2 z1
        exact ⟨mo_of (gwap := gwap) (gclt := gclt) (lc := ac_labelCount.toInt) (len := ac_length.toInt) (by omega) (fun f q => by omega) (hwf z2) (fun f _ => rfl) (fun f _ => rfl) (fun f _ => rfl) hrc (by omega) (by omega) hlb (fun f q => v3 z1 f (by omega)), (x19 z2).2.2⟩
      have hP9 := hP.sub (ws' := [(h0, .inr (9, [.ref aw, .ref ac, .int j28_h0_sound, .int j28_h0_function, .ref ty, .int j28_h0_height, .ref bo, .ref bg, .ref bh, .ref bd, .int j28_h0_depth])), (aw, .inr (10, law)), (ab, .inr (1, [.ref ax, .int ab_length])), (ac, .inr (3, [.ref cfi, .ref clk, .ref clt, .int ac_length, .ref cop, .ref cva, .ref cpt, .ref cel, .int ac_labelCount, .ref cla])), (ax, .inl (cax, 8192, .inl gax)), (ty, .inl (cty, 5000, .inl j28_ty)), (bo, .inl (cbo, 101, .inl j28_bo)), (bg, .inl (cbg, 101, .inl j28_bg)), (bh, .inl (cbh, 101, .inl j28_bh)), (bd, .inl (cbd, 101, .inl j28_bd)), (waf, .inl (cwaf, 30, .inl gwaf)), (wat, .inl (cwat, 20, .inl gwat)), (wap, .inl (cwap, 160, .inl gwap)), (wag, .inl (cwag, 20, .inl gwag)), (wgt, .inl (cwgt, 20, .inl gwgt)), (wft, .inl (cwft, 20, .inl gwft)), (wgc, .inl (cwgc, 20, .inl gwgc)), (wek, .inl (cwek, 40, .inl gwek)), (wei, .inl (cwei, 40, .inl gwei)), (wes, .inl (cwes, 40, .inl gwes)), (wez, .inl (cwez, 40, .inl gwez)), (cfi, .inl (ccfi, 31, .inl gcfi)), (clk, .inl (cclk, 30, .inl gclk)), (clt, .inl (cclt, 1800, .inl gclt)), (cop, .inl (ccop, 5000, .inl gcop)), (cva, .inl (ccva, 5000, .inr (.inl gcva))), (cpt, .inl (ccpt, 5000, .inl gcpt)), (cel, .inl (ccel, 5000, .inl gcel)), (cla, .inl (ccla, 2000, .inl gcla))]) [21, 22, 23, 0, 24, 1, 2, 3, 4, 5, 18, 6, 7, 8, 19, 20, 9, 25, 26, 27, 28, 10, 11, 12, 13, 14, 15, 16, 17] rfl
      have hD9 := hD.sub (ws' := [(h0, .inr (9, [.ref aw, .ref ac, .int j28_h0_sound, .int j28_h0_function, .ref ty, .int j28_h0_height, .ref bo, .ref bg, .ref bh, .ref bd, .int j28_h0_depth])), (aw, .inr (10, law)), (ab, .inr (1, [.ref ax, .int ab_length])), (ac, .inr (3, [.ref cfi, .ref clk, .ref clt, .int ac_length, .ref cop, .ref cva, .ref cpt, .ref cel, .int ac_labelCount, .ref cla])), (ax, .inl (cax, 8192, .inl gax)), (ty, .inl (cty, 5000, .inl j28_ty)), (bo, .inl (cbo, 101, .inl j28_bo)), (bg, .inl (cbg, 101, .inl j28_bg)), (bh, .inl (cbh, 101, .inl j28_bh)), (bd, .inl (cbd, 101, .inl j28_bd)), (waf, .inl (cwaf, 30, .inl gwaf)), (wat, .inl (cwat, 20, .inl gwat)), (wap, .inl (cwap, 160, .inl gwap)), (wag, .inl (cwag, 20, .inl gwag)), (wgt, .inl (cwgt, 20, .inl gwgt)), (wft, .inl (cwft, 20, .inl gwft)), (wgc, .inl (cwgc, 20, .inl gwgc)), (wek, .inl (cwek, 40, .inl gwek)), (wei, .inl (cwei, 40, .inl gwei)), (wes, .inl (cwes, 40, .inl gwes)), (wez, .inl (cwez, 40, .inl gwez)), (cfi, .inl (ccfi, 31, .inl gcfi)), (clk, .inl (cclk, 30, .inl gclk)), (clt, .inl (cclt, 1800, .inl gclt)), (cop, .inl (ccop, 5000, .inl gcop)), (cva, .inl (ccva, 5000, .inr (.inl gcva))), (cpt, .inl (ccpt, 5000, .inl gcpt)), (cel, .inl (ccel, 5000, .inl gcel)), (cla, .inl (ccla, 2000, .inl gcla))]) [21, 22, 23, 0, 24, 1, 2, 3, 4, 5, 18, 6, 7, 8, 19, 20, 9, 25, 26, 27, 28, 10, 11, 12, 13, 14, 15, 16, 17] (by decide) rfl
      exact W.zret (v := j28_h0_sound) hx hb hr (zn01 (b_j28_h0_sound)) (fun t ht hW => ⟨⟨j28_h0_sound, (j28_bd, j28_bg, j28_bh, j28_bo, j28_ty, j28_h0_depth, j28_h0_function, j28_h0_height, j28_h0_sound), rfl, ⟨b_j28_h0_sound, b_j28_bh, b_j28_ty, b_j28_h0_depth, b_j28_h0_height, b_j28_h0_sound, po⟩, by rw [ht]; exact hP9, va_K.moved hW.alike hK, hD9⟩, hS.F ht⟩) hS.2.2 d_VA_check_61
    · have q43 := neI c43
      refine lv_aload_n hx hb d_VA_check_46 rfl (lv_at hl 0 rfl) ?_
      refine lv_iload_n hx hb d_VA_check_47 rfl (lv_at hl 1 rfl) ?_
      have c9 := i32_clamp (x := j28_l2) (by omega)
      have hC9 := hrc.1 j28_l2.toNatClampNeg (by omega)
      have hPc := hP.sub (ws' := [(h0, .inr (9, [.ref aw, .ref ac, .int j28_h0_sound, .int j28_h0_function, .ref ty, .int j28_h0_height, .ref bo, .ref bg, .ref bh, .ref bd, .int j28_h0_depth])), (aw, .inr (10, law)), (ac, .inr (3, [.ref cfi, .ref clk, .ref clt, .int ac_length, .ref cop, .ref cva, .ref cpt, .ref cel, .int ac_labelCount, .ref cla])), (ty, .inl (cty, 5000, .inl j28_ty)), (bo, .inl (cbo, 101, .inl j28_bo)), (bg, .inl (cbg, 101, .inl j28_bg)), (bh, .inl (cbh, 101, .inl j28_bh)), (bd, .inl (cbd, 101, .inl j28_bd)), (waf, .inl (cwaf, 30, .inl gwaf)), (wat, .inl (cwat, 20, .inl gwat)), (wap, .inl (cwap, 160, .inl gwap)), (wag, .inl (cwag, 20, .inl gwag)), (wgt, .inl (cwgt, 20, .inl gwgt)), (wgc, .inl (cwgc, 20, .inl gwgc)), (cfi, .inl (ccfi, 31, .inl gcfi)), (clk, .inl (cclk, 30, .inl gclk)), (clt, .inl (cclt, 1800, .inl gclt)), (cop, .inl (ccop, 5000, .inl gcop)), (cva, .inl (ccva, 5000, .inr (.inl gcva))), (cpt, .inl (ccpt, 5000, .inl gcpt)), (cel, .inl (ccel, 5000, .inl gcel)), (cla, .inl (ccla, 2000, .inl gcla))]) [21, 22, 0, 1, 2, 3, 4, 5, 18, 6, 7, 8, 19, 9, 10, 11, 12, 13, 14, 15, 16, 17] rfl
      have hDc := hD.sub (ws' := [(h0, .inr (9, [.ref aw, .ref ac, .int j28_h0_sound, .int j28_h0_function, .ref ty, .int j28_h0_height, .ref bo, .ref bg, .ref bh, .ref bd, .int j28_h0_depth])), (aw, .inr (10, law)), (ac, .inr (3, [.ref cfi, .ref clk, .ref clt, .int ac_length, .ref cop, .ref cva, .ref cpt, .ref cel, .int ac_labelCount, .ref cla])), (ty, .inl (cty, 5000, .inl j28_ty)), (bo, .inl (cbo, 101, .inl j28_bo)), (bg, .inl (cbg, 101, .inl j28_bg)), (bh, .inl (cbh, 101, .inl j28_bh)), (bd, .inl (cbd, 101, .inl j28_bd)), (waf, .inl (cwaf, 30, .inl gwaf)), (wat, .inl (cwat, 20, .inl gwat)), (wap, .inl (cwap, 160, .inl gwap)), (wag, .inl (cwag, 20, .inl gwag)), (wgt, .inl (cwgt, 20, .inl gwgt)), (wgc, .inl (cwgc, 20, .inl gwgc)), (cfi, .inl (ccfi, 31, .inl gcfi)), (clk, .inl (cclk, 30, .inl gclk)), (clt, .inl (cclt, 1800, .inl gclt)), (cop, .inl (ccop, 5000, .inl gcop)), (cva, .inl (ccva, 5000, .inr (.inl gcva))), (cpt, .inl (ccpt, 5000, .inl gcpt)), (cel, .inl (ccel, 5000, .inl gcel)), (cla, .inl (ccla, 2000, .inl gcla))]) [21, 22, 0, 1, 2, 3, 4, 5, 18, 6, 7, 8, 19, 9, 10, 11, 12, 13, 14, 15, 16, 17] (by decide) rfl
      have hKc := hK.sub (tys' := [(cty, .int), (cbo, .int), (cbg, .int), (cbh, .int), (cbd, .boolean), (cwaf, .int), (cwat, .int), (cwap, .int), (cwag, .int), (cwgt, .int), (cwgc, .boolean), (ccfi, .int), (cclk, .int), (cclt, .int), (ccop, .int), (ccva, .long), (ccpt, .int), (ccel, .int), (ccla, .int)]) [1, 2, 3, 4, 5, 6, 7, 8, 9, 10, 12, 17, 18, 19, 20, 21, 22, 23, 24] rfl
      have hFc := va_free (wc := [(h0, .inr (9, [.ref aw, .ref ac, .int j28_h0_sound, .int j28_h0_function, .ref ty, .int j28_h0_height, .ref bo, .ref bg, .ref bh, .ref bd, .int j28_h0_depth])), (aw, .inr (10, law)), (ac, .inr (3, [.ref cfi, .ref clk, .ref clt, .int ac_length, .ref cop, .ref cva, .ref cpt, .ref cel, .int ac_labelCount, .ref cla])), (ty, .inl (cty, 5000, .inl j28_ty)), (bo, .inl (cbo, 101, .inl j28_bo)), (bg, .inl (cbg, 101, .inl j28_bg)), (bh, .inl (cbh, 101, .inl j28_bh)), (bd, .inl (cbd, 101, .inl j28_bd)), (waf, .inl (cwaf, 30, .inl gwaf)), (wat, .inl (cwat, 20, .inl gwat)), (wap, .inl (cwap, 160, .inl gwap)), (wag, .inl (cwag, 20, .inl gwag)), (wgt, .inl (cwgt, 20, .inl gwgt)), (wgc, .inl (cwgc, 20, .inl gwgc)), (cfi, .inl (ccfi, 31, .inl gcfi)), (clk, .inl (cclk, 30, .inl gclk)), (clt, .inl (cclt, 1800, .inl gclt)), (cop, .inl (ccop, 5000, .inl gcop)), (cva, .inl (ccva, 5000, .inr (.inl gcva))), (cpt, .inl (ccpt, 5000, .inl gcpt)), (cel, .inl (ccel, 5000, .inl gcel)), (cla, .inl (ccla, 2000, .inl gcla))]) hD hS hA [21, 22, 0, 1, 2, 3, 4, 5, 18, 6, 7, 8, 19, 9, 10, 11, 12, 13, 14, 15, 16, 17] rfl
      refine va_callv (va_runV (As := [.int j28_l2]) (rest := []) ⟨hx, hb, hml, hown, hts⟩ (c_VA_checkFunction l dC dI H.size h0 aw ac ty bo bg bh bd wat wap wag waf wgt wgc cfi clk clt cop cva cpt cel cla cty cbo cbg cbh cbd cwaf cwat cwap cwag cwgt cwgc ccfi cclk cclt ccop ccva ccpt ccel ccla j28_h0_sound j28_h0_function j28_h0_height j28_h0_depth law aw_functionCount aw_hasMemory aw_globalCount ac_length ac_labelCount j28_ty j28_bo j28_bg j28_bh j28_bd gwaf gwat gwap gwag gwgt gwgc gcfi gclk gclt gcop gcva gcpt gcel gcla ((fun f => (gwat (gwaf f).toNatClampNeg).toInt + (gclk f).toInt)) ((fun f => if (gwag (gwaf f).toNatClampNeg).toInt = 64 then 0 else 1)) ((fun f => (gwat (gwaf f).toNatClampNeg).toInt)) paw_1 paw_3 paw_4 paw_5 paw_6 paw_7 paw_8 paw_11 paw_12 paw_15 plaw (b_j28_h0_sound) (b_j28_h0_height) (b_j28_h0_depth) (b_ac_labelCount) (b_j28_ty) (b_j28_bh) (b_aw_functionCount) (b_aw_hasMemory) (b_aw_globalCount) j28_l2 (by (try dsimp only) <;> omega) (by (try dsimp only) <;> omega) (hwf (v2 (by omega))) (hrg) (hlb) (⟨hC9.1, hC9.2.1, by have := hC9.2.2.1; omega⟩) (hC9.2.2.2.1) (fun f _ => rfl) (fun f _ => rfl) (fun f _ => rfl)) (cwV 1 hts (gV kM_VA_53 kV_VA_checkFunction kS_VA_checkFunction kI_VA kC_VA_checkFunction) rfl rfl rfl (by decide +kernel) ⟨Nat.le_of_ble_eq_true rfl, Nat.le_of_ble_eq_true rfl⟩) ⟨fun a U g mk z => by obtain ⟨z0, z1, zP, zK, zD⟩ := z; exact ⟨z0, z1, zP, va_K.moved (u := U) (U := U.calling g mk a) (Vm.Alike.refl U.vm) zK, zD⟩, va_recv hKc hPc (ci := 9) (q0 := 0) rfl rfl, fun U hU hW => ⟨rfl, by rw [hU], by rw [hU]; exact hPc, va_K.moved hW.alike hKc, hDc.weaken (fun _ _ _ _ => trivial)⟩⟩ rfl rfl hl.1 rfl (lv_room (Nat.le_of_ble_eq_true rfl)) d_VA_check_48 ⟨(Nat.zero_le _), (Nat.zero_le _)⟩) hS (fun q _ h => hFc q h) hFc (fun u t H1 locs ht hvm hw hB hz1 hk1 hS => ?_)
      obtain ⟨n6, n7, n8, n9, n10, n11, n12, n13, n14⟩ := u
      try dsimp only at hw
      obtain ⟨bn8, bn10, bn11, bn13, bn14, xr5⟩ := hw
      try clear hw
      have tn14 := b01 bn14
      obtain ⟨hP1, hK1, hD1⟩ := hB
      rw [ht] at hP1
      obtain ⟨hP, hD⟩ := va_join (wr := [(wft, .inl (cwft, 20, .inl gwft)), (ab, .inr (1, [.ref ax, .int ab_length])), (ax, .inl (cax, 8192, .inl gax)), (wek, .inl (cwek, 40, .inl gwek)), (wei, .inl (cwei, 40, .inl gwei)), (wes, .inl (cwes, 40, .inl gwes)), (wez, .inl (cwez, 40, .inl gwez))]) (w1 := [(h0, .inr (9, [.ref aw, .ref ac, .int n14, .int n12, .ref ty, .int n13, .ref bo, .ref bg, .ref bh, .ref bd, .int n11])), (aw, .inr (10, law)), (ac, .inr (3, [.ref cfi, .ref clk, .ref clt, .int ac_length, .ref cop, .ref cva, .ref cpt, .ref cel, .int ac_labelCount, .ref cla])), (ty, .inl (cty, 5000, .inl n10)), (bo, .inl (cbo, 101, .inl n9)), (bg, .inl (cbg, 101, .inl n7)), (bh, .inl (cbh, 101, .inl n8)), (bd, .inl (cbd, 101, .inl n6)), (waf, .inl (cwaf, 30, .inl gwaf)), (wat, .inl (cwat, 20, .inl gwat)), (wap, .inl (cwap, 160, .inl gwap)), (wag, .inl (cwag, 20, .inl gwag)), (wgt, .inl (cwgt, 20, .inl gwgt)), (wgc, .inl (cwgc, 20, .inl gwgc)), (cfi, .inl (ccfi, 31, .inl gcfi)), (clk, .inl (cclk, 30, .inl gclk)), (clt, .inl (cclt, 1800, .inl gclt)), (cop, .inl (ccop, 5000, .inl gcop)), (cva, .inl (ccva, 5000, .inr (.inl gcva))), (cpt, .inl (ccpt, 5000, .inl gcpt)), (cel, .inl (ccel, 5000, .inl gcel)), (cla, .inl (ccla, 2000, .inl gcla))]) hP hD [21, 22, 0, 1, 2, 3, 4, 5, 18, 6, 7, 8, 19, 9, 10, 11, 12, 13, 14, 15, 16, 17] [20, 23, 24, 25, 26, 27, 28] rfl rfl (by decide) (by decide) hk1 hFc hP1 hD1
      clear hPc hDc hKc hFc hz1 hk1 hP1 hK1 hD1
      generalize H1 = H at hP hS ⊢
      have hP : va_P (dC, dI) cls [(wft, .inl (cwft, 20, .inl gwft)), (ab, .inr (1, [.ref ax, .int ab_length])), (ax, .inl (cax, 8192, .inl gax)), (wek, .inl (cwek, 40, .inl gwek)), (wei, .inl (cwei, 40, .inl gwei)), (wes, .inl (cwes, 40, .inl gwes)), (wez, .inl (cwez, 40, .inl gwez)), (h0, .inr (9, [.ref aw, .ref ac, .int n14, .int n12, .ref ty, .int n13, .ref bo, .ref bg, .ref bh, .ref bd, .int n11])), (aw, .inr (10, law)), (ac, .inr (3, [.ref cfi, .ref clk, .ref clt, .int ac_length, .ref cop, .ref cva, .ref cpt, .ref cel, .int ac_labelCount, .ref cla])), (ty, .inl (cty, 5000, .inl n10)), (bo, .inl (cbo, 101, .inl n9)), (bg, .inl (cbg, 101, .inl n7)), (bh, .inl (cbh, 101, .inl n8)), (bd, .inl (cbd, 101, .inl n6)), (waf, .inl (cwaf, 30, .inl gwaf)), (wat, .inl (cwat, 20, .inl gwat)), (wap, .inl (cwap, 160, .inl gwap)), (wag, .inl (cwag, 20, .inl gwag)), (wgt, .inl (cwgt, 20, .inl gwgt)), (wgc, .inl (cwgc, 20, .inl gwgc)), (cfi, .inl (ccfi, 31, .inl gcfi)), (clk, .inl (cclk, 30, .inl gclk)), (clt, .inl (cclt, 1800, .inl gclt)), (cop, .inl (ccop, 5000, .inl gcop)), (cva, .inl (ccva, 5000, .inr (.inl gcva))), (cpt, .inl (ccpt, 5000, .inl gcpt)), (cel, .inl (ccel, 5000, .inl gcel)), (cla, .inl (ccla, 2000, .inl gcla))] H := hP
      have hD : va_D A [(wft, .inl (cwft, 20, .inl gwft)), (ab, .inr (1, [.ref ax, .int ab_length])), (ax, .inl (cax, 8192, .inl gax)), (wek, .inl (cwek, 40, .inl gwek)), (wei, .inl (cwei, 40, .inl gwei)), (wes, .inl (cwes, 40, .inl gwes)), (wez, .inl (cwez, 40, .inl gwez)), (h0, .inr (9, [.ref aw, .ref ac, .int n14, .int n12, .ref ty, .int n13, .ref bo, .ref bg, .ref bh, .ref bd, .int n11])), (aw, .inr (10, law)), (ac, .inr (3, [.ref cfi, .ref clk, .ref clt, .int ac_length, .ref cop, .ref cva, .ref cpt, .ref cel, .int ac_labelCount, .ref cla])), (ty, .inl (cty, 5000, .inl n10)), (bo, .inl (cbo, 101, .inl n9)), (bg, .inl (cbg, 101, .inl n7)), (bh, .inl (cbh, 101, .inl n8)), (bd, .inl (cbd, 101, .inl n6)), (waf, .inl (cwaf, 30, .inl gwaf)), (wat, .inl (cwat, 20, .inl gwat)), (wap, .inl (cwap, 160, .inl gwap)), (wag, .inl (cwag, 20, .inl gwag)), (wgt, .inl (cwgt, 20, .inl gwgt)), (wgc, .inl (cwgc, 20, .inl gwgc)), (cfi, .inl (ccfi, 31, .inl gcfi)), (clk, .inl (cclk, 30, .inl gclk)), (clt, .inl (cclt, 1800, .inl gclt)), (cop, .inl (ccop, 5000, .inl gcop)), (cva, .inl (ccva, 5000, .inr (.inl gcva))), (cpt, .inl (ccpt, 5000, .inl gcpt)), (cel, .inl (ccel, 5000, .inl gcel)), (cla, .inl (ccla, 2000, .inl gcla))] := hD
      obtain ⟨x15, ex15⟩ : ∃ z : Int32, z = j28_l2 + 1 := ⟨_, rfl⟩
      have tx15 : x15.toInt = j28_l2.toInt + 1 := by have z := i32_add ex15 (by omega) (by omega); omega
      refine lv_iinc (v := x15) (lv' := [(2, .int x15), (0, .ref h0)]) hx hb d_VA_check_51 hl (k := 1) rfl (by rw [ex15]; rfl) (by decide) rfl (fun ls hl => ?_)
      refine lv_goto (tgt := 28) hx hb d_VA_check_54 (by decide) ?_
      exact ih28 (x15, n6, n7, n8, n9, n10, n11, n12, n13, n14) _ _ _ (by show (aw_functionCount.toInt - x15.toInt).toNat < N28; omega) ⟨by (try dsimp only) <;> omega, bn8, bn10, bn11, bn13, bn14, by (try dsimp only) <;> omega, fun z => v2 (xr5 z).1, fun z f q => by by_cases y : (f : Int) < j28_l2.toInt; exact v3 (xr5 z).1 f y; rw [show f = j28_l2.toNatClampNeg from by omega]; exact (xr5 z).2, hP.sub [9, 10, 11, 12, 13, 14, 16, 17, 18, 20, 21, 22, 23, 24, 25, 26, 27, 28, 15, 19, 0, 7, 8, 1, 2, 3, 4, 5, 6] rfl, hD.sub [9, 10, 11, 12, 13, 14, 16, 17, 18, 20, 21, 22, 23, 24, 25, 26, 27, 28, 15, 19, 0, 7, 8, 1, 2, 3, 4, 5, 6] (by decide) rfl, hS, lv_sub hl [1, 0] rfl⟩

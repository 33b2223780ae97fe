section q_82
/-! Coder: globals, exports -/
abbrev b_CO_writeGlobals : ByteArray := prog_4_method_26_code
def y_CO_writeGlobals : MethodName := ⟨R_CO, "writeGlobals", "(LWaferForge$ByteRow;)V"⟩
abbrev w_CO_writeGlobals : List Cond := .code y_CO_writeGlobals b_CO_writeGlobals 3 none :: lw_g
theorem kC_CO_writeGlobals : Cond.code y_CO_writeGlobals b_CO_writeGlobals 3 none ∈ lw_g := in_c6 50 rfl rfl
theorem d_CO_writeGlobals_0 : decode b_CO_writeGlobals 0 = .ok (.aload_n 0, 1) := bz_c42 (by decide +kernel)
theorem d_CO_writeGlobals_1 : decode b_CO_writeGlobals 1 = .ok (.getfield 33, 3) := bz_c180 (by decide +kernel)
theorem d_CO_writeGlobals_4 : decode b_CO_writeGlobals 4 = .ok (.iconst 0, 1) := bz_c3 (by decide +kernel)
theorem d_CO_writeGlobals_5 : decode b_CO_writeGlobals 5 = .ok (.putfield 64, 3) := bz_c181 (by decide +kernel)
theorem d_CO_writeGlobals_8 : decode b_CO_writeGlobals 8 = .ok (.aload_n 0, 1) := bz_c42 (by decide +kernel)
theorem d_CO_writeGlobals_9 : decode b_CO_writeGlobals 9 = .ok (.getfield 33, 3) := bz_c180 (by decide +kernel)
theorem d_CO_writeGlobals_12 : decode b_CO_writeGlobals 12 = .ok (.aload_n 0, 1) := bz_c42 (by decide +kernel)
theorem d_CO_writeGlobals_13 : decode b_CO_writeGlobals 13 = .ok (.getfield 36, 3) := bz_c180 (by decide +kernel)
theorem d_CO_writeGlobals_16 : decode b_CO_writeGlobals 16 = .ok (.getfield 42, 3) := bz_c180 (by decide +kernel)
theorem d_CO_writeGlobals_19 : decode b_CO_writeGlobals 19 = .ok (.getfield 68, 3) := bz_c180 (by decide +kernel)
theorem d_CO_writeGlobals_22 : decode b_CO_writeGlobals 22 = .ok (.invokevirtual 218, 3) := bz_c182 (by decide +kernel)
theorem d_CO_writeGlobals_25 : decode b_CO_writeGlobals 25 = .ok (.iconst 0, 1) := bz_c3 (by decide +kernel)
theorem d_CO_writeGlobals_26 : decode b_CO_writeGlobals 26 = .ok (.istore_n 2, 1) := bz_c61 (by decide +kernel)
theorem d_CO_writeGlobals_27 : decode b_CO_writeGlobals 27 = .ok (.iload_n 2, 1) := bz_c28 (by decide +kernel)
theorem d_CO_writeGlobals_28 : decode b_CO_writeGlobals 28 = .ok (.aload_n 0, 1) := bz_c42 (by decide +kernel)
theorem d_CO_writeGlobals_29 : decode b_CO_writeGlobals 29 = .ok (.getfield 36, 3) := bz_c180 (by decide +kernel)
theorem d_CO_writeGlobals_32 : decode b_CO_writeGlobals 32 = .ok (.getfield 42, 3) := bz_c180 (by decide +kernel)
theorem d_CO_writeGlobals_35 : decode b_CO_writeGlobals 35 = .ok (.getfield 68, 3) := bz_c180 (by decide +kernel)
theorem d_CO_writeGlobals_38 : decode b_CO_writeGlobals 38 = .ok (.if_icmp .ge 95, 3) := bz_c162 (by decide +kernel)
theorem d_CO_writeGlobals_41 : decode b_CO_writeGlobals 41 = .ok (.aload_n 0, 1) := bz_c42 (by decide +kernel)
theorem d_CO_writeGlobals_42 : decode b_CO_writeGlobals 42 = .ok (.getfield 33, 3) := bz_c180 (by decide +kernel)
theorem d_CO_writeGlobals_45 : decode b_CO_writeGlobals 45 = .ok (.aload_n 0, 1) := bz_c42 (by decide +kernel)
theorem d_CO_writeGlobals_46 : decode b_CO_writeGlobals 46 = .ok (.getfield 36, 3) := bz_c180 (by decide +kernel)
theorem d_CO_writeGlobals_49 : decode b_CO_writeGlobals 49 = .ok (.getfield 42, 3) := bz_c180 (by decide +kernel)
theorem d_CO_writeGlobals_52 : decode b_CO_writeGlobals 52 = .ok (.getfield 121, 3) := bz_c180 (by decide +kernel)
theorem d_CO_writeGlobals_55 : decode b_CO_writeGlobals 55 = .ok (.iload_n 2, 1) := bz_c28 (by decide +kernel)
theorem d_CO_writeGlobals_56 : decode b_CO_writeGlobals 56 = .ok (.iaload, 1) := bz_c46 (by decide +kernel)
theorem d_CO_writeGlobals_57 : decode b_CO_writeGlobals 57 = .ok (.invokevirtual 76, 3) := bz_c182 (by decide +kernel)
theorem d_CO_writeGlobals_60 : decode b_CO_writeGlobals 60 = .ok (.aload_n 0, 1) := bz_c42 (by decide +kernel)
theorem d_CO_writeGlobals_61 : decode b_CO_writeGlobals 61 = .ok (.getfield 33, 3) := bz_c180 (by decide +kernel)
theorem d_CO_writeGlobals_64 : decode b_CO_writeGlobals 64 = .ok (.iconst 1, 1) := bz_c4 (by decide +kernel)
theorem d_CO_writeGlobals_65 : decode b_CO_writeGlobals 65 = .ok (.invokevirtual 76, 3) := bz_c182 (by decide +kernel)
theorem d_CO_writeGlobals_68 : decode b_CO_writeGlobals 68 = .ok (.aload_n 0, 1) := bz_c42 (by decide +kernel)
theorem d_CO_writeGlobals_69 : decode b_CO_writeGlobals 69 = .ok (.getfield 33, 3) := bz_c180 (by decide +kernel)
theorem d_CO_writeGlobals_72 : decode b_CO_writeGlobals 72 = .ok (.aload_n 0, 1) := bz_c42 (by decide +kernel)
theorem d_CO_writeGlobals_73 : decode b_CO_writeGlobals 73 = .ok (.getfield 36, 3) := bz_c180 (by decide +kernel)
theorem d_CO_writeGlobals_76 : decode b_CO_writeGlobals 76 = .ok (.getfield 42, 3) := bz_c180 (by decide +kernel)
theorem d_CO_writeGlobals_79 : decode b_CO_writeGlobals 79 = .ok (.getfield 121, 3) := bz_c180 (by decide +kernel)
theorem d_CO_writeGlobals_82 : decode b_CO_writeGlobals 82 = .ok (.iload_n 2, 1) := bz_c28 (by decide +kernel)
theorem d_CO_writeGlobals_83 : decode b_CO_writeGlobals 83 = .ok (.iaload, 1) := bz_c46 (by decide +kernel)
theorem d_CO_writeGlobals_84 : decode b_CO_writeGlobals 84 = .ok (.bipush 127, 2) := bz_c16 (by decide +kernel)
theorem d_CO_writeGlobals_86 : decode b_CO_writeGlobals 86 = .ok (.if_icmp .ne 8, 3) := bz_c160 (by decide +kernel)
theorem d_CO_writeGlobals_89 : decode b_CO_writeGlobals 89 = .ok (.bipush 65, 2) := bz_c16 (by decide +kernel)
theorem d_CO_writeGlobals_91 : decode b_CO_writeGlobals 91 = .ok (.goto 5, 3) := bz_c167 (by decide +kernel)
theorem d_CO_writeGlobals_94 : decode b_CO_writeGlobals 94 = .ok (.bipush 66, 2) := bz_c16 (by decide +kernel)
theorem d_CO_writeGlobals_96 : decode b_CO_writeGlobals 96 = .ok (.invokevirtual 76, 3) := bz_c182 (by decide +kernel)
theorem d_CO_writeGlobals_99 : decode b_CO_writeGlobals 99 = .ok (.aload_n 0, 1) := bz_c42 (by decide +kernel)
theorem d_CO_writeGlobals_100 : decode b_CO_writeGlobals 100 = .ok (.getfield 33, 3) := bz_c180 (by decide +kernel)
theorem d_CO_writeGlobals_103 : decode b_CO_writeGlobals 103 = .ok (.aload_n 0, 1) := bz_c42 (by decide +kernel)
theorem d_CO_writeGlobals_104 : decode b_CO_writeGlobals 104 = .ok (.getfield 36, 3) := bz_c180 (by decide +kernel)
theorem d_CO_writeGlobals_107 : decode b_CO_writeGlobals 107 = .ok (.getfield 42, 3) := bz_c180 (by decide +kernel)
theorem d_CO_writeGlobals_110 : decode b_CO_writeGlobals 110 = .ok (.getfield 217, 3) := bz_c180 (by decide +kernel)
theorem d_CO_writeGlobals_113 : decode b_CO_writeGlobals 113 = .ok (.iload_n 2, 1) := bz_c28 (by decide +kernel)
theorem d_CO_writeGlobals_114 : decode b_CO_writeGlobals 114 = .ok (.laload, 1) := bz_c47 (by decide +kernel)
theorem d_CO_writeGlobals_115 : decode b_CO_writeGlobals 115 = .ok (.invokevirtual 179, 3) := bz_c182 (by decide +kernel)
theorem d_CO_writeGlobals_118 : decode b_CO_writeGlobals 118 = .ok (.aload_n 0, 1) := bz_c42 (by decide +kernel)
theorem d_CO_writeGlobals_119 : decode b_CO_writeGlobals 119 = .ok (.getfield 33, 3) := bz_c180 (by decide +kernel)
theorem d_CO_writeGlobals_122 : decode b_CO_writeGlobals 122 = .ok (.bipush 11, 2) := bz_c16 (by decide +kernel)
theorem d_CO_writeGlobals_124 : decode b_CO_writeGlobals 124 = .ok (.invokevirtual 76, 3) := bz_c182 (by decide +kernel)
theorem d_CO_writeGlobals_127 : decode b_CO_writeGlobals 127 = .ok (.iinc 2 1, 3) := by decide +kernel
theorem d_CO_writeGlobals_130 : decode b_CO_writeGlobals 130 = .ok (.goto (-103), 3) := bz_c167 (by decide +kernel)
theorem d_CO_writeGlobals_133 : decode b_CO_writeGlobals 133 = .ok (.aload_n 0, 1) := bz_c42 (by decide +kernel)
theorem d_CO_writeGlobals_134 : decode b_CO_writeGlobals 134 = .ok (.aload_n 1, 1) := bz_c43 (by decide +kernel)
theorem d_CO_writeGlobals_135 : decode b_CO_writeGlobals 135 = .ok (.bipush 6, 2) := bz_c16 (by decide +kernel)
theorem d_CO_writeGlobals_137 : decode b_CO_writeGlobals 137 = .ok (.invokevirtual 299, 3) := bz_c182 (by decide +kernel)
theorem d_CO_writeGlobals_140 : decode b_CO_writeGlobals 140 = .ok (.return_, 1) := bz_c177 (by decide +kernel)
abbrev at_CO_writeGlobals (dC : Nat → ClassId) (dI : Nat → Nat → Nat) (h0 pr kn lt pe to bo cs se gl fu pa pf sf pk pg pp pz pv pr_scanner_r pr_waiting_r pr_waitingPlaces_r seb tr gls glz glt glv ow owb : Nat) (cseb cglt cglv cowb : ClassId) (h0_localCount : Int32) (h0_pendingCount : Int32) (h0_gives : Int32) (h0_depth : Int32) (h0_loopDepth : Int32) (pr_reason : Int32) (pr_place : Int32) (pr_stepCount : Int32) (pr_open : Int32) (pr_twoSides : Int32) (pr_waitingCount : Int32) (gl_length : Int32) (gglt : Nat → Int32) (gglv : Nat → Int64) (A : Nat → Prop) (u : (Nat → Int32) × (Nat → Int32) × Int32 × Int32) (t : State) : Prop := match u with | (gowb, gseb, ow_length, se_length) => va_P (dC, dI) cls (wz_225 h0 pr kn lt h0_localCount pe h0_pendingCount h0_gives h0_depth h0_loopDepth to bo cs se pr gl fu pa pf sf pk pg pp pz pv pr_reason pr_place pr_scanner_r pr_stepCount pr_open pr_twoSides pr_waiting_r pr_waitingPlaces_r pr_waitingCount se seb se_length seb cseb gseb gl tr gls glz glt glv gl_length glt cglt gglt glv cglv gglv ow owb ow_length owb cowb gowb) t.heap ∧ va_K (dC, dI) cls [(cseb, .byte), (cglt, .int), (cglv, .long), (cowb, .byte)] t ∧ va_D A (wz_225 h0 pr kn lt h0_localCount pe h0_pendingCount h0_gives h0_depth h0_loopDepth to bo cs se pr gl fu pa pf sf pk pg pp pz pv pr_reason pr_place pr_scanner_r pr_stepCount pr_open pr_twoSides pr_waiting_r pr_waitingPlaces_r pr_waitingCount se seb se_length seb cseb gseb gl tr gls glz glt glv gl_length glt cglt gglt glv cglv gglv ow owb ow_length owb cowb gowb)
set_option maxHeartbeats 4000000 in
set_option maxRecDepth 100000 in
theorem c_CO_writeGlobals (l : Launch) (dC : Nat → ClassId) (dI : Nat → Nat → Nat) (sz : Nat) (h0 pr kn lt pe to bo cs se gl fu pa pf sf pk pg pp pz pv pr_scanner_r pr_waiting_r pr_waitingPlaces_r seb tr gls glz glt glv ow owb : Nat) (cseb cglt cglv cowb : ClassId) (h0_localCount : Int32) (h0_pendingCount : Int32) (h0_gives : Int32) (h0_depth : Int32) (h0_loopDepth : Int32) (pr_reason : Int32) (pr_place : Int32) (pr_stepCount : Int32) (pr_open : Int32) (pr_twoSides : Int32) (pr_waitingCount : Int32) (se_length : Int32) (gseb : Nat → Int32) (gl_length : Int32) (gglt : Nat → Int32) (gglv : Nat → Int64) (ow_length : Int32) (gowb : Nat → Int32)  (b_se_length : 0 ≤ se_length.toInt ∧ se_length.toInt ≤ 8192) (b_gl_length : 0 ≤ gl_length.toInt ∧ gl_length.toInt ≤ 20) (b_ow_length : 0 ≤ ow_length.toInt ∧ ow_length.toInt ≤ 8192)   (hgn : bx (∀ j : Nat, (j : Int) < gl_length.toInt → tG (gglt j).toInt (gglv j).toInt)) (hro : ow_length.toInt + 300 ≤ 8192) : Met l y_CO_writeGlobals w_CO_writeGlobals ({ frames := 3, cells := 0, slots := 0, locals := 67 }) (va_Pc [.ref h0, .ref ow] (fun U => U.heap.size = sz ∧ va_P (dC, dI) cls (wz_225 h0 pr kn lt h0_localCount pe h0_pendingCount h0_gives h0_depth h0_loopDepth to bo cs se pr gl fu pa pf sf pk pg pp pz pv pr_reason pr_place pr_scanner_r pr_stepCount pr_open pr_twoSides pr_waiting_r pr_waitingPlaces_r pr_waitingCount se seb se_length seb cseb gseb gl tr gls glz glt glv gl_length glt cglt gglt glv cglv gglv ow owb ow_length owb cowb gowb) U.heap ∧ va_K (dC, dI) cls [(cseb, .byte), (cglt, .int), (cglv, .long), (cowb, .byte)] U ∧ va_D (fun _ => True) (wz_225 h0 pr kn lt h0_localCount pe h0_pendingCount h0_gives h0_depth h0_loopDepth to bo cs se pr gl fu pa pf sf pk pg pp pz pv pr_reason pr_place pr_scanner_r pr_stepCount pr_open pr_twoSides pr_waiting_r pr_waitingPlaces_r pr_waitingCount se seb se_length seb cseb gseb gl tr gls glz glt glv gl_length glt cglt gglt glv cglv gglv ow owb ow_length owb cowb gowb))) (va_Qv (fun (u : (Nat → Int32) × (Nat → Int32) × Int32 × Int32) => match u with | (gowb2, gseb2, ow_length2, se_length2) => (0 ≤ ow_length2.toInt ∧ ow_length2.toInt ≤ 8192) ∧ (0 ≤ se_length2.toInt ∧ se_length2.toInt ≤ 8192) ∧ (∃ L : List (Nat × Int), (L.length : Int) = gl_length.toInt ∧ (∀ x ∈ L, gok x) ∧ ((gbl L).length : Int) ≤ 14 * gl_length.toInt ∧ ow_length2.toInt = ow_length.toInt + ((sec 6 (L.length :: gbl L)).length : Int) ∧ bl gowb2 ow_length2.toNatClampNeg = bl gowb ow_length.toNatClampNeg ++ sec 6 (L.length :: gbl L))) (at_CO_writeGlobals dC dI h0 pr kn lt pe to bo cs se gl fu pa pf sf pk pg pp pz pv pr_scanner_r pr_waiting_r pr_waitingPlaces_r seb tr gls glz glt glv ow owb cseb cglt cglv cowb h0_localCount h0_pendingCount h0_gives h0_depth h0_loopDepth pr_reason pr_place pr_stepCount pr_open pr_twoSides pr_waitingCount gl_length gglt gglv (va_A (wz_225 h0 pr kn lt h0_localCount pe h0_pendingCount h0_gives h0_depth h0_loopDepth to bo cs se pr gl fu pa pf sf pk pg pp pz pv pr_reason pr_place pr_scanner_r pr_stepCount pr_open pr_twoSides pr_waiting_r pr_waitingPlaces_r pr_waitingCount se seb se_length seb cseb gseb gl tr gls glz glt glv gl_length glt cglt gglt glv cglv gglv ow owb ow_length owb cowb gowb) sz)) (va_A (wz_225 h0 pr kn lt h0_localCount pe h0_pendingCount h0_gives h0_depth h0_loopDepth to bo cs se pr gl fu pa pf sf pk pg pp pz pv pr_reason pr_place pr_scanner_r pr_stepCount pr_open pr_twoSides pr_waiting_r pr_waitingPlaces_r pr_waitingCount se seb se_length seb cseb gseb gl tr gls glz glt glv gl_length glt cglt gglt glv cglv gglv ow owb ow_length owb cowb gowb) sz)) 0 0 (va_A (wz_225 h0 pr kn lt h0_localCount pe h0_pendingCount h0_gives h0_depth h0_loopDepth to bo cs se pr gl fu pa pf sf pk pg pp pz pv pr_reason pr_place pr_scanner_r pr_stepCount pr_open pr_twoSides pr_waiting_r pr_waitingPlaces_r pr_waitingCount se seb se_length seb cseb gseb gl tr gls glz glt glv gl_length glt cglt gglt glv cglv gglv ow owb ow_length owb cowb gowb) sz) := by
  refine Met.ofW (cc := b_CO_writeGlobals) (maxL := 3) (ret := none) (by decide) rfl ?_
  intro p e s m args below meth c s₁ B hml hv
  obtain ⟨rfl, hsz, hP, hK, hD0⟩ := hv
  have hx := B.exec
  have hb := B.bytes
  have hr := B.returns
  have hts0 := atoms_spec (ws := w_CO_writeGlobals) B.pre
  have hts : ∀ w ∈ lw_g, w.before _ s = true := fun w h => hts0 w (List.mem_cons_of_mem _ h)
  have hown : s.vm.findClass R_CO = some m.cls := findClass_of_methodNamed B.named
  have hlocks := B.notSynchronized
  clear hts0
  subst hsz
  have hD := hD0.self (sz := s.heap.size)
  generalize hAe : va_A (wz_225 h0 pr kn lt h0_localCount pe h0_pendingCount h0_gives h0_depth h0_loopDepth to bo cs se pr gl fu pa pf sf pk pg pp pz pv pr_reason pr_place pr_scanner_r pr_stepCount pr_open pr_twoSides pr_waiting_r pr_waitingPlaces_r pr_waitingCount se seb se_length seb cseb gseb gl tr gls glz glt glv gl_length glt cglt gglt glv cglv gglv ow owb ow_length owb cowb gowb) s.heap.size = A at hD ⊢
  have hA : ∀ q : Nat, s.heap.size ≤ q → A q := fun q h => by rw [← hAe]; exact Or.inr h
  clear hAe
  have hP : va_P (dC, dI) cls (wz_225 h0 pr kn lt h0_localCount pe h0_pendingCount h0_gives h0_depth h0_loopDepth to bo cs se pr gl fu pa pf sf pk pg pp pz pv pr_reason pr_place pr_scanner_r pr_stepCount pr_open pr_twoSides pr_waiting_r pr_waitingPlaces_r pr_waitingCount se seb se_length seb cseb gseb gl tr gls glz glt glv gl_length glt cglt gglt glv cglv gglv ow owb ow_length owb cowb gowb) s.heap := hP
  have hl := lv_entry ([.ref h0, .ref ow]) (n := 3) (Nat.le_of_ble_eq_true rfl)
  rw [lg_entry_eq]
  generalize (lg_sl ([.ref h0, .ref ow]) ++ List.replicate (3 - (lg_sl ([.ref h0, .ref ow])).length) Slot.unset).toArray = ls at hl ⊢
  have hl : lv_has ls 3 [(0, .ref h0), (1, .ref ow)] := hl
  have k0 : (0 : Int32).toInt = 0 := by decide
  refine w_gen (A := A) hP (fun H locs hP hS => ?_)
  have k1 : (1 : Int32).toInt = 1 := by decide
  have k6 : (6 : Int32).toInt = 6 := by decide
  have k11 : (11 : Int32).toInt = 11 := by decide
  have k65 : (65 : Int32).toInt = 65 := by decide
  have k66 : (66 : Int32).toInt = 66 := by decide
  have k127 : (127 : Int32).toInt = 127 := by decide
  refine lv_aload_n hx hb d_CO_writeGlobals_0 rfl (lv_at hl 0 rfl) ?_
  refine va_get (D := (dC, dI)) (ci := 2) (v := .ref se) (C := R_CO) (T := F_CO) (N := 13) hx hb hts i_CO hown hK hP 0 rfl rfl 12 (by decide) (hts _ kF_CO_33) (fun _ h9 => h9) rfl d_CO_writeGlobals_1 ?_
  refine lv_iconst (v := 0) hx hb d_CO_writeGlobals_4 (by decide) ?_
  refine va_put (D := (dC, dI)) (ci := 1) (v := .int 0) (ty := .int) (C := R_BR) (T := F_BR) (N := 2) hx hb hts i_BR t_BR t_BR_ok n_BR hown hK hP hD hS 2 rfl rfl 1 (by decide) (hts _ kF_CO_64) (fun _ h9 => h9) rfl (by decide +kernel) rfl rfl (Nat.le_of_ble_eq_true rfl) d_CO_writeGlobals_5 (fun H locs hP hD hS => ?_)
  refine lv_aload_n hx hb d_CO_writeGlobals_8 rfl (lv_at hl 0 rfl) ?_
  refine va_get (D := (dC, dI)) (ci := 2) (v := .ref se) (C := R_CO) (T := F_CO) (N := 13) hx hb hts i_CO hown hK hP 0 rfl rfl 12 (by decide) (hts _ kF_CO_33) (fun _ h9 => h9) rfl d_CO_writeGlobals_9 ?_
  refine lv_aload_n hx hb d_CO_writeGlobals_12 rfl (lv_at hl 0 rfl) ?_
  refine va_get (D := (dC, dI)) (ci := 2) (v := .ref pr) (C := R_CO) (T := F_CO) (N := 13) hx hb hts i_CO hown hK hP 0 rfl rfl 0 (by decide) (hts _ kF_CO_36) (fun _ h9 => h9) rfl d_CO_writeGlobals_13 ?_
  refine va_get (D := (dC, dI)) (ci := 6) (v := .ref gl) (C := R_PR) (T := F_PR) (N := 19) hx hb hts i_PR hown hK hP 1 rfl rfl 0 (by decide) (hts _ kF_CO_42) (fun _ h9 => h9) rfl d_CO_writeGlobals_16 ?_
  refine va_get (D := (dC, dI)) (ci := 5) (v := .int gl_length) (C := R_NA) (T := F_NA) (N := 6) hx hb hts i_NA hown hK hP 4 rfl rfl 5 (by decide) (hts _ kF_CO_68) (fun _ h9 => h9) rfl d_CO_writeGlobals_19 ?_
  have hPc := hP.sb (wq := (wz_94 se seb 0 seb cseb gseb)) [2, 3] rfl
  have hDc := hD.sb (wq := (wz_94 se seb 0 seb cseb gseb)) [2, 3] (by decide) rfl
  have hKc := hK.sb (tyq := [(cseb, .byte)]) [0] rfl
  have hFc := va_free (wc := (wz_94 se seb 0 seb cseb gseb)) hD hS hA [2, 3] rfl
  refine va_callv (va_runV (As := [.int gl_length]) (rest := []) ⟨hx, hb, hml, hown, hts⟩ (c_BR_putUnsigned l dC dI se seb H.size cseb 8192 0 gseb (by (first | (apply Int.le_antisymm <;> omega) | omega)) (by (first | (apply Int.le_antisymm <;> omega) | omega)) (by (first | (apply Int.le_antisymm <;> omega) | omega)) gl_length (by (first | (apply Int.le_antisymm <;> omega) | omega))) (cwV 1 hts (gV kM_CO_218 kV_BR_putUnsigned kS_BR_putUnsigned kI_BR kC_BR_putUnsigned) rfl rfl rfl (by decide +kernel) ⟨Nat.le_of_ble_eq_true rfl, Nat.le_of_ble_eq_true rfl⟩) ⟨fun a U g mk z => by obtain ⟨z0, z1, zP, zK, zD⟩ := z; exact ⟨z0, z1, zP, va_K.moved (u := U) (U := U.calling g mk a) (Vm.Alike.refl U.vm) zK, zD⟩, va_recv hKc hPc (ci := 1) (q0 := 0) rfl rfl, fun U hU hW => ⟨rfl, by rw [hU], va_P.he hU.symm hPc, va_K.moved hW.alike hKc, hDc.weaken (fun _ _ _ _ => trivial)⟩⟩ rfl rfl hl.1 rfl (lv_room (Nat.le_of_ble_eq_true rfl)) d_CO_writeGlobals_22 ⟨(Nat.zero_le _), (Nat.zero_le _)⟩) hS (fun q _ h => hFc q h) hFc (fun u t H1 locs ht hvm hw hB hz1 hk1 hS => ?_)
  obtain ⟨n2, f3⟩ := u
  try dsimp only at hw
  obtain ⟨tn2, bn2⟩ := hw
  have ln2 := leb_len 5 (un gl_length)
  obtain ⟨hP1, hK1, hD1⟩ := hB
  replace hP1 := va_P.he ht hP1
  obtain ⟨hP, hD⟩ := va_join (wr := (wz_226 h0 pr kn lt h0_localCount pe h0_pendingCount h0_gives h0_depth h0_loopDepth to bo cs se pr gl fu pa pf sf pk pg pp pz pv pr_reason pr_place pr_scanner_r pr_stepCount pr_open pr_twoSides pr_waiting_r pr_waitingPlaces_r pr_waitingCount gl tr gls glz glt glv gl_length glt cglt gglt glv cglv gglv ow owb ow_length owb cowb gowb)) (w1 := (wz_94 se seb n2 seb cseb f3)) hP hD [2, 3] [0, 1, 4, 5, 6, 7, 8] rfl rfl (by decide) (by decide) hk1 hFc hP1 hD1
  clear hPc hDc hKc hFc hz1 hk1 hP1 hK1 hD1
  rename Heap => H
  have hP : va_P (dC, dI) cls (wz_227 h0 pr kn lt h0_localCount pe h0_pendingCount h0_gives h0_depth h0_loopDepth to bo cs se pr gl fu pa pf sf pk pg pp pz pv pr_reason pr_place pr_scanner_r pr_stepCount pr_open pr_twoSides pr_waiting_r pr_waitingPlaces_r pr_waitingCount gl tr gls glz glt glv gl_length glt cglt gglt glv cglv gglv ow owb ow_length owb cowb gowb se seb n2 seb cseb f3) H := hP
  have hD : va_D A (wz_227 h0 pr kn lt h0_localCount pe h0_pendingCount h0_gives h0_depth h0_loopDepth to bo cs se pr gl fu pa pf sf pk pg pp pz pv pr_reason pr_place pr_scanner_r pr_stepCount pr_open pr_twoSides pr_waiting_r pr_waitingPlaces_r pr_waitingCount gl tr gls glz glt glv gl_length glt cglt gglt glv cglv gglv ow owb ow_length owb cowb gowb se seb n2 seb cseb f3) := hD
  have lgl_length := congrArg List.length (leb_s (x := gl_length) (by (first | (apply Int.le_antisymm <;> omega) | omega)) (by (first | (apply Int.le_antisymm <;> omega) | omega)))
  rw [List.length_singleton] at lgl_length
  refine lv_iconst (v := 0) hx hb d_CO_writeGlobals_25 (by decide) ?_
  refine lv_istore_n (lv' := [(2, .int 0), (0, .ref h0), (1, .ref ow)]) hx hb d_CO_writeGlobals_26 rfl hl (by decide) rfl (fun ls hl => ?_)
  refine w_loop (σ := Int32 × (Nat → Int32) × Int32) (fun u H locs ls => match u with | (j27_l2, j27_seb, j27_se_length) => (0 ≤ j27_se_length.toInt ∧ j27_se_length.toInt ≤ 8192) ∧ (0 ≤ j27_l2.toInt ∧ j27_l2.toInt ≤ gl_length.toInt ∧ 1 ≤ j27_se_length.toInt ∧ j27_se_length.toInt ≤ 1 + 14 * j27_l2.toInt) ∧ (∃ L : List (Nat × Int), (L.length : Int) = j27_l2.toInt ∧ (∀ x ∈ L, gok x) ∧ bl j27_seb j27_se_length.toNatClampNeg = gl_length.toInt.toNat :: gbl L ∧ j27_se_length.toInt = 1 + ((gbl L).length : Int) ∧ ((gbl L).length : Int) ≤ 14 * j27_l2.toInt) ∧ va_P (dC, dI) cls (wz_227 h0 pr kn lt h0_localCount pe h0_pendingCount h0_gives h0_depth h0_loopDepth to bo cs se pr gl fu pa pf sf pk pg pp pz pv pr_reason pr_place pr_scanner_r pr_stepCount pr_open pr_twoSides pr_waiting_r pr_waitingPlaces_r pr_waitingCount gl tr gls glz glt glv gl_length glt cglt gglt glv cglv gglv ow owb ow_length owb cowb gowb se seb j27_se_length seb cseb j27_seb) H ∧ va_D A (wz_227 h0 pr kn lt h0_localCount pe h0_pendingCount h0_gives h0_depth h0_loopDepth to bo cs se pr gl fu pa pf sf pk pg pp pz pv pr_reason pr_place pr_scanner_r pr_stepCount pr_open pr_twoSides pr_waiting_r pr_waitingPlaces_r pr_waitingCount gl tr gls glz glt glv gl_length glt cglt gglt glv cglv gglv ow owb ow_length owb cowb gowb se seb j27_se_length seb cseb j27_seb) ∧ va_S A s.heap H locs ∧ lv_has ls 3 [(0, .ref h0), (1, .ref ow), (2, .int j27_l2)]) (fun u => match u with | (j27_l2, j27_seb, j27_se_length) => (gl_length.toInt - j27_l2.toInt).toNat) ?_ (0, f3, n2) ⟨by (try dsimp only) <;> (first | (apply Int.le_antisymm <;> omega) | omega), by (try dsimp only) <;> (first | (apply Int.le_antisymm <;> omega) | omega), ⟨[], rfl, fun x hx => (by cases hx), by rw [bn2, leb_s (by (first | (apply Int.le_antisymm <;> omega) | omega)) (by (first | (apply Int.le_antisymm <;> omega) | omega))]; rfl, by (try dsimp only); rw [show (gbl []).length = 0 from rfl]; (first | (apply Int.le_antisymm <;> omega) | omega), by (try dsimp only); rw [show (gbl []).length = 0 from rfl]; decide⟩, hP, hD, hS, lv_sub hl [1, 2, 0] rfl⟩
  intro N27 ih27 u H locs ls hN27 hI
  obtain ⟨j27_l2, j27_seb, j27_se_length⟩ := u
  obtain ⟨b_j27_se_length, v1, hG, hP, hD, hS, hl⟩ := hI
  have hN27 : (gl_length.toInt - j27_l2.toInt).toNat < N27 + 1 := hN27
  refine lv_iload_n hx hb d_CO_writeGlobals_27 rfl (lv_at hl 2 rfl) ?_
  refine lv_aload_n hx hb d_CO_writeGlobals_28 rfl (lv_at hl 0 rfl) ?_
  refine va_get (D := (dC, dI)) (ci := 2) (v := .ref pr) (C := R_CO) (T := F_CO) (N := 13) hx hb hts i_CO hown hK hP 0 rfl rfl 0 (by decide) (hts _ kF_CO_36) (fun _ h9 => h9) rfl d_CO_writeGlobals_29 ?_
  refine va_get (D := (dC, dI)) (ci := 6) (v := .ref gl) (C := R_PR) (T := F_PR) (N := 19) hx hb hts i_PR hown hK hP 1 rfl rfl 0 (by decide) (hts _ kF_CO_42) (fun _ h9 => h9) rfl d_CO_writeGlobals_32 ?_
  refine va_get (D := (dC, dI)) (ci := 5) (v := .int gl_length) (C := R_NA) (T := F_NA) (N := 6) hx hb hts i_NA hown hK hP 2 rfl rfl 5 (by decide) (hts _ kF_CO_68) (fun _ h9 => h9) rfl d_CO_writeGlobals_35 ?_
  refine lv_icmp_ge (tgt := 133) hx hb d_CO_writeGlobals_38 (by decide) (fun c38 => ?_) (fun c38 => ?_)
  · have q38 := leI c38
    refine lv_aload_n hx hb d_CO_writeGlobals_133 rfl (lv_at hl 0 rfl) ?_
    refine lv_aload_n hx hb d_CO_writeGlobals_134 rfl (lv_at hl 1 rfl) ?_
    refine lv_bipush (v := 6) hx hb d_CO_writeGlobals_135 (by decide) ?_
    have hPc := hP.sb (wq := (wz_215 h0 pr kn lt h0_localCount pe h0_pendingCount h0_gives h0_depth h0_loopDepth to bo cs se se seb j27_se_length seb cseb j27_seb ow owb ow_length owb cowb gowb)) [0, 7, 8, 5, 6] rfl
    have hDc := hD.sb (wq := (wz_215 h0 pr kn lt h0_localCount pe h0_pendingCount h0_gives h0_depth h0_loopDepth to bo cs se se seb j27_se_length seb cseb j27_seb ow owb ow_length owb cowb gowb)) [0, 7, 8, 5, 6] (by decide) rfl
    have hKc := hK.sb (tyq := [(cseb, .byte), (cowb, .byte)]) [0, 3] rfl
    have hFc := va_free (wc := (wz_215 h0 pr kn lt h0_localCount pe h0_pendingCount h0_gives h0_depth h0_loopDepth to bo cs se se seb j27_se_length seb cseb j27_seb ow owb ow_length owb cowb gowb)) hD hS hA [0, 7, 8, 5, 6] rfl
    refine va_callv (va_runV (As := [.ref ow, .int 6]) (rest := []) ⟨hx, hb, hml, hown, hts⟩ (c_CO_putSection l dC dI H.size h0 pr kn lt pe to bo cs se seb ow owb cseb cowb h0_localCount h0_pendingCount h0_gives h0_depth h0_loopDepth j27_se_length j27_seb ow_length gowb (b_j27_se_length) (b_ow_length) 6 (by decide) (by (first | (apply Int.le_antisymm <;> omega) | omega))) (cwV 2 hts (gV kM_CO_299 kV_CO_putSection kS_CO_putSection kI_CO kC_CO_putSection) rfl rfl rfl (by decide +kernel) ⟨Nat.le_of_ble_eq_true rfl, Nat.le_of_ble_eq_true rfl⟩) ⟨fun a U g mk z => by obtain ⟨z0, z1, zP, zK, zD⟩ := z; exact ⟨z0, z1, zP, va_K.moved (u := U) (U := U.calling g mk a) (Vm.Alike.refl U.vm) zK, zD⟩, va_recv hKc hPc (ci := 2) (q0 := 0) rfl rfl, fun U hU hW => ⟨rfl, by rw [hU], va_P.he hU.symm hPc, va_K.moved hW.alike hKc, hDc.weaken (fun _ _ _ _ => trivial)⟩⟩ rfl rfl hl.1 rfl (lv_room (Nat.le_of_ble_eq_true rfl)) d_CO_writeGlobals_137 ⟨(Nat.zero_le _), (Nat.zero_le _)⟩) hS (fun q _ h => hFc q h) hFc (fun u t H1 locs ht hvm hw hB hz1 hk1 hS => ?_)
    obtain ⟨n5, n6⟩ := u
    try dsimp only at hw
    obtain ⟨bn6, xr4⟩ := hw
    try clear hw
    obtain ⟨hP1, hK1, hD1⟩ := hB
    replace hP1 := va_P.he ht hP1
    obtain ⟨hP, hD⟩ := va_join (wr := [(pr, .inr (6, [.ref gl, .ref fu, .ref pa, .ref pf, .ref sf, .ref pk, .ref pg, .ref pp, .ref pz, .ref pv, .int pr_reason, .int pr_place, .ref pr_scanner_r, .int pr_stepCount, .int pr_open, .int pr_twoSides, .ref pr_waiting_r, .ref pr_waitingPlaces_r, .int pr_waitingCount])), (gl, .inr (5, [.ref tr, .ref gls, .ref glz, .ref glt, .ref glv, .int gl_length])), (glt, .inl (cglt, 20, .inl gglt)), (glv, .inl (cglv, 20, .inr (.inl gglv)))]) (w1 := (wz_215 h0 pr kn lt h0_localCount pe h0_pendingCount h0_gives h0_depth h0_loopDepth to bo cs se se seb j27_se_length seb cseb j27_seb ow owb n6 owb cowb n5)) hP hD [0, 7, 8, 5, 6] [1, 2, 3, 4] rfl rfl (by decide) (by decide) hk1 hFc hP1 hD1
    clear hPc hDc hKc hFc hz1 hk1 hP1 hK1 hD1
    rename Heap => H
    have hP : va_P (dC, dI) cls [(pr, .inr (6, [.ref gl, .ref fu, .ref pa, .ref pf, .ref sf, .ref pk, .ref pg, .ref pp, .ref pz, .ref pv, .int pr_reason, .int pr_place, .ref pr_scanner_r, .int pr_stepCount, .int pr_open, .int pr_twoSides, .ref pr_waiting_r, .ref pr_waitingPlaces_r, .int pr_waitingCount])), (gl, .inr (5, [.ref tr, .ref gls, .ref glz, .ref glt, .ref glv, .int gl_length])), (glt, .inl (cglt, 20, .inl gglt)), (glv, .inl (cglv, 20, .inr (.inl gglv))), (h0, .inr (2, [.ref pr, .ref kn, .ref lt, .int h0_localCount, .ref pe, .int h0_pendingCount, .int h0_gives, .int h0_depth, .int h0_loopDepth, .ref to, .ref bo, .ref cs, .ref se])), (se, .inr (1, [.ref seb, .int j27_se_length])), (seb, .inl (cseb, 8192, .inl j27_seb)), (ow, .inr (1, [.ref owb, .int n6])), (owb, .inl (cowb, 8192, .inl n5))] H := hP
    have hD : va_D A [(pr, .inr (6, [.ref gl, .ref fu, .ref pa, .ref pf, .ref sf, .ref pk, .ref pg, .ref pp, .ref pz, .ref pv, .int pr_reason, .int pr_place, .ref pr_scanner_r, .int pr_stepCount, .int pr_open, .int pr_twoSides, .ref pr_waiting_r, .ref pr_waitingPlaces_r, .int pr_waitingCount])), (gl, .inr (5, [.ref tr, .ref gls, .ref glz, .ref glt, .ref glv, .int gl_length])), (glt, .inl (cglt, 20, .inl gglt)), (glv, .inl (cglv, 20, .inr (.inl gglv))), (h0, .inr (2, [.ref pr, .ref kn, .ref lt, .int h0_localCount, .ref pe, .int h0_pendingCount, .int h0_gives, .int h0_depth, .int h0_loopDepth, .ref to, .ref bo, .ref cs, .ref se])), (se, .inr (1, [.ref seb, .int j27_se_length])), (seb, .inl (cseb, 8192, .inl j27_seb)), (ow, .inr (1, [.ref owb, .int n6])), (owb, .inl (cowb, 8192, .inl n5))] := hD
    have hP9 := hP.sb (wq := (wz_225 h0 pr kn lt h0_localCount pe h0_pendingCount h0_gives h0_depth h0_loopDepth to bo cs se pr gl fu pa pf sf pk pg pp pz pv pr_reason pr_place pr_scanner_r pr_stepCount pr_open pr_twoSides pr_waiting_r pr_waitingPlaces_r pr_waitingCount se seb j27_se_length seb cseb j27_seb gl tr gls glz glt glv gl_length glt cglt gglt glv cglv gglv ow owb n6 owb cowb n5)) [4, 0, 5, 6, 1, 2, 3, 7, 8] rfl
    have hD9 := hD.sb (wq := (wz_225 h0 pr kn lt h0_localCount pe h0_pendingCount h0_gives h0_depth h0_loopDepth to bo cs se pr gl fu pa pf sf pk pg pp pz pv pr_reason pr_place pr_scanner_r pr_stepCount pr_open pr_twoSides pr_waiting_r pr_waitingPlaces_r pr_waitingCount se seb j27_se_length seb cseb j27_seb gl tr gls glz glt glv gl_length glt cglt gglt glv cglv gglv ow owb n6 owb cowb n5)) [4, 0, 5, 6, 1, 2, 3, 7, 8] (by decide) rfl
    exact W.vret hx hb hr (fun t ht hW => ⟨⟨(n5, j27_seb, n6, j27_se_length), rfl, ⟨bn6, b_j27_se_length, (by obtain ⟨L, y1, y2, y3, y4, y5⟩ := hG; have h9 := xr4; rw [y3, show gl_length.toInt.toNat = L.length from by (first | (apply Int.le_antisymm <;> omega) | omega)] at h9; exact ⟨L, by (first | (apply Int.le_antisymm <;> omega) | omega), y2, by (first | (apply Int.le_antisymm <;> omega) | omega), h9⟩)⟩, va_P.he ht.symm hP9, va_K.moved hW.alike hK, hD9⟩, hS.F ht⟩) hS.2.2 d_CO_writeGlobals_140
  · have q38 := nleI c38
    have gt := hgn.out j27_l2.toNatClampNeg (by have := i32_clamp (x := j27_l2) (by (first | (apply Int.le_antisymm <;> omega) | omega)); (first | (apply Int.le_antisymm <;> omega) | omega))
    unfold tG at gt
    refine lv_aload_n hx hb d_CO_writeGlobals_41 rfl (lv_at hl 0 rfl) ?_
    refine va_get (D := (dC, dI)) (ci := 2) (v := .ref se) (C := R_CO) (T := F_CO) (N := 13) hx hb hts i_CO hown hK hP 0 rfl rfl 12 (by decide) (hts _ kF_CO_33) (fun _ h9 => h9) rfl d_CO_writeGlobals_42 ?_
    refine lv_aload_n hx hb d_CO_writeGlobals_45 rfl (lv_at hl 0 rfl) ?_
    refine va_get (D := (dC, dI)) (ci := 2) (v := .ref pr) (C := R_CO) (T := F_CO) (N := 13) hx hb hts i_CO hown hK hP 0 rfl rfl 0 (by decide) (hts _ kF_CO_36) (fun _ h9 => h9) rfl d_CO_writeGlobals_46 ?_
    refine va_get (D := (dC, dI)) (ci := 6) (v := .ref gl) (C := R_PR) (T := F_PR) (N := 19) hx hb hts i_PR hown hK hP 1 rfl rfl 0 (by decide) (hts _ kF_CO_42) (fun _ h9 => h9) rfl d_CO_writeGlobals_49 ?_
    refine va_get (D := (dC, dI)) (ci := 5) (v := .ref glt) (C := R_NA) (T := F_NA) (N := 6) hx hb hts i_NA hown hK hP 2 rfl rfl 3 (by decide) (hts _ kF_CO_121) (fun _ h9 => h9) rfl d_CO_writeGlobals_52 ?_
    refine lv_iload_n hx hb d_CO_writeGlobals_55 rfl (lv_at hl 2 rfl) ?_
    have g56 : vp_in j27_l2 20 := vp_in_iff.mpr ⟨by (first | (apply Int.le_antisymm <;> omega) | omega), by (first | (apply Int.le_antisymm <;> omega) | omega)⟩
    refine va_iald hx hb hK hP 3 1 rfl rfl g56 d_CO_writeGlobals_56 ?_
    refine lv_topi (fun x7 ex7 => ?_)
    have tx7 : x7.toInt = (gglt j27_l2.toNatClampNeg).toInt := by rw [ex7]
    have hPc := hP.sb (wq := (wz_94 se seb j27_se_length seb cseb j27_seb)) [7, 8] rfl
    have hDc := hD.sb (wq := (wz_94 se seb j27_se_length seb cseb j27_seb)) [7, 8] (by decide) rfl
    have hKc := hK.sb (tyq := [(cseb, .byte)]) [0] rfl
    have hFc := va_free (wc := (wz_94 se seb j27_se_length seb cseb j27_seb)) hD hS hA [7, 8] rfl
    refine va_callv (va_runV (As := [.int x7]) (rest := []) ⟨hx, hb, hml, hown, hts⟩ (c_BR_put l dC dI se seb H.size cseb 8192 j27_se_length j27_seb (by (first | (apply Int.le_antisymm <;> omega) | omega)) (by (first | (apply Int.le_antisymm <;> omega) | omega)) (by (first | (apply Int.le_antisymm <;> omega) | omega)) x7) (cwV 1 hts (gV kM_CO_76 kV_BR_put kS_BR_put kI_BR kC_BR_put) rfl rfl rfl (by decide +kernel) ⟨Nat.le_of_ble_eq_true rfl, Nat.le_of_ble_eq_true rfl⟩) ⟨fun a U g mk z => by obtain ⟨z0, z1, zP, zK, zD⟩ := z; exact ⟨z0, z1, zP, va_K.moved (u := U) (U := U.calling g mk a) (Vm.Alike.refl U.vm) zK, zD⟩, va_recv hKc hPc (ci := 1) (q0 := 0) rfl rfl, fun U hU hW => ⟨rfl, by rw [hU], va_P.he hU.symm hPc, va_K.moved hW.alike hKc, hDc.weaken (fun _ _ _ _ => trivial)⟩⟩ rfl rfl hl.1 rfl (lv_room (Nat.le_of_ble_eq_true rfl)) d_CO_writeGlobals_57 ⟨(Nat.zero_le _), (Nat.zero_le _)⟩) hS (fun q _ h => hFc q h) hFc (fun u t H1 locs ht hvm hw hB hz1 hk1 hS => ?_)
    obtain ⟨n9, f10⟩ := u
    try dsimp only at hw
    have tn9 := br_put_in (by (first | (apply Int.le_antisymm <;> omega) | omega)) (by (first | (apply Int.le_antisymm <;> omega) | omega)) (by (first | (apply Int.le_antisymm <;> omega) | omega)) hw
    have bn9 := br_put_bl (by (first | (apply Int.le_antisymm <;> omega) | omega)) (by (first | (apply Int.le_antisymm <;> omega) | omega)) (by (first | (apply Int.le_antisymm <;> omega) | omega)) hw
    obtain ⟨hP1, hK1, hD1⟩ := hB
    replace hP1 := va_P.he ht hP1
    obtain ⟨hP, hD⟩ := va_join (wr := (wz_226 h0 pr kn lt h0_localCount pe h0_pendingCount h0_gives h0_depth h0_loopDepth to bo cs se pr gl fu pa pf sf pk pg pp pz pv pr_reason pr_place pr_scanner_r pr_stepCount pr_open pr_twoSides pr_waiting_r pr_waitingPlaces_r pr_waitingCount gl tr gls glz glt glv gl_length glt cglt gglt glv cglv gglv ow owb ow_length owb cowb gowb)) (w1 := (wz_94 se seb n9 seb cseb f10)) hP hD [7, 8] [0, 1, 2, 3, 4, 5, 6] rfl rfl (by decide) (by decide) hk1 hFc hP1 hD1
    clear hPc hDc hKc hFc hz1 hk1 hP1 hK1 hD1
    rename Heap => H
    have hP : va_P (dC, dI) cls (wz_227 h0 pr kn lt h0_localCount pe h0_pendingCount h0_gives h0_depth h0_loopDepth to bo cs se pr gl fu pa pf sf pk pg pp pz pv pr_reason pr_place pr_scanner_r pr_stepCount pr_open pr_twoSides pr_waiting_r pr_waitingPlaces_r pr_waitingCount gl tr gls glz glt glv gl_length glt cglt gglt glv cglv gglv ow owb ow_length owb cowb gowb se seb n9 seb cseb f10) H := hP
    have hD : va_D A (wz_227 h0 pr kn lt h0_localCount pe h0_pendingCount h0_gives h0_depth h0_loopDepth to bo cs se pr gl fu pa pf sf pk pg pp pz pv pr_reason pr_place pr_scanner_r pr_stepCount pr_open pr_twoSides pr_waiting_r pr_waitingPlaces_r pr_waitingCount gl tr gls glz glt glv gl_length glt cglt gglt glv cglv gglv ow owb ow_length owb cowb gowb se seb n9 seb cseb f10) := hD
    refine lv_aload_n hx hb d_CO_writeGlobals_60 rfl (lv_at hl 0 rfl) ?_
    refine va_get (D := (dC, dI)) (ci := 2) (v := .ref se) (C := R_CO) (T := F_CO) (N := 13) hx hb hts i_CO hown hK hP 0 rfl rfl 12 (by decide) (hts _ kF_CO_33) (fun _ h9 => h9) rfl d_CO_writeGlobals_61 ?_
    refine lv_iconst (v := 1) hx hb d_CO_writeGlobals_64 (by decide) ?_
    have hPc := hP.sb (wq := (wz_94 se seb n9 seb cseb f10)) [7, 8] rfl
    have hDc := hD.sb (wq := (wz_94 se seb n9 seb cseb f10)) [7, 8] (by decide) rfl
    have hKc := hK.sb (tyq := [(cseb, .byte)]) [0] rfl
    have hFc := va_free (wc := (wz_94 se seb n9 seb cseb f10)) hD hS hA [7, 8] rfl
    refine va_callv (va_runV (As := [.int 1]) (rest := []) ⟨hx, hb, hml, hown, hts⟩ (c_BR_put l dC dI se seb H.size cseb 8192 n9 f10 (by (first | (apply Int.le_antisymm <;> omega) | omega)) (by (first | (apply Int.le_antisymm <;> omega) | omega)) (by (first | (apply Int.le_antisymm <;> omega) | omega)) 1) (cwV 1 hts (gV kM_CO_76 kV_BR_put kS_BR_put kI_BR kC_BR_put) rfl rfl rfl (by decide +kernel) ⟨Nat.le_of_ble_eq_true rfl, Nat.le_of_ble_eq_true rfl⟩) ⟨fun a U g mk z => by obtain ⟨z0, z1, zP, zK, zD⟩ := z; exact ⟨z0, z1, zP, va_K.moved (u := U) (U := U.calling g mk a) (Vm.Alike.refl U.vm) zK, zD⟩, va_recv hKc hPc (ci := 1) (q0 := 0) rfl rfl, fun U hU hW => ⟨rfl, by rw [hU], va_P.he hU.symm hPc, va_K.moved hW.alike hKc, hDc.weaken (fun _ _ _ _ => trivial)⟩⟩ rfl rfl hl.1 rfl (lv_room (Nat.le_of_ble_eq_true rfl)) d_CO_writeGlobals_65 ⟨(Nat.zero_le _), (Nat.zero_le _)⟩) hS (fun q _ h => hFc q h) hFc (fun u t H1 locs ht hvm hw hB hz1 hk1 hS => ?_)
    obtain ⟨n12, f13⟩ := u
    try dsimp only at hw
    have tn12 := br_put_in (by (first | (apply Int.le_antisymm <;> omega) | omega)) (by (first | (apply Int.le_antisymm <;> omega) | omega)) (by (first | (apply Int.le_antisymm <;> omega) | omega)) hw
    have bn12 := br_put_bl (by (first | (apply Int.le_antisymm <;> omega) | omega)) (by (first | (apply Int.le_antisymm <;> omega) | omega)) (by (first | (apply Int.le_antisymm <;> omega) | omega)) hw
    obtain ⟨hP1, hK1, hD1⟩ := hB
    replace hP1 := va_P.he ht hP1
    obtain ⟨hP, hD⟩ := va_join (wr := (wz_226 h0 pr kn lt h0_localCount pe h0_pendingCount h0_gives h0_depth h0_loopDepth to bo cs se pr gl fu pa pf sf pk pg pp pz pv pr_reason pr_place pr_scanner_r pr_stepCount pr_open pr_twoSides pr_waiting_r pr_waitingPlaces_r pr_waitingCount gl tr gls glz glt glv gl_length glt cglt gglt glv cglv gglv ow owb ow_length owb cowb gowb)) (w1 := (wz_94 se seb n12 seb cseb f13)) hP hD [7, 8] [0, 1, 2, 3, 4, 5, 6] rfl rfl (by decide) (by decide) hk1 hFc hP1 hD1
    clear hPc hDc hKc hFc hz1 hk1 hP1 hK1 hD1
    rename Heap => H
    have hP : va_P (dC, dI) cls (wz_227 h0 pr kn lt h0_localCount pe h0_pendingCount h0_gives h0_depth h0_loopDepth to bo cs se pr gl fu pa pf sf pk pg pp pz pv pr_reason pr_place pr_scanner_r pr_stepCount pr_open pr_twoSides pr_waiting_r pr_waitingPlaces_r pr_waitingCount gl tr gls glz glt glv gl_length glt cglt gglt glv cglv gglv ow owb ow_length owb cowb gowb se seb n12 seb cseb f13) H := hP
    have hD : va_D A (wz_227 h0 pr kn lt h0_localCount pe h0_pendingCount h0_gives h0_depth h0_loopDepth to bo cs se pr gl fu pa pf sf pk pg pp pz pv pr_reason pr_place pr_scanner_r pr_stepCount pr_open pr_twoSides pr_waiting_r pr_waitingPlaces_r pr_waitingCount gl tr gls glz glt glv gl_length glt cglt gglt glv cglv gglv ow owb ow_length owb cowb gowb se seb n12 seb cseb f13) := hD
    refine lv_aload_n hx hb d_CO_writeGlobals_68 rfl (lv_at hl 0 rfl) ?_
    refine va_get (D := (dC, dI)) (ci := 2) (v := .ref se) (C := R_CO) (T := F_CO) (N := 13) hx hb hts i_CO hown hK hP 0 rfl rfl 12 (by decide) (hts _ kF_CO_33) (fun _ h9 => h9) rfl d_CO_writeGlobals_69 ?_
    refine lv_aload_n hx hb d_CO_writeGlobals_72 rfl (lv_at hl 0 rfl) ?_
    refine va_get (D := (dC, dI)) (ci := 2) (v := .ref pr) (C := R_CO) (T := F_CO) (N := 13) hx hb hts i_CO hown hK hP 0 rfl rfl 0 (by decide) (hts _ kF_CO_36) (fun _ h9 => h9) rfl d_CO_writeGlobals_73 ?_
    refine va_get (D := (dC, dI)) (ci := 6) (v := .ref gl) (C := R_PR) (T := F_PR) (N := 19) hx hb hts i_PR hown hK hP 1 rfl rfl 0 (by decide) (hts _ kF_CO_42) (fun _ h9 => h9) rfl d_CO_writeGlobals_76 ?_
    refine va_get (D := (dC, dI)) (ci := 5) (v := .ref glt) (C := R_NA) (T := F_NA) (N := 6) hx hb hts i_NA hown hK hP 2 rfl rfl 3 (by decide) (hts _ kF_CO_121) (fun _ h9 => h9) rfl d_CO_writeGlobals_79 ?_
    refine lv_iload_n hx hb d_CO_writeGlobals_82 rfl (lv_at hl 2 rfl) ?_
    have g83 : vp_in j27_l2 20 := vp_in_iff.mpr ⟨by (first | (apply Int.le_antisymm <;> omega) | omega), by (first | (apply Int.le_antisymm <;> omega) | omega)⟩
    refine va_iald hx hb hK hP 3 1 rfl rfl g83 d_CO_writeGlobals_83 ?_
    refine lv_topi (fun x14 ex14 => ?_)
    have tx14 : x14.toInt = (gglt j27_l2.toNatClampNeg).toInt := by rw [ex14]
    refine lv_bipush (v := 127) hx hb d_CO_writeGlobals_84 (by decide) ?_
    refine w_cut (pc2 := 96) (σ := Int32) (fun u H locs ls => match u with | j96_s0 => (bn j96_s0 = if x7.toInt.toNat = 127 then 65 else 66) ∧ (0 ≤ j96_s0.toInt ∧ j96_s0.toInt ≤ 66) ∧ va_P (dC, dI) cls (wz_227 h0 pr kn lt h0_localCount pe h0_pendingCount h0_gives h0_depth h0_loopDepth to bo cs se pr gl fu pa pf sf pk pg pp pz pv pr_reason pr_place pr_scanner_r pr_stepCount pr_open pr_twoSides pr_waiting_r pr_waitingPlaces_r pr_waitingCount gl tr gls glz glt glv gl_length glt cglt gglt glv cglv gglv ow owb ow_length owb cowb gowb se seb n12 seb cseb f13) H ∧ va_D A (wz_227 h0 pr kn lt h0_localCount pe h0_pendingCount h0_gives h0_depth h0_loopDepth to bo cs se pr gl fu pa pf sf pk pg pp pz pv pr_reason pr_place pr_scanner_r pr_stepCount pr_open pr_twoSides pr_waiting_r pr_waitingPlaces_r pr_waitingCount gl tr gls glz glt glv gl_length glt cglt gglt glv cglv gglv ow owb ow_length owb cowb gowb se seb n12 seb cseb f13) ∧ va_S A s.heap H locs ∧ lv_has ls 3 [(0, .ref h0), (1, .ref ow), (2, .int j27_l2)]) (fun u => match u with | j96_s0 => [.int j96_s0, .ref se]) ?_ (fun jn96 => ?_)
    · intro u H locs ls hI
      obtain ⟨j96_s0, rfl⟩ : ∃ z, z = u := ⟨_, rfl⟩
      obtain ⟨y96, z96, hP, hD, hS, hl⟩ := hI
      have hPc := hP.sb (wq := (wz_94 se seb n12 seb cseb f13)) [7, 8] rfl
      have hDc := hD.sb (wq := (wz_94 se seb n12 seb cseb f13)) [7, 8] (by decide) rfl
      have hKc := hK.sb (tyq := [(cseb, .byte)]) [0] rfl
      have hFc := va_free (wc := (wz_94 se seb n12 seb cseb f13)) hD hS hA [7, 8] rfl
      refine va_callv (va_runV (As := [.int j96_s0]) (rest := []) ⟨hx, hb, hml, hown, hts⟩ (c_BR_put l dC dI se seb H.size cseb 8192 n12 f13 (by (first | (apply Int.le_antisymm <;> omega) | omega)) (by (first | (apply Int.le_antisymm <;> omega) | omega)) (by (first | (apply Int.le_antisymm <;> omega) | omega)) j96_s0) (cwV 1 hts (gV kM_CO_76 kV_BR_put kS_BR_put kI_BR kC_BR_put) rfl rfl rfl (by decide +kernel) ⟨Nat.le_of_ble_eq_true rfl, Nat.le_of_ble_eq_true rfl⟩) ⟨fun a U g mk z => by obtain ⟨z0, z1, zP, zK, zD⟩ := z; exact ⟨z0, z1, zP, va_K.moved (u := U) (U := U.calling g mk a) (Vm.Alike.refl U.vm) zK, zD⟩, va_recv hKc hPc (ci := 1) (q0 := 0) rfl rfl, fun U hU hW => ⟨rfl, by rw [hU], va_P.he hU.symm hPc, va_K.moved hW.alike hKc, hDc.weaken (fun _ _ _ _ => trivial)⟩⟩ rfl rfl hl.1 rfl (lv_room (Nat.le_of_ble_eq_true rfl)) d_CO_writeGlobals_96 ⟨(Nat.zero_le _), (Nat.zero_le _)⟩) hS (fun q _ h => hFc q h) hFc (fun u t H1 locs ht hvm hw hB hz1 hk1 hS => ?_)
      obtain ⟨n16, f17⟩ := u
      try dsimp only at hw
      have tn16 := br_put_in (by (first | (apply Int.le_antisymm <;> omega) | omega)) (by (first | (apply Int.le_antisymm <;> omega) | omega)) (by (first | (apply Int.le_antisymm <;> omega) | omega)) hw
      have bn16 := br_put_bl (by (first | (apply Int.le_antisymm <;> omega) | omega)) (by (first | (apply Int.le_antisymm <;> omega) | omega)) (by (first | (apply Int.le_antisymm <;> omega) | omega)) hw
      obtain ⟨hP1, hK1, hD1⟩ := hB
      replace hP1 := va_P.he ht hP1
      obtain ⟨hP, hD⟩ := va_join (wr := (wz_226 h0 pr kn lt h0_localCount pe h0_pendingCount h0_gives h0_depth h0_loopDepth to bo cs se pr gl fu pa pf sf pk pg pp pz pv pr_reason pr_place pr_scanner_r pr_stepCount pr_open pr_twoSides pr_waiting_r pr_waitingPlaces_r pr_waitingCount gl tr gls glz glt glv gl_length glt cglt gglt glv cglv gglv ow owb ow_length owb cowb gowb)) (w1 := (wz_94 se seb n16 seb cseb f17)) hP hD [7, 8] [0, 1, 2, 3, 4, 5, 6] rfl rfl (by decide) (by decide) hk1 hFc hP1 hD1
      clear hPc hDc hKc hFc hz1 hk1 hP1 hK1 hD1
      rename Heap => H
      have hP : va_P (dC, dI) cls (wz_227 h0 pr kn lt h0_localCount pe h0_pendingCount h0_gives h0_depth h0_loopDepth to bo cs se pr gl fu pa pf sf pk pg pp pz pv pr_reason pr_place pr_scanner_r pr_stepCount pr_open pr_twoSides pr_waiting_r pr_waitingPlaces_r pr_waitingCount gl tr gls glz glt glv gl_length glt cglt gglt glv cglv gglv ow owb ow_length owb cowb gowb se seb n16 seb cseb f17) H := hP
      have hD : va_D A (wz_227 h0 pr kn lt h0_localCount pe h0_pendingCount h0_gives h0_depth h0_loopDepth to bo cs se pr gl fu pa pf sf pk pg pp pz pv pr_reason pr_place pr_scanner_r pr_stepCount pr_open pr_twoSides pr_waiting_r pr_waitingPlaces_r pr_waitingCount gl tr gls glz glt glv gl_length glt cglt gglt glv cglv gglv ow owb ow_length owb cowb gowb se seb n16 seb cseb f17) := hD
      refine lv_aload_n hx hb d_CO_writeGlobals_99 rfl (lv_at hl 0 rfl) ?_
      refine va_get (D := (dC, dI)) (ci := 2) (v := .ref se) (C := R_CO) (T := F_CO) (N := 13) hx hb hts i_CO hown hK hP 0 rfl rfl 12 (by decide) (hts _ kF_CO_33) (fun _ h9 => h9) rfl d_CO_writeGlobals_100 ?_
      refine lv_aload_n hx hb d_CO_writeGlobals_103 rfl (lv_at hl 0 rfl) ?_
      refine va_get (D := (dC, dI)) (ci := 2) (v := .ref pr) (C := R_CO) (T := F_CO) (N := 13) hx hb hts i_CO hown hK hP 0 rfl rfl 0 (by decide) (hts _ kF_CO_36) (fun _ h9 => h9) rfl d_CO_writeGlobals_104 ?_
      refine va_get (D := (dC, dI)) (ci := 6) (v := .ref gl) (C := R_PR) (T := F_PR) (N := 19) hx hb hts i_PR hown hK hP 1 rfl rfl 0 (by decide) (hts _ kF_CO_42) (fun _ h9 => h9) rfl d_CO_writeGlobals_107 ?_
      refine va_get (D := (dC, dI)) (ci := 5) (v := .ref glv) (C := R_NA) (T := F_NA) (N := 6) hx hb hts i_NA hown hK hP 2 rfl rfl 4 (by decide) (hts _ kF_CO_217) (fun _ h9 => h9) rfl d_CO_writeGlobals_110 ?_
      refine lv_iload_n hx hb d_CO_writeGlobals_113 rfl (lv_at hl 2 rfl) ?_
      have g114 : vp_in j27_l2 20 := vp_in_iff.mpr ⟨by (first | (apply Int.le_antisymm <;> omega) | omega), by (first | (apply Int.le_antisymm <;> omega) | omega)⟩
      refine va_lald hx hb hK hP 4 2 rfl rfl g114 d_CO_writeGlobals_114 ?_
      refine lv_topl (fun x18 ex18 => ?_)
      have tx18 : x18.toInt = (gglv j27_l2.toNatClampNeg).toInt := by rw [ex18]
      have ux18 := Int64.toInt_lt x18
      have wx18 := Int64.le_toInt x18
      have hPc := hP.sb (wq := (wz_94 se seb n16 seb cseb f17)) [7, 8] rfl
      have hDc := hD.sb (wq := (wz_94 se seb n16 seb cseb f17)) [7, 8] (by decide) rfl
      have hKc := hK.sb (tyq := [(cseb, .byte)]) [0] rfl
      have hFc := va_free (wc := (wz_94 se seb n16 seb cseb f17)) hD hS hA [7, 8] rfl
      refine va_callv (va_runV (As := [.long x18]) (rest := []) ⟨hx, hb, hml, hown, hts⟩ (c_BR_putSigned l dC dI H.size se seb cseb n16 8192 f17 x18 (by (first | (apply Int.le_antisymm <;> omega) | omega))) (cwV 1 hts (gV kM_CO_179 kV_BR_putSigned kS_BR_putSigned kI_BR kC_BR_putSigned) rfl rfl rfl (by decide +kernel) ⟨Nat.le_of_ble_eq_true rfl, Nat.le_of_ble_eq_true rfl⟩) ⟨fun a U g mk z => by obtain ⟨z0, z1, zP, zK, zD⟩ := z; exact ⟨z0, z1, zP, va_K.moved (u := U) (U := U.calling g mk a) (Vm.Alike.refl U.vm) zK, zD⟩, va_recv hKc hPc (ci := 1) (q0 := 0) rfl rfl, fun U hU hW => ⟨rfl, by rw [hU], va_P.he hU.symm hPc, va_K.moved hW.alike hKc, hDc.weaken (fun _ _ _ _ => trivial)⟩⟩ rfl rfl hl.1 rfl (lv_room (Nat.le_of_ble_eq_true rfl)) d_CO_writeGlobals_115 ⟨(Nat.zero_le _), (Nat.zero_le _)⟩) hS (fun q _ h => hFc q h) hFc (fun u t H1 locs ht hvm hw hB hz1 hk1 hS => ?_)
      obtain ⟨n20, n21⟩ := u
      try dsimp only at hw
      have xr19 := hw
      try clear hw
      have gk : gok (x7.toInt.toNat, x18.toInt) := by unfold gok; dsimp only; (first | (apply Int.le_antisymm <;> omega) | omega)
      have gk2 := gl1_len gk
      unfold gl1 at gk2
      rw [List.length_cons, List.length_cons, List.length_cons, List.length_append, List.length_singleton] at gk2
      dsimp only at gk2
      obtain ⟨hP1, hK1, hD1⟩ := hB
      replace hP1 := va_P.he ht hP1
      obtain ⟨hP, hD⟩ := va_join (wr := (wz_226 h0 pr kn lt h0_localCount pe h0_pendingCount h0_gives h0_depth h0_loopDepth to bo cs se pr gl fu pa pf sf pk pg pp pz pv pr_reason pr_place pr_scanner_r pr_stepCount pr_open pr_twoSides pr_waiting_r pr_waitingPlaces_r pr_waitingCount gl tr gls glz glt glv gl_length glt cglt gglt glv cglv gglv ow owb ow_length owb cowb gowb)) (w1 := (wz_94 se seb n21 seb cseb n20)) hP hD [7, 8] [0, 1, 2, 3, 4, 5, 6] rfl rfl (by decide) (by decide) hk1 hFc hP1 hD1
      clear hPc hDc hKc hFc hz1 hk1 hP1 hK1 hD1
      rename Heap => H
      have hP : va_P (dC, dI) cls (wz_227 h0 pr kn lt h0_localCount pe h0_pendingCount h0_gives h0_depth h0_loopDepth to bo cs se pr gl fu pa pf sf pk pg pp pz pv pr_reason pr_place pr_scanner_r pr_stepCount pr_open pr_twoSides pr_waiting_r pr_waitingPlaces_r pr_waitingCount gl tr gls glz glt glv gl_length glt cglt gglt glv cglv gglv ow owb ow_length owb cowb gowb se seb n21 seb cseb n20) H := hP
      have hD : va_D A (wz_227 h0 pr kn lt h0_localCount pe h0_pendingCount h0_gives h0_depth h0_loopDepth to bo cs se pr gl fu pa pf sf pk pg pp pz pv pr_reason pr_place pr_scanner_r pr_stepCount pr_open pr_twoSides pr_waiting_r pr_waitingPlaces_r pr_waitingCount gl tr gls glz glt glv gl_length glt cglt gglt glv cglv gglv ow owb ow_length owb cowb gowb se seb n21 seb cseb n20) := hD
      refine lv_aload_n hx hb d_CO_writeGlobals_118 rfl (lv_at hl 0 rfl) ?_
      refine va_get (D := (dC, dI)) (ci := 2) (v := .ref se) (C := R_CO) (T := F_CO) (N := 13) hx hb hts i_CO hown hK hP 0 rfl rfl 12 (by decide) (hts _ kF_CO_33) (fun _ h9 => h9) rfl d_CO_writeGlobals_119 ?_
      refine lv_bipush (v := 11) hx hb d_CO_writeGlobals_122 (by decide) ?_
      have hPc := hP.sb (wq := (wz_94 se seb n21 seb cseb n20)) [7, 8] rfl
      have hDc := hD.sb (wq := (wz_94 se seb n21 seb cseb n20)) [7, 8] (by decide) rfl
      have hKc := hK.sb (tyq := [(cseb, .byte)]) [0] rfl
      have hFc := va_free (wc := (wz_94 se seb n21 seb cseb n20)) hD hS hA [7, 8] rfl
      refine va_callv (va_runV (As := [.int 11]) (rest := []) ⟨hx, hb, hml, hown, hts⟩ (c_BR_put l dC dI se seb H.size cseb 8192 n21 n20 (by (first | (apply Int.le_antisymm <;> omega) | omega)) (by (first | (apply Int.le_antisymm <;> omega) | omega)) (by (first | (apply Int.le_antisymm <;> omega) | omega)) 11) (cwV 1 hts (gV kM_CO_76 kV_BR_put kS_BR_put kI_BR kC_BR_put) rfl rfl rfl (by decide +kernel) ⟨Nat.le_of_ble_eq_true rfl, Nat.le_of_ble_eq_true rfl⟩) ⟨fun a U g mk z => by obtain ⟨z0, z1, zP, zK, zD⟩ := z; exact ⟨z0, z1, zP, va_K.moved (u := U) (U := U.calling g mk a) (Vm.Alike.refl U.vm) zK, zD⟩, va_recv hKc hPc (ci := 1) (q0 := 0) rfl rfl, fun U hU hW => ⟨rfl, by rw [hU], va_P.he hU.symm hPc, va_K.moved hW.alike hKc, hDc.weaken (fun _ _ _ _ => trivial)⟩⟩ rfl rfl hl.1 rfl (lv_room (Nat.le_of_ble_eq_true rfl)) d_CO_writeGlobals_124 ⟨(Nat.zero_le _), (Nat.zero_le _)⟩) hS (fun q _ h => hFc q h) hFc (fun u t H1 locs ht hvm hw hB hz1 hk1 hS => ?_)
      obtain ⟨n23, f24⟩ := u
      try dsimp only at hw
      have tn23 := br_put_in (by (first | (apply Int.le_antisymm <;> omega) | omega)) (by (first | (apply Int.le_antisymm <;> omega) | omega)) (by (first | (apply Int.le_antisymm <;> omega) | omega)) hw
      have bn23 := br_put_bl (by (first | (apply Int.le_antisymm <;> omega) | omega)) (by (first | (apply Int.le_antisymm <;> omega) | omega)) (by (first | (apply Int.le_antisymm <;> omega) | omega)) hw
      obtain ⟨hP1, hK1, hD1⟩ := hB
      replace hP1 := va_P.he ht hP1
      obtain ⟨hP, hD⟩ := va_join (wr := (wz_226 h0 pr kn lt h0_localCount pe h0_pendingCount h0_gives h0_depth h0_loopDepth to bo cs se pr gl fu pa pf sf pk pg pp pz pv pr_reason pr_place pr_scanner_r pr_stepCount pr_open pr_twoSides pr_waiting_r pr_waitingPlaces_r pr_waitingCount gl tr gls glz glt glv gl_length glt cglt gglt glv cglv gglv ow owb ow_length owb cowb gowb)) (w1 := (wz_94 se seb n23 seb cseb f24)) hP hD [7, 8] [0, 1, 2, 3, 4, 5, 6] rfl rfl (by decide) (by decide) hk1 hFc hP1 hD1
      clear hPc hDc hKc hFc hz1 hk1 hP1 hK1 hD1
      rename Heap => H
      have hP : va_P (dC, dI) cls (wz_227 h0 pr kn lt h0_localCount pe h0_pendingCount h0_gives h0_depth h0_loopDepth to bo cs se pr gl fu pa pf sf pk pg pp pz pv pr_reason pr_place pr_scanner_r pr_stepCount pr_open pr_twoSides pr_waiting_r pr_waitingPlaces_r pr_waitingCount gl tr gls glz glt glv gl_length glt cglt gglt glv cglv gglv ow owb ow_length owb cowb gowb se seb n23 seb cseb f24) H := hP
      have hD : va_D A (wz_227 h0 pr kn lt h0_localCount pe h0_pendingCount h0_gives h0_depth h0_loopDepth to bo cs se pr gl fu pa pf sf pk pg pp pz pv pr_reason pr_place pr_scanner_r pr_stepCount pr_open pr_twoSides pr_waiting_r pr_waitingPlaces_r pr_waitingCount gl tr gls glz glt glv gl_length glt cglt gglt glv cglv gglv ow owb ow_length owb cowb gowb se seb n23 seb cseb f24) := hD
      obtain ⟨x25, ex25⟩ : ∃ z : Int32, z = j27_l2 + 1 := ⟨_, rfl⟩
      have tx25 : x25.toInt = j27_l2.toInt + 1 := by have z := i32_add ex25 (by (first | (apply Int.le_antisymm <;> omega) | omega)) (by (first | (apply Int.le_antisymm <;> omega) | omega)); first | exact z | (first | (apply Int.le_antisymm <;> omega) | omega)
      refine lv_iinc (v := x25) (lv' := [(2, .int x25), (0, .ref h0), (1, .ref ow)]) hx hb d_CO_writeGlobals_127 hl (k := 2) rfl (by rw [ex25]; rfl) (by decide) rfl (fun ls hl => ?_)
      refine lv_goto (tgt := 27) hx hb d_CO_writeGlobals_130 (by decide) ?_
      exact ih27 (x25, f24, n23) _ _ _ (by show (gl_length.toInt - x25.toInt).toNat < N27; (first | (apply Int.le_antisymm <;> omega) | omega)) ⟨by (try dsimp only) <;> (first | (apply Int.le_antisymm <;> omega) | omega), by (try dsimp only) <;> (first | (apply Int.le_antisymm <;> omega) | omega), (by obtain ⟨L, y1, y2, y3, y4, y5⟩ := hG; have k9 : gok (x7.toInt.toNat, x18.toInt) := gk; have k8 := gl1_len k9; refine ⟨L ++ [(x7.toInt.toNat, x18.toInt)], by rw [List.length_append, List.length_singleton]; (first | (apply Int.le_antisymm <;> omega) | omega), fun x hx => ?_, ?_, ?_, by rw [gbl_app, gbl_one, List.length_append]; (first | (apply Int.le_antisymm <;> omega) | omega)⟩; (rcases List.mem_append.mp hx with z | z; exact y2 x z; (rw [List.mem_singleton.mp z]; exact k9)); (rw [bn23 (by (first | (apply Int.le_antisymm <;> omega) | omega)), xr19.2, bn16 (by (first | (apply Int.le_antisymm <;> omega) | omega)), bn12 (by (first | (apply Int.le_antisymm <;> omega) | omega)), bn9 (by (first | (apply Int.le_antisymm <;> omega) | omega)), y3, gbl_app, gbl_one, bn_s (x := x7) (by (first | (apply Int.le_antisymm <;> omega) | omega)) (by (first | (apply Int.le_antisymm <;> omega) | omega))]; unfold gl1; dsimp only; rw [y96]; simp only [List.append_assoc, List.cons_append]; rfl); (rw [gbl_app, gbl_one, List.length_append]; unfold gl1; rw [List.length_cons, List.length_cons, List.length_cons, List.length_append, List.length_singleton]; dsimp only; (first | (apply Int.le_antisymm <;> omega) | omega))), hP, hD, hS, lv_sub hl [1, 2, 0] rfl⟩
    · skip
      refine lv_icmp_ne (tgt := 94) hx hb d_CO_writeGlobals_86 (by decide) (fun c86 => ?_) (fun c86 => ?_)
      · have q86 := neI c86
        refine lv_bipush (v := 66) hx hb d_CO_writeGlobals_94 (by decide) ?_
        exact jn96 66 _ _ _ ⟨(by rw [if_neg (by (first | (apply Int.le_antisymm <;> omega) | omega))]; rfl), by decide, hP, hD, hS, lv_sub hl [0, 1, 2] rfl⟩
      · have q86 := eqI c86
        refine lv_bipush (v := 65) hx hb d_CO_writeGlobals_89 (by decide) ?_
        refine lv_goto (tgt := 96) hx hb d_CO_writeGlobals_91 (by decide) ?_
        exact jn96 65 _ _ _ ⟨(by rw [if_pos (by (first | (apply Int.le_antisymm <;> omega) | omega))]; rfl), by decide, hP, hD, hS, lv_sub hl [0, 1, 2] rfl⟩
end q_82
section q_83
/-! Coder: what is told outside -/
theorem zS_b {nz : Nat → Int32} {n : Int} (h : ∀ j : Nat, (j : Int) < n → 1 ≤ (nz j).toInt ∧ (nz j).toInt ≤ 20) : ∀ k : Nat, (k : Int) ≤ n → 0 ≤ zS nz k ∧ zS nz k ≤ 20 * k := by
  intro k
  induction k with
  | zero => exact fun _ => ⟨Int.le_refl _, Int.le_refl _⟩
  | succ k ih =>
    intro hk
    have q := ih (by (first | (apply Int.le_antisymm <;> omega) | omega))
    have w := h k (by (first | (apply Int.le_antisymm <;> omega) | omega))
    have e : zS nz (k + 1) = zS nz k + (nz k).toInt := rfl
    (first | (apply Int.le_antisymm <;> omega) | omega)
abbrev b_CO_writeExports : ByteArray := prog_4_method_27_code
def y_CO_writeExports : MethodName := ⟨R_CO, "writeExports", "(LWaferForge$ByteRow;)V"⟩
abbrev w_CO_writeExports : List Cond := .code y_CO_writeExports b_CO_writeExports 4 none :: lw_g
theorem kC_CO_writeExports : Cond.code y_CO_writeExports b_CO_writeExports 4 none ∈ lw_g := in_c6 54 rfl rfl
theorem d_CO_writeExports_0 : decode b_CO_writeExports 0 = .ok (.aload_n 0, 1) := bz_c42 (by decide +kernel)
theorem d_CO_writeExports_1 : decode b_CO_writeExports 1 = .ok (.getfield 36, 3) := bz_c180 (by decide +kernel)
theorem d_CO_writeExports_4 : decode b_CO_writeExports 4 = .ok (.getfield 61, 3) := bz_c180 (by decide +kernel)
theorem d_CO_writeExports_7 : decode b_CO_writeExports 7 = .ok (.astore_n 2, 1) := bz_c77 (by decide +kernel)
theorem d_CO_writeExports_8 : decode b_CO_writeExports 8 = .ok (.aload_n 0, 1) := bz_c42 (by decide +kernel)
theorem d_CO_writeExports_9 : decode b_CO_writeExports 9 = .ok (.getfield 33, 3) := bz_c180 (by decide +kernel)
theorem d_CO_writeExports_12 : decode b_CO_writeExports 12 = .ok (.iconst 0, 1) := bz_c3 (by decide +kernel)
theorem d_CO_writeExports_13 : decode b_CO_writeExports 13 = .ok (.putfield 64, 3) := bz_c181 (by decide +kernel)
theorem d_CO_writeExports_16 : decode b_CO_writeExports 16 = .ok (.aload_n 0, 1) := bz_c42 (by decide +kernel)
theorem d_CO_writeExports_17 : decode b_CO_writeExports 17 = .ok (.getfield 33, 3) := bz_c180 (by decide +kernel)
theorem d_CO_writeExports_20 : decode b_CO_writeExports 20 = .ok (.aload_n 2, 1) := bz_c44 (by decide +kernel)
theorem d_CO_writeExports_21 : decode b_CO_writeExports 21 = .ok (.getfield 68, 3) := bz_c180 (by decide +kernel)
theorem d_CO_writeExports_24 : decode b_CO_writeExports 24 = .ok (.iconst 1, 1) := bz_c4 (by decide +kernel)
theorem d_CO_writeExports_25 : decode b_CO_writeExports 25 = .ok (.iadd, 1) := bz_c96 (by decide +kernel)
theorem d_CO_writeExports_26 : decode b_CO_writeExports 26 = .ok (.invokevirtual 218, 3) := bz_c182 (by decide +kernel)
theorem d_CO_writeExports_29 : decode b_CO_writeExports 29 = .ok (.iconst 0, 1) := bz_c3 (by decide +kernel)
theorem d_CO_writeExports_30 : decode b_CO_writeExports 30 = .ok (.istore_n 3, 1) := bz_c62 (by decide +kernel)
theorem d_CO_writeExports_31 : decode b_CO_writeExports 31 = .ok (.iload_n 3, 1) := bz_c29 (by decide +kernel)
theorem d_CO_writeExports_32 : decode b_CO_writeExports 32 = .ok (.aload_n 2, 1) := bz_c44 (by decide +kernel)
theorem d_CO_writeExports_33 : decode b_CO_writeExports 33 = .ok (.getfield 68, 3) := bz_c180 (by decide +kernel)
theorem d_CO_writeExports_36 : decode b_CO_writeExports 36 = .ok (.if_icmp .ge 61, 3) := bz_c162 (by decide +kernel)
theorem d_CO_writeExports_39 : decode b_CO_writeExports 39 = .ok (.aload_n 0, 1) := bz_c42 (by decide +kernel)
theorem d_CO_writeExports_40 : decode b_CO_writeExports 40 = .ok (.getfield 33, 3) := bz_c180 (by decide +kernel)
theorem d_CO_writeExports_43 : decode b_CO_writeExports 43 = .ok (.aload_n 2, 1) := bz_c44 (by decide +kernel)
theorem d_CO_writeExports_44 : decode b_CO_writeExports 44 = .ok (.getfield 133, 3) := bz_c180 (by decide +kernel)
theorem d_CO_writeExports_47 : decode b_CO_writeExports 47 = .ok (.iload_n 3, 1) := bz_c29 (by decide +kernel)
theorem d_CO_writeExports_48 : decode b_CO_writeExports 48 = .ok (.iaload, 1) := bz_c46 (by decide +kernel)
theorem d_CO_writeExports_49 : decode b_CO_writeExports 49 = .ok (.invokevirtual 218, 3) := bz_c182 (by decide +kernel)
theorem d_CO_writeExports_52 : decode b_CO_writeExports 52 = .ok (.aload_n 0, 1) := bz_c42 (by decide +kernel)
theorem d_CO_writeExports_53 : decode b_CO_writeExports 53 = .ok (.getfield 33, 3) := bz_c180 (by decide +kernel)
theorem d_CO_writeExports_56 : decode b_CO_writeExports 56 = .ok (.aload_n 2, 1) := bz_c44 (by decide +kernel)
theorem d_CO_writeExports_57 : decode b_CO_writeExports 57 = .ok (.getfield 48, 3) := bz_c180 (by decide +kernel)
theorem d_CO_writeExports_60 : decode b_CO_writeExports 60 = .ok (.aload_n 2, 1) := bz_c44 (by decide +kernel)
theorem d_CO_writeExports_61 : decode b_CO_writeExports 61 = .ok (.getfield 102, 3) := bz_c180 (by decide +kernel)
theorem d_CO_writeExports_64 : decode b_CO_writeExports 64 = .ok (.iload_n 3, 1) := bz_c29 (by decide +kernel)
theorem d_CO_writeExports_65 : decode b_CO_writeExports 65 = .ok (.iaload, 1) := bz_c46 (by decide +kernel)
theorem d_CO_writeExports_66 : decode b_CO_writeExports 66 = .ok (.aload_n 2, 1) := bz_c44 (by decide +kernel)
theorem d_CO_writeExports_67 : decode b_CO_writeExports 67 = .ok (.getfield 133, 3) := bz_c180 (by decide +kernel)
theorem d_CO_writeExports_70 : decode b_CO_writeExports 70 = .ok (.iload_n 3, 1) := bz_c29 (by decide +kernel)
theorem d_CO_writeExports_71 : decode b_CO_writeExports 71 = .ok (.iaload, 1) := bz_c46 (by decide +kernel)
theorem d_CO_writeExports_72 : decode b_CO_writeExports 72 = .ok (.invokevirtual 288, 3) := bz_c182 (by decide +kernel)
theorem d_CO_writeExports_75 : decode b_CO_writeExports 75 = .ok (.aload_n 0, 1) := bz_c42 (by decide +kernel)
theorem d_CO_writeExports_76 : decode b_CO_writeExports 76 = .ok (.getfield 33, 3) := bz_c180 (by decide +kernel)
theorem d_CO_writeExports_79 : decode b_CO_writeExports 79 = .ok (.iconst 0, 1) := bz_c3 (by decide +kernel)
theorem d_CO_writeExports_80 : decode b_CO_writeExports 80 = .ok (.invokevirtual 76, 3) := bz_c182 (by decide +kernel)
theorem d_CO_writeExports_83 : decode b_CO_writeExports 83 = .ok (.aload_n 0, 1) := bz_c42 (by decide +kernel)
theorem d_CO_writeExports_84 : decode b_CO_writeExports 84 = .ok (.getfield 33, 3) := bz_c180 (by decide +kernel)
theorem d_CO_writeExports_87 : decode b_CO_writeExports 87 = .ok (.iload_n 3, 1) := bz_c29 (by decide +kernel)
theorem d_CO_writeExports_88 : decode b_CO_writeExports 88 = .ok (.invokevirtual 218, 3) := bz_c182 (by decide +kernel)
theorem d_CO_writeExports_91 : decode b_CO_writeExports 91 = .ok (.iinc 3 1, 3) := by decide +kernel
theorem d_CO_writeExports_94 : decode b_CO_writeExports 94 = .ok (.goto (-63), 3) := bz_c167 (by decide +kernel)
theorem d_CO_writeExports_97 : decode b_CO_writeExports 97 = .ok (.aload_n 0, 1) := bz_c42 (by decide +kernel)
theorem d_CO_writeExports_98 : decode b_CO_writeExports 98 = .ok (.getfield 33, 3) := bz_c180 (by decide +kernel)
theorem d_CO_writeExports_101 : decode b_CO_writeExports 101 = .ok (.getstatic 302, 3) := bz_c178 (by decide +kernel)
theorem d_CO_writeExports_104 : decode b_CO_writeExports 104 = .ok (.getfield 305, 3) := bz_c180 (by decide +kernel)
theorem d_CO_writeExports_107 : decode b_CO_writeExports 107 = .ok (.invokevirtual 308, 3) := bz_c182 (by decide +kernel)
theorem d_CO_writeExports_110 : decode b_CO_writeExports 110 = .ok (.invokevirtual 218, 3) := bz_c182 (by decide +kernel)
theorem d_CO_writeExports_113 : decode b_CO_writeExports 113 = .ok (.aload_n 0, 1) := bz_c42 (by decide +kernel)
theorem d_CO_writeExports_114 : decode b_CO_writeExports 114 = .ok (.getfield 33, 3) := bz_c180 (by decide +kernel)
theorem d_CO_writeExports_117 : decode b_CO_writeExports 117 = .ok (.getstatic 302, 3) := bz_c178 (by decide +kernel)
theorem d_CO_writeExports_120 : decode b_CO_writeExports 120 = .ok (.getfield 305, 3) := bz_c180 (by decide +kernel)
theorem d_CO_writeExports_123 : decode b_CO_writeExports 123 = .ok (.invokevirtual 312, 3) := bz_c182 (by decide +kernel)
theorem d_CO_writeExports_126 : decode b_CO_writeExports 126 = .ok (.aload_n 0, 1) := bz_c42 (by decide +kernel)
theorem d_CO_writeExports_127 : decode b_CO_writeExports 127 = .ok (.getfield 33, 3) := bz_c180 (by decide +kernel)
theorem d_CO_writeExports_130 : decode b_CO_writeExports 130 = .ok (.iconst 2, 1) := bz_c5 (by decide +kernel)
theorem d_CO_writeExports_131 : decode b_CO_writeExports 131 = .ok (.invokevirtual 76, 3) := bz_c182 (by decide +kernel)
theorem d_CO_writeExports_134 : decode b_CO_writeExports 134 = .ok (.aload_n 0, 1) := bz_c42 (by decide +kernel)
theorem d_CO_writeExports_135 : decode b_CO_writeExports 135 = .ok (.getfield 33, 3) := bz_c180 (by decide +kernel)
theorem d_CO_writeExports_138 : decode b_CO_writeExports 138 = .ok (.iconst 0, 1) := bz_c3 (by decide +kernel)
theorem d_CO_writeExports_139 : decode b_CO_writeExports 139 = .ok (.invokevirtual 218, 3) := bz_c182 (by decide +kernel)
theorem d_CO_writeExports_142 : decode b_CO_writeExports 142 = .ok (.aload_n 0, 1) := bz_c42 (by decide +kernel)
theorem d_CO_writeExports_143 : decode b_CO_writeExports 143 = .ok (.aload_n 1, 1) := bz_c43 (by decide +kernel)
theorem d_CO_writeExports_144 : decode b_CO_writeExports 144 = .ok (.bipush 7, 2) := bz_c16 (by decide +kernel)
theorem d_CO_writeExports_146 : decode b_CO_writeExports 146 = .ok (.invokevirtual 299, 3) := bz_c182 (by decide +kernel)
theorem d_CO_writeExports_149 : decode b_CO_writeExports 149 = .ok (.return_, 1) := bz_c177 (by decide +kernel)
theorem kM_CO_308 : Cond.methodLink R_CO 308 y_JS_length ∈ lw_g := in_c6 57 rfl rfl
theorem kM_CO_312 : Cond.methodLink R_CO 312 y_BR_putText ∈ lw_g := in_c6 58 rfl rfl
theorem kV_BR_putText : Cond.instanceMethod y_BR_putText ∈ lw_g := in_c6 59 rfl rfl
theorem kS_BR_putText : Cond.selects R_BR y_BR_putText y_BR_putText ∈ lw_g := in_c6 60 rfl rfl
theorem kF_CO_302 : Cond.fieldLink R_CO 302 "WaferForge$Sign" "MEMORY" "LWaferForge$Sign;" ∈ lw_g := in_c6 55 rfl rfl
theorem kF_CO_305 : Cond.fieldLink R_CO 305 "WaferForge$Sign" "text" "Ljava/lang/String;" ∈ lw_g := in_c14 3 rfl rfl
theorem kF_CO_48 : Cond.fieldLink R_CO 48 "WaferForge$Names" "text" "LWaferForge$ByteRow;" ∈ lw_g := in_c2 75 rfl rfl
abbrev at_CO_writeExports (dC : Nat → ClassId) (dI : Nat → Nat → Nat) (sa : Nat → Nat) (h0 pr kn lt pe to bo cs se gl fu pa pf sf pk pg pp pz pv pr_scanner_r pr_waiting_r pr_waitingPlaces_r seb tr kns knz knt knv tx fus fuz fut fuv ow owb : Nat) (cseb ctx cfus cfuz cowb : ClassId) (h0_localCount : Int32) (h0_pendingCount : Int32) (h0_gives : Int32) (h0_depth : Int32) (h0_loopDepth : Int32) (pr_reason : Int32) (pr_place : Int32) (pr_stepCount : Int32) (pr_open : Int32) (pr_twoSides : Int32) (pr_waitingCount : Int32) (kn_length : Int32) (tr_length : Int32) (gtx : Nat → Int32) (fu_length : Int32) (gfus : Nat → Int32) (gfuz : Nat → Int32) (A : Nat → Prop) (u : (Nat → Int32) × (Nat → Int32) × Int32 × Int32) (t : State) : Prop := match u with | (gowb, gseb, ow_length, se_length) => va_P (dC, dI) cls (wz_228 h0 pr kn lt h0_localCount pe h0_pendingCount h0_gives h0_depth h0_loopDepth to bo cs se pr gl fu pa pf sf pk pg pp pz pv pr_reason pr_place pr_scanner_r pr_stepCount pr_open pr_twoSides pr_waiting_r pr_waitingPlaces_r pr_waitingCount se seb se_length seb cseb gseb kn tr kns knz knt knv kn_length tr tx tr_length tx ctx gtx fu tr fus fuz fut fuv fu_length fus cfus gfus fuz cfuz gfuz ow owb ow_length owb cowb gowb) t.heap ∧ va_K (dC, dI) cls [(cseb, .byte), (ctx, .byte), (cfus, .int), (cfuz, .int), (cowb, .byte)] t ∧ va_D A (wz_228 h0 pr kn lt h0_localCount pe h0_pendingCount h0_gives h0_depth h0_loopDepth to bo cs se pr gl fu pa pf sf pk pg pp pz pv pr_reason pr_place pr_scanner_r pr_stepCount pr_open pr_twoSides pr_waiting_r pr_waitingPlaces_r pr_waitingCount se seb se_length seb cseb gseb kn tr kns knz knt knv kn_length tr tx tr_length tx ctx gtx fu tr fus fuz fut fuv fu_length fus cfus gfus fuz cfuz gfuz ow owb ow_length owb cowb gowb)
set_option maxHeartbeats 4000000 in
set_option maxRecDepth 100000 in
theorem c_CO_writeExports (l : Launch) (dC : Nat → ClassId) (dI : Nat → Nat → Nat) (sz : Nat) (sa : Nat → Nat) (h0 pr kn lt pe to bo cs se gl fu pa pf sf pk pg pp pz pv pr_scanner_r pr_waiting_r pr_waitingPlaces_r seb tr kns knz knt knv tx fus fuz fut fuv ow owb : Nat) (cseb ctx cfus cfuz cowb : ClassId) (h0_localCount : Int32) (h0_pendingCount : Int32) (h0_gives : Int32) (h0_depth : Int32) (h0_loopDepth : Int32) (pr_reason : Int32) (pr_place : Int32) (pr_stepCount : Int32) (pr_open : Int32) (pr_twoSides : Int32) (pr_waitingCount : Int32) (se_length : Int32) (gseb : Nat → Int32) (kn_length : Int32) (tr_length : Int32) (gtx : Nat → Int32) (fu_length : Int32) (gfus : Nat → Int32) (gfuz : Nat → Int32) (ow_length : Int32) (gowb : Nat → Int32)  (b_se_length : 0 ≤ se_length.toInt ∧ se_length.toInt ≤ 8192) (b_tr_length : 0 ≤ tr_length.toInt ∧ tr_length.toInt ≤ 2000) (b_fu_length : 0 ≤ fu_length.toInt ∧ fu_length.toInt ≤ 20) (b_ow_length : 0 ≤ ow_length.toInt ∧ ow_length.toInt ≤ 8192)   (hnx : bx (∀ j : Nat, (j : Int) < fu_length.toInt → 0 ≤ (gfus j).toInt ∧ 1 ≤ (gfuz j).toInt ∧ (gfuz j).toInt ≤ 20 ∧ (gfus j).toInt + (gfuz j).toInt ≤ tr_length.toInt)) (hro : ow_length.toInt + 520 ≤ 8192) : Met l y_CO_writeExports w_CO_writeExports ({ frames := 5, cells := 0, slots := 0, locals := 107 }) (va_Pc [.ref h0, .ref ow] (fun U => U.heap.size = sz ∧ va_P (dC, dI) cls (wz_228 h0 pr kn lt h0_localCount pe h0_pendingCount h0_gives h0_depth h0_loopDepth to bo cs se pr gl fu pa pf sf pk pg pp pz pv pr_reason pr_place pr_scanner_r pr_stepCount pr_open pr_twoSides pr_waiting_r pr_waitingPlaces_r pr_waitingCount se seb se_length seb cseb gseb kn tr kns knz knt knv kn_length tr tx tr_length tx ctx gtx fu tr fus fuz fut fuv fu_length fus cfus gfus fuz cfuz gfuz ow owb ow_length owb cowb gowb) U.heap ∧ va_K (dC, dI) cls [(cseb, .byte), (ctx, .byte), (cfus, .int), (cfuz, .int), (cowb, .byte)] U ∧ va_D (fun _ => True) (wz_228 h0 pr kn lt h0_localCount pe h0_pendingCount h0_gives h0_depth h0_loopDepth to bo cs se pr gl fu pa pf sf pk pg pp pz pv pr_reason pr_place pr_scanner_r pr_stepCount pr_open pr_twoSides pr_waiting_r pr_waitingPlaces_r pr_waitingCount se seb se_length seb cseb gseb kn tr kns knz knt knv kn_length tr tx tr_length tx ctx gtx fu tr fus fuz fut fuv fu_length fus cfus gfus fuz cfuz gfuz ow owb ow_length owb cowb gowb) ∧ sw sa (va_A (wz_228 h0 pr kn lt h0_localCount pe h0_pendingCount h0_gives h0_depth h0_loopDepth to bo cs se pr gl fu pa pf sf pk pg pp pz pv pr_reason pr_place pr_scanner_r pr_stepCount pr_open pr_twoSides pr_waiting_r pr_waitingPlaces_r pr_waitingCount se seb se_length seb cseb gseb kn tr kns knz knt knv kn_length tr tx tr_length tx ctx gtx fu tr fus fuz fut fuv fu_length fus cfus gfus fuz cfuz gfuz ow owb ow_length owb cowb gowb) sz) U U.heap)) (va_Qv (fun (u : (Nat → Int32) × (Nat → Int32) × Int32 × Int32) => match u with | (gowb2, gseb2, ow_length2, se_length2) => (0 ≤ ow_length2.toInt ∧ ow_length2.toInt ≤ 8192) ∧ (0 ≤ se_length2.toInt ∧ se_length2.toInt ≤ 8192) ∧ (∃ L : List (List Nat), (L.length : Int) = fu_length.toInt ∧ (∀ x ∈ L, x.length ≤ 20) ∧ ((xl 0 L).length : Int) = 3 * fu_length.toInt + zS gfuz fu_length.toNatClampNeg ∧ ow_length2.toInt = ow_length.toInt + ((sec 7 ((fu_length.toInt.toNat + 1) :: (xl 0 L ++ [6, 109, 101, 109, 111, 114, 121, 2, 0]))).length : Int) ∧ bl gowb2 ow_length2.toNatClampNeg = bl gowb ow_length.toNatClampNeg ++ sec 7 ((fu_length.toInt.toNat + 1) :: (xl 0 L ++ [6, 109, 101, 109, 111, 114, 121, 2, 0])))) (at_CO_writeExports dC dI sa h0 pr kn lt pe to bo cs se gl fu pa pf sf pk pg pp pz pv pr_scanner_r pr_waiting_r pr_waitingPlaces_r seb tr kns knz knt knv tx fus fuz fut fuv ow owb cseb ctx cfus cfuz cowb h0_localCount h0_pendingCount h0_gives h0_depth h0_loopDepth pr_reason pr_place pr_stepCount pr_open pr_twoSides pr_waitingCount kn_length tr_length gtx fu_length gfus gfuz (va_A (wz_228 h0 pr kn lt h0_localCount pe h0_pendingCount h0_gives h0_depth h0_loopDepth to bo cs se pr gl fu pa pf sf pk pg pp pz pv pr_reason pr_place pr_scanner_r pr_stepCount pr_open pr_twoSides pr_waiting_r pr_waitingPlaces_r pr_waitingCount se seb se_length seb cseb gseb kn tr kns knz knt knv kn_length tr tx tr_length tx ctx gtx fu tr fus fuz fut fuv fu_length fus cfus gfus fuz cfuz gfuz ow owb ow_length owb cowb gowb) sz)) (va_A (wz_228 h0 pr kn lt h0_localCount pe h0_pendingCount h0_gives h0_depth h0_loopDepth to bo cs se pr gl fu pa pf sf pk pg pp pz pv pr_reason pr_place pr_scanner_r pr_stepCount pr_open pr_twoSides pr_waiting_r pr_waitingPlaces_r pr_waitingCount se seb se_length seb cseb gseb kn tr kns knz knt knv kn_length tr tx tr_length tx ctx gtx fu tr fus fuz fut fuv fu_length fus cfus gfus fuz cfuz gfuz ow owb ow_length owb cowb gowb) sz)) 0 0 (va_A (wz_228 h0 pr kn lt h0_localCount pe h0_pendingCount h0_gives h0_depth h0_loopDepth to bo cs se pr gl fu pa pf sf pk pg pp pz pv pr_reason pr_place pr_scanner_r pr_stepCount pr_open pr_twoSides pr_waiting_r pr_waitingPlaces_r pr_waitingCount se seb se_length seb cseb gseb kn tr kns knz knt knv kn_length tr tx tr_length tx ctx gtx fu tr fus fuz fut fuv fu_length fus cfus gfus fuz cfuz gfuz ow owb ow_length owb cowb gowb) sz) := by
  refine Met.ofW (cc := b_CO_writeExports) (maxL := 4) (ret := none) (by decide) rfl ?_
  intro p e s m args below meth c s₁ B hml hv
  obtain ⟨rfl, hsz, hP, hK, hD0, hSW⟩ := hv
  have hx := B.exec
  have hb := B.bytes
  have hr := B.returns
  have hts0 := atoms_spec (ws := w_CO_writeExports) B.pre
  have hts : ∀ w ∈ lw_g, w.before _ s = true := fun w h => hts0 w (List.mem_cons_of_mem _ h)
  have hown : s.vm.findClass R_CO = some m.cls := findClass_of_methodNamed B.named
  have hlocks := B.notSynchronized
  clear hts0
  subst hsz
  have hD := hD0.self (sz := s.heap.size)
  generalize hAe : va_A (wz_228 h0 pr kn lt h0_localCount pe h0_pendingCount h0_gives h0_depth h0_loopDepth to bo cs se pr gl fu pa pf sf pk pg pp pz pv pr_reason pr_place pr_scanner_r pr_stepCount pr_open pr_twoSides pr_waiting_r pr_waitingPlaces_r pr_waitingCount se seb se_length seb cseb gseb kn tr kns knz knt knv kn_length tr tx tr_length tx ctx gtx fu tr fus fuz fut fuv fu_length fus cfus gfus fuz cfuz gfuz ow owb ow_length owb cowb gowb) s.heap.size = A at hD hSW ⊢
  have hA : ∀ q : Nat, s.heap.size ≤ q → A q := fun q h => by rw [← hAe]; exact Or.inr h
  clear hAe
  have hP : va_P (dC, dI) cls (wz_228 h0 pr kn lt h0_localCount pe h0_pendingCount h0_gives h0_depth h0_loopDepth to bo cs se pr gl fu pa pf sf pk pg pp pz pv pr_reason pr_place pr_scanner_r pr_stepCount pr_open pr_twoSides pr_waiting_r pr_waitingPlaces_r pr_waitingCount se seb se_length seb cseb gseb kn tr kns knz knt knv kn_length tr tx tr_length tx ctx gtx fu tr fus fuz fut fuv fu_length fus cfus gfus fuz cfuz gfuz ow owb ow_length owb cowb gowb) s.heap := hP
  have hl := lv_entry ([.ref h0, .ref ow]) (n := 4) (Nat.le_of_ble_eq_true rfl)
  rw [lg_entry_eq]
  generalize (lg_sl ([.ref h0, .ref ow]) ++ List.replicate (4 - (lg_sl ([.ref h0, .ref ow])).length) Slot.unset).toArray = ls at hl ⊢
  have hl : lv_has ls 4 [(0, .ref h0), (1, .ref ow)] := hl
  have k0 : (0 : Int32).toInt = 0 := by decide
  refine w_gen (A := A) hP (fun H locs hP hS => ?_)
  have k1 : (1 : Int32).toInt = 1 := by decide
  have k2 : (2 : Int32).toInt = 2 := by decide
  have k7 : (7 : Int32).toInt = 7 := by decide
  have zb := zS_b (nz := gfuz) (n := fu_length.toInt) (fun j hj => ⟨(hnx.out j hj).2.1, (hnx.out j hj).2.2.1⟩)
  have zb := (show bx _ from zb)
  have l16 : (sgB.getD 16 []).length = 6 := by decide
  refine lv_aload_n hx hb d_CO_writeExports_0 rfl (lv_at hl 0 rfl) ?_
  refine va_get (D := (dC, dI)) (ci := 2) (v := .ref pr) (C := R_CO) (T := F_CO) (N := 13) hx hb hts i_CO hown hK hP 0 rfl rfl 0 (by decide) (hts _ kF_CO_36) (fun _ h9 => h9) rfl d_CO_writeExports_1 ?_
  refine va_get (D := (dC, dI)) (ci := 6) (v := .ref fu) (C := R_PR) (T := F_PR) (N := 19) hx hb hts i_PR hown hK hP 1 rfl rfl 1 (by decide) (hts _ kF_CO_61) (fun _ h9 => h9) rfl d_CO_writeExports_4 ?_
  refine lv_astore_n (lv' := [(2, .ref fu), (0, .ref h0), (1, .ref ow)]) hx hb d_CO_writeExports_7 rfl hl (by decide) rfl (fun ls hl => ?_)
  refine lv_aload_n hx hb d_CO_writeExports_8 rfl (lv_at hl 1 rfl) ?_
  refine va_get (D := (dC, dI)) (ci := 2) (v := .ref se) (C := R_CO) (T := F_CO) (N := 13) hx hb hts i_CO hown hK hP 0 rfl rfl 12 (by decide) (hts _ kF_CO_33) (fun _ h9 => h9) rfl d_CO_writeExports_9 ?_
  refine lv_iconst (v := 0) hx hb d_CO_writeExports_12 (by decide) ?_
  refine va_put (D := (dC, dI)) (ci := 1) (v := .int 0) (ty := .int) (C := R_BR) (T := F_BR) (N := 2) hx hb hts i_BR t_BR t_BR_ok n_BR hown hK hP hD hS 2 rfl rfl 1 (by decide) (hts _ kF_CO_64) (fun _ h9 => h9) rfl (by decide +kernel) rfl rfl (Nat.le_of_ble_eq_true rfl) d_CO_writeExports_13 (fun H locs hP hD hS => ?_)
  refine lv_aload_n hx hb d_CO_writeExports_16 rfl (lv_at hl 1 rfl) ?_
  refine va_get (D := (dC, dI)) (ci := 2) (v := .ref se) (C := R_CO) (T := F_CO) (N := 13) hx hb hts i_CO hown hK hP 0 rfl rfl 12 (by decide) (hts _ kF_CO_33) (fun _ h9 => h9) rfl d_CO_writeExports_17 ?_
  refine lv_aload_n hx hb d_CO_writeExports_20 rfl (lv_at hl 0 rfl) ?_
  refine va_get (D := (dC, dI)) (ci := 5) (v := .int fu_length) (C := R_NA) (T := F_NA) (N := 6) hx hb hts i_NA hown hK hP 7 rfl rfl 5 (by decide) (hts _ kF_CO_68) (fun _ h9 => h9) rfl d_CO_writeExports_21 ?_
  refine lv_iconst (v := 1) hx hb d_CO_writeExports_24 (by decide) ?_
  refine lv_iadd hx hb d_CO_writeExports_25 ?_
  refine lv_topi (fun x1 ex1 => ?_)
  have tx1 : x1.toInt = fu_length.toInt + 1 := by have z := i32_add ex1 (by (first | (apply Int.le_antisymm <;> omega) | omega)) (by (first | (apply Int.le_antisymm <;> omega) | omega)); first | exact z | (first | (apply Int.le_antisymm <;> omega) | omega)
  have hPc := hP.sb (wq := (wz_94 se seb 0 seb cseb gseb)) [2, 3] rfl
  have hDc := hD.sb (wq := (wz_94 se seb 0 seb cseb gseb)) [2, 3] (by decide) rfl
  have hKc := hK.sb (tyq := [(cseb, .byte)]) [0] rfl
  have hFc := va_free (wc := (wz_94 se seb 0 seb cseb gseb)) hD hS hA [2, 3] rfl
  refine va_callv (va_runV (As := [.int x1]) (rest := []) ⟨hx, hb, hml, hown, hts⟩ (c_BR_putUnsigned l dC dI se seb H.size cseb 8192 0 gseb (by (first | (apply Int.le_antisymm <;> omega) | omega)) (by (first | (apply Int.le_antisymm <;> omega) | omega)) (by (first | (apply Int.le_antisymm <;> omega) | omega)) x1 (by (first | (apply Int.le_antisymm <;> omega) | omega))) (cwV 1 hts (gV kM_CO_218 kV_BR_putUnsigned kS_BR_putUnsigned kI_BR kC_BR_putUnsigned) rfl rfl rfl (by decide +kernel) ⟨Nat.le_of_ble_eq_true rfl, Nat.le_of_ble_eq_true rfl⟩) ⟨fun a U g mk z => by obtain ⟨z0, z1, zP, zK, zD⟩ := z; exact ⟨z0, z1, zP, va_K.moved (u := U) (U := U.calling g mk a) (Vm.Alike.refl U.vm) zK, zD⟩, va_recv hKc hPc (ci := 1) (q0 := 0) rfl rfl, fun U hU hW => ⟨rfl, by rw [hU], va_P.he hU.symm hPc, va_K.moved hW.alike hKc, hDc.weaken (fun _ _ _ _ => trivial)⟩⟩ rfl rfl hl.1 rfl (lv_room (Nat.le_of_ble_eq_true rfl)) d_CO_writeExports_26 ⟨(Nat.zero_le _), (Nat.zero_le _)⟩) hS (fun q _ h => hFc q h) hFc (fun u t H1 locs ht hvm hw hB hz1 hk1 hS => ?_)
  obtain ⟨n3, f4⟩ := u
  try dsimp only at hw
  obtain ⟨tn3, bn3⟩ := hw
  have ln3 := leb_len 5 (un x1)
  obtain ⟨hP1, hK1, hD1⟩ := hB
  replace hP1 := va_P.he ht hP1
  obtain ⟨hP, hD⟩ := va_join (wr := (wz_229 h0 pr kn lt h0_localCount pe h0_pendingCount h0_gives h0_depth h0_loopDepth to bo cs se pr gl fu pa pf sf pk pg pp pz pv pr_reason pr_place pr_scanner_r pr_stepCount pr_open pr_twoSides pr_waiting_r pr_waitingPlaces_r pr_waitingCount kn tr kns knz knt knv kn_length tr tx tr_length tx ctx gtx fu tr fus fuz fut fuv fu_length fus cfus gfus fuz cfuz gfuz ow owb ow_length owb cowb gowb)) (w1 := (wz_94 se seb n3 seb cseb f4)) hP hD [2, 3] [0, 1, 4, 5, 6, 7, 8, 9, 10, 11] rfl rfl (by decide) (by decide) hk1 hFc hP1 hD1
  clear hPc hDc hKc hFc hz1 hk1 hP1 hK1 hD1
  rename Heap => H
  have hP : va_P (dC, dI) cls (wz_230 h0 pr kn lt h0_localCount pe h0_pendingCount h0_gives h0_depth h0_loopDepth to bo cs se pr gl fu pa pf sf pk pg pp pz pv pr_reason pr_place pr_scanner_r pr_stepCount pr_open pr_twoSides pr_waiting_r pr_waitingPlaces_r pr_waitingCount kn tr kns knz knt knv kn_length tr tx tr_length tx ctx gtx fu tr fus fuz fut fuv fu_length fus cfus gfus fuz cfuz gfuz ow owb ow_length owb cowb gowb se seb n3 seb cseb f4) H := hP
  have hD : va_D A (wz_230 h0 pr kn lt h0_localCount pe h0_pendingCount h0_gives h0_depth h0_loopDepth to bo cs se pr gl fu pa pf sf pk pg pp pz pv pr_reason pr_place pr_scanner_r pr_stepCount pr_open pr_twoSides pr_waiting_r pr_waitingPlaces_r pr_waitingCount kn tr kns knz knt knv kn_length tr tx tr_length tx ctx gtx fu tr fus fuz fut fuv fu_length fus cfus gfus fuz cfuz gfuz ow owb ow_length owb cowb gowb se seb n3 seb cseb f4) := hD
  have lx1 := congrArg List.length (leb_s (x := x1) (by (first | (apply Int.le_antisymm <;> omega) | omega)) (by (first | (apply Int.le_antisymm <;> omega) | omega)))
  rw [List.length_singleton] at lx1
  refine lv_iconst (v := 0) hx hb d_CO_writeExports_29 (by decide) ?_
  refine lv_istore_n (lv' := [(3, .int 0), (2, .ref fu), (0, .ref h0), (1, .ref ow)]) hx hb d_CO_writeExports_30 rfl hl (by decide) rfl (fun ls hl => ?_)
  refine w_loop (σ := Int32 × (Nat → Int32) × Int32) (fun u H locs ls => match u with | (j31_l3, j31_seb, j31_se_length) => (0 ≤ j31_se_length.toInt ∧ j31_se_length.toInt ≤ 8192) ∧ (0 ≤ j31_l3.toInt ∧ j31_l3.toInt ≤ fu_length.toInt ∧ 1 ≤ j31_se_length.toInt ∧ j31_se_length.toInt ≤ 1 + 23 * j31_l3.toInt) ∧ (∃ L : List (List Nat), (L.length : Int) = j31_l3.toInt ∧ (∀ x ∈ L, x.length ≤ 20) ∧ bl j31_seb j31_se_length.toNatClampNeg = (fu_length.toInt.toNat + 1) :: xl 0 L ∧ j31_se_length.toInt = 1 + ((xl 0 L).length : Int) ∧ ((xl 0 L).length : Int) = 3 * j31_l3.toInt + zS gfuz j31_l3.toNatClampNeg) ∧ va_P (dC, dI) cls (wz_230 h0 pr kn lt h0_localCount pe h0_pendingCount h0_gives h0_depth h0_loopDepth to bo cs se pr gl fu pa pf sf pk pg pp pz pv pr_reason pr_place pr_scanner_r pr_stepCount pr_open pr_twoSides pr_waiting_r pr_waitingPlaces_r pr_waitingCount kn tr kns knz knt knv kn_length tr tx tr_length tx ctx gtx fu tr fus fuz fut fuv fu_length fus cfus gfus fuz cfuz gfuz ow owb ow_length owb cowb gowb se seb j31_se_length seb cseb j31_seb) H ∧ va_D A (wz_230 h0 pr kn lt h0_localCount pe h0_pendingCount h0_gives h0_depth h0_loopDepth to bo cs se pr gl fu pa pf sf pk pg pp pz pv pr_reason pr_place pr_scanner_r pr_stepCount pr_open pr_twoSides pr_waiting_r pr_waitingPlaces_r pr_waitingCount kn tr kns knz knt knv kn_length tr tx tr_length tx ctx gtx fu tr fus fuz fut fuv fu_length fus cfus gfus fuz cfuz gfuz ow owb ow_length owb cowb gowb se seb j31_se_length seb cseb j31_seb) ∧ va_S A s.heap H locs ∧ lv_has ls 4 [(0, .ref h0), (1, .ref ow), (2, .ref fu), (3, .int j31_l3)]) (fun u => match u with | (j31_l3, j31_seb, j31_se_length) => (fu_length.toInt - j31_l3.toInt).toNat) ?_ (0, f4, n3) ⟨by (try dsimp only) <;> (first | (apply Int.le_antisymm <;> omega) | omega), by (try dsimp only) <;> (first | (apply Int.le_antisymm <;> omega) | omega), ⟨[], rfl, fun x hx => (by cases hx), by rw [bn3, leb_s (by (first | (apply Int.le_antisymm <;> omega) | omega)) (by (first | (apply Int.le_antisymm <;> omega) | omega)), show x1.toInt.toNat = (fu_length.toInt.toNat + 1) from by (first | (apply Int.le_antisymm <;> omega) | omega)]; rfl, by (try dsimp only); rw [show (xl 0 []).length = 0 from rfl]; (first | (apply Int.le_antisymm <;> omega) | omega), rfl⟩, hP, hD, hS, lv_sub hl [2, 3, 1, 0] rfl⟩
  intro N31 ih31 u H locs ls hN31 hI
  obtain ⟨j31_l3, j31_seb, j31_se_length⟩ := u
  obtain ⟨b_j31_se_length, v1, hX, hP, hD, hS, hl⟩ := hI
  have hN31 : (fu_length.toInt - j31_l3.toInt).toNat < N31 + 1 := hN31
  refine lv_iload_n hx hb d_CO_writeExports_31 rfl (lv_at hl 3 rfl) ?_
  refine lv_aload_n hx hb d_CO_writeExports_32 rfl (lv_at hl 2 rfl) ?_
  refine va_get (D := (dC, dI)) (ci := 5) (v := .int fu_length) (C := R_NA) (T := F_NA) (N := 6) hx hb hts i_NA hown hK hP 5 rfl rfl 5 (by decide) (hts _ kF_CO_68) (fun _ h9 => h9) rfl d_CO_writeExports_33 ?_
  refine lv_icmp_ge (tgt := 97) hx hb d_CO_writeExports_36 (by decide) (fun c36 => ?_) (fun c36 => ?_)
  · have q36 := leI c36
    have zz := zb.out j31_l3.toNatClampNeg (by have := i32_clamp (x := j31_l3) (by (first | (apply Int.le_antisymm <;> omega) | omega)); (first | (apply Int.le_antisymm <;> omega) | omega))
    refine lv_aload_n hx hb d_CO_writeExports_97 rfl (lv_at hl 0 rfl) ?_
    refine va_get (D := (dC, dI)) (ci := 2) (v := .ref se) (C := R_CO) (T := F_CO) (N := 13) hx hb hts i_CO hown hK hP 0 rfl rfl 12 (by decide) (hts _ kF_CO_33) (fun _ h9 => h9) rfl d_CO_writeExports_98 ?_
    refine va_gets (C := "WaferForge$Sign") (n := "MEMORY") (d := "LWaferForge$Sign;") (v := .ref (sg sa 16)) hx hb ((hSW.2.2.2.1.1 16 (by decide)).1) hS hown (hts _ kF_CO_302) (fun _ h9 => h9) d_CO_writeExports_101 ?_
    refine va_getX (i := 16) hx hb hSW.2.2.2.2.1 (by decide : 16 < 55) hS hown (hts _ kF_CO_305) (fun _ h9 => h9) d_CO_writeExports_104 ?_
    have hPc := hP.sb (wq := []) [] rfl
    have hDc := hD.sb (wq := []) [] (by decide) rfl
    have hKc := hK.sb (tyq := []) [] rfl
    have hFc := va_free (wc := []) hD hS hA [] rfl
    refine va_calli (va_runV (As := []) (rest := [.ref se]) ⟨hx, hb, hml, hown, hts⟩ (c_JS_length l dC dI H.size sa ((sa (200 + 16))) ((sa (300 + 16))) ((sgB.getD 16 [])) (by decide)) (cwV 0 hts (gV kM_CO_308 kV_JS_length kS_JS_length kI_JS kC_JS_length) rfl rfl rfl (by decide +kernel) ⟨Nat.le_of_ble_eq_true rfl, Nat.le_of_ble_eq_true rfl⟩) ⟨fun a U g mk z => by obtain ⟨z0, z1, zP, zK, zD, zS, zR0⟩ := z; exact ⟨z0, z1, zP, va_K.moved (u := U) (U := U.calling g mk a) (Vm.Alike.refl U.vm) zK, zD, sw.same (u := U) (U := U.calling g mk a) rfl zS, zR0.moved (u := U) (U := U.calling g mk a) (Vm.Alike.refl U.vm)⟩, so_recv ((hSW.2.2.2.2.2.1 16 (by decide : 16 < 55)).1) hS, fun U hU hW => ⟨rfl, by rw [hU], va_P.he hU.symm hPc, va_K.moved hW.alike hKc, hDc.weaken (fun _ _ _ _ => trivial), hSW.call hS hFc hW hU, ((hSW.2.2.2.2.2.1 16 (by decide : 16 < 55))).call hS hFc hW hU⟩⟩ rfl rfl hl.1 rfl (lv_room (Nat.le_of_ble_eq_true rfl)) d_CO_writeExports_107 ⟨(Nat.zero_le _), (Nat.zero_le _)⟩) hS (fun q _ h => hFc q h) hFc (fun r5 u t H1 locs ht hvm hw hB hz1 hk1 hS => ?_)
    try dsimp only at hw
    have xr5 := hw
    try clear hw
    obtain ⟨hP1, hK1, hD1⟩ := hB
    replace hP1 := va_P.he ht hP1
    obtain ⟨hP, hD⟩ := va_join (wr := (wz_230 h0 pr kn lt h0_localCount pe h0_pendingCount h0_gives h0_depth h0_loopDepth to bo cs se pr gl fu pa pf sf pk pg pp pz pv pr_reason pr_place pr_scanner_r pr_stepCount pr_open pr_twoSides pr_waiting_r pr_waitingPlaces_r pr_waitingCount kn tr kns knz knt knv kn_length tr tx tr_length tx ctx gtx fu tr fus fuz fut fuv fu_length fus cfus gfus fuz cfuz gfuz ow owb ow_length owb cowb gowb se seb j31_se_length seb cseb j31_seb)) (w1 := []) hP hD [] [0, 1, 2, 3, 4, 5, 6, 7, 8, 9, 10, 11] rfl rfl (by decide) (by decide) hk1 hFc hP1 hD1
    clear hPc hDc hKc hFc hz1 hk1 hP1 hK1 hD1
    rename Heap => H
    have hP : va_P (dC, dI) cls (wz_230 h0 pr kn lt h0_localCount pe h0_pendingCount h0_gives h0_depth h0_loopDepth to bo cs se pr gl fu pa pf sf pk pg pp pz pv pr_reason pr_place pr_scanner_r pr_stepCount pr_open pr_twoSides pr_waiting_r pr_waitingPlaces_r pr_waitingCount kn tr kns knz knt knv kn_length tr tx tr_length tx ctx gtx fu tr fus fuz fut fuv fu_length fus cfus gfus fuz cfuz gfuz ow owb ow_length owb cowb gowb se seb j31_se_length seb cseb j31_seb) H := hP
    have hD : va_D A (wz_230 h0 pr kn lt h0_localCount pe h0_pendingCount h0_gives h0_depth h0_loopDepth to bo cs se pr gl fu pa pf sf pk pg pp pz pv pr_reason pr_place pr_scanner_r pr_stepCount pr_open pr_twoSides pr_waiting_r pr_waitingPlaces_r pr_waitingCount kn tr kns knz knt knv kn_length tr tx tr_length tx ctx gtx fu tr fus fuz fut fuv fu_length fus cfus gfus fuz cfuz gfuz ow owb ow_length owb cowb gowb se seb j31_se_length seb cseb j31_seb) := hD
    have hPc := hP.sb (wq := (wz_94 se seb j31_se_length seb cseb j31_seb)) [10, 11] rfl
    have hDc := hD.sb (wq := (wz_94 se seb j31_se_length seb cseb j31_seb)) [10, 11] (by decide) rfl
    have hKc := hK.sb (tyq := [(cseb, .byte)]) [0] rfl
    have hFc := va_free (wc := (wz_94 se seb j31_se_length seb cseb j31_seb)) hD hS hA [10, 11] rfl
    refine va_callv (va_runV (As := [.int r5]) (rest := []) ⟨hx, hb, hml, hown, hts⟩ (c_BR_putUnsigned l dC dI se seb H.size cseb 8192 j31_se_length j31_seb (by (first | (apply Int.le_antisymm <;> omega) | omega)) (by (first | (apply Int.le_antisymm <;> omega) | omega)) (by (first | (apply Int.le_antisymm <;> omega) | omega)) r5 (by (first | (apply Int.le_antisymm <;> omega) | omega))) (cwV 1 hts (gV kM_CO_218 kV_BR_putUnsigned kS_BR_putUnsigned kI_BR kC_BR_putUnsigned) rfl rfl rfl (by decide +kernel) ⟨Nat.le_of_ble_eq_true rfl, Nat.le_of_ble_eq_true rfl⟩) ⟨fun a U g mk z => by obtain ⟨z0, z1, zP, zK, zD⟩ := z; exact ⟨z0, z1, zP, va_K.moved (u := U) (U := U.calling g mk a) (Vm.Alike.refl U.vm) zK, zD⟩, va_recv hKc hPc (ci := 1) (q0 := 0) rfl rfl, fun U hU hW => ⟨rfl, by rw [hU], va_P.he hU.symm hPc, va_K.moved hW.alike hKc, hDc.weaken (fun _ _ _ _ => trivial)⟩⟩ rfl rfl hl.1 rfl (lv_room (Nat.le_of_ble_eq_true rfl)) d_CO_writeExports_110 ⟨(Nat.zero_le _), (Nat.zero_le _)⟩) hS (fun q _ h => hFc q h) hFc (fun u t H1 locs ht hvm hw hB hz1 hk1 hS => ?_)
    obtain ⟨n7, f8⟩ := u
    try dsimp only at hw
    obtain ⟨tn7, bn7⟩ := hw
    have ln7 := leb_len 5 (un r5)
    obtain ⟨hP1, hK1, hD1⟩ := hB
    replace hP1 := va_P.he ht hP1
    obtain ⟨hP, hD⟩ := va_join (wr := (wz_229 h0 pr kn lt h0_localCount pe h0_pendingCount h0_gives h0_depth h0_loopDepth to bo cs se pr gl fu pa pf sf pk pg pp pz pv pr_reason pr_place pr_scanner_r pr_stepCount pr_open pr_twoSides pr_waiting_r pr_waitingPlaces_r pr_waitingCount kn tr kns knz knt knv kn_length tr tx tr_length tx ctx gtx fu tr fus fuz fut fuv fu_length fus cfus gfus fuz cfuz gfuz ow owb ow_length owb cowb gowb)) (w1 := (wz_94 se seb n7 seb cseb f8)) hP hD [10, 11] [0, 1, 2, 3, 4, 5, 6, 7, 8, 9] rfl rfl (by decide) (by decide) hk1 hFc hP1 hD1
    clear hPc hDc hKc hFc hz1 hk1 hP1 hK1 hD1
    rename Heap => H
    have hP : va_P (dC, dI) cls (wz_230 h0 pr kn lt h0_localCount pe h0_pendingCount h0_gives h0_depth h0_loopDepth to bo cs se pr gl fu pa pf sf pk pg pp pz pv pr_reason pr_place pr_scanner_r pr_stepCount pr_open pr_twoSides pr_waiting_r pr_waitingPlaces_r pr_waitingCount kn tr kns knz knt knv kn_length tr tx tr_length tx ctx gtx fu tr fus fuz fut fuv fu_length fus cfus gfus fuz cfuz gfuz ow owb ow_length owb cowb gowb se seb n7 seb cseb f8) H := hP
    have hD : va_D A (wz_230 h0 pr kn lt h0_localCount pe h0_pendingCount h0_gives h0_depth h0_loopDepth to bo cs se pr gl fu pa pf sf pk pg pp pz pv pr_reason pr_place pr_scanner_r pr_stepCount pr_open pr_twoSides pr_waiting_r pr_waitingPlaces_r pr_waitingCount kn tr kns knz knt knv kn_length tr tx tr_length tx ctx gtx fu tr fus fuz fut fuv fu_length fus cfus gfus fuz cfuz gfuz ow owb ow_length owb cowb gowb se seb n7 seb cseb f8) := hD
    have lr5 := congrArg List.length (leb_s (x := r5) (by (first | (apply Int.le_antisymm <;> omega) | omega)) (by (first | (apply Int.le_antisymm <;> omega) | omega)))
    rw [List.length_singleton] at lr5
    refine lv_aload_n hx hb d_CO_writeExports_113 rfl (lv_at hl 0 rfl) ?_
    refine va_get (D := (dC, dI)) (ci := 2) (v := .ref se) (C := R_CO) (T := F_CO) (N := 13) hx hb hts i_CO hown hK hP 0 rfl rfl 12 (by decide) (hts _ kF_CO_33) (fun _ h9 => h9) rfl d_CO_writeExports_114 ?_
    refine va_gets (C := "WaferForge$Sign") (n := "MEMORY") (d := "LWaferForge$Sign;") (v := .ref (sg sa 16)) hx hb ((hSW.2.2.2.1.1 16 (by decide)).1) hS hown (hts _ kF_CO_302) (fun _ h9 => h9) d_CO_writeExports_117 ?_
    refine va_getX (i := 16) hx hb hSW.2.2.2.2.1 (by decide : 16 < 55) hS hown (hts _ kF_CO_305) (fun _ h9 => h9) d_CO_writeExports_120 ?_
    have hPc := hP.sb (wq := (wz_94 se seb n7 seb cseb f8)) [10, 11] rfl
    have hDc := hD.sb (wq := (wz_94 se seb n7 seb cseb f8)) [10, 11] (by decide) rfl
    have hKc := hK.sb (tyq := [(cseb, .byte)]) [0] rfl
    have hFc := va_free (wc := (wz_94 se seb n7 seb cseb f8)) hD hS hA [10, 11] rfl
    refine va_callv (va_runV (As := [.ref (sa (200 + 16))]) (rest := []) ⟨hx, hb, hml, hown, hts⟩ (c_BR_putText l dC dI H.size sa ((sa (200 + 16))) ((sa (300 + 16))) ((sgB.getD 16 [])) se seb cseb n7 8192 f8 (by (first | (apply Int.le_antisymm <;> omega) | omega)) (by decide)) (cwV 1 hts (gV kM_CO_312 kV_BR_putText kS_BR_putText kI_BR kC_BR_putText) rfl rfl rfl (by decide +kernel) ⟨Nat.le_of_ble_eq_true rfl, Nat.le_of_ble_eq_true rfl⟩) ⟨fun a U g mk z => by obtain ⟨z0, z1, zP, zK, zD, zS, zR0⟩ := z; exact ⟨z0, z1, zP, va_K.moved (u := U) (U := U.calling g mk a) (Vm.Alike.refl U.vm) zK, zD, sw.same (u := U) (U := U.calling g mk a) rfl zS, zR0.moved (u := U) (U := U.calling g mk a) (Vm.Alike.refl U.vm)⟩, va_recv hKc hPc (ci := 1) (q0 := 0) rfl rfl, fun U hU hW => ⟨rfl, by rw [hU], va_P.he hU.symm hPc, va_K.moved hW.alike hKc, hDc.weaken (fun _ _ _ _ => trivial), hSW.call hS hFc hW hU, ((hSW.2.2.2.2.2.1 16 (by decide : 16 < 55))).call hS hFc hW hU⟩⟩ rfl rfl hl.1 rfl (lv_room (Nat.le_of_ble_eq_true rfl)) d_CO_writeExports_123 ⟨(Nat.zero_le _), (Nat.zero_le _)⟩) hS (fun q _ h => hFc q h) hFc (fun u t H1 locs ht hvm hw hB hz1 hk1 hS => ?_)
    obtain ⟨n10, n11⟩ := u
    try dsimp only at hw
    have xr9 := hw
    try clear hw
    obtain ⟨hP1, hK1, hD1⟩ := hB
    replace hP1 := va_P.he ht hP1
    obtain ⟨hP, hD⟩ := va_join (wr := (wz_229 h0 pr kn lt h0_localCount pe h0_pendingCount h0_gives h0_depth h0_loopDepth to bo cs se pr gl fu pa pf sf pk pg pp pz pv pr_reason pr_place pr_scanner_r pr_stepCount pr_open pr_twoSides pr_waiting_r pr_waitingPlaces_r pr_waitingCount kn tr kns knz knt knv kn_length tr tx tr_length tx ctx gtx fu tr fus fuz fut fuv fu_length fus cfus gfus fuz cfuz gfuz ow owb ow_length owb cowb gowb)) (w1 := (wz_94 se seb n11 seb cseb n10)) hP hD [10, 11] [0, 1, 2, 3, 4, 5, 6, 7, 8, 9] rfl rfl (by decide) (by decide) hk1 hFc hP1 hD1
    clear hPc hDc hKc hFc hz1 hk1 hP1 hK1 hD1
    rename Heap => H
    have hP : va_P (dC, dI) cls (wz_230 h0 pr kn lt h0_localCount pe h0_pendingCount h0_gives h0_depth h0_loopDepth to bo cs se pr gl fu pa pf sf pk pg pp pz pv pr_reason pr_place pr_scanner_r pr_stepCount pr_open pr_twoSides pr_waiting_r pr_waitingPlaces_r pr_waitingCount kn tr kns knz knt knv kn_length tr tx tr_length tx ctx gtx fu tr fus fuz fut fuv fu_length fus cfus gfus fuz cfuz gfuz ow owb ow_length owb cowb gowb se seb n11 seb cseb n10) H := hP
    have hD : va_D A (wz_230 h0 pr kn lt h0_localCount pe h0_pendingCount h0_gives h0_depth h0_loopDepth to bo cs se pr gl fu pa pf sf pk pg pp pz pv pr_reason pr_place pr_scanner_r pr_stepCount pr_open pr_twoSides pr_waiting_r pr_waitingPlaces_r pr_waitingCount kn tr kns knz knt knv kn_length tr tx tr_length tx ctx gtx fu tr fus fuz fut fuv fu_length fus cfus gfus fuz cfuz gfuz ow owb ow_length owb cowb gowb se seb n11 seb cseb n10) := hD
    refine lv_aload_n hx hb d_CO_writeExports_126 rfl (lv_at hl 0 rfl) ?_
    refine va_get (D := (dC, dI)) (ci := 2) (v := .ref se) (C := R_CO) (T := F_CO) (N := 13) hx hb hts i_CO hown hK hP 0 rfl rfl 12 (by decide) (hts _ kF_CO_33) (fun _ h9 => h9) rfl d_CO_writeExports_127 ?_
    refine lv_iconst (v := 2) hx hb d_CO_writeExports_130 (by decide) ?_
    have hPc := hP.sb (wq := (wz_94 se seb n11 seb cseb n10)) [10, 11] rfl
    have hDc := hD.sb (wq := (wz_94 se seb n11 seb cseb n10)) [10, 11] (by decide) rfl
    have hKc := hK.sb (tyq := [(cseb, .byte)]) [0] rfl
    have hFc := va_free (wc := (wz_94 se seb n11 seb cseb n10)) hD hS hA [10, 11] rfl
    refine va_callv (va_runV (As := [.int 2]) (rest := []) ⟨hx, hb, hml, hown, hts⟩ (c_BR_put l dC dI se seb H.size cseb 8192 n11 n10 (by (first | (apply Int.le_antisymm <;> omega) | omega)) (by (first | (apply Int.le_antisymm <;> omega) | omega)) (by (first | (apply Int.le_antisymm <;> omega) | omega)) 2) (cwV 1 hts (gV kM_CO_76 kV_BR_put kS_BR_put kI_BR kC_BR_put) rfl rfl rfl (by decide +kernel) ⟨Nat.le_of_ble_eq_true rfl, Nat.le_of_ble_eq_true rfl⟩) ⟨fun a U g mk z => by obtain ⟨z0, z1, zP, zK, zD⟩ := z; exact ⟨z0, z1, zP, va_K.moved (u := U) (U := U.calling g mk a) (Vm.Alike.refl U.vm) zK, zD⟩, va_recv hKc hPc (ci := 1) (q0 := 0) rfl rfl, fun U hU hW => ⟨rfl, by rw [hU], va_P.he hU.symm hPc, va_K.moved hW.alike hKc, hDc.weaken (fun _ _ _ _ => trivial)⟩⟩ rfl rfl hl.1 rfl (lv_room (Nat.le_of_ble_eq_true rfl)) d_CO_writeExports_131 ⟨(Nat.zero_le _), (Nat.zero_le _)⟩) hS (fun q _ h => hFc q h) hFc (fun u t H1 locs ht hvm hw hB hz1 hk1 hS => ?_)
    obtain ⟨n13, f14⟩ := u
    try dsimp only at hw
    have tn13 := br_put_in (by (first | (apply Int.le_antisymm <;> omega) | omega)) (by (first | (apply Int.le_antisymm <;> omega) | omega)) (by (first | (apply Int.le_antisymm <;> omega) | omega)) hw
    have bn13 := br_put_bl (by (first | (apply Int.le_antisymm <;> omega) | omega)) (by (first | (apply Int.le_antisymm <;> omega) | omega)) (by (first | (apply Int.le_antisymm <;> omega) | omega)) hw
    obtain ⟨hP1, hK1, hD1⟩ := hB
    replace hP1 := va_P.he ht hP1
    obtain ⟨hP, hD⟩ := va_join (wr := (wz_229 h0 pr kn lt h0_localCount pe h0_pendingCount h0_gives h0_depth h0_loopDepth to bo cs se pr gl fu pa pf sf pk pg pp pz pv pr_reason pr_place pr_scanner_r pr_stepCount pr_open pr_twoSides pr_waiting_r pr_waitingPlaces_r pr_waitingCount kn tr kns knz knt knv kn_length tr tx tr_length tx ctx gtx fu tr fus fuz fut fuv fu_length fus cfus gfus fuz cfuz gfuz ow owb ow_length owb cowb gowb)) (w1 := (wz_94 se seb n13 seb cseb f14)) hP hD [10, 11] [0, 1, 2, 3, 4, 5, 6, 7, 8, 9] rfl rfl (by decide) (by decide) hk1 hFc hP1 hD1
    clear hPc hDc hKc hFc hz1 hk1 hP1 hK1 hD1
    rename Heap => H
    have hP : va_P (dC, dI) cls (wz_230 h0 pr kn lt h0_localCount pe h0_pendingCount h0_gives h0_depth h0_loopDepth to bo cs se pr gl fu pa pf sf pk pg pp pz pv pr_reason pr_place pr_scanner_r pr_stepCount pr_open pr_twoSides pr_waiting_r pr_waitingPlaces_r pr_waitingCount kn tr kns knz knt knv kn_length tr tx tr_length tx ctx gtx fu tr fus fuz fut fuv fu_length fus cfus gfus fuz cfuz gfuz ow owb ow_length owb cowb gowb se seb n13 seb cseb f14) H := hP
    have hD : va_D A (wz_230 h0 pr kn lt h0_localCount pe h0_pendingCount h0_gives h0_depth h0_loopDepth to bo cs se pr gl fu pa pf sf pk pg pp pz pv pr_reason pr_place pr_scanner_r pr_stepCount pr_open pr_twoSides pr_waiting_r pr_waitingPlaces_r pr_waitingCount kn tr kns knz knt knv kn_length tr tx tr_length tx ctx gtx fu tr fus fuz fut fuv fu_length fus cfus gfus fuz cfuz gfuz ow owb ow_length owb cowb gowb se seb n13 seb cseb f14) := hD
    refine lv_aload_n hx hb d_CO_writeExports_134 rfl (lv_at hl 0 rfl) ?_
    refine va_get (D := (dC, dI)) (ci := 2) (v := .ref se) (C := R_CO) (T := F_CO) (N := 13) hx hb hts i_CO hown hK hP 0 rfl rfl 12 (by decide) (hts _ kF_CO_33) (fun _ h9 => h9) rfl d_CO_writeExports_135 ?_
    refine lv_iconst (v := 0) hx hb d_CO_writeExports_138 (by decide) ?_
    have hPc := hP.sb (wq := (wz_94 se seb n13 seb cseb f14)) [10, 11] rfl
    have hDc := hD.sb (wq := (wz_94 se seb n13 seb cseb f14)) [10, 11] (by decide) rfl
    have hKc := hK.sb (tyq := [(cseb, .byte)]) [0] rfl
    have hFc := va_free (wc := (wz_94 se seb n13 seb cseb f14)) hD hS hA [10, 11] rfl
    refine va_callv (va_runV (As := [.int 0]) (rest := []) ⟨hx, hb, hml, hown, hts⟩ (c_BR_putUnsigned l dC dI se seb H.size cseb 8192 n13 f14 (by (first | (apply Int.le_antisymm <;> omega) | omega)) (by (first | (apply Int.le_antisymm <;> omega) | omega)) (by (first | (apply Int.le_antisymm <;> omega) | omega)) 0 (by (first | (apply Int.le_antisymm <;> omega) | omega))) (cwV 1 hts (gV kM_CO_218 kV_BR_putUnsigned kS_BR_putUnsigned kI_BR kC_BR_putUnsigned) rfl rfl rfl (by decide +kernel) ⟨Nat.le_of_ble_eq_true rfl, Nat.le_of_ble_eq_true rfl⟩) ⟨fun a U g mk z => by obtain ⟨z0, z1, zP, zK, zD⟩ := z; exact ⟨z0, z1, zP, va_K.moved (u := U) (U := U.calling g mk a) (Vm.Alike.refl U.vm) zK, zD⟩, va_recv hKc hPc (ci := 1) (q0 := 0) rfl rfl, fun U hU hW => ⟨rfl, by rw [hU], va_P.he hU.symm hPc, va_K.moved hW.alike hKc, hDc.weaken (fun _ _ _ _ => trivial)⟩⟩ rfl rfl hl.1 rfl (lv_room (Nat.le_of_ble_eq_true rfl)) d_CO_writeExports_139 ⟨(Nat.zero_le _), (Nat.zero_le _)⟩) hS (fun q _ h => hFc q h) hFc (fun u t H1 locs ht hvm hw hB hz1 hk1 hS => ?_)
    obtain ⟨n16, f17⟩ := u
    try dsimp only at hw
    obtain ⟨tn16, bn16⟩ := hw
    have ln16 := leb_len 5 (un 0)
    obtain ⟨hP1, hK1, hD1⟩ := hB
    replace hP1 := va_P.he ht hP1
    obtain ⟨hP, hD⟩ := va_join (wr := (wz_229 h0 pr kn lt h0_localCount pe h0_pendingCount h0_gives h0_depth h0_loopDepth to bo cs se pr gl fu pa pf sf pk pg pp pz pv pr_reason pr_place pr_scanner_r pr_stepCount pr_open pr_twoSides pr_waiting_r pr_waitingPlaces_r pr_waitingCount kn tr kns knz knt knv kn_length tr tx tr_length tx ctx gtx fu tr fus fuz fut fuv fu_length fus cfus gfus fuz cfuz gfuz ow owb ow_length owb cowb gowb)) (w1 := (wz_94 se seb n16 seb cseb f17)) hP hD [10, 11] [0, 1, 2, 3, 4, 5, 6, 7, 8, 9] rfl rfl (by decide) (by decide) hk1 hFc hP1 hD1
    clear hPc hDc hKc hFc hz1 hk1 hP1 hK1 hD1
    rename Heap => H
    have hP : va_P (dC, dI) cls (wz_230 h0 pr kn lt h0_localCount pe h0_pendingCount h0_gives h0_depth h0_loopDepth to bo cs se pr gl fu pa pf sf pk pg pp pz pv pr_reason pr_place pr_scanner_r pr_stepCount pr_open pr_twoSides pr_waiting_r pr_waitingPlaces_r pr_waitingCount kn tr kns knz knt knv kn_length tr tx tr_length tx ctx gtx fu tr fus fuz fut fuv fu_length fus cfus gfus fuz cfuz gfuz ow owb ow_length owb cowb gowb se seb n16 seb cseb f17) H := hP
    have hD : va_D A (wz_230 h0 pr kn lt h0_localCount pe h0_pendingCount h0_gives h0_depth h0_loopDepth to bo cs se pr gl fu pa pf sf pk pg pp pz pv pr_reason pr_place pr_scanner_r pr_stepCount pr_open pr_twoSides pr_waiting_r pr_waitingPlaces_r pr_waitingCount kn tr kns knz knt knv kn_length tr tx tr_length tx ctx gtx fu tr fus fuz fut fuv fu_length fus cfus gfus fuz cfuz gfuz ow owb ow_length owb cowb gowb se seb n16 seb cseb f17) := hD
    have l142 : (leb 5 (un 0)).length = 1 := by decide
    refine lv_aload_n hx hb d_CO_writeExports_142 rfl (lv_at hl 0 rfl) ?_
    refine lv_aload_n hx hb d_CO_writeExports_143 rfl (lv_at hl 1 rfl) ?_
    refine lv_bipush (v := 7) hx hb d_CO_writeExports_144 (by decide) ?_
    have hPc := hP.sb (wq := (wz_215 h0 pr kn lt h0_localCount pe h0_pendingCount h0_gives h0_depth h0_loopDepth to bo cs se se seb n16 seb cseb f17 ow owb ow_length owb cowb gowb)) [0, 10, 11, 8, 9] rfl
    have hDc := hD.sb (wq := (wz_215 h0 pr kn lt h0_localCount pe h0_pendingCount h0_gives h0_depth h0_loopDepth to bo cs se se seb n16 seb cseb f17 ow owb ow_length owb cowb gowb)) [0, 10, 11, 8, 9] (by decide) rfl
    have hKc := hK.sb (tyq := [(cseb, .byte), (cowb, .byte)]) [0, 4] rfl
    have hFc := va_free (wc := (wz_215 h0 pr kn lt h0_localCount pe h0_pendingCount h0_gives h0_depth h0_loopDepth to bo cs se se seb n16 seb cseb f17 ow owb ow_length owb cowb gowb)) hD hS hA [0, 10, 11, 8, 9] rfl
    refine va_callv (va_runV (As := [.ref ow, .int 7]) (rest := []) ⟨hx, hb, hml, hown, hts⟩ (c_CO_putSection l dC dI H.size h0 pr kn lt pe to bo cs se seb ow owb cseb cowb h0_localCount h0_pendingCount h0_gives h0_depth h0_loopDepth n16 f17 ow_length gowb (by (try dsimp only) <;> (first | (apply Int.le_antisymm <;> omega) | omega)) (b_ow_length) 7 (by decide) (by (first | (apply Int.le_antisymm <;> omega) | omega))) (cwV 2 hts (gV kM_CO_299 kV_CO_putSection kS_CO_putSection kI_CO kC_CO_putSection) rfl rfl rfl (by decide +kernel) ⟨Nat.le_of_ble_eq_true rfl, Nat.le_of_ble_eq_true rfl⟩) ⟨fun a U g mk z => by obtain ⟨z0, z1, zP, zK, zD⟩ := z; exact ⟨z0, z1, zP, va_K.moved (u := U) (U := U.calling g mk a) (Vm.Alike.refl U.vm) zK, zD⟩, va_recv hKc hPc (ci := 2) (q0 := 0) rfl rfl, fun U hU hW => ⟨rfl, by rw [hU], va_P.he hU.symm hPc, va_K.moved hW.alike hKc, hDc.weaken (fun _ _ _ _ => trivial)⟩⟩ rfl rfl hl.1 rfl (lv_room (Nat.le_of_ble_eq_true rfl)) d_CO_writeExports_146 ⟨(Nat.zero_le _), (Nat.zero_le _)⟩) hS (fun q _ h => hFc q h) hFc (fun u t H1 locs ht hvm hw hB hz1 hk1 hS => ?_)
    obtain ⟨n19, n20⟩ := u
    try dsimp only at hw
    obtain ⟨bn20, xr18⟩ := hw
    try clear hw
    obtain ⟨hP1, hK1, hD1⟩ := hB
    replace hP1 := va_P.he ht hP1
    obtain ⟨hP, hD⟩ := va_join (wr := [(pr, .inr (6, [.ref gl, .ref fu, .ref pa, .ref pf, .ref sf, .ref pk, .ref pg, .ref pp, .ref pz, .ref pv, .int pr_reason, .int pr_place, .ref pr_scanner_r, .int pr_stepCount, .int pr_open, .int pr_twoSides, .ref pr_waiting_r, .ref pr_waitingPlaces_r, .int pr_waitingCount])), (kn, .inr (5, [.ref tr, .ref kns, .ref knz, .ref knt, .ref knv, .int kn_length])), (tr, .inr (1, [.ref tx, .int tr_length])), (tx, .inl (ctx, 2000, .inl gtx)), (fu, .inr (5, [.ref tr, .ref fus, .ref fuz, .ref fut, .ref fuv, .int fu_length])), (fus, .inl (cfus, 20, .inl gfus)), (fuz, .inl (cfuz, 20, .inl gfuz))]) (w1 := (wz_215 h0 pr kn lt h0_localCount pe h0_pendingCount h0_gives h0_depth h0_loopDepth to bo cs se se seb n16 seb cseb f17 ow owb n20 owb cowb n19)) hP hD [0, 10, 11, 8, 9] [1, 2, 3, 4, 5, 6, 7] rfl rfl (by decide) (by decide) hk1 hFc hP1 hD1
    clear hPc hDc hKc hFc hz1 hk1 hP1 hK1 hD1
    rename Heap => H
    have hP : va_P (dC, dI) cls [(pr, .inr (6, [.ref gl, .ref fu, .ref pa, .ref pf, .ref sf, .ref pk, .ref pg, .ref pp, .ref pz, .ref pv, .int pr_reason, .int pr_place, .ref pr_scanner_r, .int pr_stepCount, .int pr_open, .int pr_twoSides, .ref pr_waiting_r, .ref pr_waitingPlaces_r, .int pr_waitingCount])), (kn, .inr (5, [.ref tr, .ref kns, .ref knz, .ref knt, .ref knv, .int kn_length])), (tr, .inr (1, [.ref tx, .int tr_length])), (tx, .inl (ctx, 2000, .inl gtx)), (fu, .inr (5, [.ref tr, .ref fus, .ref fuz, .ref fut, .ref fuv, .int fu_length])), (fus, .inl (cfus, 20, .inl gfus)), (fuz, .inl (cfuz, 20, .inl gfuz)), (h0, .inr (2, [.ref pr, .ref kn, .ref lt, .int h0_localCount, .ref pe, .int h0_pendingCount, .int h0_gives, .int h0_depth, .int h0_loopDepth, .ref to, .ref bo, .ref cs, .ref se])), (se, .inr (1, [.ref seb, .int n16])), (seb, .inl (cseb, 8192, .inl f17)), (ow, .inr (1, [.ref owb, .int n20])), (owb, .inl (cowb, 8192, .inl n19))] H := hP
    have hD : va_D A [(pr, .inr (6, [.ref gl, .ref fu, .ref pa, .ref pf, .ref sf, .ref pk, .ref pg, .ref pp, .ref pz, .ref pv, .int pr_reason, .int pr_place, .ref pr_scanner_r, .int pr_stepCount, .int pr_open, .int pr_twoSides, .ref pr_waiting_r, .ref pr_waitingPlaces_r, .int pr_waitingCount])), (kn, .inr (5, [.ref tr, .ref kns, .ref knz, .ref knt, .ref knv, .int kn_length])), (tr, .inr (1, [.ref tx, .int tr_length])), (tx, .inl (ctx, 2000, .inl gtx)), (fu, .inr (5, [.ref tr, .ref fus, .ref fuz, .ref fut, .ref fuv, .int fu_length])), (fus, .inl (cfus, 20, .inl gfus)), (fuz, .inl (cfuz, 20, .inl gfuz)), (h0, .inr (2, [.ref pr, .ref kn, .ref lt, .int h0_localCount, .ref pe, .int h0_pendingCount, .int h0_gives, .int h0_depth, .int h0_loopDepth, .ref to, .ref bo, .ref cs, .ref se])), (se, .inr (1, [.ref seb, .int n16])), (seb, .inl (cseb, 8192, .inl f17)), (ow, .inr (1, [.ref owb, .int n20])), (owb, .inl (cowb, 8192, .inl n19))] := hD
    have hP9 := hP.sb (wq := (wz_228 h0 pr kn lt h0_localCount pe h0_pendingCount h0_gives h0_depth h0_loopDepth to bo cs se pr gl fu pa pf sf pk pg pp pz pv pr_reason pr_place pr_scanner_r pr_stepCount pr_open pr_twoSides pr_waiting_r pr_waitingPlaces_r pr_waitingCount se seb n16 seb cseb f17 kn tr kns knz knt knv kn_length tr tx tr_length tx ctx gtx fu tr fus fuz fut fuv fu_length fus cfus gfus fuz cfuz gfuz ow owb n20 owb cowb n19)) [7, 0, 8, 9, 1, 2, 3, 4, 5, 6, 10, 11] rfl
    have hD9 := hD.sb (wq := (wz_228 h0 pr kn lt h0_localCount pe h0_pendingCount h0_gives h0_depth h0_loopDepth to bo cs se pr gl fu pa pf sf pk pg pp pz pv pr_reason pr_place pr_scanner_r pr_stepCount pr_open pr_twoSides pr_waiting_r pr_waitingPlaces_r pr_waitingCount se seb n16 seb cseb f17 kn tr kns knz knt knv kn_length tr tx tr_length tx ctx gtx fu tr fus fuz fut fuv fu_length fus cfus gfus fuz cfuz gfuz ow owb n20 owb cowb n19)) [7, 0, 8, 9, 1, 2, 3, 4, 5, 6, 10, 11] (by decide) rfl
    exact W.vret hx hb hr (fun t ht hW => ⟨⟨(n19, f17, n20, n16), rfl, ⟨bn20, by (try dsimp only) <;> (first | (apply Int.le_antisymm <;> omega) | omega), (by obtain ⟨L, y1, y2, y3, y4, y5⟩ := hX; have h9 := xr18; rw [bn16, bn13 (by (first | (apply Int.le_antisymm <;> omega) | omega)), xr9.2, bn7, leb_s (x := r5) (by (first | (apply Int.le_antisymm <;> omega) | omega)) (by (first | (apply Int.le_antisymm <;> omega) | omega)), y3, show leb 5 (un 0) = [0] from by decide, show r5.toInt = 6 from by (first | (apply Int.le_antisymm <;> omega) | omega)] at h9; simp only [List.append_assoc, List.cons_append] at h9; refine ⟨L, by (first | (apply Int.le_antisymm <;> omega) | omega), y2, by rw [show fu_length.toNatClampNeg = j31_l3.toNatClampNeg from by have := i32_clamp (x := j31_l3) (by (first | (apply Int.le_antisymm <;> omega) | omega)); have := i32_clamp (x := fu_length) (by (first | (apply Int.le_antisymm <;> omega) | omega)); (first | (apply Int.le_antisymm <;> omega) | omega)]; (first | (apply Int.le_antisymm <;> omega) | omega), ?_⟩; exact h9)⟩, va_P.he ht.symm hP9, va_K.moved hW.alike hK, hD9⟩, hS.F ht⟩) hS.2.2 d_CO_writeExports_149
  · have q36 := nleI c36
    have gt := hnx.out j31_l3.toNatClampNeg (by have := i32_clamp (x := j31_l3) (by (first | (apply Int.le_antisymm <;> omega) | omega)); (first | (apply Int.le_antisymm <;> omega) | omega))
    refine lv_aload_n hx hb d_CO_writeExports_39 rfl (lv_at hl 0 rfl) ?_
    refine va_get (D := (dC, dI)) (ci := 2) (v := .ref se) (C := R_CO) (T := F_CO) (N := 13) hx hb hts i_CO hown hK hP 0 rfl rfl 12 (by decide) (hts _ kF_CO_33) (fun _ h9 => h9) rfl d_CO_writeExports_40 ?_
    refine lv_aload_n hx hb d_CO_writeExports_43 rfl (lv_at hl 2 rfl) ?_
    refine va_get (D := (dC, dI)) (ci := 5) (v := .ref fuz) (C := R_NA) (T := F_NA) (N := 6) hx hb hts i_NA hown hK hP 5 rfl rfl 2 (by decide) (hts _ kF_CO_133) (fun _ h9 => h9) rfl d_CO_writeExports_44 ?_
    refine lv_iload_n hx hb d_CO_writeExports_47 rfl (lv_at hl 3 rfl) ?_
    have g48 : vp_in j31_l3 20 := vp_in_iff.mpr ⟨by (first | (apply Int.le_antisymm <;> omega) | omega), by (first | (apply Int.le_antisymm <;> omega) | omega)⟩
    refine va_iald hx hb hK hP 7 3 rfl rfl g48 d_CO_writeExports_48 ?_
    refine lv_topi (fun x21 ex21 => ?_)
    have tx21 : x21.toInt = (gfuz j31_l3.toNatClampNeg).toInt := by rw [ex21]
    have hPc := hP.sb (wq := (wz_94 se seb j31_se_length seb cseb j31_seb)) [10, 11] rfl
    have hDc := hD.sb (wq := (wz_94 se seb j31_se_length seb cseb j31_seb)) [10, 11] (by decide) rfl
    have hKc := hK.sb (tyq := [(cseb, .byte)]) [0] rfl
    have hFc := va_free (wc := (wz_94 se seb j31_se_length seb cseb j31_seb)) hD hS hA [10, 11] rfl
    refine va_callv (va_runV (As := [.int x21]) (rest := []) ⟨hx, hb, hml, hown, hts⟩ (c_BR_putUnsigned l dC dI se seb H.size cseb 8192 j31_se_length j31_seb (by (first | (apply Int.le_antisymm <;> omega) | omega)) (by (first | (apply Int.le_antisymm <;> omega) | omega)) (by (first | (apply Int.le_antisymm <;> omega) | omega)) x21 (by (first | (apply Int.le_antisymm <;> omega) | omega))) (cwV 1 hts (gV kM_CO_218 kV_BR_putUnsigned kS_BR_putUnsigned kI_BR kC_BR_putUnsigned) rfl rfl rfl (by decide +kernel) ⟨Nat.le_of_ble_eq_true rfl, Nat.le_of_ble_eq_true rfl⟩) ⟨fun a U g mk z => by obtain ⟨z0, z1, zP, zK, zD⟩ := z; exact ⟨z0, z1, zP, va_K.moved (u := U) (U := U.calling g mk a) (Vm.Alike.refl U.vm) zK, zD⟩, va_recv hKc hPc (ci := 1) (q0 := 0) rfl rfl, fun U hU hW => ⟨rfl, by rw [hU], va_P.he hU.symm hPc, va_K.moved hW.alike hKc, hDc.weaken (fun _ _ _ _ => trivial)⟩⟩ rfl rfl hl.1 rfl (lv_room (Nat.le_of_ble_eq_true rfl)) d_CO_writeExports_49 ⟨(Nat.zero_le _), (Nat.zero_le _)⟩) hS (fun q _ h => hFc q h) hFc (fun u t H1 locs ht hvm hw hB hz1 hk1 hS => ?_)
    obtain ⟨n23, f24⟩ := u
    try dsimp only at hw
    obtain ⟨tn23, bn23⟩ := hw
    have ln23 := leb_len 5 (un x21)
    obtain ⟨hP1, hK1, hD1⟩ := hB
    replace hP1 := va_P.he ht hP1
    obtain ⟨hP, hD⟩ := va_join (wr := (wz_229 h0 pr kn lt h0_localCount pe h0_pendingCount h0_gives h0_depth h0_loopDepth to bo cs se pr gl fu pa pf sf pk pg pp pz pv pr_reason pr_place pr_scanner_r pr_stepCount pr_open pr_twoSides pr_waiting_r pr_waitingPlaces_r pr_waitingCount kn tr kns knz knt knv kn_length tr tx tr_length tx ctx gtx fu tr fus fuz fut fuv fu_length fus cfus gfus fuz cfuz gfuz ow owb ow_length owb cowb gowb)) (w1 := (wz_94 se seb n23 seb cseb f24)) hP hD [10, 11] [0, 1, 2, 3, 4, 5, 6, 7, 8, 9] rfl rfl (by decide) (by decide) hk1 hFc hP1 hD1
    clear hPc hDc hKc hFc hz1 hk1 hP1 hK1 hD1
    rename Heap => H
    have hP : va_P (dC, dI) cls (wz_230 h0 pr kn lt h0_localCount pe h0_pendingCount h0_gives h0_depth h0_loopDepth to bo cs se pr gl fu pa pf sf pk pg pp pz pv pr_reason pr_place pr_scanner_r pr_stepCount pr_open pr_twoSides pr_waiting_r pr_waitingPlaces_r pr_waitingCount kn tr kns knz knt knv kn_length tr tx tr_length tx ctx gtx fu tr fus fuz fut fuv fu_length fus cfus gfus fuz cfuz gfuz ow owb ow_length owb cowb gowb se seb n23 seb cseb f24) H := hP
    have hD : va_D A (wz_230 h0 pr kn lt h0_localCount pe h0_pendingCount h0_gives h0_depth h0_loopDepth to bo cs se pr gl fu pa pf sf pk pg pp pz pv pr_reason pr_place pr_scanner_r pr_stepCount pr_open pr_twoSides pr_waiting_r pr_waitingPlaces_r pr_waitingCount kn tr kns knz knt knv kn_length tr tx tr_length tx ctx gtx fu tr fus fuz fut fuv fu_length fus cfus gfus fuz cfuz gfuz ow owb ow_length owb cowb gowb se seb n23 seb cseb f24) := hD
    have lx21 := congrArg List.length (leb_s (x := x21) (by (first | (apply Int.le_antisymm <;> omega) | omega)) (by (first | (apply Int.le_antisymm <;> omega) | omega)))
    rw [List.length_singleton] at lx21
    refine lv_aload_n hx hb d_CO_writeExports_52 rfl (lv_at hl 0 rfl) ?_
    refine va_get (D := (dC, dI)) (ci := 2) (v := .ref se) (C := R_CO) (T := F_CO) (N := 13) hx hb hts i_CO hown hK hP 0 rfl rfl 12 (by decide) (hts _ kF_CO_33) (fun _ h9 => h9) rfl d_CO_writeExports_53 ?_
    refine lv_aload_n hx hb d_CO_writeExports_56 rfl (lv_at hl 2 rfl) ?_
    refine va_get (D := (dC, dI)) (ci := 5) (v := .ref tr) (C := R_NA) (T := F_NA) (N := 6) hx hb hts i_NA hown hK hP 5 rfl rfl 0 (by decide) (hts _ kF_CO_48) (fun _ h9 => h9) rfl d_CO_writeExports_57 ?_
    refine lv_aload_n hx hb d_CO_writeExports_60 rfl (lv_at hl 2 rfl) ?_
    refine va_get (D := (dC, dI)) (ci := 5) (v := .ref fus) (C := R_NA) (T := F_NA) (N := 6) hx hb hts i_NA hown hK hP 5 rfl rfl 1 (by decide) (hts _ kF_CO_102) (fun _ h9 => h9) rfl d_CO_writeExports_61 ?_
    refine lv_iload_n hx hb d_CO_writeExports_64 rfl (lv_at hl 3 rfl) ?_
    have g65 : vp_in j31_l3 20 := vp_in_iff.mpr ⟨by (first | (apply Int.le_antisymm <;> omega) | omega), by (first | (apply Int.le_antisymm <;> omega) | omega)⟩
    refine va_iald hx hb hK hP 6 2 rfl rfl g65 d_CO_writeExports_65 ?_
    refine lv_topi (fun x25 ex25 => ?_)
    have tx25 : x25.toInt = (gfus j31_l3.toNatClampNeg).toInt := by rw [ex25]
    refine lv_aload_n hx hb d_CO_writeExports_66 rfl (lv_at hl 2 rfl) ?_
    refine va_get (D := (dC, dI)) (ci := 5) (v := .ref fuz) (C := R_NA) (T := F_NA) (N := 6) hx hb hts i_NA hown hK hP 5 rfl rfl 2 (by decide) (hts _ kF_CO_133) (fun _ h9 => h9) rfl d_CO_writeExports_67 ?_
    refine lv_iload_n hx hb d_CO_writeExports_70 rfl (lv_at hl 3 rfl) ?_
    have g71 : vp_in j31_l3 20 := vp_in_iff.mpr ⟨by (first | (apply Int.le_antisymm <;> omega) | omega), by (first | (apply Int.le_antisymm <;> omega) | omega)⟩
    refine va_iald hx hb hK hP 7 3 rfl rfl g71 d_CO_writeExports_71 ?_
    refine lv_topi (fun x26 ex26 => ?_)
    have tx26 : x26.toInt = (gfuz j31_l3.toNatClampNeg).toInt := by rw [ex26]
    have hPc := hP.sb (wq := (wz_231 se seb n23 seb cseb f24 tr tx tr_length tx ctx gtx)) [10, 11, 3, 4] rfl
    have hDc := hD.sb (wq := (wz_231 se seb n23 seb cseb f24 tr tx tr_length tx ctx gtx)) [10, 11, 3, 4] (by decide) rfl
    have hKc := hK.sb (tyq := [(cseb, .byte), (ctx, .byte)]) [0, 1] rfl
    have hFc := va_free (wc := (wz_231 se seb n23 seb cseb f24 tr tx tr_length tx ctx gtx)) hD hS hA [10, 11, 3, 4] rfl
    refine va_callv (va_runV (As := [.ref tr, .int x25, .int x26]) (rest := []) ⟨hx, hb, hml, hown, hts⟩ (c_BR_putPart l dC dI se seb tr tx H.size cseb ctx 8192 2000 n23 tr_length f24 gtx (by (first | (apply Int.le_antisymm <;> omega) | omega)) (by (first | (apply Int.le_antisymm <;> omega) | omega)) (by (first | (apply Int.le_antisymm <;> omega) | omega)) (by (first | (apply Int.le_antisymm <;> omega) | omega)) (by (first | (apply Int.le_antisymm <;> omega) | omega)) (by (first | (apply Int.le_antisymm <;> omega) | omega)) x25 x26 (by (first | (apply Int.le_antisymm <;> omega) | omega)) (by (first | (apply Int.le_antisymm <;> omega) | omega)) (by (first | (apply Int.le_antisymm <;> omega) | omega)) (by (first | (apply Int.le_antisymm <;> omega) | omega))) (cwV 3 hts (gV kM_CO_288 kV_BR_putPart kS_BR_putPart kI_BR kC_BR_putPart) rfl rfl rfl (by decide +kernel) ⟨Nat.le_of_ble_eq_true rfl, Nat.le_of_ble_eq_true rfl⟩) ⟨fun a U g mk z => by obtain ⟨z0, z1, zP, zK, zD⟩ := z; exact ⟨z0, z1, zP, va_K.moved (u := U) (U := U.calling g mk a) (Vm.Alike.refl U.vm) zK, zD⟩, va_recv hKc hPc (ci := 1) (q0 := 0) rfl rfl, fun U hU hW => ⟨rfl, by rw [hU], va_P.he hU.symm hPc, va_K.moved hW.alike hKc, hDc.weaken (fun _ _ _ _ => trivial)⟩⟩ rfl rfl hl.1 rfl (lv_room (Nat.le_of_ble_eq_true rfl)) d_CO_writeExports_72 ⟨(Nat.zero_le _), (Nat.zero_le _)⟩) hS (fun q _ h => hFc q h) hFc (fun u t H1 locs ht hvm hw hB hz1 hk1 hS => ?_)
    obtain ⟨n28, f29⟩ := u
    try dsimp only at hw
    obtain ⟨tn28, bn28⟩ := hw
    obtain ⟨hP1, hK1, hD1⟩ := hB
    replace hP1 := va_P.he ht hP1
    obtain ⟨hP, hD⟩ := va_join (wr := [(h0, .inr (2, [.ref pr, .ref kn, .ref lt, .int h0_localCount, .ref pe, .int h0_pendingCount, .int h0_gives, .int h0_depth, .int h0_loopDepth, .ref to, .ref bo, .ref cs, .ref se])), (pr, .inr (6, [.ref gl, .ref fu, .ref pa, .ref pf, .ref sf, .ref pk, .ref pg, .ref pp, .ref pz, .ref pv, .int pr_reason, .int pr_place, .ref pr_scanner_r, .int pr_stepCount, .int pr_open, .int pr_twoSides, .ref pr_waiting_r, .ref pr_waitingPlaces_r, .int pr_waitingCount])), (kn, .inr (5, [.ref tr, .ref kns, .ref knz, .ref knt, .ref knv, .int kn_length])), (fu, .inr (5, [.ref tr, .ref fus, .ref fuz, .ref fut, .ref fuv, .int fu_length])), (fus, .inl (cfus, 20, .inl gfus)), (fuz, .inl (cfuz, 20, .inl gfuz)), (ow, .inr (1, [.ref owb, .int ow_length])), (owb, .inl (cowb, 8192, .inl gowb))]) (w1 := (wz_231 se seb n28 seb cseb f29 tr tx tr_length tx ctx gtx)) hP hD [10, 11, 3, 4] [0, 1, 2, 5, 6, 7, 8, 9] rfl rfl (by decide) (by decide) hk1 hFc hP1 hD1
    clear hPc hDc hKc hFc hz1 hk1 hP1 hK1 hD1
    rename Heap => H
    have hP : va_P (dC, dI) cls [(h0, .inr (2, [.ref pr, .ref kn, .ref lt, .int h0_localCount, .ref pe, .int h0_pendingCount, .int h0_gives, .int h0_depth, .int h0_loopDepth, .ref to, .ref bo, .ref cs, .ref se])), (pr, .inr (6, [.ref gl, .ref fu, .ref pa, .ref pf, .ref sf, .ref pk, .ref pg, .ref pp, .ref pz, .ref pv, .int pr_reason, .int pr_place, .ref pr_scanner_r, .int pr_stepCount, .int pr_open, .int pr_twoSides, .ref pr_waiting_r, .ref pr_waitingPlaces_r, .int pr_waitingCount])), (kn, .inr (5, [.ref tr, .ref kns, .ref knz, .ref knt, .ref knv, .int kn_length])), (fu, .inr (5, [.ref tr, .ref fus, .ref fuz, .ref fut, .ref fuv, .int fu_length])), (fus, .inl (cfus, 20, .inl gfus)), (fuz, .inl (cfuz, 20, .inl gfuz)), (ow, .inr (1, [.ref owb, .int ow_length])), (owb, .inl (cowb, 8192, .inl gowb)), (se, .inr (1, [.ref seb, .int n28])), (seb, .inl (cseb, 8192, .inl f29)), (tr, .inr (1, [.ref tx, .int tr_length])), (tx, .inl (ctx, 2000, .inl gtx))] H := hP
    have hD : va_D A [(h0, .inr (2, [.ref pr, .ref kn, .ref lt, .int h0_localCount, .ref pe, .int h0_pendingCount, .int h0_gives, .int h0_depth, .int h0_loopDepth, .ref to, .ref bo, .ref cs, .ref se])), (pr, .inr (6, [.ref gl, .ref fu, .ref pa, .ref pf, .ref sf, .ref pk, .ref pg, .ref pp, .ref pz, .ref pv, .int pr_reason, .int pr_place, .ref pr_scanner_r, .int pr_stepCount, .int pr_open, .int pr_twoSides, .ref pr_waiting_r, .ref pr_waitingPlaces_r, .int pr_waitingCount])), (kn, .inr (5, [.ref tr, .ref kns, .ref knz, .ref knt, .ref knv, .int kn_length])), (fu, .inr (5, [.ref tr, .ref fus, .ref fuz, .ref fut, .ref fuv, .int fu_length])), (fus, .inl (cfus, 20, .inl gfus)), (fuz, .inl (cfuz, 20, .inl gfuz)), (ow, .inr (1, [.ref owb, .int ow_length])), (owb, .inl (cowb, 8192, .inl gowb)), (se, .inr (1, [.ref seb, .int n28])), (seb, .inl (cseb, 8192, .inl f29)), (tr, .inr (1, [.ref tx, .int tr_length])), (tx, .inl (ctx, 2000, .inl gtx))] := hD
    refine lv_aload_n hx hb d_CO_writeExports_75 rfl (lv_at hl 0 rfl) ?_
    refine va_get (D := (dC, dI)) (ci := 2) (v := .ref se) (C := R_CO) (T := F_CO) (N := 13) hx hb hts i_CO hown hK hP 0 rfl rfl 12 (by decide) (hts _ kF_CO_33) (fun _ h9 => h9) rfl d_CO_writeExports_76 ?_
    refine lv_iconst (v := 0) hx hb d_CO_writeExports_79 (by decide) ?_
    have hPc := hP.sb (wq := (wz_94 se seb n28 seb cseb f29)) [8, 9] rfl
    have hDc := hD.sb (wq := (wz_94 se seb n28 seb cseb f29)) [8, 9] (by decide) rfl
    have hKc := hK.sb (tyq := [(cseb, .byte)]) [0] rfl
    have hFc := va_free (wc := (wz_94 se seb n28 seb cseb f29)) hD hS hA [8, 9] rfl
    refine va_callv (va_runV (As := [.int 0]) (rest := []) ⟨hx, hb, hml, hown, hts⟩ (c_BR_put l dC dI se seb H.size cseb 8192 n28 f29 (by (first | (apply Int.le_antisymm <;> omega) | omega)) (by (first | (apply Int.le_antisymm <;> omega) | omega)) (by (first | (apply Int.le_antisymm <;> omega) | omega)) 0) (cwV 1 hts (gV kM_CO_76 kV_BR_put kS_BR_put kI_BR kC_BR_put) rfl rfl rfl (by decide +kernel) ⟨Nat.le_of_ble_eq_true rfl, Nat.le_of_ble_eq_true rfl⟩) ⟨fun a U g mk z => by obtain ⟨z0, z1, zP, zK, zD⟩ := z; exact ⟨z0, z1, zP, va_K.moved (u := U) (U := U.calling g mk a) (Vm.Alike.refl U.vm) zK, zD⟩, va_recv hKc hPc (ci := 1) (q0 := 0) rfl rfl, fun U hU hW => ⟨rfl, by rw [hU], va_P.he hU.symm hPc, va_K.moved hW.alike hKc, hDc.weaken (fun _ _ _ _ => trivial)⟩⟩ rfl rfl hl.1 rfl (lv_room (Nat.le_of_ble_eq_true rfl)) d_CO_writeExports_80 ⟨(Nat.zero_le _), (Nat.zero_le _)⟩) hS (fun q _ h => hFc q h) hFc (fun u t H1 locs ht hvm hw hB hz1 hk1 hS => ?_)
    obtain ⟨n31, f32⟩ := u
    try dsimp only at hw
    have tn31 := br_put_in (by (first | (apply Int.le_antisymm <;> omega) | omega)) (by (first | (apply Int.le_antisymm <;> omega) | omega)) (by (first | (apply Int.le_antisymm <;> omega) | omega)) hw
    have bn31 := br_put_bl (by (first | (apply Int.le_antisymm <;> omega) | omega)) (by (first | (apply Int.le_antisymm <;> omega) | omega)) (by (first | (apply Int.le_antisymm <;> omega) | omega)) hw
    obtain ⟨hP1, hK1, hD1⟩ := hB
    replace hP1 := va_P.he ht hP1
    obtain ⟨hP, hD⟩ := va_join (wr := [(h0, .inr (2, [.ref pr, .ref kn, .ref lt, .int h0_localCount, .ref pe, .int h0_pendingCount, .int h0_gives, .int h0_depth, .int h0_loopDepth, .ref to, .ref bo, .ref cs, .ref se])), (pr, .inr (6, [.ref gl, .ref fu, .ref pa, .ref pf, .ref sf, .ref pk, .ref pg, .ref pp, .ref pz, .ref pv, .int pr_reason, .int pr_place, .ref pr_scanner_r, .int pr_stepCount, .int pr_open, .int pr_twoSides, .ref pr_waiting_r, .ref pr_waitingPlaces_r, .int pr_waitingCount])), (kn, .inr (5, [.ref tr, .ref kns, .ref knz, .ref knt, .ref knv, .int kn_length])), (fu, .inr (5, [.ref tr, .ref fus, .ref fuz, .ref fut, .ref fuv, .int fu_length])), (fus, .inl (cfus, 20, .inl gfus)), (fuz, .inl (cfuz, 20, .inl gfuz)), (ow, .inr (1, [.ref owb, .int ow_length])), (owb, .inl (cowb, 8192, .inl gowb)), (tr, .inr (1, [.ref tx, .int tr_length])), (tx, .inl (ctx, 2000, .inl gtx))]) (w1 := (wz_94 se seb n31 seb cseb f32)) hP hD [8, 9] [0, 1, 2, 3, 4, 5, 6, 7, 10, 11] rfl rfl (by decide) (by decide) hk1 hFc hP1 hD1
    clear hPc hDc hKc hFc hz1 hk1 hP1 hK1 hD1
    rename Heap => H
    have hP : va_P (dC, dI) cls (wz_232 h0 pr kn lt h0_localCount pe h0_pendingCount h0_gives h0_depth h0_loopDepth to bo cs se pr gl fu pa pf sf pk pg pp pz pv pr_reason pr_place pr_scanner_r pr_stepCount pr_open pr_twoSides pr_waiting_r pr_waitingPlaces_r pr_waitingCount kn tr kns knz knt knv kn_length fu tr fus fuz fut fuv fu_length fus cfus gfus fuz cfuz gfuz ow owb ow_length owb cowb gowb tr tx tr_length tx ctx gtx se seb n31 seb cseb f32) H := hP
    have hD : va_D A (wz_232 h0 pr kn lt h0_localCount pe h0_pendingCount h0_gives h0_depth h0_loopDepth to bo cs se pr gl fu pa pf sf pk pg pp pz pv pr_reason pr_place pr_scanner_r pr_stepCount pr_open pr_twoSides pr_waiting_r pr_waitingPlaces_r pr_waitingCount kn tr kns knz knt knv kn_length fu tr fus fuz fut fuv fu_length fus cfus gfus fuz cfuz gfuz ow owb ow_length owb cowb gowb tr tx tr_length tx ctx gtx se seb n31 seb cseb f32) := hD
    refine lv_aload_n hx hb d_CO_writeExports_83 rfl (lv_at hl 0 rfl) ?_
    refine va_get (D := (dC, dI)) (ci := 2) (v := .ref se) (C := R_CO) (T := F_CO) (N := 13) hx hb hts i_CO hown hK hP 0 rfl rfl 12 (by decide) (hts _ kF_CO_33) (fun _ h9 => h9) rfl d_CO_writeExports_84 ?_
    refine lv_iload_n hx hb d_CO_writeExports_87 rfl (lv_at hl 3 rfl) ?_
    have hPc := hP.sb (wq := (wz_94 se seb n31 seb cseb f32)) [10, 11] rfl
    have hDc := hD.sb (wq := (wz_94 se seb n31 seb cseb f32)) [10, 11] (by decide) rfl
    have hKc := hK.sb (tyq := [(cseb, .byte)]) [0] rfl
    have hFc := va_free (wc := (wz_94 se seb n31 seb cseb f32)) hD hS hA [10, 11] rfl
    refine va_callv (va_runV (As := [.int j31_l3]) (rest := []) ⟨hx, hb, hml, hown, hts⟩ (c_BR_putUnsigned l dC dI se seb H.size cseb 8192 n31 f32 (by (first | (apply Int.le_antisymm <;> omega) | omega)) (by (first | (apply Int.le_antisymm <;> omega) | omega)) (by (first | (apply Int.le_antisymm <;> omega) | omega)) j31_l3 (by (first | (apply Int.le_antisymm <;> omega) | omega))) (cwV 1 hts (gV kM_CO_218 kV_BR_putUnsigned kS_BR_putUnsigned kI_BR kC_BR_putUnsigned) rfl rfl rfl (by decide +kernel) ⟨Nat.le_of_ble_eq_true rfl, Nat.le_of_ble_eq_true rfl⟩) ⟨fun a U g mk z => by obtain ⟨z0, z1, zP, zK, zD⟩ := z; exact ⟨z0, z1, zP, va_K.moved (u := U) (U := U.calling g mk a) (Vm.Alike.refl U.vm) zK, zD⟩, va_recv hKc hPc (ci := 1) (q0 := 0) rfl rfl, fun U hU hW => ⟨rfl, by rw [hU], va_P.he hU.symm hPc, va_K.moved hW.alike hKc, hDc.weaken (fun _ _ _ _ => trivial)⟩⟩ rfl rfl hl.1 rfl (lv_room (Nat.le_of_ble_eq_true rfl)) d_CO_writeExports_88 ⟨(Nat.zero_le _), (Nat.zero_le _)⟩) hS (fun q _ h => hFc q h) hFc (fun u t H1 locs ht hvm hw hB hz1 hk1 hS => ?_)
    obtain ⟨n34, f35⟩ := u
    try dsimp only at hw
    obtain ⟨tn34, bn34⟩ := hw
    have ln34 := leb_len 5 (un j31_l3)
    obtain ⟨hP1, hK1, hD1⟩ := hB
    replace hP1 := va_P.he ht hP1
    obtain ⟨hP, hD⟩ := va_join (wr := [(h0, .inr (2, [.ref pr, .ref kn, .ref lt, .int h0_localCount, .ref pe, .int h0_pendingCount, .int h0_gives, .int h0_depth, .int h0_loopDepth, .ref to, .ref bo, .ref cs, .ref se])), (pr, .inr (6, [.ref gl, .ref fu, .ref pa, .ref pf, .ref sf, .ref pk, .ref pg, .ref pp, .ref pz, .ref pv, .int pr_reason, .int pr_place, .ref pr_scanner_r, .int pr_stepCount, .int pr_open, .int pr_twoSides, .ref pr_waiting_r, .ref pr_waitingPlaces_r, .int pr_waitingCount])), (kn, .inr (5, [.ref tr, .ref kns, .ref knz, .ref knt, .ref knv, .int kn_length])), (fu, .inr (5, [.ref tr, .ref fus, .ref fuz, .ref fut, .ref fuv, .int fu_length])), (fus, .inl (cfus, 20, .inl gfus)), (fuz, .inl (cfuz, 20, .inl gfuz)), (ow, .inr (1, [.ref owb, .int ow_length])), (owb, .inl (cowb, 8192, .inl gowb)), (tr, .inr (1, [.ref tx, .int tr_length])), (tx, .inl (ctx, 2000, .inl gtx))]) (w1 := (wz_94 se seb n34 seb cseb f35)) hP hD [10, 11] [0, 1, 2, 3, 4, 5, 6, 7, 8, 9] rfl rfl (by decide) (by decide) hk1 hFc hP1 hD1
    clear hPc hDc hKc hFc hz1 hk1 hP1 hK1 hD1
    rename Heap => H
    have hP : va_P (dC, dI) cls (wz_232 h0 pr kn lt h0_localCount pe h0_pendingCount h0_gives h0_depth h0_loopDepth to bo cs se pr gl fu pa pf sf pk pg pp pz pv pr_reason pr_place pr_scanner_r pr_stepCount pr_open pr_twoSides pr_waiting_r pr_waitingPlaces_r pr_waitingCount kn tr kns knz knt knv kn_length fu tr fus fuz fut fuv fu_length fus cfus gfus fuz cfuz gfuz ow owb ow_length owb cowb gowb tr tx tr_length tx ctx gtx se seb n34 seb cseb f35) H := hP
    have hD : va_D A (wz_232 h0 pr kn lt h0_localCount pe h0_pendingCount h0_gives h0_depth h0_loopDepth to bo cs se pr gl fu pa pf sf pk pg pp pz pv pr_reason pr_place pr_scanner_r pr_stepCount pr_open pr_twoSides pr_waiting_r pr_waitingPlaces_r pr_waitingCount kn tr kns knz knt knv kn_length fu tr fus fuz fut fuv fu_length fus cfus gfus fuz cfuz gfuz ow owb ow_length owb cowb gowb tr tx tr_length tx ctx gtx se seb n34 seb cseb f35) := hD
    have lj31_l3 := congrArg List.length (leb_s (x := j31_l3) (by (first | (apply Int.le_antisymm <;> omega) | omega)) (by (first | (apply Int.le_antisymm <;> omega) | omega)))
    rw [List.length_singleton] at lj31_l3
    obtain ⟨x36, ex36⟩ : ∃ z : Int32, z = j31_l3 + 1 := ⟨_, rfl⟩
    have tx36 : x36.toInt = j31_l3.toInt + 1 := by have z := i32_add ex36 (by (first | (apply Int.le_antisymm <;> omega) | omega)) (by (first | (apply Int.le_antisymm <;> omega) | omega)); first | exact z | (first | (apply Int.le_antisymm <;> omega) | omega)
    refine lv_iinc (v := x36) (lv' := [(3, .int x36), (0, .ref h0), (1, .ref ow), (2, .ref fu)]) hx hb d_CO_writeExports_91 hl (k := 3) rfl (by rw [ex36]; rfl) (by decide) rfl (fun ls hl => ?_)
    refine lv_goto (tgt := 31) hx hb d_CO_writeExports_94 (by decide) ?_
    exact ih31 (x36, f35, n34) _ _ _ (by show (fu_length.toInt - x36.toInt).toNat < N31; (first | (apply Int.le_antisymm <;> omega) | omega)) ⟨by (try dsimp only) <;> (first | (apply Int.le_antisymm <;> omega) | omega), by (try dsimp only) <;> (first | (apply Int.le_antisymm <;> omega) | omega), (by obtain ⟨L, y1, y2, y3, y4, y5⟩ := hX; have ln : (((bl gtx tr_length.toNatClampNeg).drop x25.toNatClampNeg).take x26.toNatClampNeg).length = x26.toInt.toNat := (by rw [List.length_take, List.length_drop, bl_len]; have := i32_clamp (x := tr_length) (by (first | (apply Int.le_antisymm <;> omega) | omega)); have := i32_clamp (x := x25) (by (first | (apply Int.le_antisymm <;> omega) | omega)); have := i32_clamp (x := x26) (by (first | (apply Int.le_antisymm <;> omega) | omega)); (first | (apply Int.le_antisymm <;> omega) | omega)); refine ⟨L ++ [(((bl gtx tr_length.toNatClampNeg).drop x25.toNatClampNeg).take x26.toNatClampNeg)], by rw [List.length_append, List.length_singleton]; (first | (apply Int.le_antisymm <;> omega) | omega), fun y hy => ?_, ?_, ?_, ?_⟩; (rcases List.mem_append.mp hy with q | q; exact y2 y q; (rw [List.mem_singleton.mp q, ln]; (first | (apply Int.le_antisymm <;> omega) | omega))); (rw [bn34, bn31 (by (first | (apply Int.le_antisymm <;> omega) | omega)), bn28, bn23, leb_s (x := x21) (by (first | (apply Int.le_antisymm <;> omega) | omega)) (by (first | (apply Int.le_antisymm <;> omega) | omega)), leb_s (x := j31_l3) (by (first | (apply Int.le_antisymm <;> omega) | omega)) (by (first | (apply Int.le_antisymm <;> omega) | omega)), y3, xl_snoc, ln, show x21.toInt = x26.toInt from by (first | (apply Int.le_antisymm <;> omega) | omega), show 0 + L.length = j31_l3.toInt.toNat from by (first | (apply Int.le_antisymm <;> omega) | omega)]; simp only [List.append_assoc, List.cons_append]; rfl); (rw [xl_snoc, List.length_append, List.length_cons, List.length_append, ln]; simp only [List.length_cons, List.length_nil]; (first | (apply Int.le_antisymm <;> omega) | omega)); (rw [xl_snoc, List.length_append, List.length_cons, List.length_append, ln, show x36.toNatClampNeg = j31_l3.toNatClampNeg + 1 from clampN (by have := i32_clamp (x := j31_l3) (by (first | (apply Int.le_antisymm <;> omega) | omega)); (first | (apply Int.le_antisymm <;> omega) | omega)), show zS gfuz (j31_l3.toNatClampNeg + 1) = zS gfuz j31_l3.toNatClampNeg + (gfuz j31_l3.toNatClampNeg).toInt from rfl, ← ex21]; simp only [List.length_cons, List.length_nil]; (first | (apply Int.le_antisymm <;> omega) | omega))), hP.sub [0, 1, 2, 8, 9, 3, 4, 5, 6, 7, 10, 11] rfl, hD.sub [0, 1, 2, 8, 9, 3, 4, 5, 6, 7, 10, 11] (by decide) rfl, hS, lv_sub hl [1, 2, 3, 0] rfl⟩
end q_83

section q_09
/-! Reader: locals -/
theorem upd_ty {g : Nat → Int32} {a b c : Int} {k : Nat} {v : Int32} (h : ∀ j : Nat, a ≤ (j : Int) → (j : Int) < b → (g j).toInt = 127 ∨ (g j).toInt = 126) (hv : v.toInt = 127 ∨ v.toInt = 126) (hk : (k : Int) = b) (hc : c ≤ b + 1) : ∀ j : Nat, a ≤ (j : Int) → (j : Int) < c → (upd g k v j).toInt = 127 ∨ (upd g k v j).toInt = 126 := by
  intro j h1 h2
  by_cases e : j = k
  · rw [e, pk_us]
    exact hv
  · rw [pk_un e]
    exact h j h1 (by (first | (apply Int.le_antisymm <;> omega) | omega))
theorem upd_off {g g0 : Nat → Int32} {a b : Int} {k : Nat} {v : Int32} (h : ∀ j : Nat, ((j : Int) < a ∨ b ≤ (j : Int)) → g j = g0 j) (hk : a ≤ (k : Int) ∧ (k : Int) < b) : ∀ j : Nat, ((j : Int) < a ∨ b ≤ (j : Int)) → upd g k v j = g0 j := by
  intro j h1
  have e : j ≠ k := by (first | (apply Int.le_antisymm <;> omega) | omega)
  rw [pk_un e]
  exact h j h1
abbrev b_RE_readLocals : ByteArray := prog_9_method_9_code
def y_RE_readLocals : MethodName := ⟨R_RE, "readLocals", "(I)V"⟩
abbrev w_RE_readLocals : List Cond := .code y_RE_readLocals b_RE_readLocals 8 none :: lw_g
theorem kC_RE_readLocals : Cond.code y_RE_readLocals b_RE_readLocals 8 none ∈ lw_g := in_c6 135 rfl rfl
theorem d_RE_readLocals_0 : decode b_RE_readLocals 0 = .ok (.iconst 0, 1) := bz_c3 (by decide +kernel)
theorem d_RE_readLocals_1 : decode b_RE_readLocals 1 = .ok (.istore_n 2, 1) := bz_c61 (by decide +kernel)
theorem d_RE_readLocals_2 : decode b_RE_readLocals 2 = .ok (.aload_n 0, 1) := bz_c42 (by decide +kernel)
theorem d_RE_readLocals_3 : decode b_RE_readLocals 3 = .ok (.ldc2_w 186, 3) := bz_c20 (by decide +kernel)
theorem d_RE_readLocals_6 : decode b_RE_readLocals 6 = .ok (.invokevirtual 64, 3) := bz_c182 (by decide +kernel)
theorem d_RE_readLocals_9 : decode b_RE_readLocals 9 = .ok (.l2i, 1) := bz_c136 (by decide +kernel)
theorem d_RE_readLocals_10 : decode b_RE_readLocals 10 = .ok (.istore_n 3, 1) := bz_c62 (by decide +kernel)
theorem d_RE_readLocals_11 : decode b_RE_readLocals 11 = .ok (.iconst 0, 1) := bz_c3 (by decide +kernel)
theorem d_RE_readLocals_12 : decode b_RE_readLocals 12 = .ok (.istore 4, 2) := bz_c54 (by decide +kernel)
theorem d_RE_readLocals_14 : decode b_RE_readLocals 14 = .ok (.iload 4, 2) := bz_c21 (by decide +kernel)
theorem d_RE_readLocals_16 : decode b_RE_readLocals 16 = .ok (.iload_n 3, 1) := bz_c29 (by decide +kernel)
theorem d_RE_readLocals_17 : decode b_RE_readLocals 17 = .ok (.if_icmp .ge 74, 3) := bz_c162 (by decide +kernel)
theorem d_RE_readLocals_20 : decode b_RE_readLocals 20 = .ok (.aload_n 0, 1) := bz_c42 (by decide +kernel)
theorem d_RE_readLocals_21 : decode b_RE_readLocals 21 = .ok (.getfield 45, 3) := bz_c180 (by decide +kernel)
theorem d_RE_readLocals_24 : decode b_RE_readLocals 24 = .ok (.ifCond .eq 67, 3) := bz_c153 (by decide +kernel)
theorem d_RE_readLocals_27 : decode b_RE_readLocals 27 = .ok (.aload_n 0, 1) := bz_c42 (by decide +kernel)
theorem d_RE_readLocals_28 : decode b_RE_readLocals 28 = .ok (.bipush 60, 2) := bz_c16 (by decide +kernel)
theorem d_RE_readLocals_30 : decode b_RE_readLocals 30 = .ok (.iload_n 2, 1) := bz_c28 (by decide +kernel)
theorem d_RE_readLocals_31 : decode b_RE_readLocals 31 = .ok (.isub, 1) := bz_c100 (by decide +kernel)
theorem d_RE_readLocals_32 : decode b_RE_readLocals 32 = .ok (.i2l, 1) := bz_c133 (by decide +kernel)
theorem d_RE_readLocals_33 : decode b_RE_readLocals 33 = .ok (.invokevirtual 64, 3) := bz_c182 (by decide +kernel)
theorem d_RE_readLocals_36 : decode b_RE_readLocals 36 = .ok (.l2i, 1) := bz_c136 (by decide +kernel)
theorem d_RE_readLocals_37 : decode b_RE_readLocals 37 = .ok (.istore 5, 2) := bz_c54 (by decide +kernel)
theorem d_RE_readLocals_39 : decode b_RE_readLocals 39 = .ok (.aload_n 0, 1) := bz_c42 (by decide +kernel)
theorem d_RE_readLocals_40 : decode b_RE_readLocals 40 = .ok (.invokevirtual 109, 3) := bz_c182 (by decide +kernel)
theorem d_RE_readLocals_43 : decode b_RE_readLocals 43 = .ok (.istore 6, 2) := bz_c54 (by decide +kernel)
theorem d_RE_readLocals_45 : decode b_RE_readLocals 45 = .ok (.iconst 0, 1) := bz_c3 (by decide +kernel)
theorem d_RE_readLocals_46 : decode b_RE_readLocals 46 = .ok (.istore 7, 2) := bz_c54 (by decide +kernel)
theorem d_RE_readLocals_48 : decode b_RE_readLocals 48 = .ok (.iload 7, 2) := bz_c21 (by decide +kernel)
theorem d_RE_readLocals_50 : decode b_RE_readLocals 50 = .ok (.iload 5, 2) := bz_c21 (by decide +kernel)
theorem d_RE_readLocals_52 : decode b_RE_readLocals 52 = .ok (.if_icmp .ge 28, 3) := bz_c162 (by decide +kernel)
theorem d_RE_readLocals_55 : decode b_RE_readLocals 55 = .ok (.aload_n 0, 1) := bz_c42 (by decide +kernel)
theorem d_RE_readLocals_56 : decode b_RE_readLocals 56 = .ok (.getfield 25, 3) := bz_c180 (by decide +kernel)
theorem d_RE_readLocals_59 : decode b_RE_readLocals 59 = .ok (.getfield 188, 3) := bz_c180 (by decide +kernel)
theorem d_RE_readLocals_62 : decode b_RE_readLocals 62 = .ok (.iload_n 1, 1) := bz_c27 (by decide +kernel)
theorem d_RE_readLocals_63 : decode b_RE_readLocals 63 = .ok (.bipush 60, 2) := bz_c16 (by decide +kernel)
theorem d_RE_readLocals_65 : decode b_RE_readLocals 65 = .ok (.imul, 1) := bz_c104 (by decide +kernel)
theorem d_RE_readLocals_66 : decode b_RE_readLocals 66 = .ok (.iload_n 2, 1) := bz_c28 (by decide +kernel)
theorem d_RE_readLocals_67 : decode b_RE_readLocals 67 = .ok (.iadd, 1) := bz_c96 (by decide +kernel)
theorem d_RE_readLocals_68 : decode b_RE_readLocals 68 = .ok (.iload 7, 2) := bz_c21 (by decide +kernel)
theorem d_RE_readLocals_70 : decode b_RE_readLocals 70 = .ok (.iadd, 1) := bz_c96 (by decide +kernel)
theorem d_RE_readLocals_71 : decode b_RE_readLocals 71 = .ok (.iload 6, 2) := bz_c21 (by decide +kernel)
theorem d_RE_readLocals_73 : decode b_RE_readLocals 73 = .ok (.iastore, 1) := bz_c79 (by decide +kernel)
theorem d_RE_readLocals_74 : decode b_RE_readLocals 74 = .ok (.iinc 7 1, 3) := by decide +kernel
theorem d_RE_readLocals_77 : decode b_RE_readLocals 77 = .ok (.goto (-29), 3) := bz_c167 (by decide +kernel)
theorem d_RE_readLocals_80 : decode b_RE_readLocals 80 = .ok (.iload_n 2, 1) := bz_c28 (by decide +kernel)
theorem d_RE_readLocals_81 : decode b_RE_readLocals 81 = .ok (.iload 5, 2) := bz_c21 (by decide +kernel)
theorem d_RE_readLocals_83 : decode b_RE_readLocals 83 = .ok (.iadd, 1) := bz_c96 (by decide +kernel)
theorem d_RE_readLocals_84 : decode b_RE_readLocals 84 = .ok (.istore_n 2, 1) := bz_c61 (by decide +kernel)
theorem d_RE_readLocals_85 : decode b_RE_readLocals 85 = .ok (.iinc 4 1, 3) := by decide +kernel
theorem d_RE_readLocals_88 : decode b_RE_readLocals 88 = .ok (.goto (-74), 3) := bz_c167 (by decide +kernel)
theorem d_RE_readLocals_91 : decode b_RE_readLocals 91 = .ok (.aload_n 0, 1) := bz_c42 (by decide +kernel)
theorem d_RE_readLocals_92 : decode b_RE_readLocals 92 = .ok (.getfield 25, 3) := bz_c180 (by decide +kernel)
theorem d_RE_readLocals_95 : decode b_RE_readLocals 95 = .ok (.getfield 191, 3) := bz_c180 (by decide +kernel)
theorem d_RE_readLocals_98 : decode b_RE_readLocals 98 = .ok (.iload_n 1, 1) := bz_c27 (by decide +kernel)
theorem d_RE_readLocals_99 : decode b_RE_readLocals 99 = .ok (.iload_n 2, 1) := bz_c28 (by decide +kernel)
theorem d_RE_readLocals_100 : decode b_RE_readLocals 100 = .ok (.iastore, 1) := bz_c79 (by decide +kernel)
theorem d_RE_readLocals_101 : decode b_RE_readLocals 101 = .ok (.return_, 1) := bz_c177 (by decide +kernel)
theorem kL_RE_186 : Cond.constantLong R_RE 186 (60) ∈ lw_g := in_c6 136 rfl rfl
theorem kF_RE_191 : Cond.fieldLink R_RE 191 "WaferForge$Codes" "localCounts" "[I" ∈ lw_g := in_c1 89 rfl rfl
theorem kM_RE_109 : Cond.methodLink R_RE 109 y_RE_readType ∈ lw_g := in_c6 99 rfl rfl
theorem kV_RE_readType : Cond.instanceMethod y_RE_readType ∈ lw_g := in_c6 101 rfl rfl
theorem kS_RE_readType : Cond.selects R_RE y_RE_readType y_RE_readType ∈ lw_g := in_s 66 (by decide +kernel) rfl
theorem kF_RE_188 : Cond.fieldLink R_RE 188 "WaferForge$Codes" "localTypes" "[I" ∈ lw_g := in_c1 93 rfl rfl
abbrev at_RE_readLocals (dC : Nat → ClassId) (dI : Nat → Nat → Nat) (h0 aw ac ao ab ax : Nat) (lim cc : Int32) (cB : ClassId) (n : Nat) (len : Int32) (f : Nat → Int32) (wf : List Value) (afi alk alt aop ava apt ael alb : Nat) (clt : ClassId) (clk : ClassId) (A : Nat → Prop) (u : Int32 × Int32 × Int32 × Int32 × Int32 × (Nat → Int32) × (Nat → Int32)) (t : State) : Prop := match u with
  | (pa, snd, oc, cl, lc, glt, glk) => va_P (dC, dI) cls (wz_13 h0 aw ac pa lim snd cc ao oc aw wf ab ax len ax cB n f ac afi alk alt cl aop ava apt ael lc alb alt clt glt alk clk glk) t.heap ∧ va_K (dC, dI) cls [(cB, .byte), (clt, .int), (clk, .int)] t ∧ va_D A (wz_13 h0 aw ac pa lim snd cc ao oc aw wf ab ax len ax cB n f ac afi alk alt cl aop ava apt ael lc alb alt clt glt alk clk glk)
set_option maxHeartbeats 4000000 in
set_option maxRecDepth 100000 in
theorem c_RE_readLocals (l : Launch) (dC : Nat → ClassId) (dI : Nat → Nat → Nat) (sz : Nat) (h0 aw ac ao ab ax : Nat) (lim cc : Int32) (cB : ClassId) (n : Nat) (len : Int32) (f : Nat → Int32) (wf : List Value) (pwf : wf[0]? = some (.ref ab)) (pwl : wf.length = 21) (afi alk alt aop ava apt ael alb : Nat) (clt : ClassId) (clk : ClassId) (pa : Int32) (snd : Int32) (oc : Int32) (cl : Int32) (lc : Int32) (glt : Nat → Int32) (glk : Nat → Int32) (hs : snd = 0 ∨ snd = 1) (ho : 0 ≤ oc.toInt ∧ oc.toInt ≤ 100) (ha : 0 ≤ pa.toInt ∧ pa.toInt ≤ lim.toInt ∧ lim.toInt ≤ len.toInt ∧ len.toInt ≤ n ∧ n < 2147483648) (p0 : Int32) (hp : 0 ≤ p0.toInt ∧ p0.toInt < 30) : Met l y_RE_readLocals w_RE_readLocals ({ frames := 2, cells := 0, slots := 0, locals := 46 }) (va_Pc [.ref h0, .int p0] (fun U => U.heap.size = sz ∧ va_P (dC, dI) cls (wz_13 h0 aw ac pa lim snd cc ao oc aw wf ab ax len ax cB n f ac afi alk alt cl aop ava apt ael lc alb alt clt glt alk clk glk) U.heap ∧ va_K (dC, dI) cls [(cB, .byte), (clt, .int), (clk, .int)] U ∧ va_D (fun _ => True) (wz_13 h0 aw ac pa lim snd cc ao oc aw wf ab ax len ax cB n f ac afi alk alt cl aop ava apt ael lc alb alt clt glt alk clk glk))) (va_Qv (fun (u : Int32 × Int32 × Int32 × Int32 × Int32 × (Nat → Int32) × (Nat → Int32)) => match u with | (pa2, snd2, oc2, cl2, lc2, glt2, glk2) => (snd2 = 0 ∨ snd2 = 1) ∧ pa.toInt ≤ pa2.toInt ∧ pa2.toInt ≤ lim.toInt ∧ oc = oc2 ∧ cl = cl2 ∧ lc = lc2 ∧ (∀ j : Nat, ((j : Int) < 60 * p0.toInt ∨ 60 * p0.toInt + 60 ≤ (j : Int)) → glt2 j = glt j) ∧ (snd2.toInt = 1 → snd.toInt = 1 ∧ pa.toInt < pa2.toInt) ∧ ∃ t : Int32, 0 ≤ t.toInt ∧ t.toInt ≤ 60 ∧ glk2 = upd glk p0.toNatClampNeg t ∧ (snd2.toInt = 1 → ∀ j : Nat, 60 * p0.toInt ≤ (j : Int) → (j : Int) < 60 * p0.toInt + t.toInt → (glt2 j).toInt = 127 ∨ (glt2 j).toInt = 126)) (at_RE_readLocals dC dI h0 aw ac ao ab ax lim cc cB n len f wf afi alk alt aop ava apt ael alb clt clk (va_A (wz_13 h0 aw ac pa lim snd cc ao oc aw wf ab ax len ax cB n f ac afi alk alt cl aop ava apt ael lc alb alt clt glt alk clk glk) sz)) (va_A (wz_13 h0 aw ac pa lim snd cc ao oc aw wf ab ax len ax cB n f ac afi alk alt cl aop ava apt ael lc alb alt clt glt alk clk glk) sz)) 0 0 (va_A (wz_13 h0 aw ac pa lim snd cc ao oc aw wf ab ax len ax cB n f ac afi alk alt cl aop ava apt ael lc alb alt clt glt alk clk glk) sz) := by
  refine Met.ofW (cc := b_RE_readLocals) (maxL := 8) (ret := none) (by decide) rfl ?_
  intro p e s m args below meth c s₁ B hml hv
  obtain ⟨rfl, hsz, hP, hK, hD0⟩ := hv
  have hx := B.exec
  have hb := B.bytes
  have hr := B.returns
  have hts0 := atoms_spec (ws := w_RE_readLocals) B.pre
  have hts : ∀ w ∈ lw_g, w.before _ s = true := fun w h => hts0 w (List.mem_cons_of_mem _ h)
  have hown : s.vm.findClass R_RE = some m.cls := findClass_of_methodNamed B.named
  have hlocks := B.notSynchronized
  clear hts0
  subst hsz
  have hD := hD0.self (sz := s.heap.size)
  generalize hAe : va_A (wz_13 h0 aw ac pa lim snd cc ao oc aw wf ab ax len ax cB n f ac afi alk alt cl aop ava apt ael lc alb alt clt glt alk clk glk) s.heap.size = A at hD ⊢
  have hA : ∀ q : Nat, s.heap.size ≤ q → A q := fun q h => by rw [← hAe]; exact Or.inr h
  clear hAe
  have hP : va_P (dC, dI) cls (wz_13 h0 aw ac pa lim snd cc ao oc aw wf ab ax len ax cB n f ac afi alk alt cl aop ava apt ael lc alb alt clt glt alk clk glk) s.heap := hP
  have hl := lv_entry ([.ref h0, .int p0]) (n := 8) (Nat.le_of_ble_eq_true rfl)
  rw [lg_entry_eq]
  generalize (lg_sl ([.ref h0, .int p0]) ++ List.replicate (8 - (lg_sl ([.ref h0, .int p0])).length) Slot.unset).toArray = ls at hl ⊢
  have hl : lv_has ls 8 [(0, .ref h0), (1, .int p0)] := hl
  have k0 : (0 : Int32).toInt = 0 := by decide
  refine w_gen (A := A) hP (fun H locs hP hS => ?_)
  have k1 : (1 : Int32).toInt = 1 := by decide
  have k60 : (60 : Int32).toInt = 60 := by decide
  have lo_p0 := i32_lo p0
  have hi_p0 := i32_hi p0
  have hs0 := b01 hs
  refine lv_iconst (v := 0) hx hb d_RE_readLocals_0 (by decide) ?_
  refine lv_topi (fun x1 ex1 => ?_)
  have tx1 : x1.toInt = 0 := by rw [ex1]; decide
  refine lv_istore_n (lv' := [(2, .int x1), (0, .ref h0), (1, .int p0)]) hx hb d_RE_readLocals_1 rfl hl (by decide) rfl (fun ls hl => ?_)
  refine lv_aload_n hx hb d_RE_readLocals_2 rfl (lv_at hl 1 rfl) ?_
  refine lv_ldc2 hx hb hown (hts _ kL_RE_186) d_RE_readLocals_3 ?_
  refine lv_topl (fun x2 ex2 => ?_)
  have tx2 : x2.toInt = 60 := by rw [ex2]; decide
  have hPc := hP.sb (wq := (wz_1 h0 aw ac pa lim snd cc ao oc aw wf ab ax len ax cB n f)) [0, 1, 2, 3] rfl
  have hDc := hD.sb (wq := (wz_1 h0 aw ac pa lim snd cc ao oc aw wf ab ax len ax cB n f)) [0, 1, 2, 3] (by decide) rfl
  have hKc := hK.sb (tyq := [(cB, .byte)]) [0] rfl
  have hFc := va_free (wc := (wz_1 h0 aw ac pa lim snd cc ao oc aw wf ab ax len ax cB n f)) hD hS hA [0, 1, 2, 3] rfl
  refine va_calll (va_runV (As := [.long x2]) (rest := []) ⟨hx, hb, hml, hown, hts⟩ (c_RE_readUnsigned l dC dI h0 aw ac ao ab ax H.size cB n pa lim snd cc oc len f wf pwf pwl hs (by (first | (apply Int.le_antisymm <;> omega) | omega)) x2 (by (first | (apply Int.le_antisymm <;> omega) | omega))) (cwV 1 hts (gV kM_RE_64 kV_RE_readUnsigned kS_RE_readUnsigned kI_RE kC_RE_readUnsigned) rfl rfl rfl (by decide +kernel) ⟨Nat.le_of_ble_eq_true rfl, Nat.le_of_ble_eq_true rfl⟩) ⟨fun a U g mk z => by obtain ⟨z0, z1, zP, zK, zD⟩ := z; exact ⟨z0, z1, zP, va_K.moved (u := U) (U := U.calling g mk a) (Vm.Alike.refl U.vm) zK, zD⟩, va_recv hKc hPc (ci := 7) (q0 := 0) rfl rfl, fun U hU hW => ⟨rfl, by rw [hU], va_P.he hU.symm hPc, va_K.moved hW.alike hKc, hDc.weaken (fun _ _ _ _ => trivial)⟩⟩ rfl rfl hl.1 rfl (lv_room (Nat.le_of_ble_eq_true rfl)) d_RE_readLocals_6 ⟨(Nat.zero_le _), (Nat.zero_le _)⟩) hS (fun q _ h => hFc q h) hFc (fun r3 u t H1 locs ht hvm hw hB hz1 hk1 hS => ?_)
  obtain ⟨n4, n5⟩ := u
  try dsimp only at hw
  obtain ⟨hsn5, tn4⟩ := hw
  have bsn5 := b01 hsn5
  obtain ⟨hP1, hK1, hD1⟩ := hB
  replace hP1 := va_P.he ht hP1
  obtain ⟨hP, hD⟩ := va_join (wr := (wz_14 ac afi alk alt cl aop ava apt ael lc alb alt clt glt alk clk glk)) (w1 := (wz_1 h0 aw ac n4 lim n5 cc ao oc aw wf ab ax len ax cB n f)) hP hD [0, 1, 2, 3] [4, 5, 6] rfl rfl (by decide) (by decide) hk1 hFc hP1 hD1
  clear hPc hDc hKc hFc hz1 hk1 hP1 hK1 hD1
  rename Heap => H
  have hP : va_P (dC, dI) cls (wz_15 ac afi alk alt cl aop ava apt ael lc alb alt clt glt alk clk glk h0 aw ac n4 lim n5 cc ao oc aw wf ab ax len ax cB n f) H := hP
  have hD : va_D A (wz_15 ac afi alk alt cl aop ava apt ael lc alb alt clt glt alk clk glk h0 aw ac n4 lim n5 cc ao oc aw wf ab ax len ax cB n f) := hD
  refine lv_l2i hx hb d_RE_readLocals_9 rfl ?_
  refine lv_topi (fun x6 ex6 => ?_)
  have tx6 := l2i_t ex6 (by (first | (apply Int.le_antisymm <;> omega) | omega)) (by (first | (apply Int.le_antisymm <;> omega) | omega))
  refine lv_istore_n (lv' := [(3, .int x6), (2, .int x1), (0, .ref h0), (1, .int p0)]) hx hb d_RE_readLocals_10 rfl hl (by decide) rfl (fun ls hl => ?_)
  refine lv_iconst (v := 0) hx hb d_RE_readLocals_11 (by decide) ?_
  refine lv_topi (fun x7 ex7 => ?_)
  have tx7 : x7.toInt = 0 := by rw [ex7]; decide
  refine lv_istore (lv' := [(4, .int x7), (3, .int x6), (2, .int x1), (0, .ref h0), (1, .int p0)]) hx hb d_RE_readLocals_12 hl (by decide) rfl (fun ls hl => ?_)
  refine w_loop (σ := Int32 × Int32 × Int32 × Int32 × (Nat → Int32)) (fun u H locs ls => match u with | (tt, ri, a, sd, g) => (0 ≤ ri.toInt ∧ ri.toInt ≤ x6.toInt) ∧ (0 ≤ tt.toInt ∧ tt.toInt ≤ 60) ∧ (pa.toInt ≤ a.toInt ∧ a.toInt ≤ lim.toInt) ∧ (sd = 0 ∨ sd = 1) ∧ (sd.toInt = 1 → snd.toInt = 1 ∧ pa.toInt < a.toInt) ∧ (sd.toInt = 1 → ∀ j : Nat, 60 * p0.toInt ≤ (j : Int) → (j : Int) < 60 * p0.toInt + tt.toInt → (g j).toInt = 127 ∨ (g j).toInt = 126) ∧ (∀ j : Nat, ((j : Int) < 60 * p0.toInt ∨ 60 * p0.toInt + 60 ≤ (j : Int)) → g j = glt j) ∧ va_P (dC, dI) cls (wz_15 ac afi alk alt cl aop ava apt ael lc alb alt clt g alk clk glk h0 aw ac a lim sd cc ao oc aw wf ab ax len ax cB n f) H ∧ va_D A (wz_15 ac afi alk alt cl aop ava apt ael lc alb alt clt g alk clk glk h0 aw ac a lim sd cc ao oc aw wf ab ax len ax cB n f) ∧ va_S A s.heap H locs ∧ lv_has ls 8 [(4, .int ri), (3, .int x6), (2, .int tt), (0, .ref h0), (1, .int p0)]) (fun u => match u with | (tt, ri, a, sd, g) => (x6.toInt - ri.toInt).toNat) ?_ (x1, x7, n4, n5, glt) ⟨by (first | (apply Int.le_antisymm <;> omega) | omega), by (first | (apply Int.le_antisymm <;> omega) | omega), by (first | (apply Int.le_antisymm <;> omega) | omega), hsn5, by (first | (apply Int.le_antisymm <;> omega) | omega), fun z j h1 h2 => absurd h2 (by (first | (apply Int.le_antisymm <;> omega) | omega)), fun j _ => rfl, hP, hD, hS, lv_sub hl [0, 1, 2, 3, 4] rfl⟩
  intro N14 ih14 u H locs ls hN14 hI
  obtain ⟨tt, ri, a, sd, g⟩ := u
  obtain ⟨v1, v2, v3, v4, v5, v6, v7, hP, hD, hS, hl⟩ := hI
  have hN14 : (x6.toInt - ri.toInt).toNat < N14 + 1 := hN14
  have bv4 := b01 v4
  refine lv_iload hx hb d_RE_readLocals_14 (lv_at hl 0 rfl) ?_
  refine lv_iload_n hx hb d_RE_readLocals_16 rfl (lv_at hl 1 rfl) ?_
  refine lv_icmp_ge (tgt := 91) hx hb d_RE_readLocals_17 (by decide) (fun c17 => ?_) (fun c17 => ?_)
  · have q17 := leI c17
    refine lv_aload_n hx hb d_RE_readLocals_91 rfl (lv_at hl 3 rfl) ?_
    refine va_get (D := (dC, dI)) (ci := 7) (v := .ref ac) (C := R_RE) (T := F_RE) (N := 8) hx hb hts i_RE hown hK hP 3 rfl rfl 1 (by decide) (hts _ kF_RE_25) (fun _ h9 => h9) rfl d_RE_readLocals_92 ?_
    refine va_get (D := (dC, dI)) (ci := 3) (v := .ref alk) (C := R_CD) (T := F_CD) (N := 10) hx hb hts i_CD hown hK hP 0 rfl rfl 1 (by decide) (hts _ kF_RE_191) (fun _ h9 => h9) rfl d_RE_readLocals_95 ?_
    refine lv_iload_n hx hb d_RE_readLocals_98 rfl (lv_at hl 4 rfl) ?_
    refine lv_iload_n hx hb d_RE_readLocals_99 rfl (lv_at hl 2 rfl) ?_
    have g100 : vp_in p0 30 := vp_in_iff.mpr ⟨by (first | (apply Int.le_antisymm <;> omega) | omega), by (first | (apply Int.le_antisymm <;> omega) | omega)⟩
    refine va_iast hx hb hK hP hD hS 2 2 rfl rfl g100 d_RE_readLocals_100 (fun H locs hP hD hS => ?_)
    generalize ef8 : upd glk p0.toNatClampNeg tt = f8 at hP hD
    have hP9 := hP.sb (wq := (wz_13 h0 aw ac a lim sd cc ao oc aw wf ab ax len ax cB n f ac afi alk alt cl aop ava apt ael lc alb alt clt g alk clk f8)) [3, 4, 5, 6, 0, 1, 2] rfl
    have hD9 := hD.sb (wq := (wz_13 h0 aw ac a lim sd cc ao oc aw wf ab ax len ax cB n f ac afi alk alt cl aop ava apt ael lc alb alt clt g alk clk f8)) [3, 4, 5, 6, 0, 1, 2] (by decide) rfl
    exact W.vret hx hb hr (fun t ht hW => ⟨⟨(a, sd, oc, cl, lc, g, f8), rfl, ⟨v4, by (try dsimp only); (first | (apply Int.le_antisymm <;> omega) | omega), by (try dsimp only); (first | (apply Int.le_antisymm <;> omega) | omega), rfl, rfl, rfl, v7, fun z => ⟨by (first | (apply Int.le_antisymm <;> omega) | omega), by (try dsimp only); (first | (apply Int.le_antisymm <;> omega) | omega)⟩, ⟨tt, by (first | (apply Int.le_antisymm <;> omega) | omega), by (first | (apply Int.le_antisymm <;> omega) | omega), by (try dsimp only) <;> exact ef8.symm, fun z => v6 z⟩⟩, va_P.he ht.symm hP9, va_K.moved hW.alike hK, hD9⟩, hS.F ht⟩) hS.2.2 d_RE_readLocals_101
  · have q17 := nleI c17
    refine lv_aload_n hx hb d_RE_readLocals_20 rfl (lv_at hl 3 rfl) ?_
    refine va_get (D := (dC, dI)) (ci := 7) (v := .int sd) (C := R_RE) (T := F_RE) (N := 8) hx hb hts i_RE hown hK hP 3 rfl rfl 4 (by decide) (hts _ kF_RE_45) (fun _ h9 => h9) rfl d_RE_readLocals_21 ?_
    refine lv_if_eq (tgt := 91) hx hb d_RE_readLocals_24 (by decide) (fun c24 => ?_) (fun c24 => ?_)
    · have q24 := eqI c24
      refine lv_aload_n hx hb d_RE_readLocals_91 rfl (lv_at hl 3 rfl) ?_
      refine va_get (D := (dC, dI)) (ci := 7) (v := .ref ac) (C := R_RE) (T := F_RE) (N := 8) hx hb hts i_RE hown hK hP 3 rfl rfl 1 (by decide) (hts _ kF_RE_25) (fun _ h9 => h9) rfl d_RE_readLocals_92 ?_
      refine va_get (D := (dC, dI)) (ci := 3) (v := .ref alk) (C := R_CD) (T := F_CD) (N := 10) hx hb hts i_CD hown hK hP 0 rfl rfl 1 (by decide) (hts _ kF_RE_191) (fun _ h9 => h9) rfl d_RE_readLocals_95 ?_
      refine lv_iload_n hx hb d_RE_readLocals_98 rfl (lv_at hl 4 rfl) ?_
      refine lv_iload_n hx hb d_RE_readLocals_99 rfl (lv_at hl 2 rfl) ?_
      have g100 : vp_in p0 30 := vp_in_iff.mpr ⟨by (first | (apply Int.le_antisymm <;> omega) | omega), by (first | (apply Int.le_antisymm <;> omega) | omega)⟩
      refine va_iast hx hb hK hP hD hS 2 2 rfl rfl g100 d_RE_readLocals_100 (fun H locs hP hD hS => ?_)
      generalize ef9 : upd glk p0.toNatClampNeg tt = f9 at hP hD
      have hP9 := hP.sb (wq := (wz_13 h0 aw ac a lim sd cc ao oc aw wf ab ax len ax cB n f ac afi alk alt cl aop ava apt ael lc alb alt clt g alk clk f9)) [3, 4, 5, 6, 0, 1, 2] rfl
      have hD9 := hD.sb (wq := (wz_13 h0 aw ac a lim sd cc ao oc aw wf ab ax len ax cB n f ac afi alk alt cl aop ava apt ael lc alb alt clt g alk clk f9)) [3, 4, 5, 6, 0, 1, 2] (by decide) rfl
      exact W.vret hx hb hr (fun t ht hW => ⟨⟨(a, sd, oc, cl, lc, g, f9), rfl, ⟨v4, by (try dsimp only); (first | (apply Int.le_antisymm <;> omega) | omega), by (try dsimp only); (first | (apply Int.le_antisymm <;> omega) | omega), rfl, rfl, rfl, v7, fun z => ⟨by (first | (apply Int.le_antisymm <;> omega) | omega), by (try dsimp only); (first | (apply Int.le_antisymm <;> omega) | omega)⟩, ⟨tt, by (first | (apply Int.le_antisymm <;> omega) | omega), by (first | (apply Int.le_antisymm <;> omega) | omega), by (try dsimp only) <;> exact ef9.symm, fun z => v6 z⟩⟩, va_P.he ht.symm hP9, va_K.moved hW.alike hK, hD9⟩, hS.F ht⟩) hS.2.2 d_RE_readLocals_101
    · have q24 := neI c24
      refine lv_aload_n hx hb d_RE_readLocals_27 rfl (lv_at hl 3 rfl) ?_
      refine lv_bipush (v := 60) hx hb d_RE_readLocals_28 (by decide) ?_
      refine lv_iload_n hx hb d_RE_readLocals_30 rfl (lv_at hl 2 rfl) ?_
      refine lv_isub hx hb d_RE_readLocals_31 ?_
      refine lv_topi (fun x10 ex10 => ?_)
      have tx10 : x10.toInt = 60 - tt.toInt := by have z := i32_sub ex10 (by (first | (apply Int.le_antisymm <;> omega) | omega)) (by (first | (apply Int.le_antisymm <;> omega) | omega)); first | exact z | (first | (apply Int.le_antisymm <;> omega) | omega)
      refine lv_i2l hx hb d_RE_readLocals_32 rfl ?_
      refine lv_topl (fun x11 ex11 => ?_)
      have tx11 := i2l_t ex11
      have hPc := hP.sb (wq := (wz_1 h0 aw ac a lim sd cc ao oc aw wf ab ax len ax cB n f)) [3, 4, 5, 6] rfl
      have hDc := hD.sb (wq := (wz_1 h0 aw ac a lim sd cc ao oc aw wf ab ax len ax cB n f)) [3, 4, 5, 6] (by decide) rfl
      have hKc := hK.sb (tyq := [(cB, .byte)]) [0] rfl
      have hFc := va_free (wc := (wz_1 h0 aw ac a lim sd cc ao oc aw wf ab ax len ax cB n f)) hD hS hA [3, 4, 5, 6] rfl
      refine va_calll (va_runV (As := [.long x11]) (rest := []) ⟨hx, hb, hml, hown, hts⟩ (c_RE_readUnsigned l dC dI h0 aw ac ao ab ax H.size cB n a lim sd cc oc len f wf pwf pwl v4 (by (first | (apply Int.le_antisymm <;> omega) | omega)) x11 (by (first | (apply Int.le_antisymm <;> omega) | omega))) (cwV 1 hts (gV kM_RE_64 kV_RE_readUnsigned kS_RE_readUnsigned kI_RE kC_RE_readUnsigned) rfl rfl rfl (by decide +kernel) ⟨Nat.le_of_ble_eq_true rfl, Nat.le_of_ble_eq_true rfl⟩) ⟨fun a U g mk z => by obtain ⟨z0, z1, zP, zK, zD⟩ := z; exact ⟨z0, z1, zP, va_K.moved (u := U) (U := U.calling g mk a) (Vm.Alike.refl U.vm) zK, zD⟩, va_recv hKc hPc (ci := 7) (q0 := 0) rfl rfl, fun U hU hW => ⟨rfl, by rw [hU], va_P.he hU.symm hPc, va_K.moved hW.alike hKc, hDc.weaken (fun _ _ _ _ => trivial)⟩⟩ rfl rfl hl.1 rfl (lv_room (Nat.le_of_ble_eq_true rfl)) d_RE_readLocals_33 ⟨(Nat.zero_le _), (Nat.zero_le _)⟩) hS (fun q _ h => hFc q h) hFc (fun r12 u t H1 locs ht hvm hw hB hz1 hk1 hS => ?_)
      obtain ⟨n13, n14⟩ := u
      try dsimp only at hw
      obtain ⟨hsn14, tn13⟩ := hw
      have bsn14 := b01 hsn14
      obtain ⟨hP1, hK1, hD1⟩ := hB
      replace hP1 := va_P.he ht hP1
      obtain ⟨hP, hD⟩ := va_join (wr := (wz_14 ac afi alk alt cl aop ava apt ael lc alb alt clt g alk clk glk)) (w1 := (wz_1 h0 aw ac n13 lim n14 cc ao oc aw wf ab ax len ax cB n f)) hP hD [3, 4, 5, 6] [0, 1, 2] rfl rfl (by decide) (by decide) hk1 hFc hP1 hD1
      clear hPc hDc hKc hFc hz1 hk1 hP1 hK1 hD1
      rename Heap => H
      have hP : va_P (dC, dI) cls (wz_15 ac afi alk alt cl aop ava apt ael lc alb alt clt g alk clk glk h0 aw ac n13 lim n14 cc ao oc aw wf ab ax len ax cB n f) H := hP
      have hD : va_D A (wz_15 ac afi alk alt cl aop ava apt ael lc alb alt clt g alk clk glk h0 aw ac n13 lim n14 cc ao oc aw wf ab ax len ax cB n f) := hD
      refine lv_l2i hx hb d_RE_readLocals_36 rfl ?_
      refine lv_topi (fun x15 ex15 => ?_)
      have tx15 := l2i_t ex15 (by (first | (apply Int.le_antisymm <;> omega) | omega)) (by (first | (apply Int.le_antisymm <;> omega) | omega))
      refine lv_istore (lv' := [(5, .int x15), (4, .int ri), (3, .int x6), (2, .int tt), (0, .ref h0), (1, .int p0)]) hx hb d_RE_readLocals_37 hl (by decide) rfl (fun ls hl => ?_)
      refine lv_aload_n hx hb d_RE_readLocals_39 rfl (lv_at hl 4 rfl) ?_
      have hPc := hP.sb (wq := (wz_1 h0 aw ac n13 lim n14 cc ao oc aw wf ab ax len ax cB n f)) [3, 4, 5, 6] rfl
      have hDc := hD.sb (wq := (wz_1 h0 aw ac n13 lim n14 cc ao oc aw wf ab ax len ax cB n f)) [3, 4, 5, 6] (by decide) rfl
      have hKc := hK.sb (tyq := [(cB, .byte)]) [0] rfl
      have hFc := va_free (wc := (wz_1 h0 aw ac n13 lim n14 cc ao oc aw wf ab ax len ax cB n f)) hD hS hA [3, 4, 5, 6] rfl
      refine va_calli (va_runV (As := []) (rest := []) ⟨hx, hb, hml, hown, hts⟩ (c_RE_readType l dC dI h0 aw ac ao ab ax H.size cB n n13 lim n14 cc oc len f wf pwf pwl hsn14 (by (first | (apply Int.le_antisymm <;> omega) | omega)) ) (cwV 0 hts (gV kM_RE_109 kV_RE_readType kS_RE_readType kI_RE kC_RE_readType) rfl rfl rfl (by decide +kernel) ⟨Nat.le_of_ble_eq_true rfl, Nat.le_of_ble_eq_true rfl⟩) ⟨fun a U g mk z => by obtain ⟨z0, z1, zP, zK, zD⟩ := z; exact ⟨z0, z1, zP, va_K.moved (u := U) (U := U.calling g mk a) (Vm.Alike.refl U.vm) zK, zD⟩, va_recv hKc hPc (ci := 7) (q0 := 0) rfl rfl, fun U hU hW => ⟨rfl, by rw [hU], va_P.he hU.symm hPc, va_K.moved hW.alike hKc, hDc.weaken (fun _ _ _ _ => trivial)⟩⟩ rfl rfl hl.1 rfl (lv_room (Nat.le_of_ble_eq_true rfl)) d_RE_readLocals_40 ⟨(Nat.zero_le _), (Nat.zero_le _)⟩) hS (fun q _ h => hFc q h) hFc (fun r16 u t H1 locs ht hvm hw hB hz1 hk1 hS => ?_)
      obtain ⟨n17, n18⟩ := u
      try dsimp only at hw
      obtain ⟨hsn18, tn17⟩ := hw
      have bsn18 := b01 hsn18
      obtain ⟨hP1, hK1, hD1⟩ := hB
      replace hP1 := va_P.he ht hP1
      obtain ⟨hP, hD⟩ := va_join (wr := (wz_14 ac afi alk alt cl aop ava apt ael lc alb alt clt g alk clk glk)) (w1 := (wz_1 h0 aw ac n17 lim n18 cc ao oc aw wf ab ax len ax cB n f)) hP hD [3, 4, 5, 6] [0, 1, 2] rfl rfl (by decide) (by decide) hk1 hFc hP1 hD1
      clear hPc hDc hKc hFc hz1 hk1 hP1 hK1 hD1
      rename Heap => H
      have hP : va_P (dC, dI) cls (wz_15 ac afi alk alt cl aop ava apt ael lc alb alt clt g alk clk glk h0 aw ac n17 lim n18 cc ao oc aw wf ab ax len ax cB n f) H := hP
      have hD : va_D A (wz_15 ac afi alk alt cl aop ava apt ael lc alb alt clt g alk clk glk h0 aw ac n17 lim n18 cc ao oc aw wf ab ax len ax cB n f) := hD
      refine lv_istore (lv' := [(6, .int r16), (5, .int x15), (4, .int ri), (3, .int x6), (2, .int tt), (0, .ref h0), (1, .int p0)]) hx hb d_RE_readLocals_43 hl (by decide) rfl (fun ls hl => ?_)
      refine lv_iconst (v := 0) hx hb d_RE_readLocals_45 (by decide) ?_
      refine lv_topi (fun x19 ex19 => ?_)
      have tx19 : x19.toInt = 0 := by rw [ex19]; decide
      refine lv_istore (lv' := [(7, .int x19), (6, .int r16), (5, .int x15), (4, .int ri), (3, .int x6), (2, .int tt), (0, .ref h0), (1, .int p0)]) hx hb d_RE_readLocals_46 hl (by decide) rfl (fun ls hl => ?_)
      refine w_loop (σ := Int32 × (Nat → Int32)) (fun u H locs ls => match u with | (k, g2) => (0 ≤ k.toInt ∧ k.toInt ≤ x15.toInt) ∧ (n18.toInt = 1 → ∀ j : Nat, 60 * p0.toInt ≤ (j : Int) → (j : Int) < 60 * p0.toInt + tt.toInt + k.toInt → (g2 j).toInt = 127 ∨ (g2 j).toInt = 126) ∧ (∀ j : Nat, ((j : Int) < 60 * p0.toInt ∨ 60 * p0.toInt + 60 ≤ (j : Int)) → g2 j = glt j) ∧ va_P (dC, dI) cls (wz_15 ac afi alk alt cl aop ava apt ael lc alb alt clt g2 alk clk glk h0 aw ac n17 lim n18 cc ao oc aw wf ab ax len ax cB n f) H ∧ va_D A (wz_15 ac afi alk alt cl aop ava apt ael lc alb alt clt g2 alk clk glk h0 aw ac n17 lim n18 cc ao oc aw wf ab ax len ax cB n f) ∧ va_S A s.heap H locs ∧ lv_has ls 8 [(7, .int k), (6, .int r16), (5, .int x15), (4, .int ri), (3, .int x6), (2, .int tt), (0, .ref h0), (1, .int p0)]) (fun u => match u with | (k, g2) => (x15.toInt - k.toInt).toNat) ?_ (x19, g) ⟨by (first | (apply Int.le_antisymm <;> omega) | omega), fun z j h1 h2 => v6 (by (first | (apply Int.le_antisymm <;> omega) | omega)) j h1 (by (first | (apply Int.le_antisymm <;> omega) | omega)), v7, hP, hD, hS, lv_sub hl [0, 1, 2, 3, 4, 5, 6, 7] rfl⟩
      intro N48 ih48 u H locs ls hN48 hI
      obtain ⟨k, g2⟩ := u
      obtain ⟨w1, w6, w7, hP, hD, hS, hl⟩ := hI
      have hN48 : (x15.toInt - k.toInt).toNat < N48 + 1 := hN48
      refine lv_iload hx hb d_RE_readLocals_48 (lv_at hl 0 rfl) ?_
      refine lv_iload hx hb d_RE_readLocals_50 (lv_at hl 2 rfl) ?_
      refine lv_icmp_ge (tgt := 80) hx hb d_RE_readLocals_52 (by decide) (fun c52 => ?_) (fun c52 => ?_)
      · have q52 := leI c52
        refine lv_iload_n hx hb d_RE_readLocals_80 rfl (lv_at hl 5 rfl) ?_
        refine lv_iload hx hb d_RE_readLocals_81 (lv_at hl 2 rfl) ?_
        refine lv_iadd hx hb d_RE_readLocals_83 ?_
        refine lv_topi (fun x20 ex20 => ?_)
        have tx20 : x20.toInt = tt.toInt + x15.toInt := by have z := i32_add ex20 (by (first | (apply Int.le_antisymm <;> omega) | omega)) (by (first | (apply Int.le_antisymm <;> omega) | omega)); first | exact z | (first | (apply Int.le_antisymm <;> omega) | omega)
        refine lv_istore_n (lv' := [(2, .int x20), (7, .int k), (6, .int r16), (5, .int x15), (4, .int ri), (3, .int x6), (0, .ref h0), (1, .int p0)]) hx hb d_RE_readLocals_84 rfl hl (by decide) rfl (fun ls hl => ?_)
        obtain ⟨x21, ex21⟩ : ∃ z : Int32, z = ri + 1 := ⟨_, rfl⟩
        have tx21 : x21.toInt = ri.toInt + 1 := by have z := i32_add ex21 (by (first | (apply Int.le_antisymm <;> omega) | omega)) (by (first | (apply Int.le_antisymm <;> omega) | omega)); first | exact z | (first | (apply Int.le_antisymm <;> omega) | omega)
        refine lv_iinc (v := x21) (lv' := [(4, .int x21), (2, .int x20), (7, .int k), (6, .int r16), (5, .int x15), (3, .int x6), (0, .ref h0), (1, .int p0)]) hx hb d_RE_readLocals_85 hl (k := 4) rfl (by rw [ex21]; rfl) (by decide) rfl (fun ls hl => ?_)
        refine lv_goto (tgt := 14) hx hb d_RE_readLocals_88 (by decide) ?_
        skip
        exact ih14 (x20, x21, n17, n18, g2) _ _ _ (by show (x6.toInt - x21.toInt).toNat < N14; (first | (apply Int.le_antisymm <;> omega) | omega)) ⟨by (first | (apply Int.le_antisymm <;> omega) | omega), by (first | (apply Int.le_antisymm <;> omega) | omega), by (first | (apply Int.le_antisymm <;> omega) | omega), hsn18, by (first | (apply Int.le_antisymm <;> omega) | omega), fun z j h1 h2 => w6 z j h1 (by (first | (apply Int.le_antisymm <;> omega) | omega)), w7, hP, hD, hS, lv_sub hl [0, 5, 1, 6, 7] rfl⟩
      · have q52 := nleI c52
        refine lv_aload_n hx hb d_RE_readLocals_55 rfl (lv_at hl 6 rfl) ?_
        refine va_get (D := (dC, dI)) (ci := 7) (v := .ref ac) (C := R_RE) (T := F_RE) (N := 8) hx hb hts i_RE hown hK hP 3 rfl rfl 1 (by decide) (hts _ kF_RE_25) (fun _ h9 => h9) rfl d_RE_readLocals_56 ?_
        refine va_get (D := (dC, dI)) (ci := 3) (v := .ref alt) (C := R_CD) (T := F_CD) (N := 10) hx hb hts i_CD hown hK hP 0 rfl rfl 2 (by decide) (hts _ kF_RE_188) (fun _ h9 => h9) rfl d_RE_readLocals_59 ?_
        refine lv_iload_n hx hb d_RE_readLocals_62 rfl (lv_at hl 7 rfl) ?_
        refine lv_bipush (v := 60) hx hb d_RE_readLocals_63 (by decide) ?_
        refine lv_imul hx hb d_RE_readLocals_65 ?_
        refine lv_topi (fun x22 ex22 => ?_)
        have tx22 : x22.toInt = p0.toInt * 60 := by have z := i32_mul ex22 (by rw [k60]; (first | (apply Int.le_antisymm <;> omega) | omega)) (by rw [k60]; (first | (apply Int.le_antisymm <;> omega) | omega)); rw [k60] at z; exact z
        refine lv_iload_n hx hb d_RE_readLocals_66 rfl (lv_at hl 5 rfl) ?_
        refine lv_iadd hx hb d_RE_readLocals_67 ?_
        refine lv_topi (fun x23 ex23 => ?_)
        have tx23 : x23.toInt = x22.toInt + tt.toInt := by have z := i32_add ex23 (by (first | (apply Int.le_antisymm <;> omega) | omega)) (by (first | (apply Int.le_antisymm <;> omega) | omega)); first | exact z | (first | (apply Int.le_antisymm <;> omega) | omega)
        refine lv_iload hx hb d_RE_readLocals_68 (lv_at hl 0 rfl) ?_
        refine lv_iadd hx hb d_RE_readLocals_70 ?_
        refine lv_topi (fun x24 ex24 => ?_)
        have tx24 : x24.toInt = x23.toInt + k.toInt := by have z := i32_add ex24 (by (first | (apply Int.le_antisymm <;> omega) | omega)) (by (first | (apply Int.le_antisymm <;> omega) | omega)); first | exact z | (first | (apply Int.le_antisymm <;> omega) | omega)
        refine lv_iload hx hb d_RE_readLocals_71 (lv_at hl 1 rfl) ?_
        have g73 : vp_in x24 1800 := vp_in_iff.mpr ⟨by (first | (apply Int.le_antisymm <;> omega) | omega), by (first | (apply Int.le_antisymm <;> omega) | omega)⟩
        refine va_iast hx hb hK hP hD hS 1 1 rfl rfl g73 d_RE_readLocals_73 (fun H locs hP hD hS => ?_)
        generalize ef25 : upd g2 x24.toNatClampNeg r16 = f25 at hP hD
        obtain ⟨x26, ex26⟩ : ∃ z : Int32, z = k + 1 := ⟨_, rfl⟩
        have tx26 : x26.toInt = k.toInt + 1 := by have z := i32_add ex26 (by (first | (apply Int.le_antisymm <;> omega) | omega)) (by (first | (apply Int.le_antisymm <;> omega) | omega)); first | exact z | (first | (apply Int.le_antisymm <;> omega) | omega)
        refine lv_iinc (v := x26) (lv' := [(7, .int x26), (6, .int r16), (5, .int x15), (4, .int ri), (3, .int x6), (2, .int tt), (0, .ref h0), (1, .int p0)]) hx hb d_RE_readLocals_74 hl (k := 0) rfl (by rw [ex26]; rfl) (by decide) rfl (fun ls hl => ?_)
        refine lv_goto (tgt := 48) hx hb d_RE_readLocals_77 (by decide) ?_
        have z1 := i32_clamp (x := x24) (by (first | (apply Int.le_antisymm <;> omega) | omega))
        skip
        exact ih48 (x26, f25) _ _ _ (by show (x15.toInt - x26.toInt).toNat < N48; (first | (apply Int.le_antisymm <;> omega) | omega)) ⟨by (first | (apply Int.le_antisymm <;> omega) | omega), fun z => by rw [← ef25]; exact upd_ty (w6 z) (by (first | (apply Int.le_antisymm <;> omega) | omega)) (by (first | (apply Int.le_antisymm <;> omega) | omega)) (by (first | (apply Int.le_antisymm <;> omega) | omega)), by rw [← ef25]; exact upd_off w7 (by (first | (apply Int.le_antisymm <;> omega) | omega)), hP, hD, hS, lv_sub hl [0, 1, 2, 3, 4, 5, 6, 7] rfl⟩
end q_09
section q_10
/-! Wafer: what a function takes and gives -/
abbrev b_WA_takes : ByteArray := prog_13_method_4_code
def y_WA_takes : MethodName := ⟨R_WA, "takes", "(I)I"⟩
abbrev w_WA_takes : List Cond := .code y_WA_takes b_WA_takes 2 (Option.some .int) :: lw_g
theorem kC_WA_takes : Cond.code y_WA_takes b_WA_takes 2 (Option.some .int) ∈ lw_g := in_c7 19 rfl rfl
theorem d_WA_takes_0 : decode b_WA_takes 0 = .ok (.aload_n 0, 1) := bz_c42 (by decide +kernel)
theorem d_WA_takes_1 : decode b_WA_takes 1 = .ok (.getfield 27, 3) := bz_c180 (by decide +kernel)
theorem d_WA_takes_4 : decode b_WA_takes 4 = .ok (.aload_n 0, 1) := bz_c42 (by decide +kernel)
theorem d_WA_takes_5 : decode b_WA_takes 5 = .ok (.getfield 37, 3) := bz_c180 (by decide +kernel)
theorem d_WA_takes_8 : decode b_WA_takes 8 = .ok (.iload_n 1, 1) := bz_c27 (by decide +kernel)
theorem d_WA_takes_9 : decode b_WA_takes 9 = .ok (.iaload, 1) := bz_c46 (by decide +kernel)
theorem d_WA_takes_10 : decode b_WA_takes 10 = .ok (.iaload, 1) := bz_c46 (by decide +kernel)
theorem d_WA_takes_11 : decode b_WA_takes 11 = .ok (.ireturn, 1) := bz_c172 (by decide +kernel)
theorem kF_WA_27 : Cond.fieldLink R_WA 27 "WaferForge$Wafer" "typeTakes" "[I" ∈ lw_g := in_c1 152 rfl rfl
theorem kF_WA_37 : Cond.fieldLink R_WA 37 "WaferForge$Wafer" "functionType" "[I" ∈ lw_g := in_c1 162 rfl rfl
abbrev at_WA_takes (dC : Nat → ClassId) (dI : Nat → Nat → Nat) (h0 af at_ : Nat) (cf ct : ClassId) (gf gt : Nat → Int32) (wf : List Value) (A : Nat → Prop) (_ : Unit) (t : State) : Prop := va_P (dC, dI) cls (wz_16 h0 wf af cf gf at_ ct gt) t.heap ∧ va_K (dC, dI) cls [(cf, .int), (ct, .int)] t ∧ va_D A (wz_16 h0 wf af cf gf at_ ct gt)
set_option maxHeartbeats 4000000 in
set_option maxRecDepth 100000 in
theorem c_WA_takes (l : Launch) (dC : Nat → ClassId) (dI : Nat → Nat → Nat) (h0 af at_ sz : Nat) (cf ct : ClassId) (gf gt : Nat → Int32) (wf : List Value) (pf : wf[7]? = some (.ref af)) (pt : wf[3]? = some (.ref at_)) (pl : wf.length = 21) (p0 : Int32) (hp : 0 ≤ p0.toInt ∧ p0.toInt < 30) (hf : 0 ≤ (gf p0.toNatClampNeg).toInt ∧ (gf p0.toNatClampNeg).toInt < 20) : Met l y_WA_takes w_WA_takes ({ frames := 0, cells := 0, slots := 0, locals := 0 }) (va_Pc [.ref h0, .int p0] (fun U => U.heap.size = sz ∧ va_P (dC, dI) cls (wz_16 h0 wf af cf gf at_ ct gt) U.heap ∧ va_K (dC, dI) cls [(cf, .int), (ct, .int)] U ∧ va_D (fun _ => True) (wz_16 h0 wf af cf gf at_ ct gt))) (va_Qi (fun (r : Int32) (_ : Unit) => r = gt (gf p0.toNatClampNeg).toNatClampNeg) (at_WA_takes dC dI h0 af at_ cf ct gf gt wf (va_A (wz_16 h0 wf af cf gf at_ ct gt) sz)) (va_A (wz_16 h0 wf af cf gf at_ ct gt) sz)) 0 0 (va_A (wz_16 h0 wf af cf gf at_ ct gt) sz) := by
  refine Met.ofW (cc := b_WA_takes) (maxL := 2) (ret := (Option.some .int)) (by decide) rfl ?_
  intro p e s m args below meth c s₁ B hml hv
  obtain ⟨rfl, hsz, hP, hK, hD0⟩ := hv
  have hx := B.exec
  have hb := B.bytes
  have hr := B.returns
  have hts0 := atoms_spec (ws := w_WA_takes) B.pre
  have hts : ∀ w ∈ lw_g, w.before _ s = true := fun w h => hts0 w (List.mem_cons_of_mem _ h)
  have hown : s.vm.findClass R_WA = some m.cls := findClass_of_methodNamed B.named
  have hlocks := B.notSynchronized
  clear hts0
  subst hsz
  have hD := hD0.self (sz := s.heap.size)
  generalize hAe : va_A (wz_16 h0 wf af cf gf at_ ct gt) s.heap.size = A at hD ⊢
  have hA : ∀ q : Nat, s.heap.size ≤ q → A q := fun q h => by rw [← hAe]; exact Or.inr h
  clear hAe
  have hP : va_P (dC, dI) cls (wz_16 h0 wf af cf gf at_ ct gt) s.heap := hP
  have hl := lv_entry ([.ref h0, .int p0]) (n := 2) (Nat.le_of_ble_eq_true rfl)
  rw [lg_entry_eq]
  generalize (lg_sl ([.ref h0, .int p0]) ++ List.replicate (2 - (lg_sl ([.ref h0, .int p0])).length) Slot.unset).toArray = ls at hl ⊢
  have hl : lv_has ls 2 [(0, .ref h0), (1, .int p0)] := hl
  have k0 : (0 : Int32).toInt = 0 := by decide
  refine w_gen (A := A) hP (fun H locs hP hS => ?_)
  have lo_p0 := i32_lo p0
  have hi_p0 := i32_hi p0
  refine lv_aload_n hx hb d_WA_takes_0 rfl (lv_at hl 0 rfl) ?_
  refine va_get (D := (dC, dI)) (ci := 10) (v := .ref at_) (C := R_WA) (T := F_WA) (N := 21) hx hb hts i_WA hown hK hP 0 rfl rfl 3 (by decide) (hts _ kF_WA_27) (fun _ h9 => h9) pt d_WA_takes_1 ?_
  refine lv_aload_n hx hb d_WA_takes_4 rfl (lv_at hl 0 rfl) ?_
  refine va_get (D := (dC, dI)) (ci := 10) (v := .ref af) (C := R_WA) (T := F_WA) (N := 21) hx hb hts i_WA hown hK hP 0 rfl rfl 7 (by decide) (hts _ kF_WA_37) (fun _ h9 => h9) pf d_WA_takes_5 ?_
  refine lv_iload_n hx hb d_WA_takes_8 rfl (lv_at hl 1 rfl) ?_
  have g9 : vp_in p0 30 := vp_in_iff.mpr ⟨by (first | (apply Int.le_antisymm <;> omega) | omega), by (first | (apply Int.le_antisymm <;> omega) | omega)⟩
  refine va_iald hx hb hK hP 1 0 rfl rfl g9 d_WA_takes_9 ?_
  refine lv_topi (fun x1 ex1 => ?_)
  have yx1 := i32_clamp (x := p0) (by (first | (apply Int.le_antisymm <;> omega) | omega))
  have tx1 := hf
  rw [← ex1] at tx1
  have g10 : vp_in x1 20 := vp_in_iff.mpr ⟨by (first | (apply Int.le_antisymm <;> omega) | omega), by (first | (apply Int.le_antisymm <;> omega) | omega)⟩
  refine va_iald hx hb hK hP 2 1 rfl rfl g10 d_WA_takes_10 ?_
  refine lv_topi (fun x2 ex2 => ?_)
  have hP9 := hP.sb (wq := (wz_16 h0 wf af cf gf at_ ct gt)) [0, 1, 2] rfl
  have hD9 := hD.sb (wq := (wz_16 h0 wf af cf gf at_ ct gt)) [0, 1, 2] (by decide) rfl
  exact W.iret (v := x2) hx hb hr (fun t ht hW => ⟨⟨x2, (), rfl, (by rw [ex2, ex1]), va_P.he ht.symm hP9, va_K.moved hW.alike hK, hD9⟩, hS.F ht⟩) hS.2.2 d_WA_takes_11
abbrev b_WA_gives : ByteArray := prog_13_method_5_code
def y_WA_gives : MethodName := ⟨R_WA, "gives", "(I)I"⟩
abbrev w_WA_gives : List Cond := .code y_WA_gives b_WA_gives 2 (Option.some .int) :: lw_g
theorem kC_WA_gives : Cond.code y_WA_gives b_WA_gives 2 (Option.some .int) ∈ lw_g := in_c6 211 rfl rfl
theorem d_WA_gives_0 : decode b_WA_gives 0 = .ok (.aload_n 0, 1) := bz_c42 (by decide +kernel)
theorem d_WA_gives_1 : decode b_WA_gives 1 = .ok (.getfield 34, 3) := bz_c180 (by decide +kernel)
theorem d_WA_gives_4 : decode b_WA_gives 4 = .ok (.aload_n 0, 1) := bz_c42 (by decide +kernel)
theorem d_WA_gives_5 : decode b_WA_gives 5 = .ok (.getfield 37, 3) := bz_c180 (by decide +kernel)
theorem d_WA_gives_8 : decode b_WA_gives 8 = .ok (.iload_n 1, 1) := bz_c27 (by decide +kernel)
theorem d_WA_gives_9 : decode b_WA_gives 9 = .ok (.iaload, 1) := bz_c46 (by decide +kernel)
theorem d_WA_gives_10 : decode b_WA_gives 10 = .ok (.iaload, 1) := bz_c46 (by decide +kernel)
theorem d_WA_gives_11 : decode b_WA_gives 11 = .ok (.ireturn, 1) := bz_c172 (by decide +kernel)
theorem kF_WA_34 : Cond.fieldLink R_WA 34 "WaferForge$Wafer" "typeGives" "[I" ∈ lw_g := in_c1 156 rfl rfl
abbrev at_WA_gives (dC : Nat → ClassId) (dI : Nat → Nat → Nat) (h0 af at_ : Nat) (cf ct : ClassId) (gf gt : Nat → Int32) (wf : List Value) (A : Nat → Prop) (_ : Unit) (t : State) : Prop := va_P (dC, dI) cls (wz_16 h0 wf af cf gf at_ ct gt) t.heap ∧ va_K (dC, dI) cls [(cf, .int), (ct, .int)] t ∧ va_D A (wz_16 h0 wf af cf gf at_ ct gt)
set_option maxHeartbeats 4000000 in
set_option maxRecDepth 100000 in
theorem c_WA_gives (l : Launch) (dC : Nat → ClassId) (dI : Nat → Nat → Nat) (h0 af at_ sz : Nat) (cf ct : ClassId) (gf gt : Nat → Int32) (wf : List Value) (pf : wf[7]? = some (.ref af)) (pt : wf[5]? = some (.ref at_)) (pl : wf.length = 21) (p0 : Int32) (hp : 0 ≤ p0.toInt ∧ p0.toInt < 30) (hf : 0 ≤ (gf p0.toNatClampNeg).toInt ∧ (gf p0.toNatClampNeg).toInt < 20) : Met l y_WA_gives w_WA_gives ({ frames := 0, cells := 0, slots := 0, locals := 0 }) (va_Pc [.ref h0, .int p0] (fun U => U.heap.size = sz ∧ va_P (dC, dI) cls (wz_16 h0 wf af cf gf at_ ct gt) U.heap ∧ va_K (dC, dI) cls [(cf, .int), (ct, .int)] U ∧ va_D (fun _ => True) (wz_16 h0 wf af cf gf at_ ct gt))) (va_Qi (fun (r : Int32) (_ : Unit) => r = gt (gf p0.toNatClampNeg).toNatClampNeg) (at_WA_gives dC dI h0 af at_ cf ct gf gt wf (va_A (wz_16 h0 wf af cf gf at_ ct gt) sz)) (va_A (wz_16 h0 wf af cf gf at_ ct gt) sz)) 0 0 (va_A (wz_16 h0 wf af cf gf at_ ct gt) sz) := by
  refine Met.ofW (cc := b_WA_gives) (maxL := 2) (ret := (Option.some .int)) (by decide) rfl ?_
  intro p e s m args below meth c s₁ B hml hv
  obtain ⟨rfl, hsz, hP, hK, hD0⟩ := hv
  have hx := B.exec
  have hb := B.bytes
  have hr := B.returns
  have hts0 := atoms_spec (ws := w_WA_gives) B.pre
  have hts : ∀ w ∈ lw_g, w.before _ s = true := fun w h => hts0 w (List.mem_cons_of_mem _ h)
  have hown : s.vm.findClass R_WA = some m.cls := findClass_of_methodNamed B.named
  have hlocks := B.notSynchronized
  clear hts0
  subst hsz
  have hD := hD0.self (sz := s.heap.size)
  generalize hAe : va_A (wz_16 h0 wf af cf gf at_ ct gt) s.heap.size = A at hD ⊢
  have hA : ∀ q : Nat, s.heap.size ≤ q → A q := fun q h => by rw [← hAe]; exact Or.inr h
  clear hAe
  have hP : va_P (dC, dI) cls (wz_16 h0 wf af cf gf at_ ct gt) s.heap := hP
  have hl := lv_entry ([.ref h0, .int p0]) (n := 2) (Nat.le_of_ble_eq_true rfl)
  rw [lg_entry_eq]
  generalize (lg_sl ([.ref h0, .int p0]) ++ List.replicate (2 - (lg_sl ([.ref h0, .int p0])).length) Slot.unset).toArray = ls at hl ⊢
  have hl : lv_has ls 2 [(0, .ref h0), (1, .int p0)] := hl
  have k0 : (0 : Int32).toInt = 0 := by decide
  refine w_gen (A := A) hP (fun H locs hP hS => ?_)
  have lo_p0 := i32_lo p0
  have hi_p0 := i32_hi p0
  refine lv_aload_n hx hb d_WA_gives_0 rfl (lv_at hl 0 rfl) ?_
  refine va_get (D := (dC, dI)) (ci := 10) (v := .ref at_) (C := R_WA) (T := F_WA) (N := 21) hx hb hts i_WA hown hK hP 0 rfl rfl 5 (by decide) (hts _ kF_WA_34) (fun _ h9 => h9) pt d_WA_gives_1 ?_
  refine lv_aload_n hx hb d_WA_gives_4 rfl (lv_at hl 0 rfl) ?_
  refine va_get (D := (dC, dI)) (ci := 10) (v := .ref af) (C := R_WA) (T := F_WA) (N := 21) hx hb hts i_WA hown hK hP 0 rfl rfl 7 (by decide) (hts _ kF_WA_37) (fun _ h9 => h9) pf d_WA_gives_5 ?_
  refine lv_iload_n hx hb d_WA_gives_8 rfl (lv_at hl 1 rfl) ?_
  have g9 : vp_in p0 30 := vp_in_iff.mpr ⟨by (first | (apply Int.le_antisymm <;> omega) | omega), by (first | (apply Int.le_antisymm <;> omega) | omega)⟩
  refine va_iald hx hb hK hP 1 0 rfl rfl g9 d_WA_gives_9 ?_
  refine lv_topi (fun x1 ex1 => ?_)
  have yx1 := i32_clamp (x := p0) (by (first | (apply Int.le_antisymm <;> omega) | omega))
  have tx1 := hf
  rw [← ex1] at tx1
  have g10 : vp_in x1 20 := vp_in_iff.mpr ⟨by (first | (apply Int.le_antisymm <;> omega) | omega), by (first | (apply Int.le_antisymm <;> omega) | omega)⟩
  refine va_iald hx hb hK hP 2 1 rfl rfl g10 d_WA_gives_10 ?_
  refine lv_topi (fun x2 ex2 => ?_)
  have hP9 := hP.sb (wq := (wz_16 h0 wf af cf gf at_ ct gt)) [0, 1, 2] rfl
  have hD9 := hD.sb (wq := (wz_16 h0 wf af cf gf at_ ct gt)) [0, 1, 2] (by decide) rfl
  exact W.iret (v := x2) hx hb hr (fun t ht hW => ⟨⟨x2, (), rfl, (by rw [ex2, ex1]), va_P.he ht.symm hP9, va_K.moved hW.alike hK, hD9⟩, hS.F ht⟩) hS.2.2 d_WA_gives_11
end q_10
section q_10a
/-! functions of the JDK on numbers -/
theorem upd_b {g : Nat → Int32} {k : Nat} {v : Int32} {lo hi : Int} (h : ∀ j : Nat, lo ≤ (g j).toInt ∧ (g j).toInt ≤ hi) (hv : lo ≤ v.toInt ∧ v.toInt ≤ hi) : ∀ j : Nat, lo ≤ (upd g k v j).toInt ∧ (upd g k v j).toInt ≤ hi := by
  intro j
  by_cases e : j = k
  · rw [e, pk_us]
    exact hv
  · rw [pk_un e]
    exact h j
theorem b01r {x : Int32} (h : 0 ≤ x.toInt) (h2 : x.toInt ≤ 1) : x = 0 ∨ x = 1 := by
  have k0 : (0 : Int32).toInt = 0 := by decide
  have k1 : (1 : Int32).toInt = 1 := by decide
  by_cases e : x.toInt = 0
  · exact Or.inl (Int32.toInt_inj.mp (e.trans k0.symm))
  · exact Or.inr (Int32.toInt_inj.mp (by rw [k1]; (first | (apply Int.le_antisymm <;> omega) | omega)))
def R_JL : String := "java/lang/Long"
theorem kI_JL : Cond.initialized R_JL ∈ lw_g := in_c1 38 rfl rfl
abbrev b_JL_compare : ByteArray := prog_30_method_42_code
def y_JL_compare : MethodName := ⟨R_JL, "compare", "(JJ)I"⟩
abbrev w_JL_compare : List Cond := .code y_JL_compare b_JL_compare 4 (Option.some .int) :: lw_g
theorem kC_JL_compare : Cond.code y_JL_compare b_JL_compare 4 (Option.some .int) ∈ lw_g := in_c7 223 rfl rfl
theorem d_JL_compare_0 : decode b_JL_compare 0 = .ok (.lload_n 0, 1) := bz_c30 (by decide +kernel)
theorem d_JL_compare_1 : decode b_JL_compare 1 = .ok (.lload_n 2, 1) := bz_c32 (by decide +kernel)
theorem d_JL_compare_2 : decode b_JL_compare 2 = .ok (.lcmp, 1) := bz_c148 (by decide +kernel)
theorem d_JL_compare_3 : decode b_JL_compare 3 = .ok (.ifCond .ge 7, 3) := bz_c156 (by decide +kernel)
theorem d_JL_compare_6 : decode b_JL_compare 6 = .ok (.iconst (-1), 1) := bz_c2 (by decide +kernel)
theorem d_JL_compare_7 : decode b_JL_compare 7 = .ok (.goto 14, 3) := bz_c167 (by decide +kernel)
theorem d_JL_compare_10 : decode b_JL_compare 10 = .ok (.lload_n 0, 1) := bz_c30 (by decide +kernel)
theorem d_JL_compare_11 : decode b_JL_compare 11 = .ok (.lload_n 2, 1) := bz_c32 (by decide +kernel)
theorem d_JL_compare_12 : decode b_JL_compare 12 = .ok (.lcmp, 1) := bz_c148 (by decide +kernel)
theorem d_JL_compare_13 : decode b_JL_compare 13 = .ok (.ifCond .ne 7, 3) := bz_c154 (by decide +kernel)
theorem d_JL_compare_16 : decode b_JL_compare 16 = .ok (.iconst 0, 1) := bz_c3 (by decide +kernel)
theorem d_JL_compare_17 : decode b_JL_compare 17 = .ok (.goto 4, 3) := bz_c167 (by decide +kernel)
theorem d_JL_compare_20 : decode b_JL_compare 20 = .ok (.iconst 1, 1) := bz_c4 (by decide +kernel)
theorem d_JL_compare_21 : decode b_JL_compare 21 = .ok (.ireturn, 1) := bz_c172 (by decide +kernel)
abbrev at_JL_compare (dC : Nat → ClassId) (dI : Nat → Nat → Nat)  (A : Nat → Prop) (u : Unit) (t : State) : Prop := match u with | _ => va_P (dC, dI) cls [] t.heap ∧ va_K (dC, dI) cls [] t ∧ va_D A []
set_option maxHeartbeats 4000000 in
set_option maxRecDepth 100000 in
theorem c_JL_compare (l : Launch) (dC : Nat → ClassId) (dI : Nat → Nat → Nat) (sz : Nat)    (p0 : Int64) (p1 : Int64)   : Met l y_JL_compare w_JL_compare ({ frames := 0, cells := 0, slots := 0, locals := 0 }) (va_Pc [.long p0, .long p1] (fun U => U.heap.size = sz ∧ va_P (dC, dI) cls [] U.heap ∧ va_K (dC, dI) cls [] U ∧ va_D (fun _ => True) [])) (va_Qi (fun (r : Int32) (u : Unit) => match u with | _ => True) (at_JL_compare dC dI  (va_A [] sz)) (va_A [] sz)) 0 0 (va_A [] sz) := by
  refine Met.ofW (cc := b_JL_compare) (maxL := 4) (ret := (Option.some .int)) (by decide) rfl ?_
  intro p e s m args below meth c s₁ B hml hv
  obtain ⟨rfl, hsz, hP, hK, hD0⟩ := hv
  have hx := B.exec
  have hb := B.bytes
  have hr := B.returns
  have hts0 := atoms_spec (ws := w_JL_compare) B.pre
  have hts : ∀ w ∈ lw_g, w.before _ s = true := fun w h => hts0 w (List.mem_cons_of_mem _ h)
  have hown : s.vm.findClass R_JL = some m.cls := findClass_of_methodNamed B.named
  have hlocks := B.notSynchronized
  clear hts0
  subst hsz
  have hD := hD0.self (sz := s.heap.size)
  generalize hAe : va_A [] s.heap.size = A at hD ⊢
  have hA : ∀ q : Nat, s.heap.size ≤ q → A q := fun q h => by rw [← hAe]; exact Or.inr h
  clear hAe
  have hP : va_P (dC, dI) cls [] s.heap := hP
  have hl := lv_entry ([.long p0, .long p1]) (n := 4) (Nat.le_of_ble_eq_true rfl)
  rw [lg_entry_eq]
  generalize (lg_sl ([.long p0, .long p1]) ++ List.replicate (4 - (lg_sl ([.long p0, .long p1])).length) Slot.unset).toArray = ls at hl ⊢
  have hl : lv_has ls 4 [(0, .long p0), (2, .long p1)] := hl
  have k0 : (0 : Int32).toInt = 0 := by decide
  refine w_gen (A := A) hP (fun H locs hP hS => ?_)
  have km1 : (-1 : Int32).toInt = -1 := by decide
  have k1 : (1 : Int32).toInt = 1 := by decide
  refine lv_lload_n hx hb d_JL_compare_0 rfl (lv_at hl 0 rfl) ?_
  refine lv_lload_n hx hb d_JL_compare_1 rfl (lv_at hl 1 rfl) ?_
  refine W.lcmp hx hb d_JL_compare_2 ?_
  refine lv_topi (fun x1 ex1 => ?_)
  have tx1 := lgc ex1
  refine lv_if_ge (tgt := 10) hx hb d_JL_compare_3 (by decide) (fun c3 => ?_) (fun c3 => ?_)
  · have q3 := leI c3
    refine lv_lload_n hx hb d_JL_compare_10 rfl (lv_at hl 0 rfl) ?_
    refine lv_lload_n hx hb d_JL_compare_11 rfl (lv_at hl 1 rfl) ?_
    refine W.lcmp hx hb d_JL_compare_12 ?_
    refine lv_topi (fun x2 ex2 => ?_)
    have tx2 := lgc ex2
    refine lv_if_ne (tgt := 20) hx hb d_JL_compare_13 (by decide) (fun c13 => ?_) (fun c13 => ?_)
    · have q13 := neI c13
      refine lv_iconst (v := 1) hx hb d_JL_compare_20 (by decide) ?_
      have hP9 := hP.sb (wq := []) [] rfl
      have hD9 := hD.sb (wq := []) [] (by decide) rfl
      exact W.iret (v := 1) hx hb hr (fun t ht hW => ⟨⟨1, (), rfl, ⟨⟩, va_P.he ht.symm hP9, va_K.moved hW.alike hK, hD9⟩, hS.F ht⟩) hS.2.2 d_JL_compare_21
    · have q13 := eqI c13
      refine lv_iconst (v := 0) hx hb d_JL_compare_16 (by decide) ?_
      refine lv_goto (tgt := 21) hx hb d_JL_compare_17 (by decide) ?_
      have hP9 := hP.sb (wq := []) [] rfl
      have hD9 := hD.sb (wq := []) [] (by decide) rfl
      exact W.iret (v := 0) hx hb hr (fun t ht hW => ⟨⟨0, (), rfl, ⟨⟩, va_P.he ht.symm hP9, va_K.moved hW.alike hK, hD9⟩, hS.F ht⟩) hS.2.2 d_JL_compare_21
  · have q3 := nleI c3
    refine lv_iconst (v := (-1)) hx hb d_JL_compare_6 (by decide) ?_
    refine lv_goto (tgt := 21) hx hb d_JL_compare_7 (by decide) ?_
    have hP9 := hP.sb (wq := []) [] rfl
    have hD9 := hD.sb (wq := []) [] (by decide) rfl
    exact W.iret (v := ((-1))) hx hb hr (fun t ht hW => ⟨⟨(-1), (), rfl, ⟨⟩, va_P.he ht.symm hP9, va_K.moved hW.alike hK, hD9⟩, hS.F ht⟩) hS.2.2 d_JL_compare_21
abbrev b_JL_compareUnsigned : ByteArray := prog_30_method_43_code
def y_JL_compareUnsigned : MethodName := ⟨R_JL, "compareUnsigned", "(JJ)I"⟩
abbrev w_JL_compareUnsigned : List Cond := .code y_JL_compareUnsigned b_JL_compareUnsigned 4 (Option.some .int) :: lw_g
theorem kC_JL_compareUnsigned : Cond.code y_JL_compareUnsigned b_JL_compareUnsigned 4 (Option.some .int) ∈ lw_g := in_c7 219 rfl rfl
theorem d_JL_compareUnsigned_0 : decode b_JL_compareUnsigned 0 = .ok (.lload_n 0, 1) := bz_c30 (by decide +kernel)
theorem d_JL_compareUnsigned_1 : decode b_JL_compareUnsigned 1 = .ok (.ldc2_w 168, 3) := bz_c20 (by decide +kernel)
theorem d_JL_compareUnsigned_4 : decode b_JL_compareUnsigned 4 = .ok (.ladd, 1) := bz_c97 (by decide +kernel)
theorem d_JL_compareUnsigned_5 : decode b_JL_compareUnsigned 5 = .ok (.lload_n 2, 1) := bz_c32 (by decide +kernel)
theorem d_JL_compareUnsigned_6 : decode b_JL_compareUnsigned 6 = .ok (.ldc2_w 168, 3) := bz_c20 (by decide +kernel)
theorem d_JL_compareUnsigned_9 : decode b_JL_compareUnsigned 9 = .ok (.ladd, 1) := bz_c97 (by decide +kernel)
theorem d_JL_compareUnsigned_10 : decode b_JL_compareUnsigned 10 = .ok (.invokestatic 302, 3) := bz_c184 (by decide +kernel)
theorem d_JL_compareUnsigned_13 : decode b_JL_compareUnsigned 13 = .ok (.ireturn, 1) := bz_c172 (by decide +kernel)
theorem kM_JL_302 : Cond.methodLink R_JL 302 y_JL_compare ∈ lw_g := in_c7 221 rfl rfl
theorem kT_JL_compare : Cond.static y_JL_compare ∈ lw_g := in_c7 222 rfl rfl
theorem kL_JL_168 : Cond.constantLong R_JL 168 (-9223372036854775808) ∈ lw_g := in_c7 220 rfl rfl
abbrev at_JL_compareUnsigned (dC : Nat → ClassId) (dI : Nat → Nat → Nat)  (A : Nat → Prop) (u : Unit) (t : State) : Prop := match u with | _ => va_P (dC, dI) cls [] t.heap ∧ va_K (dC, dI) cls [] t ∧ va_D A []
set_option maxHeartbeats 4000000 in
set_option maxRecDepth 100000 in
theorem c_JL_compareUnsigned (l : Launch) (dC : Nat → ClassId) (dI : Nat → Nat → Nat) (sz : Nat)    (p0 : Int64) (p1 : Int64)   : Met l y_JL_compareUnsigned w_JL_compareUnsigned ({ frames := 1, cells := 0, slots := 0, locals := 23 }) (va_Pc [.long p0, .long p1] (fun U => U.heap.size = sz ∧ va_P (dC, dI) cls [] U.heap ∧ va_K (dC, dI) cls [] U ∧ va_D (fun _ => True) [])) (va_Qi (fun (r : Int32) (u : Unit) => match u with | _ => True) (at_JL_compareUnsigned dC dI  (va_A [] sz)) (va_A [] sz)) 0 0 (va_A [] sz) := by
  refine Met.ofW (cc := b_JL_compareUnsigned) (maxL := 4) (ret := (Option.some .int)) (by decide) rfl ?_
  intro p e s m args below meth c s₁ B hml hv
  obtain ⟨rfl, hsz, hP, hK, hD0⟩ := hv
  have hx := B.exec
  have hb := B.bytes
  have hr := B.returns
  have hts0 := atoms_spec (ws := w_JL_compareUnsigned) B.pre
  have hts : ∀ w ∈ lw_g, w.before _ s = true := fun w h => hts0 w (List.mem_cons_of_mem _ h)
  have hown : s.vm.findClass R_JL = some m.cls := findClass_of_methodNamed B.named
  have hlocks := B.notSynchronized
  clear hts0
  subst hsz
  have hD := hD0.self (sz := s.heap.size)
  generalize hAe : va_A [] s.heap.size = A at hD ⊢
  have hA : ∀ q : Nat, s.heap.size ≤ q → A q := fun q h => by rw [← hAe]; exact Or.inr h
  clear hAe
  have hP : va_P (dC, dI) cls [] s.heap := hP
  have hl := lv_entry ([.long p0, .long p1]) (n := 4) (Nat.le_of_ble_eq_true rfl)
  rw [lg_entry_eq]
  generalize (lg_sl ([.long p0, .long p1]) ++ List.replicate (4 - (lg_sl ([.long p0, .long p1])).length) Slot.unset).toArray = ls at hl ⊢
  have hl : lv_has ls 4 [(0, .long p0), (2, .long p1)] := hl
  have k0 : (0 : Int32).toInt = 0 := by decide
  refine w_gen (A := A) hP (fun H locs hP hS => ?_)
  refine lv_lload_n hx hb d_JL_compareUnsigned_0 rfl (lv_at hl 0 rfl) ?_
  refine lv_ldc2 hx hb hown (hts _ kL_JL_168) d_JL_compareUnsigned_1 ?_
  refine lv_topl (fun x1 ex1 => ?_)
  have tx1 : x1.toInt = -9223372036854775808 := by rw [ex1]; decide
  refine lv_ladd hx hb d_JL_compareUnsigned_4 ?_
  refine lv_topl (fun x2 ex2 => ?_)
  refine lv_lload_n hx hb d_JL_compareUnsigned_5 rfl (lv_at hl 1 rfl) ?_
  refine lv_ldc2 hx hb hown (hts _ kL_JL_168) d_JL_compareUnsigned_6 ?_
  refine lv_topl (fun x3 ex3 => ?_)
  have tx3 : x3.toInt = -9223372036854775808 := by rw [ex3]; decide
  refine lv_ladd hx hb d_JL_compareUnsigned_9 ?_
  refine lv_topl (fun x4 ex4 => ?_)
  have hPc := hP.sb (wq := []) [] rfl
  have hDc := hD.sb (wq := []) [] (by decide) rfl
  have hKc := hK.sb (tyq := []) [] rfl
  have hFc := va_free (wc := []) hD hS hA [] rfl
  refine va_calli (va_runS (As := [.long x2, .long x4]) (rest := []) ⟨hx, hb, hml, hown, hts⟩ (c_JL_compare l dC dI H.size x2 x4) ⟨callB_of 2 hts (gW kC_JL_compare) rfl rfl rfl (hts _ kI_JL) (hts _ kM_JL_302) (by decide +kernel) ⟨Nat.le_of_ble_eq_true rfl, Nat.le_of_ble_eq_true rfl⟩, hts _ kT_JL_compare⟩ ⟨fun a U g mk z => by obtain ⟨z0, z1, zP, zK, zD⟩ := z; exact ⟨z0, z1, zP, va_K.moved (u := U) (U := U.calling g mk a) (Vm.Alike.refl U.vm) zK, zD⟩, fun U hU hW => ⟨rfl, by rw [hU], va_P.he hU.symm hPc, va_K.moved hW.alike hKc, hDc.weaken (fun _ _ _ _ => trivial)⟩⟩ rfl rfl hl.1 rfl (lv_room (Nat.le_of_ble_eq_true rfl)) d_JL_compareUnsigned_10 ⟨(Nat.zero_le _), (Nat.zero_le _)⟩) hS (fun q _ h => hFc q h) hFc (fun r5 u t H1 locs ht hvm hw hB hz1 hk1 hS => ?_)
  try dsimp only at hw
  try clear hw
  obtain ⟨hP1, hK1, hD1⟩ := hB
  replace hP1 := va_P.he ht hP1
  obtain ⟨hP, hD⟩ := va_join (wr := []) (w1 := []) hP hD [] [] rfl rfl (by decide) (by decide) hk1 hFc hP1 hD1
  clear hPc hDc hKc hFc hz1 hk1 hP1 hK1 hD1
  rename Heap => H
  have hP : va_P (dC, dI) cls [] H := hP
  have hD : va_D A [] := hD
  have hP9 := hP.sb (wq := []) [] rfl
  have hD9 := hD.sb (wq := []) [] (by decide) rfl
  exact W.iret (v := r5) hx hb hr (fun t ht hW => ⟨⟨r5, (), rfl, ⟨⟩, va_P.he ht.symm hP9, va_K.moved hW.alike hK, hD9⟩, hS.F ht⟩) hS.2.2 d_JL_compareUnsigned_13
def R_JI : String := "java/lang/Integer"
theorem kI_JI : Cond.initialized R_JI ∈ lw_g := in_c1 28 rfl rfl
abbrev b_JI_numberOfLeadingZeros : ByteArray := prog_29_method_47_code
def y_JI_numberOfLeadingZeros : MethodName := ⟨R_JI, "numberOfLeadingZeros", "(I)I"⟩
abbrev w_JI_numberOfLeadingZeros : List Cond := .code y_JI_numberOfLeadingZeros b_JI_numberOfLeadingZeros 2 (Option.some .int) :: lw_g
theorem kC_JI_numberOfLeadingZeros : Cond.code y_JI_numberOfLeadingZeros b_JI_numberOfLeadingZeros 2 (Option.some .int) ∈ lw_g := in_c7 188 rfl rfl
theorem d_JI_numberOfLeadingZeros_0 : decode b_JI_numberOfLeadingZeros 0 = .ok (.iload_n 0, 1) := bz_c26 (by decide +kernel)
theorem d_JI_numberOfLeadingZeros_1 : decode b_JI_numberOfLeadingZeros 1 = .ok (.ifCond .gt 14, 3) := bz_c157 (by decide +kernel)
theorem d_JI_numberOfLeadingZeros_4 : decode b_JI_numberOfLeadingZeros 4 = .ok (.iload_n 0, 1) := bz_c26 (by decide +kernel)
theorem d_JI_numberOfLeadingZeros_5 : decode b_JI_numberOfLeadingZeros 5 = .ok (.ifCond .ne 8, 3) := bz_c154 (by decide +kernel)
theorem d_JI_numberOfLeadingZeros_8 : decode b_JI_numberOfLeadingZeros 8 = .ok (.bipush 32, 2) := bz_c16 (by decide +kernel)
theorem d_JI_numberOfLeadingZeros_10 : decode b_JI_numberOfLeadingZeros 10 = .ok (.goto 4, 3) := bz_c167 (by decide +kernel)
theorem d_JI_numberOfLeadingZeros_13 : decode b_JI_numberOfLeadingZeros 13 = .ok (.iconst 0, 1) := bz_c3 (by decide +kernel)
theorem d_JI_numberOfLeadingZeros_14 : decode b_JI_numberOfLeadingZeros 14 = .ok (.ireturn, 1) := bz_c172 (by decide +kernel)
theorem d_JI_numberOfLeadingZeros_15 : decode b_JI_numberOfLeadingZeros 15 = .ok (.bipush 31, 2) := bz_c16 (by decide +kernel)
theorem d_JI_numberOfLeadingZeros_17 : decode b_JI_numberOfLeadingZeros 17 = .ok (.istore_n 1, 1) := bz_c60 (by decide +kernel)
theorem d_JI_numberOfLeadingZeros_18 : decode b_JI_numberOfLeadingZeros 18 = .ok (.iload_n 0, 1) := bz_c26 (by decide +kernel)
theorem d_JI_numberOfLeadingZeros_19 : decode b_JI_numberOfLeadingZeros 19 = .ok (.ldc_w 264, 3) := bz_c19 (by decide +kernel)
theorem d_JI_numberOfLeadingZeros_22 : decode b_JI_numberOfLeadingZeros 22 = .ok (.if_icmp .lt 11, 3) := bz_c161 (by decide +kernel)
theorem d_JI_numberOfLeadingZeros_25 : decode b_JI_numberOfLeadingZeros 25 = .ok (.iinc 1 (-16), 3) := by decide +kernel
theorem d_JI_numberOfLeadingZeros_28 : decode b_JI_numberOfLeadingZeros 28 = .ok (.iload_n 0, 1) := bz_c26 (by decide +kernel)
theorem d_JI_numberOfLeadingZeros_29 : decode b_JI_numberOfLeadingZeros 29 = .ok (.bipush 16, 2) := bz_c16 (by decide +kernel)
theorem d_JI_numberOfLeadingZeros_31 : decode b_JI_numberOfLeadingZeros 31 = .ok (.iushr, 1) := bz_c124 (by decide +kernel)
theorem d_JI_numberOfLeadingZeros_32 : decode b_JI_numberOfLeadingZeros 32 = .ok (.istore_n 0, 1) := bz_c59 (by decide +kernel)
theorem d_JI_numberOfLeadingZeros_33 : decode b_JI_numberOfLeadingZeros 33 = .ok (.iload_n 0, 1) := bz_c26 (by decide +kernel)
theorem d_JI_numberOfLeadingZeros_34 : decode b_JI_numberOfLeadingZeros 34 = .ok (.sipush 256, 3) := bz_c17 (by decide +kernel)
theorem d_JI_numberOfLeadingZeros_37 : decode b_JI_numberOfLeadingZeros 37 = .ok (.if_icmp .lt 11, 3) := bz_c161 (by decide +kernel)
theorem d_JI_numberOfLeadingZeros_40 : decode b_JI_numberOfLeadingZeros 40 = .ok (.iinc 1 (-8), 3) := by decide +kernel
theorem d_JI_numberOfLeadingZeros_43 : decode b_JI_numberOfLeadingZeros 43 = .ok (.iload_n 0, 1) := bz_c26 (by decide +kernel)
theorem d_JI_numberOfLeadingZeros_44 : decode b_JI_numberOfLeadingZeros 44 = .ok (.bipush 8, 2) := bz_c16 (by decide +kernel)
theorem d_JI_numberOfLeadingZeros_46 : decode b_JI_numberOfLeadingZeros 46 = .ok (.iushr, 1) := bz_c124 (by decide +kernel)
theorem d_JI_numberOfLeadingZeros_47 : decode b_JI_numberOfLeadingZeros 47 = .ok (.istore_n 0, 1) := bz_c59 (by decide +kernel)
theorem d_JI_numberOfLeadingZeros_48 : decode b_JI_numberOfLeadingZeros 48 = .ok (.iload_n 0, 1) := bz_c26 (by decide +kernel)
theorem d_JI_numberOfLeadingZeros_49 : decode b_JI_numberOfLeadingZeros 49 = .ok (.bipush 16, 2) := bz_c16 (by decide +kernel)
theorem d_JI_numberOfLeadingZeros_51 : decode b_JI_numberOfLeadingZeros 51 = .ok (.if_icmp .lt 10, 3) := bz_c161 (by decide +kernel)
theorem d_JI_numberOfLeadingZeros_54 : decode b_JI_numberOfLeadingZeros 54 = .ok (.iinc 1 (-4), 3) := by decide +kernel
theorem d_JI_numberOfLeadingZeros_57 : decode b_JI_numberOfLeadingZeros 57 = .ok (.iload_n 0, 1) := bz_c26 (by decide +kernel)
theorem d_JI_numberOfLeadingZeros_58 : decode b_JI_numberOfLeadingZeros 58 = .ok (.iconst 4, 1) := bz_c7 (by decide +kernel)
theorem d_JI_numberOfLeadingZeros_59 : decode b_JI_numberOfLeadingZeros 59 = .ok (.iushr, 1) := bz_c124 (by decide +kernel)
theorem d_JI_numberOfLeadingZeros_60 : decode b_JI_numberOfLeadingZeros 60 = .ok (.istore_n 0, 1) := bz_c59 (by decide +kernel)
theorem d_JI_numberOfLeadingZeros_61 : decode b_JI_numberOfLeadingZeros 61 = .ok (.iload_n 0, 1) := bz_c26 (by decide +kernel)
theorem d_JI_numberOfLeadingZeros_62 : decode b_JI_numberOfLeadingZeros 62 = .ok (.iconst 4, 1) := bz_c7 (by decide +kernel)
theorem d_JI_numberOfLeadingZeros_63 : decode b_JI_numberOfLeadingZeros 63 = .ok (.if_icmp .lt 10, 3) := bz_c161 (by decide +kernel)
theorem d_JI_numberOfLeadingZeros_66 : decode b_JI_numberOfLeadingZeros 66 = .ok (.iinc 1 (-2), 3) := by decide +kernel
theorem d_JI_numberOfLeadingZeros_69 : decode b_JI_numberOfLeadingZeros 69 = .ok (.iload_n 0, 1) := bz_c26 (by decide +kernel)
theorem d_JI_numberOfLeadingZeros_70 : decode b_JI_numberOfLeadingZeros 70 = .ok (.iconst 2, 1) := bz_c5 (by decide +kernel)
theorem d_JI_numberOfLeadingZeros_71 : decode b_JI_numberOfLeadingZeros 71 = .ok (.iushr, 1) := bz_c124 (by decide +kernel)
theorem d_JI_numberOfLeadingZeros_72 : decode b_JI_numberOfLeadingZeros 72 = .ok (.istore_n 0, 1) := bz_c59 (by decide +kernel)
theorem d_JI_numberOfLeadingZeros_73 : decode b_JI_numberOfLeadingZeros 73 = .ok (.iload_n 1, 1) := bz_c27 (by decide +kernel)
theorem d_JI_numberOfLeadingZeros_74 : decode b_JI_numberOfLeadingZeros 74 = .ok (.iload_n 0, 1) := bz_c26 (by decide +kernel)
theorem d_JI_numberOfLeadingZeros_75 : decode b_JI_numberOfLeadingZeros 75 = .ok (.iconst 1, 1) := bz_c4 (by decide +kernel)
theorem d_JI_numberOfLeadingZeros_76 : decode b_JI_numberOfLeadingZeros 76 = .ok (.iushr, 1) := bz_c124 (by decide +kernel)
theorem d_JI_numberOfLeadingZeros_77 : decode b_JI_numberOfLeadingZeros 77 = .ok (.isub, 1) := bz_c100 (by decide +kernel)
theorem d_JI_numberOfLeadingZeros_78 : decode b_JI_numberOfLeadingZeros 78 = .ok (.ireturn, 1) := bz_c172 (by decide +kernel)
theorem kJ_JI_264 : Cond.constant R_JI 264 (65536) ∈ lw_g := in_c5 224 rfl rfl
abbrev at_JI_numberOfLeadingZeros (dC : Nat → ClassId) (dI : Nat → Nat → Nat)  (A : Nat → Prop) (u : Unit) (t : State) : Prop := match u with | _ => va_P (dC, dI) cls [] t.heap ∧ va_K (dC, dI) cls [] t ∧ va_D A []
set_option maxHeartbeats 4000000 in
set_option maxRecDepth 100000 in
theorem c_JI_numberOfLeadingZeros (l : Launch) (dC : Nat → ClassId) (dI : Nat → Nat → Nat) (sz : Nat)    (p0 : Int32)   : Met l y_JI_numberOfLeadingZeros w_JI_numberOfLeadingZeros ({ frames := 0, cells := 0, slots := 0, locals := 0 }) (va_Pc [.int p0] (fun U => U.heap.size = sz ∧ va_P (dC, dI) cls [] U.heap ∧ va_K (dC, dI) cls [] U ∧ va_D (fun _ => True) [])) (va_Qi (fun (r : Int32) (u : Unit) => match u with | _ => True) (at_JI_numberOfLeadingZeros dC dI  (va_A [] sz)) (va_A [] sz)) 0 0 (va_A [] sz) := by
  refine Met.ofW (cc := b_JI_numberOfLeadingZeros) (maxL := 2) (ret := (Option.some .int)) (by decide) rfl ?_
  intro p e s m args below meth c s₁ B hml hv
  obtain ⟨rfl, hsz, hP, hK, hD0⟩ := hv
  have hx := B.exec
  have hb := B.bytes
  have hr := B.returns
  have hts0 := atoms_spec (ws := w_JI_numberOfLeadingZeros) B.pre
  have hts : ∀ w ∈ lw_g, w.before _ s = true := fun w h => hts0 w (List.mem_cons_of_mem _ h)
  have hown : s.vm.findClass R_JI = some m.cls := findClass_of_methodNamed B.named
  have hlocks := B.notSynchronized
  clear hts0
  subst hsz
  have hD := hD0.self (sz := s.heap.size)
  generalize hAe : va_A [] s.heap.size = A at hD ⊢
  have hA : ∀ q : Nat, s.heap.size ≤ q → A q := fun q h => by rw [← hAe]; exact Or.inr h
  clear hAe
  have hP : va_P (dC, dI) cls [] s.heap := hP
  have hl := lv_entry ([.int p0]) (n := 2) (Nat.le_of_ble_eq_true rfl)
  rw [lg_entry_eq]
  generalize (lg_sl ([.int p0]) ++ List.replicate (2 - (lg_sl ([.int p0])).length) Slot.unset).toArray = ls at hl ⊢
  have hl : lv_has ls 2 [(0, .int p0)] := hl
  have k0 : (0 : Int32).toInt = 0 := by decide
  refine w_gen (A := A) hP (fun H locs hP hS => ?_)
  have km16 : (-16 : Int32).toInt = -16 := by decide
  have km8 : (-8 : Int32).toInt = -8 := by decide
  have km4 : (-4 : Int32).toInt = -4 := by decide
  have km2 : (-2 : Int32).toInt = -2 := by decide
  have k1 : (1 : Int32).toInt = 1 := by decide
  have k2 : (2 : Int32).toInt = 2 := by decide
  have k4 : (4 : Int32).toInt = 4 := by decide
  have k8 : (8 : Int32).toInt = 8 := by decide
  have k16 : (16 : Int32).toInt = 16 := by decide
  have k31 : (31 : Int32).toInt = 31 := by decide
  have k32 : (32 : Int32).toInt = 32 := by decide
  have k256 : (256 : Int32).toInt = 256 := by decide
  have lo_p0 := i32_lo p0
  have hi_p0 := i32_hi p0
  refine lv_iload_n hx hb d_JI_numberOfLeadingZeros_0 rfl (lv_at hl 0 rfl) ?_
  refine lv_if_gt (tgt := 15) hx hb d_JI_numberOfLeadingZeros_1 (by decide) (fun c1 => ?_) (fun c1 => ?_)
  · have q1 := ltI c1
    refine lv_bipush (v := 31) hx hb d_JI_numberOfLeadingZeros_15 (by decide) ?_
    refine lv_istore_n (lv' := [(1, .int 31), (0, .int p0)]) hx hb d_JI_numberOfLeadingZeros_17 rfl hl (by decide) rfl (fun ls hl => ?_)
    refine lv_iload_n hx hb d_JI_numberOfLeadingZeros_18 rfl (lv_at hl 1 rfl) ?_
    refine lv_ldcw hx hb hown (hts _ kJ_JI_264) d_JI_numberOfLeadingZeros_19 ?_
    refine lv_topi (fun x1 ex1 => ?_)
    have tx1 : x1.toInt = 65536 := by rw [ex1]; decide
    refine w_cut (pc2 := 33) (σ := Int32 × Int32) (fun u H locs ls => match u with | (j33_l0, j33_l1) => va_P (dC, dI) cls [] H ∧ va_D A [] ∧ va_S A s.heap H locs ∧ lv_has ls 2 [(0, .int j33_l0), (1, .int j33_l1)]) (fun u => match u with | (j33_l0, j33_l1) => []) ?_ (fun jn33 => ?_)
    · intro u H locs ls hI
      obtain ⟨j33_l0, j33_l1⟩ := u
      obtain ⟨hP, hD, hS, hl⟩ := hI
      refine lv_iload_n hx hb d_JI_numberOfLeadingZeros_33 rfl (lv_at hl 0 rfl) ?_
      refine lv_sipush (v := 256) hx hb d_JI_numberOfLeadingZeros_34 (by decide) ?_
      refine w_cut (pc2 := 48) (σ := Int32 × Int32) (fun u H locs ls => match u with | (j48_l0, j48_l1) => va_P (dC, dI) cls [] H ∧ va_D A [] ∧ va_S A s.heap H locs ∧ lv_has ls 2 [(0, .int j48_l0), (1, .int j48_l1)]) (fun u => match u with | (j48_l0, j48_l1) => []) ?_ (fun jn48 => ?_)
      · intro u H locs ls hI
        obtain ⟨j48_l0, j48_l1⟩ := u
        obtain ⟨hP, hD, hS, hl⟩ := hI
        refine lv_iload_n hx hb d_JI_numberOfLeadingZeros_48 rfl (lv_at hl 0 rfl) ?_
        refine lv_bipush (v := 16) hx hb d_JI_numberOfLeadingZeros_49 (by decide) ?_
        refine w_cut (pc2 := 61) (σ := Int32 × Int32) (fun u H locs ls => match u with | (j61_l0, j61_l1) => va_P (dC, dI) cls [] H ∧ va_D A [] ∧ va_S A s.heap H locs ∧ lv_has ls 2 [(0, .int j61_l0), (1, .int j61_l1)]) (fun u => match u with | (j61_l0, j61_l1) => []) ?_ (fun jn61 => ?_)
        · intro u H locs ls hI
          obtain ⟨j61_l0, j61_l1⟩ := u
          obtain ⟨hP, hD, hS, hl⟩ := hI
          refine lv_iload_n hx hb d_JI_numberOfLeadingZeros_61 rfl (lv_at hl 0 rfl) ?_
          refine lv_iconst (v := 4) hx hb d_JI_numberOfLeadingZeros_62 (by decide) ?_
          refine w_cut (pc2 := 73) (σ := Int32 × Int32) (fun u H locs ls => match u with | (j73_l0, j73_l1) => va_P (dC, dI) cls [] H ∧ va_D A [] ∧ va_S A s.heap H locs ∧ lv_has ls 2 [(0, .int j73_l0), (1, .int j73_l1)]) (fun u => match u with | (j73_l0, j73_l1) => []) ?_ (fun jn73 => ?_)
          · intro u H locs ls hI
            obtain ⟨j73_l0, j73_l1⟩ := u
            obtain ⟨hP, hD, hS, hl⟩ := hI
            refine lv_iload_n hx hb d_JI_numberOfLeadingZeros_73 rfl (lv_at hl 1 rfl) ?_
            refine lv_iload_n hx hb d_JI_numberOfLeadingZeros_74 rfl (lv_at hl 0 rfl) ?_
            refine lv_iconst (v := 1) hx hb d_JI_numberOfLeadingZeros_75 (by decide) ?_
            refine lv_iushr hx hb d_JI_numberOfLeadingZeros_76 rfl ?_
            refine lv_topi (fun x2 ex2 => ?_)
            refine lv_isub hx hb d_JI_numberOfLeadingZeros_77 ?_
            refine lv_topi (fun x3 ex3 => ?_)
            have hP9 := hP.sb (wq := []) [] rfl
            have hD9 := hD.sb (wq := []) [] (by decide) rfl
            exact W.iret (v := x3) hx hb hr (fun t ht hW => ⟨⟨x3, (), rfl, ⟨⟩, va_P.he ht.symm hP9, va_K.moved hW.alike hK, hD9⟩, hS.F ht⟩) hS.2.2 d_JI_numberOfLeadingZeros_78
          · skip
            refine lv_icmp_lt (tgt := 73) hx hb d_JI_numberOfLeadingZeros_63 (by decide) (fun c63 => ?_) (fun c63 => ?_)
            · have q63 := ltI c63
              exact jn73 (j61_l0, j61_l1) _ _ _ ⟨hP, hD, hS, lv_sub hl [0, 1] rfl⟩
            · have q63 := nltI c63
              obtain ⟨x4, ex4⟩ : ∃ z : Int32, z = j61_l1 + (-2) := ⟨_, rfl⟩
              refine lv_iinc (v := x4) (lv' := [(1, .int x4), (0, .int j61_l0)]) hx hb d_JI_numberOfLeadingZeros_66 hl (k := 1) rfl (by rw [ex4]; rfl) (by decide) rfl (fun ls hl => ?_)
              refine lv_iload_n hx hb d_JI_numberOfLeadingZeros_69 rfl (lv_at hl 1 rfl) ?_
              refine lv_iconst (v := 2) hx hb d_JI_numberOfLeadingZeros_70 (by decide) ?_
              refine lv_iushr hx hb d_JI_numberOfLeadingZeros_71 rfl ?_
              refine lv_topi (fun x5 ex5 => ?_)
              refine lv_istore_n (lv' := [(0, .int x5), (1, .int x4)]) hx hb d_JI_numberOfLeadingZeros_72 rfl hl (by decide) rfl (fun ls hl => ?_)
              exact jn73 (x5, x4) _ _ _ ⟨hP, hD, hS, lv_sub hl [0, 1] rfl⟩
        · skip
          refine lv_icmp_lt (tgt := 61) hx hb d_JI_numberOfLeadingZeros_51 (by decide) (fun c51 => ?_) (fun c51 => ?_)
          · have q51 := ltI c51
            exact jn61 (j48_l0, j48_l1) _ _ _ ⟨hP, hD, hS, lv_sub hl [0, 1] rfl⟩
          · have q51 := nltI c51
            obtain ⟨x6, ex6⟩ : ∃ z : Int32, z = j48_l1 + (-4) := ⟨_, rfl⟩
            refine lv_iinc (v := x6) (lv' := [(1, .int x6), (0, .int j48_l0)]) hx hb d_JI_numberOfLeadingZeros_54 hl (k := 1) rfl (by rw [ex6]; rfl) (by decide) rfl (fun ls hl => ?_)
            refine lv_iload_n hx hb d_JI_numberOfLeadingZeros_57 rfl (lv_at hl 1 rfl) ?_
            refine lv_iconst (v := 4) hx hb d_JI_numberOfLeadingZeros_58 (by decide) ?_
            refine lv_iushr hx hb d_JI_numberOfLeadingZeros_59 rfl ?_
            refine lv_topi (fun x7 ex7 => ?_)
            refine lv_istore_n (lv' := [(0, .int x7), (1, .int x6)]) hx hb d_JI_numberOfLeadingZeros_60 rfl hl (by decide) rfl (fun ls hl => ?_)
            exact jn61 (x7, x6) _ _ _ ⟨hP, hD, hS, lv_sub hl [0, 1] rfl⟩
      · skip
        refine lv_icmp_lt (tgt := 48) hx hb d_JI_numberOfLeadingZeros_37 (by decide) (fun c37 => ?_) (fun c37 => ?_)
        · have q37 := ltI c37
          exact jn48 (j33_l0, j33_l1) _ _ _ ⟨hP, hD, hS, lv_sub hl [0, 1] rfl⟩
        · have q37 := nltI c37
          obtain ⟨x8, ex8⟩ : ∃ z : Int32, z = j33_l1 + (-8) := ⟨_, rfl⟩
          refine lv_iinc (v := x8) (lv' := [(1, .int x8), (0, .int j33_l0)]) hx hb d_JI_numberOfLeadingZeros_40 hl (k := 1) rfl (by rw [ex8]; rfl) (by decide) rfl (fun ls hl => ?_)
          refine lv_iload_n hx hb d_JI_numberOfLeadingZeros_43 rfl (lv_at hl 1 rfl) ?_
          refine lv_bipush (v := 8) hx hb d_JI_numberOfLeadingZeros_44 (by decide) ?_
          refine lv_iushr hx hb d_JI_numberOfLeadingZeros_46 rfl ?_
          refine lv_topi (fun x9 ex9 => ?_)
          refine lv_istore_n (lv' := [(0, .int x9), (1, .int x8)]) hx hb d_JI_numberOfLeadingZeros_47 rfl hl (by decide) rfl (fun ls hl => ?_)
          exact jn48 (x9, x8) _ _ _ ⟨hP, hD, hS, lv_sub hl [0, 1] rfl⟩
    · skip
      refine lv_icmp_lt (tgt := 33) hx hb d_JI_numberOfLeadingZeros_22 (by decide) (fun c22 => ?_) (fun c22 => ?_)
      · have q22 := ltI c22
        exact jn33 (p0, 31) _ _ _ ⟨hP, hD, hS, lv_sub hl [1, 0] rfl⟩
      · have q22 := nltI c22
        obtain ⟨x10, ex10⟩ : ∃ z : Int32, z = 31 + (-16) := ⟨_, rfl⟩
        refine lv_iinc (v := x10) (lv' := [(1, .int x10), (0, .int p0)]) hx hb d_JI_numberOfLeadingZeros_25 hl (k := 0) rfl (by rw [ex10]; rfl) (by decide) rfl (fun ls hl => ?_)
        refine lv_iload_n hx hb d_JI_numberOfLeadingZeros_28 rfl (lv_at hl 1 rfl) ?_
        refine lv_bipush (v := 16) hx hb d_JI_numberOfLeadingZeros_29 (by decide) ?_
        refine lv_iushr hx hb d_JI_numberOfLeadingZeros_31 rfl ?_
        refine lv_topi (fun x11 ex11 => ?_)
        refine lv_istore_n (lv' := [(0, .int x11), (1, .int x10)]) hx hb d_JI_numberOfLeadingZeros_32 rfl hl (by decide) rfl (fun ls hl => ?_)
        exact jn33 (x11, x10) _ _ _ ⟨hP, hD, hS, lv_sub hl [0, 1] rfl⟩
  · have q1 := nltI c1
    refine lv_iload_n hx hb d_JI_numberOfLeadingZeros_4 rfl (lv_at hl 0 rfl) ?_
    refine lv_if_ne (tgt := 13) hx hb d_JI_numberOfLeadingZeros_5 (by decide) (fun c5 => ?_) (fun c5 => ?_)
    · have q5 := neI c5
      refine lv_iconst (v := 0) hx hb d_JI_numberOfLeadingZeros_13 (by decide) ?_
      have hP9 := hP.sb (wq := []) [] rfl
      have hD9 := hD.sb (wq := []) [] (by decide) rfl
      exact W.iret (v := 0) hx hb hr (fun t ht hW => ⟨⟨0, (), rfl, ⟨⟩, va_P.he ht.symm hP9, va_K.moved hW.alike hK, hD9⟩, hS.F ht⟩) hS.2.2 d_JI_numberOfLeadingZeros_14
    · have q5 := eqI c5
      refine lv_bipush (v := 32) hx hb d_JI_numberOfLeadingZeros_8 (by decide) ?_
      refine lv_goto (tgt := 14) hx hb d_JI_numberOfLeadingZeros_10 (by decide) ?_
      have hP9 := hP.sb (wq := []) [] rfl
      have hD9 := hD.sb (wq := []) [] (by decide) rfl
      exact W.iret (v := 32) hx hb hr (fun t ht hW => ⟨⟨32, (), rfl, ⟨⟩, va_P.he ht.symm hP9, va_K.moved hW.alike hK, hD9⟩, hS.F ht⟩) hS.2.2 d_JI_numberOfLeadingZeros_14
abbrev b_JI_numberOfTrailingZeros : ByteArray := prog_29_method_48_code
def y_JI_numberOfTrailingZeros : MethodName := ⟨R_JI, "numberOfTrailingZeros", "(I)I"⟩
abbrev w_JI_numberOfTrailingZeros : List Cond := .code y_JI_numberOfTrailingZeros b_JI_numberOfTrailingZeros 2 (Option.some .int) :: lw_g
theorem kC_JI_numberOfTrailingZeros : Cond.code y_JI_numberOfTrailingZeros b_JI_numberOfTrailingZeros 2 (Option.some .int) ∈ lw_g := in_c5 223 rfl rfl
theorem d_JI_numberOfTrailingZeros_0 : decode b_JI_numberOfTrailingZeros 0 = .ok (.iload_n 0, 1) := bz_c26 (by decide +kernel)
theorem d_JI_numberOfTrailingZeros_1 : decode b_JI_numberOfTrailingZeros 1 = .ok (.iconst (-1), 1) := bz_c2 (by decide +kernel)
theorem d_JI_numberOfTrailingZeros_2 : decode b_JI_numberOfTrailingZeros 2 = .ok (.ixor, 1) := by decide +kernel
theorem d_JI_numberOfTrailingZeros_3 : decode b_JI_numberOfTrailingZeros 3 = .ok (.iload_n 0, 1) := bz_c26 (by decide +kernel)
theorem d_JI_numberOfTrailingZeros_4 : decode b_JI_numberOfTrailingZeros 4 = .ok (.iconst 1, 1) := bz_c4 (by decide +kernel)
theorem d_JI_numberOfTrailingZeros_5 : decode b_JI_numberOfTrailingZeros 5 = .ok (.isub, 1) := bz_c100 (by decide +kernel)
theorem d_JI_numberOfTrailingZeros_6 : decode b_JI_numberOfTrailingZeros 6 = .ok (.iand, 1) := bz_c126 (by decide +kernel)
theorem d_JI_numberOfTrailingZeros_7 : decode b_JI_numberOfTrailingZeros 7 = .ok (.istore_n 0, 1) := bz_c59 (by decide +kernel)
theorem d_JI_numberOfTrailingZeros_8 : decode b_JI_numberOfTrailingZeros 8 = .ok (.iload_n 0, 1) := bz_c26 (by decide +kernel)
theorem d_JI_numberOfTrailingZeros_9 : decode b_JI_numberOfTrailingZeros 9 = .ok (.ifCond .gt 8, 3) := bz_c157 (by decide +kernel)
theorem d_JI_numberOfTrailingZeros_12 : decode b_JI_numberOfTrailingZeros 12 = .ok (.iload_n 0, 1) := bz_c26 (by decide +kernel)
theorem d_JI_numberOfTrailingZeros_13 : decode b_JI_numberOfTrailingZeros 13 = .ok (.bipush 32, 2) := bz_c16 (by decide +kernel)
theorem d_JI_numberOfTrailingZeros_15 : decode b_JI_numberOfTrailingZeros 15 = .ok (.iand, 1) := bz_c126 (by decide +kernel)
theorem d_JI_numberOfTrailingZeros_16 : decode b_JI_numberOfTrailingZeros 16 = .ok (.ireturn, 1) := bz_c172 (by decide +kernel)
theorem d_JI_numberOfTrailingZeros_17 : decode b_JI_numberOfTrailingZeros 17 = .ok (.iconst 1, 1) := bz_c4 (by decide +kernel)
theorem d_JI_numberOfTrailingZeros_18 : decode b_JI_numberOfTrailingZeros 18 = .ok (.istore_n 1, 1) := bz_c60 (by decide +kernel)
theorem d_JI_numberOfTrailingZeros_19 : decode b_JI_numberOfTrailingZeros 19 = .ok (.iload_n 0, 1) := bz_c26 (by decide +kernel)
theorem d_JI_numberOfTrailingZeros_20 : decode b_JI_numberOfTrailingZeros 20 = .ok (.ldc_w 264, 3) := bz_c19 (by decide +kernel)
theorem d_JI_numberOfTrailingZeros_23 : decode b_JI_numberOfTrailingZeros 23 = .ok (.if_icmp .le 11, 3) := bz_c164 (by decide +kernel)
theorem d_JI_numberOfTrailingZeros_26 : decode b_JI_numberOfTrailingZeros 26 = .ok (.iinc 1 16, 3) := by decide +kernel
theorem d_JI_numberOfTrailingZeros_29 : decode b_JI_numberOfTrailingZeros 29 = .ok (.iload_n 0, 1) := bz_c26 (by decide +kernel)
theorem d_JI_numberOfTrailingZeros_30 : decode b_JI_numberOfTrailingZeros 30 = .ok (.bipush 16, 2) := bz_c16 (by decide +kernel)
theorem d_JI_numberOfTrailingZeros_32 : decode b_JI_numberOfTrailingZeros 32 = .ok (.iushr, 1) := bz_c124 (by decide +kernel)
theorem d_JI_numberOfTrailingZeros_33 : decode b_JI_numberOfTrailingZeros 33 = .ok (.istore_n 0, 1) := bz_c59 (by decide +kernel)
theorem d_JI_numberOfTrailingZeros_34 : decode b_JI_numberOfTrailingZeros 34 = .ok (.iload_n 0, 1) := bz_c26 (by decide +kernel)
theorem d_JI_numberOfTrailingZeros_35 : decode b_JI_numberOfTrailingZeros 35 = .ok (.sipush 256, 3) := bz_c17 (by decide +kernel)
theorem d_JI_numberOfTrailingZeros_38 : decode b_JI_numberOfTrailingZeros 38 = .ok (.if_icmp .le 11, 3) := bz_c164 (by decide +kernel)
theorem d_JI_numberOfTrailingZeros_41 : decode b_JI_numberOfTrailingZeros 41 = .ok (.iinc 1 8, 3) := by decide +kernel
theorem d_JI_numberOfTrailingZeros_44 : decode b_JI_numberOfTrailingZeros 44 = .ok (.iload_n 0, 1) := bz_c26 (by decide +kernel)
theorem d_JI_numberOfTrailingZeros_45 : decode b_JI_numberOfTrailingZeros 45 = .ok (.bipush 8, 2) := bz_c16 (by decide +kernel)
theorem d_JI_numberOfTrailingZeros_47 : decode b_JI_numberOfTrailingZeros 47 = .ok (.iushr, 1) := bz_c124 (by decide +kernel)
theorem d_JI_numberOfTrailingZeros_48 : decode b_JI_numberOfTrailingZeros 48 = .ok (.istore_n 0, 1) := bz_c59 (by decide +kernel)
theorem d_JI_numberOfTrailingZeros_49 : decode b_JI_numberOfTrailingZeros 49 = .ok (.iload_n 0, 1) := bz_c26 (by decide +kernel)
theorem d_JI_numberOfTrailingZeros_50 : decode b_JI_numberOfTrailingZeros 50 = .ok (.bipush 16, 2) := bz_c16 (by decide +kernel)
theorem d_JI_numberOfTrailingZeros_52 : decode b_JI_numberOfTrailingZeros 52 = .ok (.if_icmp .le 10, 3) := bz_c164 (by decide +kernel)
theorem d_JI_numberOfTrailingZeros_55 : decode b_JI_numberOfTrailingZeros 55 = .ok (.iinc 1 4, 3) := by decide +kernel
theorem d_JI_numberOfTrailingZeros_58 : decode b_JI_numberOfTrailingZeros 58 = .ok (.iload_n 0, 1) := bz_c26 (by decide +kernel)
theorem d_JI_numberOfTrailingZeros_59 : decode b_JI_numberOfTrailingZeros 59 = .ok (.iconst 4, 1) := bz_c7 (by decide +kernel)
theorem d_JI_numberOfTrailingZeros_60 : decode b_JI_numberOfTrailingZeros 60 = .ok (.iushr, 1) := bz_c124 (by decide +kernel)
theorem d_JI_numberOfTrailingZeros_61 : decode b_JI_numberOfTrailingZeros 61 = .ok (.istore_n 0, 1) := bz_c59 (by decide +kernel)
theorem d_JI_numberOfTrailingZeros_62 : decode b_JI_numberOfTrailingZeros 62 = .ok (.iload_n 0, 1) := bz_c26 (by decide +kernel)
theorem d_JI_numberOfTrailingZeros_63 : decode b_JI_numberOfTrailingZeros 63 = .ok (.iconst 4, 1) := bz_c7 (by decide +kernel)
theorem d_JI_numberOfTrailingZeros_64 : decode b_JI_numberOfTrailingZeros 64 = .ok (.if_icmp .le 10, 3) := bz_c164 (by decide +kernel)
theorem d_JI_numberOfTrailingZeros_67 : decode b_JI_numberOfTrailingZeros 67 = .ok (.iinc 1 2, 3) := by decide +kernel
theorem d_JI_numberOfTrailingZeros_70 : decode b_JI_numberOfTrailingZeros 70 = .ok (.iload_n 0, 1) := bz_c26 (by decide +kernel)
theorem d_JI_numberOfTrailingZeros_71 : decode b_JI_numberOfTrailingZeros 71 = .ok (.iconst 2, 1) := bz_c5 (by decide +kernel)
theorem d_JI_numberOfTrailingZeros_72 : decode b_JI_numberOfTrailingZeros 72 = .ok (.iushr, 1) := bz_c124 (by decide +kernel)
theorem d_JI_numberOfTrailingZeros_73 : decode b_JI_numberOfTrailingZeros 73 = .ok (.istore_n 0, 1) := bz_c59 (by decide +kernel)
theorem d_JI_numberOfTrailingZeros_74 : decode b_JI_numberOfTrailingZeros 74 = .ok (.iload_n 1, 1) := bz_c27 (by decide +kernel)
theorem d_JI_numberOfTrailingZeros_75 : decode b_JI_numberOfTrailingZeros 75 = .ok (.iload_n 0, 1) := bz_c26 (by decide +kernel)
theorem d_JI_numberOfTrailingZeros_76 : decode b_JI_numberOfTrailingZeros 76 = .ok (.iconst 1, 1) := bz_c4 (by decide +kernel)
theorem d_JI_numberOfTrailingZeros_77 : decode b_JI_numberOfTrailingZeros 77 = .ok (.iushr, 1) := bz_c124 (by decide +kernel)
theorem d_JI_numberOfTrailingZeros_78 : decode b_JI_numberOfTrailingZeros 78 = .ok (.iadd, 1) := bz_c96 (by decide +kernel)
theorem d_JI_numberOfTrailingZeros_79 : decode b_JI_numberOfTrailingZeros 79 = .ok (.ireturn, 1) := bz_c172 (by decide +kernel)
abbrev at_JI_numberOfTrailingZeros (dC : Nat → ClassId) (dI : Nat → Nat → Nat)  (A : Nat → Prop) (u : Unit) (t : State) : Prop := match u with | _ => va_P (dC, dI) cls [] t.heap ∧ va_K (dC, dI) cls [] t ∧ va_D A []
set_option maxHeartbeats 4000000 in
set_option maxRecDepth 100000 in
theorem c_JI_numberOfTrailingZeros (l : Launch) (dC : Nat → ClassId) (dI : Nat → Nat → Nat) (sz : Nat)    (p0 : Int32)   : Met l y_JI_numberOfTrailingZeros w_JI_numberOfTrailingZeros ({ frames := 0, cells := 0, slots := 0, locals := 0 }) (va_Pc [.int p0] (fun U => U.heap.size = sz ∧ va_P (dC, dI) cls [] U.heap ∧ va_K (dC, dI) cls [] U ∧ va_D (fun _ => True) [])) (va_Qi (fun (r : Int32) (u : Unit) => match u with | _ => True) (at_JI_numberOfTrailingZeros dC dI  (va_A [] sz)) (va_A [] sz)) 0 0 (va_A [] sz) := by
  refine Met.ofW (cc := b_JI_numberOfTrailingZeros) (maxL := 2) (ret := (Option.some .int)) (by decide) rfl ?_
  intro p e s m args below meth c s₁ B hml hv
  obtain ⟨rfl, hsz, hP, hK, hD0⟩ := hv
  have hx := B.exec
  have hb := B.bytes
  have hr := B.returns
  have hts0 := atoms_spec (ws := w_JI_numberOfTrailingZeros) B.pre
  have hts : ∀ w ∈ lw_g, w.before _ s = true := fun w h => hts0 w (List.mem_cons_of_mem _ h)
  have hown : s.vm.findClass R_JI = some m.cls := findClass_of_methodNamed B.named
  have hlocks := B.notSynchronized
  clear hts0
  subst hsz
  have hD := hD0.self (sz := s.heap.size)
  generalize hAe : va_A [] s.heap.size = A at hD ⊢
  have hA : ∀ q : Nat, s.heap.size ≤ q → A q := fun q h => by rw [← hAe]; exact Or.inr h
  clear hAe
  have hP : va_P (dC, dI) cls [] s.heap := hP
  have hl := lv_entry ([.int p0]) (n := 2) (Nat.le_of_ble_eq_true rfl)
  rw [lg_entry_eq]
  generalize (lg_sl ([.int p0]) ++ List.replicate (2 - (lg_sl ([.int p0])).length) Slot.unset).toArray = ls at hl ⊢
  have hl : lv_has ls 2 [(0, .int p0)] := hl
  have k0 : (0 : Int32).toInt = 0 := by decide
  refine w_gen (A := A) hP (fun H locs hP hS => ?_)
  have km1 : (-1 : Int32).toInt = -1 := by decide
  have k1 : (1 : Int32).toInt = 1 := by decide
  have k2 : (2 : Int32).toInt = 2 := by decide
  have k4 : (4 : Int32).toInt = 4 := by decide
  have k8 : (8 : Int32).toInt = 8 := by decide
  have k16 : (16 : Int32).toInt = 16 := by decide
  have k32 : (32 : Int32).toInt = 32 := by decide
  have k256 : (256 : Int32).toInt = 256 := by decide
  have lo_p0 := i32_lo p0
  have hi_p0 := i32_hi p0
  refine lv_iload_n hx hb d_JI_numberOfTrailingZeros_0 rfl (lv_at hl 0 rfl) ?_
  refine lv_iconst (v := (-1)) hx hb d_JI_numberOfTrailingZeros_1 (by decide) ?_
  refine lv_ixor hx hb d_JI_numberOfTrailingZeros_2 ?_
  refine lv_topi (fun x1 ex1 => ?_)
  refine lv_iload_n hx hb d_JI_numberOfTrailingZeros_3 rfl (lv_at hl 0 rfl) ?_
  refine lv_iconst (v := 1) hx hb d_JI_numberOfTrailingZeros_4 (by decide) ?_
  refine lv_isub hx hb d_JI_numberOfTrailingZeros_5 ?_
  refine lv_topi (fun x2 ex2 => ?_)
  refine lv_iand hx hb d_JI_numberOfTrailingZeros_6 ?_
  refine lv_topi (fun x3 ex3 => ?_)
  refine lv_istore_n (lv' := [(0, .int x3)]) hx hb d_JI_numberOfTrailingZeros_7 rfl hl (by decide) rfl (fun ls hl => ?_)
  refine lv_iload_n hx hb d_JI_numberOfTrailingZeros_8 rfl (lv_at hl 0 rfl) ?_
  refine lv_if_gt (tgt := 17) hx hb d_JI_numberOfTrailingZeros_9 (by decide) (fun c9 => ?_) (fun c9 => ?_)
  · have q9 := ltI c9
    refine lv_iconst (v := 1) hx hb d_JI_numberOfTrailingZeros_17 (by decide) ?_
    refine lv_istore_n (lv' := [(1, .int 1), (0, .int x3)]) hx hb d_JI_numberOfTrailingZeros_18 rfl hl (by decide) rfl (fun ls hl => ?_)
    refine lv_iload_n hx hb d_JI_numberOfTrailingZeros_19 rfl (lv_at hl 1 rfl) ?_
    refine lv_ldcw hx hb hown (hts _ kJ_JI_264) d_JI_numberOfTrailingZeros_20 ?_
    refine lv_topi (fun x4 ex4 => ?_)
    have tx4 : x4.toInt = 65536 := by rw [ex4]; decide
    refine w_cut (pc2 := 34) (σ := Int32 × Int32) (fun u H locs ls => match u with | (j34_l0, j34_l1) => va_P (dC, dI) cls [] H ∧ va_D A [] ∧ va_S A s.heap H locs ∧ lv_has ls 2 [(0, .int j34_l0), (1, .int j34_l1)]) (fun u => match u with | (j34_l0, j34_l1) => []) ?_ (fun jn34 => ?_)
    · intro u H locs ls hI
      obtain ⟨j34_l0, j34_l1⟩ := u
      obtain ⟨hP, hD, hS, hl⟩ := hI
      refine lv_iload_n hx hb d_JI_numberOfTrailingZeros_34 rfl (lv_at hl 0 rfl) ?_
      refine lv_sipush (v := 256) hx hb d_JI_numberOfTrailingZeros_35 (by decide) ?_
      refine w_cut (pc2 := 49) (σ := Int32 × Int32) (fun u H locs ls => match u with | (j49_l0, j49_l1) => va_P (dC, dI) cls [] H ∧ va_D A [] ∧ va_S A s.heap H locs ∧ lv_has ls 2 [(0, .int j49_l0), (1, .int j49_l1)]) (fun u => match u with | (j49_l0, j49_l1) => []) ?_ (fun jn49 => ?_)
      · intro u H locs ls hI
        obtain ⟨j49_l0, j49_l1⟩ := u
        obtain ⟨hP, hD, hS, hl⟩ := hI
        refine lv_iload_n hx hb d_JI_numberOfTrailingZeros_49 rfl (lv_at hl 0 rfl) ?_
        refine lv_bipush (v := 16) hx hb d_JI_numberOfTrailingZeros_50 (by decide) ?_
        refine w_cut (pc2 := 62) (σ := Int32 × Int32) (fun u H locs ls => match u with | (j62_l0, j62_l1) => va_P (dC, dI) cls [] H ∧ va_D A [] ∧ va_S A s.heap H locs ∧ lv_has ls 2 [(0, .int j62_l0), (1, .int j62_l1)]) (fun u => match u with | (j62_l0, j62_l1) => []) ?_ (fun jn62 => ?_)
        · intro u H locs ls hI
          obtain ⟨j62_l0, j62_l1⟩ := u
          obtain ⟨hP, hD, hS, hl⟩ := hI
          refine lv_iload_n hx hb d_JI_numberOfTrailingZeros_62 rfl (lv_at hl 0 rfl) ?_
          refine lv_iconst (v := 4) hx hb d_JI_numberOfTrailingZeros_63 (by decide) ?_
          refine w_cut (pc2 := 74) (σ := Int32 × Int32) (fun u H locs ls => match u with | (j74_l0, j74_l1) => va_P (dC, dI) cls [] H ∧ va_D A [] ∧ va_S A s.heap H locs ∧ lv_has ls 2 [(0, .int j74_l0), (1, .int j74_l1)]) (fun u => match u with | (j74_l0, j74_l1) => []) ?_ (fun jn74 => ?_)
          · intro u H locs ls hI
            obtain ⟨j74_l0, j74_l1⟩ := u
            obtain ⟨hP, hD, hS, hl⟩ := hI
            refine lv_iload_n hx hb d_JI_numberOfTrailingZeros_74 rfl (lv_at hl 1 rfl) ?_
            refine lv_iload_n hx hb d_JI_numberOfTrailingZeros_75 rfl (lv_at hl 0 rfl) ?_
            refine lv_iconst (v := 1) hx hb d_JI_numberOfTrailingZeros_76 (by decide) ?_
            refine lv_iushr hx hb d_JI_numberOfTrailingZeros_77 rfl ?_
            refine lv_topi (fun x5 ex5 => ?_)
            refine lv_iadd hx hb d_JI_numberOfTrailingZeros_78 ?_
            refine lv_topi (fun x6 ex6 => ?_)
            have hP9 := hP.sb (wq := []) [] rfl
            have hD9 := hD.sb (wq := []) [] (by decide) rfl
            exact W.iret (v := x6) hx hb hr (fun t ht hW => ⟨⟨x6, (), rfl, ⟨⟩, va_P.he ht.symm hP9, va_K.moved hW.alike hK, hD9⟩, hS.F ht⟩) hS.2.2 d_JI_numberOfTrailingZeros_79
          · skip
            refine lv_icmp_le (tgt := 74) hx hb d_JI_numberOfTrailingZeros_64 (by decide) (fun c64 => ?_) (fun c64 => ?_)
            · have q64 := leI c64
              exact jn74 (j62_l0, j62_l1) _ _ _ ⟨hP, hD, hS, lv_sub hl [0, 1] rfl⟩
            · have q64 := nleI c64
              obtain ⟨x7, ex7⟩ : ∃ z : Int32, z = j62_l1 + 2 := ⟨_, rfl⟩
              refine lv_iinc (v := x7) (lv' := [(1, .int x7), (0, .int j62_l0)]) hx hb d_JI_numberOfTrailingZeros_67 hl (k := 1) rfl (by rw [ex7]; rfl) (by decide) rfl (fun ls hl => ?_)
              refine lv_iload_n hx hb d_JI_numberOfTrailingZeros_70 rfl (lv_at hl 1 rfl) ?_
              refine lv_iconst (v := 2) hx hb d_JI_numberOfTrailingZeros_71 (by decide) ?_
              refine lv_iushr hx hb d_JI_numberOfTrailingZeros_72 rfl ?_
              refine lv_topi (fun x8 ex8 => ?_)
              refine lv_istore_n (lv' := [(0, .int x8), (1, .int x7)]) hx hb d_JI_numberOfTrailingZeros_73 rfl hl (by decide) rfl (fun ls hl => ?_)
              exact jn74 (x8, x7) _ _ _ ⟨hP, hD, hS, lv_sub hl [0, 1] rfl⟩
        · skip
          refine lv_icmp_le (tgt := 62) hx hb d_JI_numberOfTrailingZeros_52 (by decide) (fun c52 => ?_) (fun c52 => ?_)
          · have q52 := leI c52
            exact jn62 (j49_l0, j49_l1) _ _ _ ⟨hP, hD, hS, lv_sub hl [0, 1] rfl⟩
          · have q52 := nleI c52
            obtain ⟨x9, ex9⟩ : ∃ z : Int32, z = j49_l1 + 4 := ⟨_, rfl⟩
            refine lv_iinc (v := x9) (lv' := [(1, .int x9), (0, .int j49_l0)]) hx hb d_JI_numberOfTrailingZeros_55 hl (k := 1) rfl (by rw [ex9]; rfl) (by decide) rfl (fun ls hl => ?_)
            refine lv_iload_n hx hb d_JI_numberOfTrailingZeros_58 rfl (lv_at hl 1 rfl) ?_
            refine lv_iconst (v := 4) hx hb d_JI_numberOfTrailingZeros_59 (by decide) ?_
            refine lv_iushr hx hb d_JI_numberOfTrailingZeros_60 rfl ?_
            refine lv_topi (fun x10 ex10 => ?_)
            refine lv_istore_n (lv' := [(0, .int x10), (1, .int x9)]) hx hb d_JI_numberOfTrailingZeros_61 rfl hl (by decide) rfl (fun ls hl => ?_)
            exact jn62 (x10, x9) _ _ _ ⟨hP, hD, hS, lv_sub hl [0, 1] rfl⟩
      · skip
        refine lv_icmp_le (tgt := 49) hx hb d_JI_numberOfTrailingZeros_38 (by decide) (fun c38 => ?_) (fun c38 => ?_)
        · have q38 := leI c38
          exact jn49 (j34_l0, j34_l1) _ _ _ ⟨hP, hD, hS, lv_sub hl [0, 1] rfl⟩
        · have q38 := nleI c38
          obtain ⟨x11, ex11⟩ : ∃ z : Int32, z = j34_l1 + 8 := ⟨_, rfl⟩
          refine lv_iinc (v := x11) (lv' := [(1, .int x11), (0, .int j34_l0)]) hx hb d_JI_numberOfTrailingZeros_41 hl (k := 1) rfl (by rw [ex11]; rfl) (by decide) rfl (fun ls hl => ?_)
          refine lv_iload_n hx hb d_JI_numberOfTrailingZeros_44 rfl (lv_at hl 1 rfl) ?_
          refine lv_bipush (v := 8) hx hb d_JI_numberOfTrailingZeros_45 (by decide) ?_
          refine lv_iushr hx hb d_JI_numberOfTrailingZeros_47 rfl ?_
          refine lv_topi (fun x12 ex12 => ?_)
          refine lv_istore_n (lv' := [(0, .int x12), (1, .int x11)]) hx hb d_JI_numberOfTrailingZeros_48 rfl hl (by decide) rfl (fun ls hl => ?_)
          exact jn49 (x12, x11) _ _ _ ⟨hP, hD, hS, lv_sub hl [0, 1] rfl⟩
    · skip
      refine lv_icmp_le (tgt := 34) hx hb d_JI_numberOfTrailingZeros_23 (by decide) (fun c23 => ?_) (fun c23 => ?_)
      · have q23 := leI c23
        exact jn34 (x3, 1) _ _ _ ⟨hP, hD, hS, lv_sub hl [1, 0] rfl⟩
      · have q23 := nleI c23
        obtain ⟨x13, ex13⟩ : ∃ z : Int32, z = 1 + 16 := ⟨_, rfl⟩
        refine lv_iinc (v := x13) (lv' := [(1, .int x13), (0, .int x3)]) hx hb d_JI_numberOfTrailingZeros_26 hl (k := 0) rfl (by rw [ex13]; rfl) (by decide) rfl (fun ls hl => ?_)
        refine lv_iload_n hx hb d_JI_numberOfTrailingZeros_29 rfl (lv_at hl 1 rfl) ?_
        refine lv_bipush (v := 16) hx hb d_JI_numberOfTrailingZeros_30 (by decide) ?_
        refine lv_iushr hx hb d_JI_numberOfTrailingZeros_32 rfl ?_
        refine lv_topi (fun x14 ex14 => ?_)
        refine lv_istore_n (lv' := [(0, .int x14), (1, .int x13)]) hx hb d_JI_numberOfTrailingZeros_33 rfl hl (by decide) rfl (fun ls hl => ?_)
        exact jn34 (x14, x13) _ _ _ ⟨hP, hD, hS, lv_sub hl [0, 1] rfl⟩
  · have q9 := nltI c9
    refine lv_iload_n hx hb d_JI_numberOfTrailingZeros_12 rfl (lv_at hl 0 rfl) ?_
    refine lv_bipush (v := 32) hx hb d_JI_numberOfTrailingZeros_13 (by decide) ?_
    refine lv_iand hx hb d_JI_numberOfTrailingZeros_15 ?_
    refine lv_topi (fun x15 ex15 => ?_)
    have hP9 := hP.sb (wq := []) [] rfl
    have hD9 := hD.sb (wq := []) [] (by decide) rfl
    exact W.iret (v := x15) hx hb hr (fun t ht hW => ⟨⟨x15, (), rfl, ⟨⟩, va_P.he ht.symm hP9, va_K.moved hW.alike hK, hD9⟩, hS.F ht⟩) hS.2.2 d_JI_numberOfTrailingZeros_16
abbrev b_JI_bitCount : ByteArray := prog_29_method_49_code
def y_JI_bitCount : MethodName := ⟨R_JI, "bitCount", "(I)I"⟩
abbrev w_JI_bitCount : List Cond := .code y_JI_bitCount b_JI_bitCount 1 (Option.some .int) :: lw_g
theorem kC_JI_bitCount : Cond.code y_JI_bitCount b_JI_bitCount 1 (Option.some .int) ∈ lw_g := in_c7 192 rfl rfl
theorem d_JI_bitCount_0 : decode b_JI_bitCount 0 = .ok (.iload_n 0, 1) := bz_c26 (by decide +kernel)
theorem d_JI_bitCount_1 : decode b_JI_bitCount 1 = .ok (.iload_n 0, 1) := bz_c26 (by decide +kernel)
theorem d_JI_bitCount_2 : decode b_JI_bitCount 2 = .ok (.iconst 1, 1) := bz_c4 (by decide +kernel)
theorem d_JI_bitCount_3 : decode b_JI_bitCount 3 = .ok (.iushr, 1) := bz_c124 (by decide +kernel)
theorem d_JI_bitCount_4 : decode b_JI_bitCount 4 = .ok (.ldc_w 265, 3) := bz_c19 (by decide +kernel)
theorem d_JI_bitCount_7 : decode b_JI_bitCount 7 = .ok (.iand, 1) := bz_c126 (by decide +kernel)
theorem d_JI_bitCount_8 : decode b_JI_bitCount 8 = .ok (.isub, 1) := bz_c100 (by decide +kernel)
theorem d_JI_bitCount_9 : decode b_JI_bitCount 9 = .ok (.istore_n 0, 1) := bz_c59 (by decide +kernel)
theorem d_JI_bitCount_10 : decode b_JI_bitCount 10 = .ok (.iload_n 0, 1) := bz_c26 (by decide +kernel)
theorem d_JI_bitCount_11 : decode b_JI_bitCount 11 = .ok (.ldc_w 266, 3) := bz_c19 (by decide +kernel)
theorem d_JI_bitCount_14 : decode b_JI_bitCount 14 = .ok (.iand, 1) := bz_c126 (by decide +kernel)
theorem d_JI_bitCount_15 : decode b_JI_bitCount 15 = .ok (.iload_n 0, 1) := bz_c26 (by decide +kernel)
theorem d_JI_bitCount_16 : decode b_JI_bitCount 16 = .ok (.iconst 2, 1) := bz_c5 (by decide +kernel)
theorem d_JI_bitCount_17 : decode b_JI_bitCount 17 = .ok (.iushr, 1) := bz_c124 (by decide +kernel)
theorem d_JI_bitCount_18 : decode b_JI_bitCount 18 = .ok (.ldc_w 266, 3) := bz_c19 (by decide +kernel)
theorem d_JI_bitCount_21 : decode b_JI_bitCount 21 = .ok (.iand, 1) := bz_c126 (by decide +kernel)
theorem d_JI_bitCount_22 : decode b_JI_bitCount 22 = .ok (.iadd, 1) := bz_c96 (by decide +kernel)
theorem d_JI_bitCount_23 : decode b_JI_bitCount 23 = .ok (.istore_n 0, 1) := bz_c59 (by decide +kernel)
theorem d_JI_bitCount_24 : decode b_JI_bitCount 24 = .ok (.iload_n 0, 1) := bz_c26 (by decide +kernel)
theorem d_JI_bitCount_25 : decode b_JI_bitCount 25 = .ok (.iload_n 0, 1) := bz_c26 (by decide +kernel)
theorem d_JI_bitCount_26 : decode b_JI_bitCount 26 = .ok (.iconst 4, 1) := bz_c7 (by decide +kernel)
theorem d_JI_bitCount_27 : decode b_JI_bitCount 27 = .ok (.iushr, 1) := bz_c124 (by decide +kernel)
theorem d_JI_bitCount_28 : decode b_JI_bitCount 28 = .ok (.iadd, 1) := bz_c96 (by decide +kernel)
theorem d_JI_bitCount_29 : decode b_JI_bitCount 29 = .ok (.ldc_w 267, 3) := bz_c19 (by decide +kernel)
theorem d_JI_bitCount_32 : decode b_JI_bitCount 32 = .ok (.iand, 1) := bz_c126 (by decide +kernel)
theorem d_JI_bitCount_33 : decode b_JI_bitCount 33 = .ok (.istore_n 0, 1) := bz_c59 (by decide +kernel)
theorem d_JI_bitCount_34 : decode b_JI_bitCount 34 = .ok (.iload_n 0, 1) := bz_c26 (by decide +kernel)
theorem d_JI_bitCount_35 : decode b_JI_bitCount 35 = .ok (.iload_n 0, 1) := bz_c26 (by decide +kernel)
theorem d_JI_bitCount_36 : decode b_JI_bitCount 36 = .ok (.bipush 8, 2) := bz_c16 (by decide +kernel)
theorem d_JI_bitCount_38 : decode b_JI_bitCount 38 = .ok (.iushr, 1) := bz_c124 (by decide +kernel)
theorem d_JI_bitCount_39 : decode b_JI_bitCount 39 = .ok (.iadd, 1) := bz_c96 (by decide +kernel)
theorem d_JI_bitCount_40 : decode b_JI_bitCount 40 = .ok (.istore_n 0, 1) := bz_c59 (by decide +kernel)
theorem d_JI_bitCount_41 : decode b_JI_bitCount 41 = .ok (.iload_n 0, 1) := bz_c26 (by decide +kernel)
theorem d_JI_bitCount_42 : decode b_JI_bitCount 42 = .ok (.iload_n 0, 1) := bz_c26 (by decide +kernel)
theorem d_JI_bitCount_43 : decode b_JI_bitCount 43 = .ok (.bipush 16, 2) := bz_c16 (by decide +kernel)
theorem d_JI_bitCount_45 : decode b_JI_bitCount 45 = .ok (.iushr, 1) := bz_c124 (by decide +kernel)
theorem d_JI_bitCount_46 : decode b_JI_bitCount 46 = .ok (.iadd, 1) := bz_c96 (by decide +kernel)
theorem d_JI_bitCount_47 : decode b_JI_bitCount 47 = .ok (.istore_n 0, 1) := bz_c59 (by decide +kernel)
theorem d_JI_bitCount_48 : decode b_JI_bitCount 48 = .ok (.iload_n 0, 1) := bz_c26 (by decide +kernel)
theorem d_JI_bitCount_49 : decode b_JI_bitCount 49 = .ok (.bipush 63, 2) := bz_c16 (by decide +kernel)
theorem d_JI_bitCount_51 : decode b_JI_bitCount 51 = .ok (.iand, 1) := bz_c126 (by decide +kernel)
theorem d_JI_bitCount_52 : decode b_JI_bitCount 52 = .ok (.ireturn, 1) := bz_c172 (by decide +kernel)
theorem kJ_JI_265 : Cond.constant R_JI 265 (1431655765) ∈ lw_g := in_c7 193 rfl rfl
theorem kJ_JI_266 : Cond.constant R_JI 266 (858993459) ∈ lw_g := in_c7 194 rfl rfl
theorem kJ_JI_267 : Cond.constant R_JI 267 (252645135) ∈ lw_g := in_c7 195 rfl rfl
abbrev at_JI_bitCount (dC : Nat → ClassId) (dI : Nat → Nat → Nat)  (A : Nat → Prop) (u : Unit) (t : State) : Prop := match u with | _ => va_P (dC, dI) cls [] t.heap ∧ va_K (dC, dI) cls [] t ∧ va_D A []
set_option maxHeartbeats 4000000 in
set_option maxRecDepth 100000 in
theorem c_JI_bitCount (l : Launch) (dC : Nat → ClassId) (dI : Nat → Nat → Nat) (sz : Nat)    (p0 : Int32)   : Met l y_JI_bitCount w_JI_bitCount ({ frames := 0, cells := 0, slots := 0, locals := 0 }) (va_Pc [.int p0] (fun U => U.heap.size = sz ∧ va_P (dC, dI) cls [] U.heap ∧ va_K (dC, dI) cls [] U ∧ va_D (fun _ => True) [])) (va_Qi (fun (r : Int32) (u : Unit) => match u with | _ => True) (at_JI_bitCount dC dI  (va_A [] sz)) (va_A [] sz)) 0 0 (va_A [] sz) := by
  refine Met.ofW (cc := b_JI_bitCount) (maxL := 1) (ret := (Option.some .int)) (by decide) rfl ?_
  intro p e s m args below meth c s₁ B hml hv
  obtain ⟨rfl, hsz, hP, hK, hD0⟩ := hv
  have hx := B.exec
  have hb := B.bytes
  have hr := B.returns
  have hts0 := atoms_spec (ws := w_JI_bitCount) B.pre
  have hts : ∀ w ∈ lw_g, w.before _ s = true := fun w h => hts0 w (List.mem_cons_of_mem _ h)
  have hown : s.vm.findClass R_JI = some m.cls := findClass_of_methodNamed B.named
  have hlocks := B.notSynchronized
  clear hts0
  subst hsz
  have hD := hD0.self (sz := s.heap.size)
  generalize hAe : va_A [] s.heap.size = A at hD ⊢
  have hA : ∀ q : Nat, s.heap.size ≤ q → A q := fun q h => by rw [← hAe]; exact Or.inr h
  clear hAe
  have hP : va_P (dC, dI) cls [] s.heap := hP
  have hl := lv_entry ([.int p0]) (n := 1) (Nat.le_of_ble_eq_true rfl)
  rw [lg_entry_eq]
  generalize (lg_sl ([.int p0]) ++ List.replicate (1 - (lg_sl ([.int p0])).length) Slot.unset).toArray = ls at hl ⊢
  have hl : lv_has ls 1 [(0, .int p0)] := hl
  have k0 : (0 : Int32).toInt = 0 := by decide
  refine w_gen (A := A) hP (fun H locs hP hS => ?_)
  have k1 : (1 : Int32).toInt = 1 := by decide
  have k2 : (2 : Int32).toInt = 2 := by decide
  have k4 : (4 : Int32).toInt = 4 := by decide
  have k8 : (8 : Int32).toInt = 8 := by decide
  have k16 : (16 : Int32).toInt = 16 := by decide
  have k63 : (63 : Int32).toInt = 63 := by decide
  have lo_p0 := i32_lo p0
  have hi_p0 := i32_hi p0
  refine lv_iload_n hx hb d_JI_bitCount_0 rfl (lv_at hl 0 rfl) ?_
  refine lv_iload_n hx hb d_JI_bitCount_1 rfl (lv_at hl 0 rfl) ?_
  refine lv_iconst (v := 1) hx hb d_JI_bitCount_2 (by decide) ?_
  refine lv_iushr hx hb d_JI_bitCount_3 rfl ?_
  refine lv_topi (fun x1 ex1 => ?_)
  refine lv_ldcw hx hb hown (hts _ kJ_JI_265) d_JI_bitCount_4 ?_
  refine lv_topi (fun x2 ex2 => ?_)
  have tx2 : x2.toInt = 1431655765 := by rw [ex2]; decide
  refine lv_iand hx hb d_JI_bitCount_7 ?_
  refine lv_topi (fun x3 ex3 => ?_)
  refine lv_isub hx hb d_JI_bitCount_8 ?_
  refine lv_topi (fun x4 ex4 => ?_)
  refine lv_istore_n (lv' := [(0, .int x4)]) hx hb d_JI_bitCount_9 rfl hl (by decide) rfl (fun ls hl => ?_)
  refine lv_iload_n hx hb d_JI_bitCount_10 rfl (lv_at hl 0 rfl) ?_
  refine lv_ldcw hx hb hown (hts _ kJ_JI_266) d_JI_bitCount_11 ?_
  refine lv_topi (fun x5 ex5 => ?_)
  have tx5 : x5.toInt = 858993459 := by rw [ex5]; decide
  refine lv_iand hx hb d_JI_bitCount_14 ?_
  refine lv_topi (fun x6 ex6 => ?_)
  refine lv_iload_n hx hb d_JI_bitCount_15 rfl (lv_at hl 0 rfl) ?_
  refine lv_iconst (v := 2) hx hb d_JI_bitCount_16 (by decide) ?_
  refine lv_iushr hx hb d_JI_bitCount_17 rfl ?_
  refine lv_topi (fun x7 ex7 => ?_)
  refine lv_ldcw hx hb hown (hts _ kJ_JI_266) d_JI_bitCount_18 ?_
  refine lv_topi (fun x8 ex8 => ?_)
  have tx8 : x8.toInt = 858993459 := by rw [ex8]; decide
  refine lv_iand hx hb d_JI_bitCount_21 ?_
  refine lv_topi (fun x9 ex9 => ?_)
  refine lv_iadd hx hb d_JI_bitCount_22 ?_
  refine lv_topi (fun x10 ex10 => ?_)
  refine lv_istore_n (lv' := [(0, .int x10)]) hx hb d_JI_bitCount_23 rfl hl (by decide) rfl (fun ls hl => ?_)
  refine lv_iload_n hx hb d_JI_bitCount_24 rfl (lv_at hl 0 rfl) ?_
  refine lv_iload_n hx hb d_JI_bitCount_25 rfl (lv_at hl 0 rfl) ?_
  refine lv_iconst (v := 4) hx hb d_JI_bitCount_26 (by decide) ?_
  refine lv_iushr hx hb d_JI_bitCount_27 rfl ?_
  refine lv_topi (fun x11 ex11 => ?_)
  refine lv_iadd hx hb d_JI_bitCount_28 ?_
  refine lv_topi (fun x12 ex12 => ?_)
  refine lv_ldcw hx hb hown (hts _ kJ_JI_267) d_JI_bitCount_29 ?_
  refine lv_topi (fun x13 ex13 => ?_)
  have tx13 : x13.toInt = 252645135 := by rw [ex13]; decide
  refine lv_iand hx hb d_JI_bitCount_32 ?_
  refine lv_topi (fun x14 ex14 => ?_)
  refine lv_istore_n (lv' := [(0, .int x14)]) hx hb d_JI_bitCount_33 rfl hl (by decide) rfl (fun ls hl => ?_)
  refine lv_iload_n hx hb d_JI_bitCount_34 rfl (lv_at hl 0 rfl) ?_
  refine lv_iload_n hx hb d_JI_bitCount_35 rfl (lv_at hl 0 rfl) ?_
  refine lv_bipush (v := 8) hx hb d_JI_bitCount_36 (by decide) ?_
  refine lv_iushr hx hb d_JI_bitCount_38 rfl ?_
  refine lv_topi (fun x15 ex15 => ?_)
  refine lv_iadd hx hb d_JI_bitCount_39 ?_
  refine lv_topi (fun x16 ex16 => ?_)
  refine lv_istore_n (lv' := [(0, .int x16)]) hx hb d_JI_bitCount_40 rfl hl (by decide) rfl (fun ls hl => ?_)
  refine lv_iload_n hx hb d_JI_bitCount_41 rfl (lv_at hl 0 rfl) ?_
  refine lv_iload_n hx hb d_JI_bitCount_42 rfl (lv_at hl 0 rfl) ?_
  refine lv_bipush (v := 16) hx hb d_JI_bitCount_43 (by decide) ?_
  refine lv_iushr hx hb d_JI_bitCount_45 rfl ?_
  refine lv_topi (fun x17 ex17 => ?_)
  refine lv_iadd hx hb d_JI_bitCount_46 ?_
  refine lv_topi (fun x18 ex18 => ?_)
  refine lv_istore_n (lv' := [(0, .int x18)]) hx hb d_JI_bitCount_47 rfl hl (by decide) rfl (fun ls hl => ?_)
  refine lv_iload_n hx hb d_JI_bitCount_48 rfl (lv_at hl 0 rfl) ?_
  refine lv_bipush (v := 63) hx hb d_JI_bitCount_49 (by decide) ?_
  refine lv_iand hx hb d_JI_bitCount_51 ?_
  refine lv_topi (fun x19 ex19 => ?_)
  have hP9 := hP.sb (wq := []) [] rfl
  have hD9 := hD.sb (wq := []) [] (by decide) rfl
  exact W.iret (v := x19) hx hb hr (fun t ht hW => ⟨⟨x19, (), rfl, ⟨⟩, va_P.he ht.symm hP9, va_K.moved hW.alike hK, hD9⟩, hS.F ht⟩) hS.2.2 d_JI_bitCount_52
abbrev b_JI_rotateLeft : ByteArray := prog_29_method_50_code
def y_JI_rotateLeft : MethodName := ⟨R_JI, "rotateLeft", "(II)I"⟩
abbrev w_JI_rotateLeft : List Cond := .code y_JI_rotateLeft b_JI_rotateLeft 2 (Option.some .int) :: lw_g
theorem kC_JI_rotateLeft : Cond.code y_JI_rotateLeft b_JI_rotateLeft 2 (Option.some .int) ∈ lw_g := in_c7 238 rfl rfl
theorem d_JI_rotateLeft_0 : decode b_JI_rotateLeft 0 = .ok (.iload_n 0, 1) := bz_c26 (by decide +kernel)
theorem d_JI_rotateLeft_1 : decode b_JI_rotateLeft 1 = .ok (.iload_n 1, 1) := bz_c27 (by decide +kernel)
theorem d_JI_rotateLeft_2 : decode b_JI_rotateLeft 2 = .ok (.ishl, 1) := by decide +kernel
theorem d_JI_rotateLeft_3 : decode b_JI_rotateLeft 3 = .ok (.iload_n 0, 1) := bz_c26 (by decide +kernel)
theorem d_JI_rotateLeft_4 : decode b_JI_rotateLeft 4 = .ok (.iload_n 1, 1) := bz_c27 (by decide +kernel)
theorem d_JI_rotateLeft_5 : decode b_JI_rotateLeft 5 = .ok (.ineg, 1) := by decide +kernel
theorem d_JI_rotateLeft_6 : decode b_JI_rotateLeft 6 = .ok (.iushr, 1) := bz_c124 (by decide +kernel)
theorem d_JI_rotateLeft_7 : decode b_JI_rotateLeft 7 = .ok (.ior, 1) := by decide +kernel
theorem d_JI_rotateLeft_8 : decode b_JI_rotateLeft 8 = .ok (.ireturn, 1) := bz_c172 (by decide +kernel)
abbrev at_JI_rotateLeft (dC : Nat → ClassId) (dI : Nat → Nat → Nat)  (A : Nat → Prop) (u : Unit) (t : State) : Prop := match u with | _ => va_P (dC, dI) cls [] t.heap ∧ va_K (dC, dI) cls [] t ∧ va_D A []
set_option maxHeartbeats 4000000 in
set_option maxRecDepth 100000 in
theorem c_JI_rotateLeft (l : Launch) (dC : Nat → ClassId) (dI : Nat → Nat → Nat) (sz : Nat)    (p0 : Int32) (p1 : Int32)   : Met l y_JI_rotateLeft w_JI_rotateLeft ({ frames := 0, cells := 0, slots := 0, locals := 0 }) (va_Pc [.int p0, .int p1] (fun U => U.heap.size = sz ∧ va_P (dC, dI) cls [] U.heap ∧ va_K (dC, dI) cls [] U ∧ va_D (fun _ => True) [])) (va_Qi (fun (r : Int32) (u : Unit) => match u with | _ => True) (at_JI_rotateLeft dC dI  (va_A [] sz)) (va_A [] sz)) 0 0 (va_A [] sz) := by
  refine Met.ofW (cc := b_JI_rotateLeft) (maxL := 2) (ret := (Option.some .int)) (by decide) rfl ?_
  intro p e s m args below meth c s₁ B hml hv
  obtain ⟨rfl, hsz, hP, hK, hD0⟩ := hv
  have hx := B.exec
  have hb := B.bytes
  have hr := B.returns
  have hts0 := atoms_spec (ws := w_JI_rotateLeft) B.pre
  have hts : ∀ w ∈ lw_g, w.before _ s = true := fun w h => hts0 w (List.mem_cons_of_mem _ h)
  have hown : s.vm.findClass R_JI = some m.cls := findClass_of_methodNamed B.named
  have hlocks := B.notSynchronized
  clear hts0
  subst hsz
  have hD := hD0.self (sz := s.heap.size)
  generalize hAe : va_A [] s.heap.size = A at hD ⊢
  have hA : ∀ q : Nat, s.heap.size ≤ q → A q := fun q h => by rw [← hAe]; exact Or.inr h
  clear hAe
  have hP : va_P (dC, dI) cls [] s.heap := hP
  have hl := lv_entry ([.int p0, .int p1]) (n := 2) (Nat.le_of_ble_eq_true rfl)
  rw [lg_entry_eq]
  generalize (lg_sl ([.int p0, .int p1]) ++ List.replicate (2 - (lg_sl ([.int p0, .int p1])).length) Slot.unset).toArray = ls at hl ⊢
  have hl : lv_has ls 2 [(0, .int p0), (1, .int p1)] := hl
  have k0 : (0 : Int32).toInt = 0 := by decide
  refine w_gen (A := A) hP (fun H locs hP hS => ?_)
  have lo_p0 := i32_lo p0
  have hi_p0 := i32_hi p0
  have lo_p1 := i32_lo p1
  have hi_p1 := i32_hi p1
  refine lv_iload_n hx hb d_JI_rotateLeft_0 rfl (lv_at hl 0 rfl) ?_
  refine lv_iload_n hx hb d_JI_rotateLeft_1 rfl (lv_at hl 1 rfl) ?_
  refine lv_ishl hx hb d_JI_rotateLeft_2 ?_
  refine lv_topi (fun x1 ex1 => ?_)
  refine lv_iload_n hx hb d_JI_rotateLeft_3 rfl (lv_at hl 0 rfl) ?_
  refine lv_iload_n hx hb d_JI_rotateLeft_4 rfl (lv_at hl 1 rfl) ?_
  refine lv_ineg hx hb d_JI_rotateLeft_5 ?_
  refine lv_topi (fun x2 ex2 => ?_)
  refine lv_iushr hx hb d_JI_rotateLeft_6 rfl ?_
  refine lv_topi (fun x3 ex3 => ?_)
  refine lv_ior hx hb d_JI_rotateLeft_7 ?_
  refine lv_topi (fun x4 ex4 => ?_)
  have hP9 := hP.sb (wq := []) [] rfl
  have hD9 := hD.sb (wq := []) [] (by decide) rfl
  exact W.iret (v := x4) hx hb hr (fun t ht hW => ⟨⟨x4, (), rfl, ⟨⟩, va_P.he ht.symm hP9, va_K.moved hW.alike hK, hD9⟩, hS.F ht⟩) hS.2.2 d_JI_rotateLeft_8
abbrev b_JI_rotateRight : ByteArray := prog_29_method_51_code
def y_JI_rotateRight : MethodName := ⟨R_JI, "rotateRight", "(II)I"⟩
abbrev w_JI_rotateRight : List Cond := .code y_JI_rotateRight b_JI_rotateRight 2 (Option.some .int) :: lw_g
theorem kC_JI_rotateRight : Cond.code y_JI_rotateRight b_JI_rotateRight 2 (Option.some .int) ∈ lw_g := in_c8 1 rfl rfl
theorem d_JI_rotateRight_0 : decode b_JI_rotateRight 0 = .ok (.iload_n 0, 1) := bz_c26 (by decide +kernel)
theorem d_JI_rotateRight_1 : decode b_JI_rotateRight 1 = .ok (.iload_n 1, 1) := bz_c27 (by decide +kernel)
theorem d_JI_rotateRight_2 : decode b_JI_rotateRight 2 = .ok (.iushr, 1) := bz_c124 (by decide +kernel)
theorem d_JI_rotateRight_3 : decode b_JI_rotateRight 3 = .ok (.iload_n 0, 1) := bz_c26 (by decide +kernel)
theorem d_JI_rotateRight_4 : decode b_JI_rotateRight 4 = .ok (.iload_n 1, 1) := bz_c27 (by decide +kernel)
theorem d_JI_rotateRight_5 : decode b_JI_rotateRight 5 = .ok (.ineg, 1) := by decide +kernel
theorem d_JI_rotateRight_6 : decode b_JI_rotateRight 6 = .ok (.ishl, 1) := by decide +kernel
theorem d_JI_rotateRight_7 : decode b_JI_rotateRight 7 = .ok (.ior, 1) := by decide +kernel
theorem d_JI_rotateRight_8 : decode b_JI_rotateRight 8 = .ok (.ireturn, 1) := bz_c172 (by decide +kernel)
abbrev at_JI_rotateRight (dC : Nat → ClassId) (dI : Nat → Nat → Nat)  (A : Nat → Prop) (u : Unit) (t : State) : Prop := match u with | _ => va_P (dC, dI) cls [] t.heap ∧ va_K (dC, dI) cls [] t ∧ va_D A []
set_option maxHeartbeats 4000000 in
set_option maxRecDepth 100000 in
theorem c_JI_rotateRight (l : Launch) (dC : Nat → ClassId) (dI : Nat → Nat → Nat) (sz : Nat)    (p0 : Int32) (p1 : Int32)   : Met l y_JI_rotateRight w_JI_rotateRight ({ frames := 0, cells := 0, slots := 0, locals := 0 }) (va_Pc [.int p0, .int p1] (fun U => U.heap.size = sz ∧ va_P (dC, dI) cls [] U.heap ∧ va_K (dC, dI) cls [] U ∧ va_D (fun _ => True) [])) (va_Qi (fun (r : Int32) (u : Unit) => match u with | _ => True) (at_JI_rotateRight dC dI  (va_A [] sz)) (va_A [] sz)) 0 0 (va_A [] sz) := by
  refine Met.ofW (cc := b_JI_rotateRight) (maxL := 2) (ret := (Option.some .int)) (by decide) rfl ?_
  intro p e s m args below meth c s₁ B hml hv
  obtain ⟨rfl, hsz, hP, hK, hD0⟩ := hv
  have hx := B.exec
  have hb := B.bytes
  have hr := B.returns
  have hts0 := atoms_spec (ws := w_JI_rotateRight) B.pre
  have hts : ∀ w ∈ lw_g, w.before _ s = true := fun w h => hts0 w (List.mem_cons_of_mem _ h)
  have hown : s.vm.findClass R_JI = some m.cls := findClass_of_methodNamed B.named
  have hlocks := B.notSynchronized
  clear hts0
  subst hsz
  have hD := hD0.self (sz := s.heap.size)
  generalize hAe : va_A [] s.heap.size = A at hD ⊢
  have hA : ∀ q : Nat, s.heap.size ≤ q → A q := fun q h => by rw [← hAe]; exact Or.inr h
  clear hAe
  have hP : va_P (dC, dI) cls [] s.heap := hP
  have hl := lv_entry ([.int p0, .int p1]) (n := 2) (Nat.le_of_ble_eq_true rfl)
  rw [lg_entry_eq]
  generalize (lg_sl ([.int p0, .int p1]) ++ List.replicate (2 - (lg_sl ([.int p0, .int p1])).length) Slot.unset).toArray = ls at hl ⊢
  have hl : lv_has ls 2 [(0, .int p0), (1, .int p1)] := hl
  have k0 : (0 : Int32).toInt = 0 := by decide
  refine w_gen (A := A) hP (fun H locs hP hS => ?_)
  have lo_p0 := i32_lo p0
  have hi_p0 := i32_hi p0
  have lo_p1 := i32_lo p1
  have hi_p1 := i32_hi p1
  refine lv_iload_n hx hb d_JI_rotateRight_0 rfl (lv_at hl 0 rfl) ?_
  refine lv_iload_n hx hb d_JI_rotateRight_1 rfl (lv_at hl 1 rfl) ?_
  refine lv_iushr hx hb d_JI_rotateRight_2 rfl ?_
  refine lv_topi (fun x1 ex1 => ?_)
  refine lv_iload_n hx hb d_JI_rotateRight_3 rfl (lv_at hl 0 rfl) ?_
  refine lv_iload_n hx hb d_JI_rotateRight_4 rfl (lv_at hl 1 rfl) ?_
  refine lv_ineg hx hb d_JI_rotateRight_5 ?_
  refine lv_topi (fun x2 ex2 => ?_)
  refine lv_ishl hx hb d_JI_rotateRight_6 ?_
  refine lv_topi (fun x3 ex3 => ?_)
  refine lv_ior hx hb d_JI_rotateRight_7 ?_
  refine lv_topi (fun x4 ex4 => ?_)
  have hP9 := hP.sb (wq := []) [] rfl
  have hD9 := hD.sb (wq := []) [] (by decide) rfl
  exact W.iret (v := x4) hx hb hr (fun t ht hW => ⟨⟨x4, (), rfl, ⟨⟩, va_P.he ht.symm hP9, va_K.moved hW.alike hK, hD9⟩, hS.F ht⟩) hS.2.2 d_JI_rotateRight_8
abbrev b_JL_numberOfLeadingZeros : ByteArray := prog_30_method_48_code
def y_JL_numberOfLeadingZeros : MethodName := ⟨R_JL, "numberOfLeadingZeros", "(J)I"⟩
abbrev w_JL_numberOfLeadingZeros : List Cond := .code y_JL_numberOfLeadingZeros b_JL_numberOfLeadingZeros 3 (Option.some .int) :: lw_g
theorem kC_JL_numberOfLeadingZeros : Cond.code y_JL_numberOfLeadingZeros b_JL_numberOfLeadingZeros 3 (Option.some .int) ∈ lw_g := in_c7 198 rfl rfl
theorem d_JL_numberOfLeadingZeros_0 : decode b_JL_numberOfLeadingZeros 0 = .ok (.lload_n 0, 1) := bz_c30 (by decide +kernel)
theorem d_JL_numberOfLeadingZeros_1 : decode b_JL_numberOfLeadingZeros 1 = .ok (.bipush 32, 2) := bz_c16 (by decide +kernel)
theorem d_JL_numberOfLeadingZeros_3 : decode b_JL_numberOfLeadingZeros 3 = .ok (.lushr, 1) := bz_c125 (by decide +kernel)
theorem d_JL_numberOfLeadingZeros_4 : decode b_JL_numberOfLeadingZeros 4 = .ok (.l2i, 1) := bz_c136 (by decide +kernel)
theorem d_JL_numberOfLeadingZeros_5 : decode b_JL_numberOfLeadingZeros 5 = .ok (.istore_n 2, 1) := bz_c61 (by decide +kernel)
theorem d_JL_numberOfLeadingZeros_6 : decode b_JL_numberOfLeadingZeros 6 = .ok (.iload_n 2, 1) := bz_c28 (by decide +kernel)
theorem d_JL_numberOfLeadingZeros_7 : decode b_JL_numberOfLeadingZeros 7 = .ok (.ifCond .ne 14, 3) := bz_c154 (by decide +kernel)
theorem d_JL_numberOfLeadingZeros_10 : decode b_JL_numberOfLeadingZeros 10 = .ok (.bipush 32, 2) := bz_c16 (by decide +kernel)
theorem d_JL_numberOfLeadingZeros_12 : decode b_JL_numberOfLeadingZeros 12 = .ok (.lload_n 0, 1) := bz_c30 (by decide +kernel)
theorem d_JL_numberOfLeadingZeros_13 : decode b_JL_numberOfLeadingZeros 13 = .ok (.l2i, 1) := bz_c136 (by decide +kernel)
theorem d_JL_numberOfLeadingZeros_14 : decode b_JL_numberOfLeadingZeros 14 = .ok (.invokestatic 308, 3) := bz_c184 (by decide +kernel)
theorem d_JL_numberOfLeadingZeros_17 : decode b_JL_numberOfLeadingZeros 17 = .ok (.iadd, 1) := bz_c96 (by decide +kernel)
theorem d_JL_numberOfLeadingZeros_18 : decode b_JL_numberOfLeadingZeros 18 = .ok (.goto 7, 3) := bz_c167 (by decide +kernel)
theorem d_JL_numberOfLeadingZeros_21 : decode b_JL_numberOfLeadingZeros 21 = .ok (.iload_n 2, 1) := bz_c28 (by decide +kernel)
theorem d_JL_numberOfLeadingZeros_22 : decode b_JL_numberOfLeadingZeros 22 = .ok (.invokestatic 308, 3) := bz_c184 (by decide +kernel)
theorem d_JL_numberOfLeadingZeros_25 : decode b_JL_numberOfLeadingZeros 25 = .ok (.ireturn, 1) := bz_c172 (by decide +kernel)
theorem kM_JL_308 : Cond.methodLink R_JL 308 y_JI_numberOfLeadingZeros ∈ lw_g := in_c7 199 rfl rfl
theorem kT_JI_numberOfLeadingZeros : Cond.static y_JI_numberOfLeadingZeros ∈ lw_g := in_c7 187 rfl rfl
abbrev at_JL_numberOfLeadingZeros (dC : Nat → ClassId) (dI : Nat → Nat → Nat)  (A : Nat → Prop) (u : Unit) (t : State) : Prop := match u with | _ => va_P (dC, dI) cls [] t.heap ∧ va_K (dC, dI) cls [] t ∧ va_D A []
set_option maxHeartbeats 4000000 in
set_option maxRecDepth 100000 in
theorem c_JL_numberOfLeadingZeros (l : Launch) (dC : Nat → ClassId) (dI : Nat → Nat → Nat) (sz : Nat)    (p0 : Int64)   : Met l y_JL_numberOfLeadingZeros w_JL_numberOfLeadingZeros ({ frames := 1, cells := 0, slots := 0, locals := 21 }) (va_Pc [.long p0] (fun U => U.heap.size = sz ∧ va_P (dC, dI) cls [] U.heap ∧ va_K (dC, dI) cls [] U ∧ va_D (fun _ => True) [])) (va_Qi (fun (r : Int32) (u : Unit) => match u with | _ => True) (at_JL_numberOfLeadingZeros dC dI  (va_A [] sz)) (va_A [] sz)) 0 0 (va_A [] sz) := by
  refine Met.ofW (cc := b_JL_numberOfLeadingZeros) (maxL := 3) (ret := (Option.some .int)) (by decide) rfl ?_
  intro p e s m args below meth c s₁ B hml hv
  obtain ⟨rfl, hsz, hP, hK, hD0⟩ := hv
  have hx := B.exec
  have hb := B.bytes
  have hr := B.returns
  have hts0 := atoms_spec (ws := w_JL_numberOfLeadingZeros) B.pre
  have hts : ∀ w ∈ lw_g, w.before _ s = true := fun w h => hts0 w (List.mem_cons_of_mem _ h)
  have hown : s.vm.findClass R_JL = some m.cls := findClass_of_methodNamed B.named
  have hlocks := B.notSynchronized
  clear hts0
  subst hsz
  have hD := hD0.self (sz := s.heap.size)
  generalize hAe : va_A [] s.heap.size = A at hD ⊢
  have hA : ∀ q : Nat, s.heap.size ≤ q → A q := fun q h => by rw [← hAe]; exact Or.inr h
  clear hAe
  have hP : va_P (dC, dI) cls [] s.heap := hP
  have hl := lv_entry ([.long p0]) (n := 3) (Nat.le_of_ble_eq_true rfl)
  rw [lg_entry_eq]
  generalize (lg_sl ([.long p0]) ++ List.replicate (3 - (lg_sl ([.long p0])).length) Slot.unset).toArray = ls at hl ⊢
  have hl : lv_has ls 3 [(0, .long p0)] := hl
  have k0 : (0 : Int32).toInt = 0 := by decide
  refine w_gen (A := A) hP (fun H locs hP hS => ?_)
  have k32 : (32 : Int32).toInt = 32 := by decide
  refine lv_lload_n hx hb d_JL_numberOfLeadingZeros_0 rfl (lv_at hl 0 rfl) ?_
  refine lv_bipush (v := 32) hx hb d_JL_numberOfLeadingZeros_1 (by decide) ?_
  refine lv_lushr hx hb d_JL_numberOfLeadingZeros_3 rfl ?_
  refine lv_topl (fun x1 ex1 => ?_)
  refine lv_l2i hx hb d_JL_numberOfLeadingZeros_4 rfl ?_
  refine lv_topi (fun x2 ex2 => ?_)
  refine lv_istore_n (lv' := [(2, .int x2), (0, .long p0)]) hx hb d_JL_numberOfLeadingZeros_5 rfl hl (by decide) rfl (fun ls hl => ?_)
  refine lv_iload_n hx hb d_JL_numberOfLeadingZeros_6 rfl (lv_at hl 0 rfl) ?_
  refine lv_if_ne (tgt := 21) hx hb d_JL_numberOfLeadingZeros_7 (by decide) (fun c7 => ?_) (fun c7 => ?_)
  · have q7 := neI c7
    refine lv_iload_n hx hb d_JL_numberOfLeadingZeros_21 rfl (lv_at hl 0 rfl) ?_
    have hPc := hP.sb (wq := []) [] rfl
    have hDc := hD.sb (wq := []) [] (by decide) rfl
    have hKc := hK.sb (tyq := []) [] rfl
    have hFc := va_free (wc := []) hD hS hA [] rfl
    refine va_calli (va_runS (As := [.int x2]) (rest := []) ⟨hx, hb, hml, hown, hts⟩ (c_JI_numberOfLeadingZeros l dC dI H.size x2) ⟨callB_of 1 hts (gW kC_JI_numberOfLeadingZeros) rfl rfl rfl (hts _ kI_JI) (hts _ kM_JL_308) (by decide +kernel) ⟨Nat.le_of_ble_eq_true rfl, Nat.le_of_ble_eq_true rfl⟩, hts _ kT_JI_numberOfLeadingZeros⟩ ⟨fun a U g mk z => by obtain ⟨z0, z1, zP, zK, zD⟩ := z; exact ⟨z0, z1, zP, va_K.moved (u := U) (U := U.calling g mk a) (Vm.Alike.refl U.vm) zK, zD⟩, fun U hU hW => ⟨rfl, by rw [hU], va_P.he hU.symm hPc, va_K.moved hW.alike hKc, hDc.weaken (fun _ _ _ _ => trivial)⟩⟩ rfl rfl hl.1 rfl (lv_room (Nat.le_of_ble_eq_true rfl)) d_JL_numberOfLeadingZeros_22 ⟨(Nat.zero_le _), (Nat.zero_le _)⟩) hS (fun q _ h => hFc q h) hFc (fun r3 u t H1 locs ht hvm hw hB hz1 hk1 hS => ?_)
    try dsimp only at hw
    try clear hw
    obtain ⟨hP1, hK1, hD1⟩ := hB
    replace hP1 := va_P.he ht hP1
    obtain ⟨hP, hD⟩ := va_join (wr := []) (w1 := []) hP hD [] [] rfl rfl (by decide) (by decide) hk1 hFc hP1 hD1
    clear hPc hDc hKc hFc hz1 hk1 hP1 hK1 hD1
    rename Heap => H
    have hP : va_P (dC, dI) cls [] H := hP
    have hD : va_D A [] := hD
    have hP9 := hP.sb (wq := []) [] rfl
    have hD9 := hD.sb (wq := []) [] (by decide) rfl
    exact W.iret (v := r3) hx hb hr (fun t ht hW => ⟨⟨r3, (), rfl, ⟨⟩, va_P.he ht.symm hP9, va_K.moved hW.alike hK, hD9⟩, hS.F ht⟩) hS.2.2 d_JL_numberOfLeadingZeros_25
  · have q7 := eqI c7
    refine lv_bipush (v := 32) hx hb d_JL_numberOfLeadingZeros_10 (by decide) ?_
    refine lv_lload_n hx hb d_JL_numberOfLeadingZeros_12 rfl (lv_at hl 1 rfl) ?_
    refine lv_l2i hx hb d_JL_numberOfLeadingZeros_13 rfl ?_
    refine lv_topi (fun x4 ex4 => ?_)
    have hPc := hP.sb (wq := []) [] rfl
    have hDc := hD.sb (wq := []) [] (by decide) rfl
    have hKc := hK.sb (tyq := []) [] rfl
    have hFc := va_free (wc := []) hD hS hA [] rfl
    refine va_calli (va_runS (As := [.int x4]) (rest := [.int 32]) ⟨hx, hb, hml, hown, hts⟩ (c_JI_numberOfLeadingZeros l dC dI H.size x4) ⟨callB_of 1 hts (gW kC_JI_numberOfLeadingZeros) rfl rfl rfl (hts _ kI_JI) (hts _ kM_JL_308) (by decide +kernel) ⟨Nat.le_of_ble_eq_true rfl, Nat.le_of_ble_eq_true rfl⟩, hts _ kT_JI_numberOfLeadingZeros⟩ ⟨fun a U g mk z => by obtain ⟨z0, z1, zP, zK, zD⟩ := z; exact ⟨z0, z1, zP, va_K.moved (u := U) (U := U.calling g mk a) (Vm.Alike.refl U.vm) zK, zD⟩, fun U hU hW => ⟨rfl, by rw [hU], va_P.he hU.symm hPc, va_K.moved hW.alike hKc, hDc.weaken (fun _ _ _ _ => trivial)⟩⟩ rfl rfl hl.1 rfl (lv_room (Nat.le_of_ble_eq_true rfl)) d_JL_numberOfLeadingZeros_14 ⟨(Nat.zero_le _), (Nat.zero_le _)⟩) hS (fun q _ h => hFc q h) hFc (fun r5 u t H1 locs ht hvm hw hB hz1 hk1 hS => ?_)
    try dsimp only at hw
    try clear hw
    obtain ⟨hP1, hK1, hD1⟩ := hB
    replace hP1 := va_P.he ht hP1
    obtain ⟨hP, hD⟩ := va_join (wr := []) (w1 := []) hP hD [] [] rfl rfl (by decide) (by decide) hk1 hFc hP1 hD1
    clear hPc hDc hKc hFc hz1 hk1 hP1 hK1 hD1
    rename Heap => H
    have hP : va_P (dC, dI) cls [] H := hP
    have hD : va_D A [] := hD
    refine lv_iadd hx hb d_JL_numberOfLeadingZeros_17 ?_
    refine lv_topi (fun x6 ex6 => ?_)
    refine lv_goto (tgt := 25) hx hb d_JL_numberOfLeadingZeros_18 (by decide) ?_
    have hP9 := hP.sb (wq := []) [] rfl
    have hD9 := hD.sb (wq := []) [] (by decide) rfl
    exact W.iret (v := x6) hx hb hr (fun t ht hW => ⟨⟨x6, (), rfl, ⟨⟩, va_P.he ht.symm hP9, va_K.moved hW.alike hK, hD9⟩, hS.F ht⟩) hS.2.2 d_JL_numberOfLeadingZeros_25
abbrev b_JL_numberOfTrailingZeros : ByteArray := prog_30_method_49_code
def y_JL_numberOfTrailingZeros : MethodName := ⟨R_JL, "numberOfTrailingZeros", "(J)I"⟩
abbrev w_JL_numberOfTrailingZeros : List Cond := .code y_JL_numberOfTrailingZeros b_JL_numberOfTrailingZeros 3 (Option.some .int) :: lw_g
theorem kC_JL_numberOfTrailingZeros : Cond.code y_JL_numberOfTrailingZeros b_JL_numberOfTrailingZeros 3 (Option.some .int) ∈ lw_g := in_c7 202 rfl rfl
theorem d_JL_numberOfTrailingZeros_0 : decode b_JL_numberOfTrailingZeros 0 = .ok (.lload_n 0, 1) := bz_c30 (by decide +kernel)
theorem d_JL_numberOfTrailingZeros_1 : decode b_JL_numberOfTrailingZeros 1 = .ok (.l2i, 1) := bz_c136 (by decide +kernel)
theorem d_JL_numberOfTrailingZeros_2 : decode b_JL_numberOfTrailingZeros 2 = .ok (.istore_n 2, 1) := bz_c61 (by decide +kernel)
theorem d_JL_numberOfTrailingZeros_3 : decode b_JL_numberOfTrailingZeros 3 = .ok (.iload_n 2, 1) := bz_c28 (by decide +kernel)
theorem d_JL_numberOfTrailingZeros_4 : decode b_JL_numberOfTrailingZeros 4 = .ok (.ifCond .ne 17, 3) := bz_c154 (by decide +kernel)
theorem d_JL_numberOfTrailingZeros_7 : decode b_JL_numberOfTrailingZeros 7 = .ok (.bipush 32, 2) := bz_c16 (by decide +kernel)
theorem d_JL_numberOfTrailingZeros_9 : decode b_JL_numberOfTrailingZeros 9 = .ok (.lload_n 0, 1) := bz_c30 (by decide +kernel)
theorem d_JL_numberOfTrailingZeros_10 : decode b_JL_numberOfTrailingZeros 10 = .ok (.bipush 32, 2) := bz_c16 (by decide +kernel)
theorem d_JL_numberOfTrailingZeros_12 : decode b_JL_numberOfTrailingZeros 12 = .ok (.lushr, 1) := bz_c125 (by decide +kernel)
theorem d_JL_numberOfTrailingZeros_13 : decode b_JL_numberOfTrailingZeros 13 = .ok (.l2i, 1) := bz_c136 (by decide +kernel)
theorem d_JL_numberOfTrailingZeros_14 : decode b_JL_numberOfTrailingZeros 14 = .ok (.invokestatic 311, 3) := bz_c184 (by decide +kernel)
theorem d_JL_numberOfTrailingZeros_17 : decode b_JL_numberOfTrailingZeros 17 = .ok (.iadd, 1) := bz_c96 (by decide +kernel)
theorem d_JL_numberOfTrailingZeros_18 : decode b_JL_numberOfTrailingZeros 18 = .ok (.goto 7, 3) := bz_c167 (by decide +kernel)
theorem d_JL_numberOfTrailingZeros_21 : decode b_JL_numberOfTrailingZeros 21 = .ok (.iload_n 2, 1) := bz_c28 (by decide +kernel)
theorem d_JL_numberOfTrailingZeros_22 : decode b_JL_numberOfTrailingZeros 22 = .ok (.invokestatic 311, 3) := bz_c184 (by decide +kernel)
theorem d_JL_numberOfTrailingZeros_25 : decode b_JL_numberOfTrailingZeros 25 = .ok (.ireturn, 1) := bz_c172 (by decide +kernel)
theorem kM_JL_311 : Cond.methodLink R_JL 311 y_JI_numberOfTrailingZeros ∈ lw_g := in_c7 203 rfl rfl
theorem kT_JI_numberOfTrailingZeros : Cond.static y_JI_numberOfTrailingZeros ∈ lw_g := in_c5 222 rfl rfl
abbrev at_JL_numberOfTrailingZeros (dC : Nat → ClassId) (dI : Nat → Nat → Nat)  (A : Nat → Prop) (u : Unit) (t : State) : Prop := match u with | _ => va_P (dC, dI) cls [] t.heap ∧ va_K (dC, dI) cls [] t ∧ va_D A []
set_option maxHeartbeats 4000000 in
set_option maxRecDepth 100000 in
theorem c_JL_numberOfTrailingZeros (l : Launch) (dC : Nat → ClassId) (dI : Nat → Nat → Nat) (sz : Nat)    (p0 : Int64)   : Met l y_JL_numberOfTrailingZeros w_JL_numberOfTrailingZeros ({ frames := 1, cells := 0, slots := 0, locals := 21 }) (va_Pc [.long p0] (fun U => U.heap.size = sz ∧ va_P (dC, dI) cls [] U.heap ∧ va_K (dC, dI) cls [] U ∧ va_D (fun _ => True) [])) (va_Qi (fun (r : Int32) (u : Unit) => match u with | _ => True) (at_JL_numberOfTrailingZeros dC dI  (va_A [] sz)) (va_A [] sz)) 0 0 (va_A [] sz) := by
  refine Met.ofW (cc := b_JL_numberOfTrailingZeros) (maxL := 3) (ret := (Option.some .int)) (by decide) rfl ?_
  intro p e s m args below meth c s₁ B hml hv
  obtain ⟨rfl, hsz, hP, hK, hD0⟩ := hv
  have hx := B.exec
  have hb := B.bytes
  have hr := B.returns
  have hts0 := atoms_spec (ws := w_JL_numberOfTrailingZeros) B.pre
  have hts : ∀ w ∈ lw_g, w.before _ s = true := fun w h => hts0 w (List.mem_cons_of_mem _ h)
  have hown : s.vm.findClass R_JL = some m.cls := findClass_of_methodNamed B.named
  have hlocks := B.notSynchronized
  clear hts0
  subst hsz
  have hD := hD0.self (sz := s.heap.size)
  generalize hAe : va_A [] s.heap.size = A at hD ⊢
  have hA : ∀ q : Nat, s.heap.size ≤ q → A q := fun q h => by rw [← hAe]; exact Or.inr h
  clear hAe
  have hP : va_P (dC, dI) cls [] s.heap := hP
  have hl := lv_entry ([.long p0]) (n := 3) (Nat.le_of_ble_eq_true rfl)
  rw [lg_entry_eq]
  generalize (lg_sl ([.long p0]) ++ List.replicate (3 - (lg_sl ([.long p0])).length) Slot.unset).toArray = ls at hl ⊢
  have hl : lv_has ls 3 [(0, .long p0)] := hl
  have k0 : (0 : Int32).toInt = 0 := by decide
  refine w_gen (A := A) hP (fun H locs hP hS => ?_)
  have k32 : (32 : Int32).toInt = 32 := by decide
  refine lv_lload_n hx hb d_JL_numberOfTrailingZeros_0 rfl (lv_at hl 0 rfl) ?_
  refine lv_l2i hx hb d_JL_numberOfTrailingZeros_1 rfl ?_
  refine lv_topi (fun x1 ex1 => ?_)
  refine lv_istore_n (lv' := [(2, .int x1), (0, .long p0)]) hx hb d_JL_numberOfTrailingZeros_2 rfl hl (by decide) rfl (fun ls hl => ?_)
  refine lv_iload_n hx hb d_JL_numberOfTrailingZeros_3 rfl (lv_at hl 0 rfl) ?_
  refine lv_if_ne (tgt := 21) hx hb d_JL_numberOfTrailingZeros_4 (by decide) (fun c4 => ?_) (fun c4 => ?_)
  · have q4 := neI c4
    refine lv_iload_n hx hb d_JL_numberOfTrailingZeros_21 rfl (lv_at hl 0 rfl) ?_
    have hPc := hP.sb (wq := []) [] rfl
    have hDc := hD.sb (wq := []) [] (by decide) rfl
    have hKc := hK.sb (tyq := []) [] rfl
    have hFc := va_free (wc := []) hD hS hA [] rfl
    refine va_calli (va_runS (As := [.int x1]) (rest := []) ⟨hx, hb, hml, hown, hts⟩ (c_JI_numberOfTrailingZeros l dC dI H.size x1) ⟨callB_of 1 hts (gW kC_JI_numberOfTrailingZeros) rfl rfl rfl (hts _ kI_JI) (hts _ kM_JL_311) (by decide +kernel) ⟨Nat.le_of_ble_eq_true rfl, Nat.le_of_ble_eq_true rfl⟩, hts _ kT_JI_numberOfTrailingZeros⟩ ⟨fun a U g mk z => by obtain ⟨z0, z1, zP, zK, zD⟩ := z; exact ⟨z0, z1, zP, va_K.moved (u := U) (U := U.calling g mk a) (Vm.Alike.refl U.vm) zK, zD⟩, fun U hU hW => ⟨rfl, by rw [hU], va_P.he hU.symm hPc, va_K.moved hW.alike hKc, hDc.weaken (fun _ _ _ _ => trivial)⟩⟩ rfl rfl hl.1 rfl (lv_room (Nat.le_of_ble_eq_true rfl)) d_JL_numberOfTrailingZeros_22 ⟨(Nat.zero_le _), (Nat.zero_le _)⟩) hS (fun q _ h => hFc q h) hFc (fun r2 u t H1 locs ht hvm hw hB hz1 hk1 hS => ?_)
    try dsimp only at hw
    try clear hw
    obtain ⟨hP1, hK1, hD1⟩ := hB
    replace hP1 := va_P.he ht hP1
    obtain ⟨hP, hD⟩ := va_join (wr := []) (w1 := []) hP hD [] [] rfl rfl (by decide) (by decide) hk1 hFc hP1 hD1
    clear hPc hDc hKc hFc hz1 hk1 hP1 hK1 hD1
    rename Heap => H
    have hP : va_P (dC, dI) cls [] H := hP
    have hD : va_D A [] := hD
    have hP9 := hP.sb (wq := []) [] rfl
    have hD9 := hD.sb (wq := []) [] (by decide) rfl
    exact W.iret (v := r2) hx hb hr (fun t ht hW => ⟨⟨r2, (), rfl, ⟨⟩, va_P.he ht.symm hP9, va_K.moved hW.alike hK, hD9⟩, hS.F ht⟩) hS.2.2 d_JL_numberOfTrailingZeros_25
  · have q4 := eqI c4
    refine lv_bipush (v := 32) hx hb d_JL_numberOfTrailingZeros_7 (by decide) ?_
    refine lv_lload_n hx hb d_JL_numberOfTrailingZeros_9 rfl (lv_at hl 1 rfl) ?_
    refine lv_bipush (v := 32) hx hb d_JL_numberOfTrailingZeros_10 (by decide) ?_
    refine lv_lushr hx hb d_JL_numberOfTrailingZeros_12 rfl ?_
    refine lv_topl (fun x3 ex3 => ?_)
    refine lv_l2i hx hb d_JL_numberOfTrailingZeros_13 rfl ?_
    refine lv_topi (fun x4 ex4 => ?_)
    have hPc := hP.sb (wq := []) [] rfl
    have hDc := hD.sb (wq := []) [] (by decide) rfl
    have hKc := hK.sb (tyq := []) [] rfl
    have hFc := va_free (wc := []) hD hS hA [] rfl
    refine va_calli (va_runS (As := [.int x4]) (rest := [.int 32]) ⟨hx, hb, hml, hown, hts⟩ (c_JI_numberOfTrailingZeros l dC dI H.size x4) ⟨callB_of 1 hts (gW kC_JI_numberOfTrailingZeros) rfl rfl rfl (hts _ kI_JI) (hts _ kM_JL_311) (by decide +kernel) ⟨Nat.le_of_ble_eq_true rfl, Nat.le_of_ble_eq_true rfl⟩, hts _ kT_JI_numberOfTrailingZeros⟩ ⟨fun a U g mk z => by obtain ⟨z0, z1, zP, zK, zD⟩ := z; exact ⟨z0, z1, zP, va_K.moved (u := U) (U := U.calling g mk a) (Vm.Alike.refl U.vm) zK, zD⟩, fun U hU hW => ⟨rfl, by rw [hU], va_P.he hU.symm hPc, va_K.moved hW.alike hKc, hDc.weaken (fun _ _ _ _ => trivial)⟩⟩ rfl rfl hl.1 rfl (lv_room (Nat.le_of_ble_eq_true rfl)) d_JL_numberOfTrailingZeros_14 ⟨(Nat.zero_le _), (Nat.zero_le _)⟩) hS (fun q _ h => hFc q h) hFc (fun r5 u t H1 locs ht hvm hw hB hz1 hk1 hS => ?_)
    try dsimp only at hw
    try clear hw
    obtain ⟨hP1, hK1, hD1⟩ := hB
    replace hP1 := va_P.he ht hP1
    obtain ⟨hP, hD⟩ := va_join (wr := []) (w1 := []) hP hD [] [] rfl rfl (by decide) (by decide) hk1 hFc hP1 hD1
    clear hPc hDc hKc hFc hz1 hk1 hP1 hK1 hD1
    rename Heap => H
    have hP : va_P (dC, dI) cls [] H := hP
    have hD : va_D A [] := hD
    refine lv_iadd hx hb d_JL_numberOfTrailingZeros_17 ?_
    refine lv_topi (fun x6 ex6 => ?_)
    refine lv_goto (tgt := 25) hx hb d_JL_numberOfTrailingZeros_18 (by decide) ?_
    have hP9 := hP.sb (wq := []) [] rfl
    have hD9 := hD.sb (wq := []) [] (by decide) rfl
    exact W.iret (v := x6) hx hb hr (fun t ht hW => ⟨⟨x6, (), rfl, ⟨⟩, va_P.he ht.symm hP9, va_K.moved hW.alike hK, hD9⟩, hS.F ht⟩) hS.2.2 d_JL_numberOfTrailingZeros_25
abbrev b_JL_bitCount : ByteArray := prog_30_method_50_code
def y_JL_bitCount : MethodName := ⟨R_JL, "bitCount", "(J)I"⟩
abbrev w_JL_bitCount : List Cond := .code y_JL_bitCount b_JL_bitCount 2 (Option.some .int) :: lw_g
theorem kC_JL_bitCount : Cond.code y_JL_bitCount b_JL_bitCount 2 (Option.some .int) ∈ lw_g := in_c7 206 rfl rfl
theorem d_JL_bitCount_0 : decode b_JL_bitCount 0 = .ok (.lload_n 0, 1) := bz_c30 (by decide +kernel)
theorem d_JL_bitCount_1 : decode b_JL_bitCount 1 = .ok (.lload_n 0, 1) := bz_c30 (by decide +kernel)
theorem d_JL_bitCount_2 : decode b_JL_bitCount 2 = .ok (.iconst 1, 1) := bz_c4 (by decide +kernel)
theorem d_JL_bitCount_3 : decode b_JL_bitCount 3 = .ok (.lushr, 1) := bz_c125 (by decide +kernel)
theorem d_JL_bitCount_4 : decode b_JL_bitCount 4 = .ok (.ldc2_w 314, 3) := bz_c20 (by decide +kernel)
theorem d_JL_bitCount_7 : decode b_JL_bitCount 7 = .ok (.land, 1) := bz_c127 (by decide +kernel)
theorem d_JL_bitCount_8 : decode b_JL_bitCount 8 = .ok (.lsub, 1) := by decide +kernel
theorem d_JL_bitCount_9 : decode b_JL_bitCount 9 = .ok (.lstore_n 0, 1) := bz_c63 (by decide +kernel)
theorem d_JL_bitCount_10 : decode b_JL_bitCount 10 = .ok (.lload_n 0, 1) := bz_c30 (by decide +kernel)
theorem d_JL_bitCount_11 : decode b_JL_bitCount 11 = .ok (.ldc2_w 316, 3) := bz_c20 (by decide +kernel)
theorem d_JL_bitCount_14 : decode b_JL_bitCount 14 = .ok (.land, 1) := bz_c127 (by decide +kernel)
theorem d_JL_bitCount_15 : decode b_JL_bitCount 15 = .ok (.lload_n 0, 1) := bz_c30 (by decide +kernel)
theorem d_JL_bitCount_16 : decode b_JL_bitCount 16 = .ok (.iconst 2, 1) := bz_c5 (by decide +kernel)
theorem d_JL_bitCount_17 : decode b_JL_bitCount 17 = .ok (.lushr, 1) := bz_c125 (by decide +kernel)
theorem d_JL_bitCount_18 : decode b_JL_bitCount 18 = .ok (.ldc2_w 316, 3) := bz_c20 (by decide +kernel)
theorem d_JL_bitCount_21 : decode b_JL_bitCount 21 = .ok (.land, 1) := bz_c127 (by decide +kernel)
theorem d_JL_bitCount_22 : decode b_JL_bitCount 22 = .ok (.ladd, 1) := bz_c97 (by decide +kernel)
theorem d_JL_bitCount_23 : decode b_JL_bitCount 23 = .ok (.lstore_n 0, 1) := bz_c63 (by decide +kernel)
theorem d_JL_bitCount_24 : decode b_JL_bitCount 24 = .ok (.lload_n 0, 1) := bz_c30 (by decide +kernel)
theorem d_JL_bitCount_25 : decode b_JL_bitCount 25 = .ok (.lload_n 0, 1) := bz_c30 (by decide +kernel)
theorem d_JL_bitCount_26 : decode b_JL_bitCount 26 = .ok (.iconst 4, 1) := bz_c7 (by decide +kernel)
theorem d_JL_bitCount_27 : decode b_JL_bitCount 27 = .ok (.lushr, 1) := bz_c125 (by decide +kernel)
theorem d_JL_bitCount_28 : decode b_JL_bitCount 28 = .ok (.ladd, 1) := bz_c97 (by decide +kernel)
theorem d_JL_bitCount_29 : decode b_JL_bitCount 29 = .ok (.ldc2_w 318, 3) := bz_c20 (by decide +kernel)
theorem d_JL_bitCount_32 : decode b_JL_bitCount 32 = .ok (.land, 1) := bz_c127 (by decide +kernel)
theorem d_JL_bitCount_33 : decode b_JL_bitCount 33 = .ok (.lstore_n 0, 1) := bz_c63 (by decide +kernel)
theorem d_JL_bitCount_34 : decode b_JL_bitCount 34 = .ok (.lload_n 0, 1) := bz_c30 (by decide +kernel)
theorem d_JL_bitCount_35 : decode b_JL_bitCount 35 = .ok (.lload_n 0, 1) := bz_c30 (by decide +kernel)
theorem d_JL_bitCount_36 : decode b_JL_bitCount 36 = .ok (.bipush 8, 2) := bz_c16 (by decide +kernel)
theorem d_JL_bitCount_38 : decode b_JL_bitCount 38 = .ok (.lushr, 1) := bz_c125 (by decide +kernel)
theorem d_JL_bitCount_39 : decode b_JL_bitCount 39 = .ok (.ladd, 1) := bz_c97 (by decide +kernel)
theorem d_JL_bitCount_40 : decode b_JL_bitCount 40 = .ok (.lstore_n 0, 1) := bz_c63 (by decide +kernel)
theorem d_JL_bitCount_41 : decode b_JL_bitCount 41 = .ok (.lload_n 0, 1) := bz_c30 (by decide +kernel)
theorem d_JL_bitCount_42 : decode b_JL_bitCount 42 = .ok (.lload_n 0, 1) := bz_c30 (by decide +kernel)
theorem d_JL_bitCount_43 : decode b_JL_bitCount 43 = .ok (.bipush 16, 2) := bz_c16 (by decide +kernel)
theorem d_JL_bitCount_45 : decode b_JL_bitCount 45 = .ok (.lushr, 1) := bz_c125 (by decide +kernel)
theorem d_JL_bitCount_46 : decode b_JL_bitCount 46 = .ok (.ladd, 1) := bz_c97 (by decide +kernel)
theorem d_JL_bitCount_47 : decode b_JL_bitCount 47 = .ok (.lstore_n 0, 1) := bz_c63 (by decide +kernel)
theorem d_JL_bitCount_48 : decode b_JL_bitCount 48 = .ok (.lload_n 0, 1) := bz_c30 (by decide +kernel)
theorem d_JL_bitCount_49 : decode b_JL_bitCount 49 = .ok (.lload_n 0, 1) := bz_c30 (by decide +kernel)
theorem d_JL_bitCount_50 : decode b_JL_bitCount 50 = .ok (.bipush 32, 2) := bz_c16 (by decide +kernel)
theorem d_JL_bitCount_52 : decode b_JL_bitCount 52 = .ok (.lushr, 1) := bz_c125 (by decide +kernel)
theorem d_JL_bitCount_53 : decode b_JL_bitCount 53 = .ok (.ladd, 1) := bz_c97 (by decide +kernel)
theorem d_JL_bitCount_54 : decode b_JL_bitCount 54 = .ok (.lstore_n 0, 1) := bz_c63 (by decide +kernel)
theorem d_JL_bitCount_55 : decode b_JL_bitCount 55 = .ok (.lload_n 0, 1) := bz_c30 (by decide +kernel)
theorem d_JL_bitCount_56 : decode b_JL_bitCount 56 = .ok (.l2i, 1) := bz_c136 (by decide +kernel)
theorem d_JL_bitCount_57 : decode b_JL_bitCount 57 = .ok (.bipush 127, 2) := bz_c16 (by decide +kernel)
theorem d_JL_bitCount_59 : decode b_JL_bitCount 59 = .ok (.iand, 1) := bz_c126 (by decide +kernel)
theorem d_JL_bitCount_60 : decode b_JL_bitCount 60 = .ok (.ireturn, 1) := bz_c172 (by decide +kernel)
theorem kL_JL_314 : Cond.constantLong R_JL 314 (6148914691236517205) ∈ lw_g := in_c7 207 rfl rfl
theorem kL_JL_316 : Cond.constantLong R_JL 316 (3689348814741910323) ∈ lw_g := in_c7 208 rfl rfl
theorem kL_JL_318 : Cond.constantLong R_JL 318 (1085102592571150095) ∈ lw_g := in_c7 209 rfl rfl
abbrev at_JL_bitCount (dC : Nat → ClassId) (dI : Nat → Nat → Nat)  (A : Nat → Prop) (u : Unit) (t : State) : Prop := match u with | _ => va_P (dC, dI) cls [] t.heap ∧ va_K (dC, dI) cls [] t ∧ va_D A []
set_option maxHeartbeats 4000000 in
set_option maxRecDepth 100000 in
theorem c_JL_bitCount (l : Launch) (dC : Nat → ClassId) (dI : Nat → Nat → Nat) (sz : Nat)    (p0 : Int64)   : Met l y_JL_bitCount w_JL_bitCount ({ frames := 0, cells := 0, slots := 0, locals := 0 }) (va_Pc [.long p0] (fun U => U.heap.size = sz ∧ va_P (dC, dI) cls [] U.heap ∧ va_K (dC, dI) cls [] U ∧ va_D (fun _ => True) [])) (va_Qi (fun (r : Int32) (u : Unit) => match u with | _ => True) (at_JL_bitCount dC dI  (va_A [] sz)) (va_A [] sz)) 0 0 (va_A [] sz) := by
  refine Met.ofW (cc := b_JL_bitCount) (maxL := 2) (ret := (Option.some .int)) (by decide) rfl ?_
  intro p e s m args below meth c s₁ B hml hv
  obtain ⟨rfl, hsz, hP, hK, hD0⟩ := hv
  have hx := B.exec
  have hb := B.bytes
  have hr := B.returns
  have hts0 := atoms_spec (ws := w_JL_bitCount) B.pre
  have hts : ∀ w ∈ lw_g, w.before _ s = true := fun w h => hts0 w (List.mem_cons_of_mem _ h)
  have hown : s.vm.findClass R_JL = some m.cls := findClass_of_methodNamed B.named
  have hlocks := B.notSynchronized
  clear hts0
  subst hsz
  have hD := hD0.self (sz := s.heap.size)
  generalize hAe : va_A [] s.heap.size = A at hD ⊢
  have hA : ∀ q : Nat, s.heap.size ≤ q → A q := fun q h => by rw [← hAe]; exact Or.inr h
  clear hAe
  have hP : va_P (dC, dI) cls [] s.heap := hP
  have hl := lv_entry ([.long p0]) (n := 2) (Nat.le_of_ble_eq_true rfl)
  rw [lg_entry_eq]
  generalize (lg_sl ([.long p0]) ++ List.replicate (2 - (lg_sl ([.long p0])).length) Slot.unset).toArray = ls at hl ⊢
  have hl : lv_has ls 2 [(0, .long p0)] := hl
  have k0 : (0 : Int32).toInt = 0 := by decide
  refine w_gen (A := A) hP (fun H locs hP hS => ?_)
  have k1 : (1 : Int32).toInt = 1 := by decide
  have k2 : (2 : Int32).toInt = 2 := by decide
  have k4 : (4 : Int32).toInt = 4 := by decide
  have k8 : (8 : Int32).toInt = 8 := by decide
  have k16 : (16 : Int32).toInt = 16 := by decide
  have k32 : (32 : Int32).toInt = 32 := by decide
  have k127 : (127 : Int32).toInt = 127 := by decide
  refine lv_lload_n hx hb d_JL_bitCount_0 rfl (lv_at hl 0 rfl) ?_
  refine lv_lload_n hx hb d_JL_bitCount_1 rfl (lv_at hl 0 rfl) ?_
  refine lv_iconst (v := 1) hx hb d_JL_bitCount_2 (by decide) ?_
  refine lv_lushr hx hb d_JL_bitCount_3 rfl ?_
  refine lv_topl (fun x1 ex1 => ?_)
  refine lv_ldc2 hx hb hown (hts _ kL_JL_314) d_JL_bitCount_4 ?_
  refine lv_topl (fun x2 ex2 => ?_)
  have tx2 : x2.toInt = 6148914691236517205 := by rw [ex2]; decide
  refine lv_land hx hb d_JL_bitCount_7 ?_
  refine lv_topl (fun x3 ex3 => ?_)
  refine lv_lsub hx hb d_JL_bitCount_8 ?_
  refine lv_topl (fun x4 ex4 => ?_)
  refine lv_lstore_n (lv' := [(0, .long x4)]) hx hb d_JL_bitCount_9 rfl hl (by decide) rfl (fun ls hl => ?_)
  refine lv_lload_n hx hb d_JL_bitCount_10 rfl (lv_at hl 0 rfl) ?_
  refine lv_ldc2 hx hb hown (hts _ kL_JL_316) d_JL_bitCount_11 ?_
  refine lv_topl (fun x5 ex5 => ?_)
  have tx5 : x5.toInt = 3689348814741910323 := by rw [ex5]; decide
  refine lv_land hx hb d_JL_bitCount_14 ?_
  refine lv_topl (fun x6 ex6 => ?_)
  refine lv_lload_n hx hb d_JL_bitCount_15 rfl (lv_at hl 0 rfl) ?_
  refine lv_iconst (v := 2) hx hb d_JL_bitCount_16 (by decide) ?_
  refine lv_lushr hx hb d_JL_bitCount_17 rfl ?_
  refine lv_topl (fun x7 ex7 => ?_)
  refine lv_ldc2 hx hb hown (hts _ kL_JL_316) d_JL_bitCount_18 ?_
  refine lv_topl (fun x8 ex8 => ?_)
  have tx8 : x8.toInt = 3689348814741910323 := by rw [ex8]; decide
  refine lv_land hx hb d_JL_bitCount_21 ?_
  refine lv_topl (fun x9 ex9 => ?_)
  refine lv_ladd hx hb d_JL_bitCount_22 ?_
  refine lv_topl (fun x10 ex10 => ?_)
  refine lv_lstore_n (lv' := [(0, .long x10)]) hx hb d_JL_bitCount_23 rfl hl (by decide) rfl (fun ls hl => ?_)
  refine lv_lload_n hx hb d_JL_bitCount_24 rfl (lv_at hl 0 rfl) ?_
  refine lv_lload_n hx hb d_JL_bitCount_25 rfl (lv_at hl 0 rfl) ?_
  refine lv_iconst (v := 4) hx hb d_JL_bitCount_26 (by decide) ?_
  refine lv_lushr hx hb d_JL_bitCount_27 rfl ?_
  refine lv_topl (fun x11 ex11 => ?_)
  refine lv_ladd hx hb d_JL_bitCount_28 ?_
  refine lv_topl (fun x12 ex12 => ?_)
  refine lv_ldc2 hx hb hown (hts _ kL_JL_318) d_JL_bitCount_29 ?_
  refine lv_topl (fun x13 ex13 => ?_)
  have tx13 : x13.toInt = 1085102592571150095 := by rw [ex13]; decide
  refine lv_land hx hb d_JL_bitCount_32 ?_
  refine lv_topl (fun x14 ex14 => ?_)
  refine lv_lstore_n (lv' := [(0, .long x14)]) hx hb d_JL_bitCount_33 rfl hl (by decide) rfl (fun ls hl => ?_)
  refine lv_lload_n hx hb d_JL_bitCount_34 rfl (lv_at hl 0 rfl) ?_
  refine lv_lload_n hx hb d_JL_bitCount_35 rfl (lv_at hl 0 rfl) ?_
  refine lv_bipush (v := 8) hx hb d_JL_bitCount_36 (by decide) ?_
  refine lv_lushr hx hb d_JL_bitCount_38 rfl ?_
  refine lv_topl (fun x15 ex15 => ?_)
  refine lv_ladd hx hb d_JL_bitCount_39 ?_
  refine lv_topl (fun x16 ex16 => ?_)
  refine lv_lstore_n (lv' := [(0, .long x16)]) hx hb d_JL_bitCount_40 rfl hl (by decide) rfl (fun ls hl => ?_)
  refine lv_lload_n hx hb d_JL_bitCount_41 rfl (lv_at hl 0 rfl) ?_
  refine lv_lload_n hx hb d_JL_bitCount_42 rfl (lv_at hl 0 rfl) ?_
  refine lv_bipush (v := 16) hx hb d_JL_bitCount_43 (by decide) ?_
  refine lv_lushr hx hb d_JL_bitCount_45 rfl ?_
  refine lv_topl (fun x17 ex17 => ?_)
  refine lv_ladd hx hb d_JL_bitCount_46 ?_
  refine lv_topl (fun x18 ex18 => ?_)
  refine lv_lstore_n (lv' := [(0, .long x18)]) hx hb d_JL_bitCount_47 rfl hl (by decide) rfl (fun ls hl => ?_)
  refine lv_lload_n hx hb d_JL_bitCount_48 rfl (lv_at hl 0 rfl) ?_
  refine lv_lload_n hx hb d_JL_bitCount_49 rfl (lv_at hl 0 rfl) ?_
  refine lv_bipush (v := 32) hx hb d_JL_bitCount_50 (by decide) ?_
  refine lv_lushr hx hb d_JL_bitCount_52 rfl ?_
  refine lv_topl (fun x19 ex19 => ?_)
  refine lv_ladd hx hb d_JL_bitCount_53 ?_
  refine lv_topl (fun x20 ex20 => ?_)
  refine lv_lstore_n (lv' := [(0, .long x20)]) hx hb d_JL_bitCount_54 rfl hl (by decide) rfl (fun ls hl => ?_)
  refine lv_lload_n hx hb d_JL_bitCount_55 rfl (lv_at hl 0 rfl) ?_
  refine lv_l2i hx hb d_JL_bitCount_56 rfl ?_
  refine lv_topi (fun x21 ex21 => ?_)
  refine lv_bipush (v := 127) hx hb d_JL_bitCount_57 (by decide) ?_
  refine lv_iand hx hb d_JL_bitCount_59 ?_
  refine lv_topi (fun x22 ex22 => ?_)
  have hP9 := hP.sb (wq := []) [] rfl
  have hD9 := hD.sb (wq := []) [] (by decide) rfl
  exact W.iret (v := x22) hx hb hr (fun t ht hW => ⟨⟨x22, (), rfl, ⟨⟩, va_P.he ht.symm hP9, va_K.moved hW.alike hK, hD9⟩, hS.F ht⟩) hS.2.2 d_JL_bitCount_60
abbrev b_JL_rotateLeft : ByteArray := prog_30_method_51_code
def y_JL_rotateLeft : MethodName := ⟨R_JL, "rotateLeft", "(JI)J"⟩
abbrev w_JL_rotateLeft : List Cond := .code y_JL_rotateLeft b_JL_rotateLeft 3 (Option.some .long) :: lw_g
theorem kC_JL_rotateLeft : Cond.code y_JL_rotateLeft b_JL_rotateLeft 3 (Option.some .long) ∈ lw_g := in_c8 7 rfl rfl
theorem d_JL_rotateLeft_0 : decode b_JL_rotateLeft 0 = .ok (.lload_n 0, 1) := bz_c30 (by decide +kernel)
theorem d_JL_rotateLeft_1 : decode b_JL_rotateLeft 1 = .ok (.iload_n 2, 1) := bz_c28 (by decide +kernel)
theorem d_JL_rotateLeft_2 : decode b_JL_rotateLeft 2 = .ok (.lshl, 1) := bz_c121 (by decide +kernel)
theorem d_JL_rotateLeft_3 : decode b_JL_rotateLeft 3 = .ok (.lload_n 0, 1) := bz_c30 (by decide +kernel)
theorem d_JL_rotateLeft_4 : decode b_JL_rotateLeft 4 = .ok (.iload_n 2, 1) := bz_c28 (by decide +kernel)
theorem d_JL_rotateLeft_5 : decode b_JL_rotateLeft 5 = .ok (.ineg, 1) := by decide +kernel
theorem d_JL_rotateLeft_6 : decode b_JL_rotateLeft 6 = .ok (.lushr, 1) := bz_c125 (by decide +kernel)
theorem d_JL_rotateLeft_7 : decode b_JL_rotateLeft 7 = .ok (.lor, 1) := bz_c129 (by decide +kernel)
theorem d_JL_rotateLeft_8 : decode b_JL_rotateLeft 8 = .ok (.lreturn, 1) := bz_c173 (by decide +kernel)
abbrev at_JL_rotateLeft (dC : Nat → ClassId) (dI : Nat → Nat → Nat)  (A : Nat → Prop) (u : Unit) (t : State) : Prop := match u with | _ => va_P (dC, dI) cls [] t.heap ∧ va_K (dC, dI) cls [] t ∧ va_D A []
set_option maxHeartbeats 4000000 in
set_option maxRecDepth 100000 in
theorem c_JL_rotateLeft (l : Launch) (dC : Nat → ClassId) (dI : Nat → Nat → Nat) (sz : Nat)    (p0 : Int64) (p1 : Int32)   : Met l y_JL_rotateLeft w_JL_rotateLeft ({ frames := 0, cells := 0, slots := 0, locals := 0 }) (va_Pc [.long p0, .int p1] (fun U => U.heap.size = sz ∧ va_P (dC, dI) cls [] U.heap ∧ va_K (dC, dI) cls [] U ∧ va_D (fun _ => True) [])) (va_Ql (fun (r : Int64) (u : Unit) => match u with | _ => True) (at_JL_rotateLeft dC dI  (va_A [] sz)) (va_A [] sz)) 0 0 (va_A [] sz) := by
  refine Met.ofW (cc := b_JL_rotateLeft) (maxL := 3) (ret := (Option.some .long)) (by decide) rfl ?_
  intro p e s m args below meth c s₁ B hml hv
  obtain ⟨rfl, hsz, hP, hK, hD0⟩ := hv
  have hx := B.exec
  have hb := B.bytes
  have hr := B.returns
  have hts0 := atoms_spec (ws := w_JL_rotateLeft) B.pre
  have hts : ∀ w ∈ lw_g, w.before _ s = true := fun w h => hts0 w (List.mem_cons_of_mem _ h)
  have hown : s.vm.findClass R_JL = some m.cls := findClass_of_methodNamed B.named
  have hlocks := B.notSynchronized
  clear hts0
  subst hsz
  have hD := hD0.self (sz := s.heap.size)
  generalize hAe : va_A [] s.heap.size = A at hD ⊢
  have hA : ∀ q : Nat, s.heap.size ≤ q → A q := fun q h => by rw [← hAe]; exact Or.inr h
  clear hAe
  have hP : va_P (dC, dI) cls [] s.heap := hP
  have hl := lv_entry ([.long p0, .int p1]) (n := 3) (Nat.le_of_ble_eq_true rfl)
  rw [lg_entry_eq]
  generalize (lg_sl ([.long p0, .int p1]) ++ List.replicate (3 - (lg_sl ([.long p0, .int p1])).length) Slot.unset).toArray = ls at hl ⊢
  have hl : lv_has ls 3 [(0, .long p0), (2, .int p1)] := hl
  have k0 : (0 : Int32).toInt = 0 := by decide
  refine w_gen (A := A) hP (fun H locs hP hS => ?_)
  have lo_p1 := i32_lo p1
  have hi_p1 := i32_hi p1
  refine lv_lload_n hx hb d_JL_rotateLeft_0 rfl (lv_at hl 0 rfl) ?_
  refine lv_iload_n hx hb d_JL_rotateLeft_1 rfl (lv_at hl 1 rfl) ?_
  refine lv_lshl hx hb d_JL_rotateLeft_2 rfl ?_
  refine lv_topl (fun x1 ex1 => ?_)
  refine lv_lload_n hx hb d_JL_rotateLeft_3 rfl (lv_at hl 0 rfl) ?_
  refine lv_iload_n hx hb d_JL_rotateLeft_4 rfl (lv_at hl 1 rfl) ?_
  refine lv_ineg hx hb d_JL_rotateLeft_5 ?_
  refine lv_topi (fun x2 ex2 => ?_)
  refine lv_lushr hx hb d_JL_rotateLeft_6 rfl ?_
  refine lv_topl (fun x3 ex3 => ?_)
  refine lv_lor hx hb d_JL_rotateLeft_7 ?_
  refine lv_topl (fun x4 ex4 => ?_)
  have hP9 := hP.sb (wq := []) [] rfl
  have hD9 := hD.sb (wq := []) [] (by decide) rfl
  exact W.lret (v := x4) hx hb hr (fun t ht hW => ⟨⟨x4, (), rfl, ⟨⟩, va_P.he ht.symm hP9, va_K.moved hW.alike hK, hD9⟩, hS.F ht⟩) hS.2.2 d_JL_rotateLeft_8
abbrev b_JL_rotateRight : ByteArray := prog_30_method_52_code
def y_JL_rotateRight : MethodName := ⟨R_JL, "rotateRight", "(JI)J"⟩
abbrev w_JL_rotateRight : List Cond := .code y_JL_rotateRight b_JL_rotateRight 3 (Option.some .long) :: lw_g
theorem kC_JL_rotateRight : Cond.code y_JL_rotateRight b_JL_rotateRight 3 (Option.some .long) ∈ lw_g := in_c8 10 rfl rfl
theorem d_JL_rotateRight_0 : decode b_JL_rotateRight 0 = .ok (.lload_n 0, 1) := bz_c30 (by decide +kernel)
theorem d_JL_rotateRight_1 : decode b_JL_rotateRight 1 = .ok (.iload_n 2, 1) := bz_c28 (by decide +kernel)
theorem d_JL_rotateRight_2 : decode b_JL_rotateRight 2 = .ok (.lushr, 1) := bz_c125 (by decide +kernel)
theorem d_JL_rotateRight_3 : decode b_JL_rotateRight 3 = .ok (.lload_n 0, 1) := bz_c30 (by decide +kernel)
theorem d_JL_rotateRight_4 : decode b_JL_rotateRight 4 = .ok (.iload_n 2, 1) := bz_c28 (by decide +kernel)
theorem d_JL_rotateRight_5 : decode b_JL_rotateRight 5 = .ok (.ineg, 1) := by decide +kernel
theorem d_JL_rotateRight_6 : decode b_JL_rotateRight 6 = .ok (.lshl, 1) := bz_c121 (by decide +kernel)
theorem d_JL_rotateRight_7 : decode b_JL_rotateRight 7 = .ok (.lor, 1) := bz_c129 (by decide +kernel)
theorem d_JL_rotateRight_8 : decode b_JL_rotateRight 8 = .ok (.lreturn, 1) := bz_c173 (by decide +kernel)
abbrev at_JL_rotateRight (dC : Nat → ClassId) (dI : Nat → Nat → Nat)  (A : Nat → Prop) (u : Unit) (t : State) : Prop := match u with | _ => va_P (dC, dI) cls [] t.heap ∧ va_K (dC, dI) cls [] t ∧ va_D A []
set_option maxHeartbeats 4000000 in
set_option maxRecDepth 100000 in
theorem c_JL_rotateRight (l : Launch) (dC : Nat → ClassId) (dI : Nat → Nat → Nat) (sz : Nat)    (p0 : Int64) (p1 : Int32)   : Met l y_JL_rotateRight w_JL_rotateRight ({ frames := 0, cells := 0, slots := 0, locals := 0 }) (va_Pc [.long p0, .int p1] (fun U => U.heap.size = sz ∧ va_P (dC, dI) cls [] U.heap ∧ va_K (dC, dI) cls [] U ∧ va_D (fun _ => True) [])) (va_Ql (fun (r : Int64) (u : Unit) => match u with | _ => True) (at_JL_rotateRight dC dI  (va_A [] sz)) (va_A [] sz)) 0 0 (va_A [] sz) := by
  refine Met.ofW (cc := b_JL_rotateRight) (maxL := 3) (ret := (Option.some .long)) (by decide) rfl ?_
  intro p e s m args below meth c s₁ B hml hv
  obtain ⟨rfl, hsz, hP, hK, hD0⟩ := hv
  have hx := B.exec
  have hb := B.bytes
  have hr := B.returns
  have hts0 := atoms_spec (ws := w_JL_rotateRight) B.pre
  have hts : ∀ w ∈ lw_g, w.before _ s = true := fun w h => hts0 w (List.mem_cons_of_mem _ h)
  have hown : s.vm.findClass R_JL = some m.cls := findClass_of_methodNamed B.named
  have hlocks := B.notSynchronized
  clear hts0
  subst hsz
  have hD := hD0.self (sz := s.heap.size)
  generalize hAe : va_A [] s.heap.size = A at hD ⊢
  have hA : ∀ q : Nat, s.heap.size ≤ q → A q := fun q h => by rw [← hAe]; exact Or.inr h
  clear hAe
  have hP : va_P (dC, dI) cls [] s.heap := hP
  have hl := lv_entry ([.long p0, .int p1]) (n := 3) (Nat.le_of_ble_eq_true rfl)
  rw [lg_entry_eq]
  generalize (lg_sl ([.long p0, .int p1]) ++ List.replicate (3 - (lg_sl ([.long p0, .int p1])).length) Slot.unset).toArray = ls at hl ⊢
  have hl : lv_has ls 3 [(0, .long p0), (2, .int p1)] := hl
  have k0 : (0 : Int32).toInt = 0 := by decide
  refine w_gen (A := A) hP (fun H locs hP hS => ?_)
  have lo_p1 := i32_lo p1
  have hi_p1 := i32_hi p1
  refine lv_lload_n hx hb d_JL_rotateRight_0 rfl (lv_at hl 0 rfl) ?_
  refine lv_iload_n hx hb d_JL_rotateRight_1 rfl (lv_at hl 1 rfl) ?_
  refine lv_lushr hx hb d_JL_rotateRight_2 rfl ?_
  refine lv_topl (fun x1 ex1 => ?_)
  refine lv_lload_n hx hb d_JL_rotateRight_3 rfl (lv_at hl 0 rfl) ?_
  refine lv_iload_n hx hb d_JL_rotateRight_4 rfl (lv_at hl 1 rfl) ?_
  refine lv_ineg hx hb d_JL_rotateRight_5 ?_
  refine lv_topi (fun x2 ex2 => ?_)
  refine lv_lshl hx hb d_JL_rotateRight_6 rfl ?_
  refine lv_topl (fun x3 ex3 => ?_)
  refine lv_lor hx hb d_JL_rotateRight_7 ?_
  refine lv_topl (fun x4 ex4 => ?_)
  have hP9 := hP.sb (wq := []) [] rfl
  have hD9 := hD.sb (wq := []) [] (by decide) rfl
  exact W.lret (v := x4) hx hb hr (fun t ht hW => ⟨⟨x4, (), rfl, ⟨⟩, va_P.he ht.symm hP9, va_K.moved hW.alike hK, hD9⟩, hS.F ht⟩) hS.2.2 d_JL_rotateRight_8
def R_JM : String := "java/lang/Math"
theorem kI_JM : Cond.initialized R_JM ∈ lw_g := in_c1 33 rfl rfl
abbrev b_JM_min1 : ByteArray := prog_31_method_70_code
def y_JM_min1 : MethodName := ⟨R_JM, "min", "(JJ)J"⟩
abbrev w_JM_min1 : List Cond := .code y_JM_min1 b_JM_min1 4 (Option.some .long) :: lw_g
theorem kC_JM_min1 : Cond.code y_JM_min1 b_JM_min1 4 (Option.some .long) ∈ lw_g := in_c7 151 rfl rfl
abbrev b_JM_min0 : ByteArray := prog_31_method_69_code
def y_JM_min0 : MethodName := ⟨R_JM, "min", "(II)I"⟩
abbrev w_JM_min0 : List Cond := .code y_JM_min0 b_JM_min0 2 (Option.some .int) :: lw_g
theorem kC_JM_min0 : Cond.code y_JM_min0 b_JM_min0 2 (Option.some .int) ∈ lw_g := in_c10 47 rfl rfl
theorem min64 {x a b : Int64} (e : x = if b < a then b else a) : x.toInt ≤ a.toInt ∧ x.toInt ≤ b.toInt ∧ (x.toInt = a.toInt ∨ x.toInt = b.toInt) := by
  by_cases h : b < a
  · rw [if_pos h] at e
    have z := Int64.lt_iff_toInt_lt.mp h
    rw [e]
    (first | (apply Int.le_antisymm <;> omega) | omega)
  · rw [if_neg h] at e
    have z : ¬ b.toInt < a.toInt := fun q => h (Int64.lt_iff_toInt_lt.mpr q)
    rw [e]
    (first | (apply Int.le_antisymm <;> omega) | omega)
end q_10a
section q_10b
/-! the machine's frames: a picture. an: what stands at an instruction (function, open blocks with their heights, height), where it can be reached -/
abbrev mc_A : Type := Nat → Option (Nat × List (Nat × Int) × Int)
def mc_lb (lb lh : Nat → Int32) (bs : List (Nat × Int)) (base LC : Int) : Prop :=
  ∀ (j : Nat) (b : Nat × Int), bs[j]? = some b → (lb (LC - 1 - j).toNat).toInt = b.1 ∧ (lh (LC - 1 - j).toNat).toInt = base + b.2 ∧ 0 ≤ base + b.2 ∧ base + b.2 ≤ 12096 ∧ (b.1 : Int) < 5000
def mc_one (nl : Nat → Int) (fs ff fl lb lh : Nat → Int32) (k f : Nat) (bs : List (Nat × Int)) (LC : Int) : Prop :=
  (ff k).toInt = f ∧ 0 ≤ (fs k).toInt ∧ (fs k).toInt ≤ 12096 ∧ 0 ≤ (fl k).toInt ∧ (fl k).toInt ≤ 100 * k ∧ LC = (fl k).toInt + bs.length ∧ bs.length ≤ 100 ∧ mc_lb lb lh bs ((fs k).toInt + nl f) LC
def mc_fr (an : mc_A) (nl gv : Nat → Int) (fb fs ff fl lb lh : Nat → Int32) : Nat → Int → Int → Int → Prop
  | 0, pc, H, LC => ∃ (f : Nat) (bs : List (Nat × Int)) (h : Int), 0 ≤ pc ∧ an pc.toNat = some (f, bs, h) ∧ H = (fs 0).toInt + nl f + h ∧ mc_one nl fs ff fl lb lh 0 f bs LC
  | k + 1, pc, H, LC => ∃ (f : Nat) (bs : List (Nat × Int)) (h : Int), 0 ≤ pc ∧ an pc.toNat = some (f, bs, h) ∧ H = (fs (k + 1)).toInt + nl f + h ∧ mc_one nl fs ff fl lb lh (k + 1) f bs LC ∧ mc_fr an nl gv fb fs ff fl lb lh k (fb (k + 1)).toInt ((fs (k + 1)).toInt + gv f) (fl (k + 1)).toInt
def mc_bl (an : mc_A) (nl gv : Nat → Int) (fb fs ff fl lb lh : Nat → Int32) : Nat → Nat → Prop
  | 0, _ => True
  | k + 1, f => mc_fr an nl gv fb fs ff fl lb lh k (fb (k + 1)).toInt ((fs (k + 1)).toInt + gv f) (fl (k + 1)).toInt
def mc_tp (an : mc_A) (nl gv : Nat → Int) (fb fs ff fl lb lh : Nat → Int32) (k f : Nat) (bs : List (Nat × Int)) (LC : Int) : Prop :=
  mc_one nl fs ff fl lb lh k f bs LC ∧ mc_bl an nl gv fb fs ff fl lb lh k f
section MC
variable {an : mc_A} {nl gv : Nat → Int} {fb fs ff fl lb lh fb' fs' ff' fl' lb' lh' : Nat → Int32}
theorem mc_fr_of {k f : Nat} {bs : List (Nat × Int)} {pc H LC h : Int} (h0 : 0 ≤ pc) (h1 : an pc.toNat = some (f, bs, h)) (h2 : H = (fs k).toInt + nl f + h) (h3 : mc_tp an nl gv fb fs ff fl lb lh k f bs LC) : mc_fr an nl gv fb fs ff fl lb lh k pc H LC := by
  cases k with
  | zero => exact ⟨f, bs, h, h0, h1, h2, h3.1⟩
  | succ k => exact ⟨f, bs, h, h0, h1, h2, h3.1, h3.2⟩
theorem mc_fr_to {k : Nat} {pc H LC : Int} (hh : mc_fr an nl gv fb fs ff fl lb lh k pc H LC) : ∃ (f : Nat) (bs : List (Nat × Int)) (h : Int), 0 ≤ pc ∧ an pc.toNat = some (f, bs, h) ∧ H = (fs k).toInt + nl f + h ∧ mc_tp an nl gv fb fs ff fl lb lh k f bs LC := by
  cases k with
  | zero =>
    obtain ⟨f, bs, h, h0, h1, h2, h3⟩ := hh
    exact ⟨f, bs, h, h0, h1, h2, h3, trivial⟩
  | succ k =>
    obtain ⟨f, bs, h, h0, h1, h2, h3, h4⟩ := hh
    exact ⟨f, bs, h, h0, h1, h2, h3, h4⟩
theorem mc_lb.congr {bs : List (Nat × Int)} {base LC : Int} (h : mc_lb lb lh bs base LC) (hl : (bs.length : Int) ≤ LC) (e : ∀ i : Nat, (i : Int) < LC → lb' i = lb i ∧ lh' i = lh i) : mc_lb lb' lh' bs base LC := by
  intro j b hj
  have hlt : j < bs.length := (List.getElem?_eq_some_iff.mp hj).1
  obtain ⟨e1, e2⟩ := e (LC - 1 - j).toNat (by (first | (apply Int.le_antisymm <;> omega) | omega))
  rw [e1, e2]
  exact h j b hj
theorem mc_one.congr {k f : Nat} {bs : List (Nat × Int)} {LC : Int} (h : mc_one nl fs ff fl lb lh k f bs LC) (e1 : fs' k = fs k) (e2 : ff' k = ff k) (e3 : fl' k = fl k) (e : ∀ i : Nat, (i : Int) < LC → lb' i = lb i ∧ lh' i = lh i) : mc_one nl fs' ff' fl' lb' lh' k f bs LC := by
  obtain ⟨a1, a2, a3, a4, a5, a6, a7, a8⟩ := h
  unfold mc_one
  rw [e1, e2, e3]
  exact ⟨a1, a2, a3, a4, a5, a6, a7, a8.congr (by (first | (apply Int.le_antisymm <;> omega) | omega)) e⟩
theorem mc_fr.congr : ∀ (k : Nat) {pc H LC : Int}, mc_fr an nl gv fb fs ff fl lb lh k pc H LC → (∀ i : Nat, i ≤ k → fb' i = fb i ∧ fs' i = fs i ∧ ff' i = ff i ∧ fl' i = fl i) → (∀ i : Nat, (i : Int) < LC → lb' i = lb i ∧ lh' i = lh i) → mc_fr an nl gv fb' fs' ff' fl' lb' lh' k pc H LC
  | 0, pc, H, LC, hh, e, e' => by
    obtain ⟨f, bs, h, h0, h1, h2, h3⟩ := hh
    obtain ⟨-, q2, q3, q4⟩ := e 0 (Nat.le_refl _)
    exact ⟨f, bs, h, h0, h1, by rw [q2]; exact h2, h3.congr q2 q3 q4 e'⟩
  | k + 1, pc, H, LC, hh, e, e' => by
    obtain ⟨f, bs, h, h0, h1, h2, h3, h4⟩ := hh
    obtain ⟨q1, q2, q3, q4⟩ := e (k + 1) (Nat.le_refl _)
    have hle : (fl (k + 1)).toInt ≤ LC := by
      obtain ⟨-, -, -, -, -, a6, -, -⟩ := h3
      (first | (apply Int.le_antisymm <;> omega) | omega)
    refine ⟨f, bs, h, h0, h1, by rw [q2]; exact h2, h3.congr q2 q3 q4 e', ?_⟩
    rw [q1, q2, q4]
    exact mc_fr.congr k h4 (fun i hi => e i (Nat.le_succ_of_le hi)) (fun i hi => e' i (by (first | (apply Int.le_antisymm <;> omega) | omega)))
theorem mc_bl.congr {k f : Nat} (h : mc_bl an nl gv fb fs ff fl lb lh k f) (e : ∀ i : Nat, i ≤ k → fb' i = fb i ∧ fs' i = fs i ∧ ff' i = ff i ∧ fl' i = fl i) (e' : ∀ i : Nat, (i : Int) < (fl k).toInt → lb' i = lb i ∧ lh' i = lh i) : mc_bl an nl gv fb' fs' ff' fl' lb' lh' k f := by
  cases k with
  | zero => trivial
  | succ k =>
    obtain ⟨q1, q2, q3, q4⟩ := e (k + 1) (Nat.le_refl _)
    show mc_fr an nl gv fb' fs' ff' fl' lb' lh' k (fb' (k + 1)).toInt ((fs' (k + 1)).toInt + gv f) (fl' (k + 1)).toInt
    rw [q1, q2, q4]
    exact mc_fr.congr k h (fun i hi => e i (Nat.le_succ_of_le hi)) e'
/-- a block is entered -/
theorem mc_tp.enter {k f i : Nat} {bs : List (Nat × Int)} {LC h : Int} {vi vh : Int32} (hT : mc_tp an nl gv fb fs ff fl lb lh k f bs LC) (hi : vi.toInt = i) (h5 : (i : Int) < 5000) (hv : vh.toInt = (fs k).toInt + nl f + h) (h0 : 0 ≤ vh.toInt) (h1 : vh.toInt ≤ 12096) (hl : bs.length < 100) :
    mc_tp an nl gv fb fs ff fl (upd lb LC.toNat vi) (upd lh LC.toNat vh) k f ((i, h) :: bs) (LC + 1) := by
  obtain ⟨⟨a1, a2, a3, a4, a5, a6, a7, a8⟩, hB⟩ := hT
  refine ⟨⟨a1, a2, a3, a4, a5, by rw [List.length_cons]; (first | (apply Int.le_antisymm <;> omega) | omega), by rw [List.length_cons]; (first | (apply Int.le_antisymm <;> omega) | omega), ?_⟩, ?_⟩
  · intro j b hj
    cases j with
    | zero =>
      have e : b = (i, h) := by simpa using hj.symm
      have e2 : (LC + 1 - 1 - ((0 : Nat) : Int)).toNat = LC.toNat := by (first | (apply Int.le_antisymm <;> omega) | omega)
      rw [e2, pk_us, pk_us, e]
      exact ⟨hi, hv, by dsimp only; (first | (apply Int.le_antisymm <;> omega) | omega), by dsimp only; (first | (apply Int.le_antisymm <;> omega) | omega), h5⟩
    | succ j =>
      have hj' : bs[j]? = some b := by simpa using hj
      have hlt : j < bs.length := (List.getElem?_eq_some_iff.mp hj').1
      have e2 : (LC + 1 - 1 - ((j + 1 : Nat) : Int)).toNat = (LC - 1 - (j : Int)).toNat := by (first | (apply Int.le_antisymm <;> omega) | omega)
      have e3 : (LC - 1 - (j : Int)).toNat ≠ LC.toNat := by (first | (apply Int.le_antisymm <;> omega) | omega)
      rw [e2, pk_un e3, pk_un e3]
      exact a8 j b hj'
  · refine hB.congr (fun i _ => ⟨rfl, rfl, rfl, rfl⟩) (fun q hq => ?_)
    have e3 : q ≠ LC.toNat := by (first | (apply Int.le_antisymm <;> omega) | omega)
    exact ⟨pk_un e3, pk_un e3⟩
/-- blocks are left -/
theorem mc_tp.drop {k f : Nat} {bs : List (Nat × Int)} {LC : Int} (n : Nat) (hT : mc_tp an nl gv fb fs ff fl lb lh k f bs LC) (hn : n ≤ bs.length) : mc_tp an nl gv fb fs ff fl lb lh k f (bs.drop n) (LC - n) := by
  obtain ⟨⟨a1, a2, a3, a4, a5, a6, a7, a8⟩, hB⟩ := hT
  refine ⟨⟨a1, a2, a3, a4, a5, by rw [List.length_drop]; (first | (apply Int.le_antisymm <;> omega) | omega), by rw [List.length_drop]; (first | (apply Int.le_antisymm <;> omega) | omega), ?_⟩, hB⟩
  intro j b hj
  rw [List.getElem?_drop] at hj
  have e2 : (LC - n - 1 - (j : Int)).toNat = (LC - 1 - ((n + j : Nat) : Int)).toNat := by (first | (apply Int.le_antisymm <;> omega) | omega)
  rw [e2]
  exact a8 (n + j) b hj
/-- a call: the caller's frame as it is behind it, and a new one -/
theorem mc_tp.call {k f f2 : Nat} {bs : List (Nat × Int)} {LC h base : Int} {vp vb vf vl : Int32} (hT : mc_tp an nl gv fb fs ff fl lb lh k f bs LC) (h0 : 0 ≤ vp.toInt) (ha : an vp.toInt.toNat = some (f, bs, h)) (hb : vb.toInt = base) (hb0 : 0 ≤ base) (hb1 : base ≤ 12096) (hh : base + gv f2 = (fs k).toInt + nl f + h) (hf : vf.toInt = f2) (hl : vl.toInt = LC) :
    mc_tp an nl gv (upd fb (k + 1) vp) (upd fs (k + 1) vb) (upd ff (k + 1) vf) (upd fl (k + 1) vl) lb lh (k + 1) f2 [] LC := by
  have hF : mc_fr an nl gv fb fs ff fl lb lh k vp.toInt (base + gv f2) LC := mc_fr_of h0 ha hh hT
  obtain ⟨⟨a1, a2, a3, a4, a5, a6, a7, a8⟩, hB⟩ := hT
  refine ⟨⟨by rw [pk_us]; exact hf, by rw [pk_us]; (first | (apply Int.le_antisymm <;> omega) | omega), by rw [pk_us]; (first | (apply Int.le_antisymm <;> omega) | omega), by rw [pk_us]; (first | (apply Int.le_antisymm <;> omega) | omega), by rw [pk_us]; (first | (apply Int.le_antisymm <;> omega) | omega), by rw [pk_us]; simp; (first | (apply Int.le_antisymm <;> omega) | omega), by simp, fun j b hj => by simp at hj⟩, ?_⟩
  show mc_fr an nl gv (upd fb (k + 1) vp) (upd fs (k + 1) vb) (upd ff (k + 1) vf) (upd fl (k + 1) vl) lb lh k (upd fb (k + 1) vp (k + 1)).toInt ((upd fs (k + 1) vb (k + 1)).toInt + gv f2) (upd fl (k + 1) vl (k + 1)).toInt
  rw [pk_us, pk_us, pk_us, hb, hl]
  exact hF.congr k (fun i hi => by
    have e : i ≠ k + 1 := by (first | (apply Int.le_antisymm <;> omega) | omega)
    exact ⟨pk_un e, pk_un e, pk_un e, pk_un e⟩) (fun i _ => ⟨rfl, rfl⟩)
/-- the first call -/
theorem mc_tp.first {f2 : Nat} {vb vf vl vp : Int32} (hb : vb.toInt = 0) (hf : vf.toInt = f2) (hl : vl.toInt = 0) : mc_tp an nl gv (upd fb 0 vp) (upd fs 0 vb) (upd ff 0 vf) (upd fl 0 vl) lb lh 0 f2 [] 0 :=
  ⟨⟨by rw [pk_us]; exact hf, by rw [pk_us]; (first | (apply Int.le_antisymm <;> omega) | omega), by rw [pk_us]; (first | (apply Int.le_antisymm <;> omega) | omega), by rw [pk_us]; (first | (apply Int.le_antisymm <;> omega) | omega), by rw [pk_us]; (first | (apply Int.le_antisymm <;> omega) | omega), by rw [pk_us]; simp; (first | (apply Int.le_antisymm <;> omega) | omega), by simp, fun j b hj => by simp at hj⟩, trivial⟩
/-- a return -/
theorem mc_tp.ret {k f : Nat} {bs : List (Nat × Int)} {LC : Int} (hT : mc_tp an nl gv fb fs ff fl lb lh (k + 1) f bs LC) : mc_fr an nl gv fb fs ff fl lb lh k (fb (k + 1)).toInt ((fs (k + 1)).toInt + gv f) (fl (k + 1)).toInt := hT.2
end MC
/-- what is behind a step: an end, or the frames again -/
def mc_after (an : mc_A) (nl gv : Nat → Int) (fb fs ff fl lb lh : Nat → Int32) (reason fc at_ H LC : Int32) : Prop :=
  reason.toInt ≠ 0 ∨ fc.toInt = 0 ∨ mc_fr an nl gv fb fs ff fl lb lh (fc.toInt - 1).toNat at_.toInt H.toInt LC.toInt
theorem i32_nat {x : Int32} {n : Nat} (h : x.toInt = n) : x.toNatClampNeg = n := by
  rw [Int32.toNatClampNeg, h]
  (first | (apply Int.le_antisymm <;> omega) | omega)
theorem i32_natI {x : Int32} {n : Int} (h : x.toInt = n) : x.toNatClampNeg = n.toNat := by
  rw [Int32.toNatClampNeg, h]
section MC2
variable {an : mc_A} {nl gv : Nat → Int} {fb fs ff fl lb lh : Nat → Int32}
theorem mc_leave {k f : Nat} {bs : List (Nat × Int)} {LC : Int} (hT : mc_tp an nl gv fb fs ff fl lb lh k f bs LC) {reason fc at_ H LC2 : Int32} (hfc : fc.toInt = k) (hat : at_ = fb k) (hH : reason.toInt = 0 → H.toInt = (fs k).toInt + gv f) (hl : LC2 = fl k) :
    mc_after an nl gv fb fs ff fl lb lh reason fc at_ H LC2 := by
  cases k with
  | zero => exact Or.inr (Or.inl (by rw [hfc]; rfl))
  | succ k =>
    by_cases z : reason.toInt = 0
    · refine Or.inr (Or.inr ?_)
      have e : (fc.toInt - 1).toNat = k := by (first | (apply Int.le_antisymm <;> omega) | omega)
      rw [e, hat, hH z, hl]
      exact hT.ret
    · exact Or.inl z
theorem mc_go {k f : Nat} {bs : List (Nat × Int)} {LC h : Int} (hT : mc_tp an nl gv fb fs ff fl lb lh k f bs LC) {reason fc at_ H LC2 : Int32} (hfc : fc.toInt = k + 1) (h0 : 0 ≤ at_.toInt) (ha : an at_.toInt.toNat = some (f, bs, h)) (hH : reason.toInt = 0 → H.toInt = (fs k).toInt + nl f + h) (hl : LC2.toInt = LC) :
    mc_after an nl gv fb fs ff fl lb lh reason fc at_ H LC2 := by
  by_cases z : reason.toInt = 0
  · refine Or.inr (Or.inr ?_)
    have e : (fc.toInt - 1).toNat = k := by (first | (apply Int.le_antisymm <;> omega) | omega)
    rw [e, hl]
    exact mc_fr_of h0 ha (hH z) hT
  · exact Or.inl z
end MC2
end q_10b

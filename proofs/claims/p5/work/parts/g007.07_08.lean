section q_07
/-! Reader: blocks -/
theorem upd_nn {g : Nat → Int32} {q q2 : Int} {k : Nat} {v : Int32} (h : ∀ j : Nat, (j : Int) < q → 0 ≤ (g j).toInt) (hv : 0 ≤ v.toInt) (hk : (k : Int) = q) (h2 : q2 ≤ q + 1) : ∀ j : Nat, (j : Int) < q2 → 0 ≤ (upd g k v j).toInt := by
  intro j hj
  by_cases e : j = k
  · rw [e, pk_us]
    exact hv
  · rw [pk_un e]
    exact h j (by (first | (apply Int.le_antisymm <;> omega) | omega))
abbrev b_RE_openBlock : ByteArray := prog_9_method_11_code
def y_RE_openBlock : MethodName := ⟨R_RE, "openBlock", "(I)V"⟩
abbrev w_RE_openBlock : List Cond := .code y_RE_openBlock b_RE_openBlock 3 none :: lw_g
theorem kC_RE_openBlock : Cond.code y_RE_openBlock b_RE_openBlock 3 none ∈ lw_g := in_c6 144 rfl rfl
theorem d_RE_openBlock_0 : decode b_RE_openBlock 0 = .ok (.aload_n 0, 1) := bz_c42 (by decide +kernel)
theorem d_RE_openBlock_1 : decode b_RE_openBlock 1 = .ok (.invokevirtual 60, 3) := bz_c182 (by decide +kernel)
theorem d_RE_openBlock_4 : decode b_RE_openBlock 4 = .ok (.istore_n 2, 1) := bz_c61 (by decide +kernel)
theorem d_RE_openBlock_5 : decode b_RE_openBlock 5 = .ok (.aload_n 0, 1) := bz_c42 (by decide +kernel)
theorem d_RE_openBlock_6 : decode b_RE_openBlock 6 = .ok (.aload_n 0, 1) := bz_c42 (by decide +kernel)
theorem d_RE_openBlock_7 : decode b_RE_openBlock 7 = .ok (.getfield 45, 3) := bz_c180 (by decide +kernel)
theorem d_RE_openBlock_10 : decode b_RE_openBlock 10 = .ok (.ifCond .eq 34, 3) := bz_c153 (by decide +kernel)
theorem d_RE_openBlock_13 : decode b_RE_openBlock 13 = .ok (.aload_n 0, 1) := bz_c42 (by decide +kernel)
theorem d_RE_openBlock_14 : decode b_RE_openBlock 14 = .ok (.getfield 179, 3) := bz_c180 (by decide +kernel)
theorem d_RE_openBlock_17 : decode b_RE_openBlock 17 = .ok (.bipush 100, 2) := bz_c16 (by decide +kernel)
theorem d_RE_openBlock_19 : decode b_RE_openBlock 19 = .ok (.if_icmp .ge 25, 3) := bz_c162 (by decide +kernel)
theorem d_RE_openBlock_22 : decode b_RE_openBlock 22 = .ok (.iload_n 2, 1) := bz_c28 (by decide +kernel)
theorem d_RE_openBlock_23 : decode b_RE_openBlock 23 = .ok (.bipush 64, 2) := bz_c16 (by decide +kernel)
theorem d_RE_openBlock_25 : decode b_RE_openBlock 25 = .ok (.if_icmp .eq 15, 3) := bz_c159 (by decide +kernel)
theorem d_RE_openBlock_28 : decode b_RE_openBlock 28 = .ok (.iload_n 2, 1) := bz_c28 (by decide +kernel)
theorem d_RE_openBlock_29 : decode b_RE_openBlock 29 = .ok (.bipush 127, 2) := bz_c16 (by decide +kernel)
theorem d_RE_openBlock_31 : decode b_RE_openBlock 31 = .ok (.if_icmp .eq 9, 3) := bz_c159 (by decide +kernel)
theorem d_RE_openBlock_34 : decode b_RE_openBlock 34 = .ok (.iload_n 2, 1) := bz_c28 (by decide +kernel)
theorem d_RE_openBlock_35 : decode b_RE_openBlock 35 = .ok (.bipush 126, 2) := bz_c16 (by decide +kernel)
theorem d_RE_openBlock_37 : decode b_RE_openBlock 37 = .ok (.if_icmp .ne 7, 3) := bz_c160 (by decide +kernel)
theorem d_RE_openBlock_40 : decode b_RE_openBlock 40 = .ok (.iconst 1, 1) := bz_c4 (by decide +kernel)
theorem d_RE_openBlock_41 : decode b_RE_openBlock 41 = .ok (.goto 4, 3) := bz_c167 (by decide +kernel)
theorem d_RE_openBlock_44 : decode b_RE_openBlock 44 = .ok (.iconst 0, 1) := bz_c3 (by decide +kernel)
theorem d_RE_openBlock_45 : decode b_RE_openBlock 45 = .ok (.putfield 45, 3) := bz_c181 (by decide +kernel)
theorem d_RE_openBlock_48 : decode b_RE_openBlock 48 = .ok (.aload_n 0, 1) := bz_c42 (by decide +kernel)
theorem d_RE_openBlock_49 : decode b_RE_openBlock 49 = .ok (.getfield 45, 3) := bz_c180 (by decide +kernel)
theorem d_RE_openBlock_52 : decode b_RE_openBlock 52 = .ok (.ifCond .eq 31, 3) := bz_c153 (by decide +kernel)
theorem d_RE_openBlock_55 : decode b_RE_openBlock 55 = .ok (.aload_n 0, 1) := bz_c42 (by decide +kernel)
theorem d_RE_openBlock_56 : decode b_RE_openBlock 56 = .ok (.getfield 25, 3) := bz_c180 (by decide +kernel)
theorem d_RE_openBlock_59 : decode b_RE_openBlock 59 = .ok (.getfield 197, 3) := bz_c180 (by decide +kernel)
theorem d_RE_openBlock_62 : decode b_RE_openBlock 62 = .ok (.iload_n 1, 1) := bz_c27 (by decide +kernel)
theorem d_RE_openBlock_63 : decode b_RE_openBlock 63 = .ok (.iload_n 2, 1) := bz_c28 (by decide +kernel)
theorem d_RE_openBlock_64 : decode b_RE_openBlock 64 = .ok (.i2l, 1) := bz_c133 (by decide +kernel)
theorem d_RE_openBlock_65 : decode b_RE_openBlock 65 = .ok (.lastore, 1) := bz_c80 (by decide +kernel)
theorem d_RE_openBlock_66 : decode b_RE_openBlock 66 = .ok (.aload_n 0, 1) := bz_c42 (by decide +kernel)
theorem d_RE_openBlock_67 : decode b_RE_openBlock 67 = .ok (.getfield 9, 3) := bz_c180 (by decide +kernel)
theorem d_RE_openBlock_70 : decode b_RE_openBlock 70 = .ok (.aload_n 0, 1) := bz_c42 (by decide +kernel)
theorem d_RE_openBlock_71 : decode b_RE_openBlock 71 = .ok (.dup, 1) := bz_c89 (by decide +kernel)
theorem d_RE_openBlock_72 : decode b_RE_openBlock 72 = .ok (.getfield 179, 3) := bz_c180 (by decide +kernel)
theorem d_RE_openBlock_75 : decode b_RE_openBlock 75 = .ok (.dup_x1, 1) := by decide +kernel
theorem d_RE_openBlock_76 : decode b_RE_openBlock 76 = .ok (.iconst 1, 1) := bz_c4 (by decide +kernel)
theorem d_RE_openBlock_77 : decode b_RE_openBlock 77 = .ok (.iadd, 1) := bz_c96 (by decide +kernel)
theorem d_RE_openBlock_78 : decode b_RE_openBlock 78 = .ok (.putfield 179, 3) := bz_c181 (by decide +kernel)
theorem d_RE_openBlock_81 : decode b_RE_openBlock 81 = .ok (.iload_n 1, 1) := bz_c27 (by decide +kernel)
theorem d_RE_openBlock_82 : decode b_RE_openBlock 82 = .ok (.iastore, 1) := bz_c79 (by decide +kernel)
theorem d_RE_openBlock_83 : decode b_RE_openBlock 83 = .ok (.return_, 1) := bz_c177 (by decide +kernel)
theorem kF_RE_179 : Cond.fieldLink R_RE 179 "WaferForge$Reader" "openCount" "I" ∈ lw_g := in_c2 233 rfl rfl
theorem kF_RE_25 : Cond.fieldLink R_RE 25 "WaferForge$Reader" "codes" "LWaferForge$Codes;" ∈ lw_g := in_c2 227 rfl rfl
theorem kF_RE_197 : Cond.fieldLink R_RE 197 "WaferForge$Codes" "values" "[J" ∈ lw_g := in_c1 104 rfl rfl
theorem kF_RE_9 : Cond.fieldLink R_RE 9 "WaferForge$Reader" "openBlocks" "[I" ∈ lw_g := in_c2 232 rfl rfl
abbrev at_RE_openBlock (dC : Nat → ClassId) (dI : Nat → Nat → Nat) (h0 aw ac ao ab ax : Nat) (lim cc : Int32) (cB : ClassId) (n : Nat) (len : Int32) (f : Nat → Int32) (wf : List Value) (afi alk alt aop ava apt ael alb : Nat) (cva : ClassId) (co : ClassId) (A : Nat → Prop) (u : Int32 × Int32 × Int32 × Int32 × Int32 × (Nat → Int64) × (Nat → Int32)) (t : State) : Prop := match u with
  | (pa, snd, oc, cl, lc, gva, go) => va_P (dC, dI) cls (wz_2 h0 aw ac pa lim snd cc ao oc aw wf ab ax len ax cB n f ac afi alk alt cl aop ava apt ael lc alb ava cva gva ao co go) t.heap ∧ va_K (dC, dI) cls [(cB, .byte), (cva, .long), (co, .int)] t ∧ va_D A (wz_2 h0 aw ac pa lim snd cc ao oc aw wf ab ax len ax cB n f ac afi alk alt cl aop ava apt ael lc alb ava cva gva ao co go)
set_option maxHeartbeats 4000000 in
set_option maxRecDepth 100000 in
theorem c_RE_openBlock (l : Launch) (dC : Nat → ClassId) (dI : Nat → Nat → Nat) (sz : Nat) (h0 aw ac ao ab ax : Nat) (lim cc : Int32) (cB : ClassId) (n : Nat) (len : Int32) (f : Nat → Int32) (wf : List Value) (pwf : wf[0]? = some (.ref ab)) (pwl : wf.length = 21) (afi alk alt aop ava apt ael alb : Nat) (cva : ClassId) (co : ClassId) (pa : Int32) (snd : Int32) (oc : Int32) (cl : Int32) (lc : Int32) (gva : Nat → Int64) (go : Nat → Int32) (hs : snd = 0 ∨ snd = 1) (ho : 0 ≤ oc.toInt ∧ oc.toInt ≤ 100) (ha : 0 ≤ pa.toInt ∧ pa.toInt ≤ lim.toInt ∧ lim.toInt ≤ len.toInt ∧ len.toInt ≤ n ∧ n < 2147483648) (p0 : Int32) (hp : 0 ≤ p0.toInt ∧ p0.toInt < 5000) : Met l y_RE_openBlock w_RE_openBlock ({ frames := 1, cells := 0, slots := 0, locals := 20 }) (va_Pc [.ref h0, .int p0] (fun U => U.heap.size = sz ∧ va_P (dC, dI) cls (wz_2 h0 aw ac pa lim snd cc ao oc aw wf ab ax len ax cB n f ac afi alk alt cl aop ava apt ael lc alb ava cva gva ao co go) U.heap ∧ va_K (dC, dI) cls [(cB, .byte), (cva, .long), (co, .int)] U ∧ va_D (fun _ => True) (wz_2 h0 aw ac pa lim snd cc ao oc aw wf ab ax len ax cB n f ac afi alk alt cl aop ava apt ael lc alb ava cva gva ao co go))) (va_Qv (fun (u : Int32 × Int32 × Int32 × Int32 × Int32 × (Nat → Int64) × (Nat → Int32)) => match u with | (pa2, snd2, oc2, cl2, lc2, gva2, go2) => (snd2 = 0 ∨ snd2 = 1) ∧ pa.toInt ≤ pa2.toInt ∧ pa2.toInt ≤ lim.toInt ∧ 0 ≤ oc2.toInt ∧ oc2.toInt ≤ 100 ∧ cl = cl2 ∧ lc = lc2 ∧ (snd2.toInt = 1 → snd.toInt = 1 ∧ pa2.toInt = pa.toInt + 1 ∧ (bn (f pa.toNatClampNeg) = 64 ∨ bn (f pa.toNatClampNeg) = 127 ∨ bn (f pa.toNatClampNeg) = 126) ∧ oc.toInt < 100 ∧ oc2.toInt = oc.toInt + 1 ∧ (∃ v : Int64, v.toInt = (bn (f pa.toNatClampNeg) : Nat) ∧ gva2 = vp_updL gva p0.toNatClampNeg v) ∧ go2 = upd go oc.toNatClampNeg p0) ∧ (snd2.toInt = 0 → oc = oc2 ∧ go2 = go)) (at_RE_openBlock dC dI h0 aw ac ao ab ax lim cc cB n len f wf afi alk alt aop ava apt ael alb cva co (va_A (wz_2 h0 aw ac pa lim snd cc ao oc aw wf ab ax len ax cB n f ac afi alk alt cl aop ava apt ael lc alb ava cva gva ao co go) sz)) (va_A (wz_2 h0 aw ac pa lim snd cc ao oc aw wf ab ax len ax cB n f ac afi alk alt cl aop ava apt ael lc alb ava cva gva ao co go) sz)) 0 0 (va_A (wz_2 h0 aw ac pa lim snd cc ao oc aw wf ab ax len ax cB n f ac afi alk alt cl aop ava apt ael lc alb ava cva gva ao co go) sz) := by
  refine Met.ofW (cc := b_RE_openBlock) (maxL := 3) (ret := none) (by decide) rfl ?_
  intro p e s m args below meth c s₁ B hml hv
  obtain ⟨rfl, hsz, hP, hK, hD0⟩ := hv
  have hx := B.exec
  have hb := B.bytes
  have hr := B.returns
  have hts0 := atoms_spec (ws := w_RE_openBlock) B.pre
  have hts : ∀ w ∈ lw_g, w.before _ s = true := fun w h => hts0 w (List.mem_cons_of_mem _ h)
  have hown : s.vm.findClass R_RE = some m.cls := findClass_of_methodNamed B.named
  have hlocks := B.notSynchronized
  clear hts0
  subst hsz
  have hD := hD0.self (sz := s.heap.size)
  generalize hAe : va_A (wz_2 h0 aw ac pa lim snd cc ao oc aw wf ab ax len ax cB n f ac afi alk alt cl aop ava apt ael lc alb ava cva gva ao co go) s.heap.size = A at hD ⊢
  have hA : ∀ q : Nat, s.heap.size ≤ q → A q := fun q h => by rw [← hAe]; exact Or.inr h
  clear hAe
  have hP : va_P (dC, dI) cls (wz_2 h0 aw ac pa lim snd cc ao oc aw wf ab ax len ax cB n f ac afi alk alt cl aop ava apt ael lc alb ava cva gva ao co go) s.heap := hP
  have hl := lv_entry ([.ref h0, .int p0]) (n := 3) (Nat.le_of_ble_eq_true rfl)
  rw [lg_entry_eq]
  generalize (lg_sl ([.ref h0, .int p0]) ++ List.replicate (3 - (lg_sl ([.ref h0, .int p0])).length) Slot.unset).toArray = ls at hl ⊢
  have hl : lv_has ls 3 [(0, .ref h0), (1, .int p0)] := hl
  have k0 : (0 : Int32).toInt = 0 := by decide
  refine w_gen (A := A) hP (fun H locs hP hS => ?_)
  have lo_p0 := i32_lo p0
  have hi_p0 := i32_hi p0
  have hs0 := b01 hs
  refine lv_aload_n hx hb d_RE_openBlock_0 rfl (lv_at hl 0 rfl) ?_
  have hPc := hP.sb (wq := (wz_1 h0 aw ac pa lim snd cc ao oc aw wf ab ax len ax cB n f)) [0, 1, 2, 3] rfl
  have hDc := hD.sb (wq := (wz_1 h0 aw ac pa lim snd cc ao oc aw wf ab ax len ax cB n f)) [0, 1, 2, 3] (by decide) rfl
  have hKc := hK.sb (tyq := [(cB, .byte)]) [0] rfl
  have hFc := va_free (wc := (wz_1 h0 aw ac pa lim snd cc ao oc aw wf ab ax len ax cB n f)) hD hS hA [0, 1, 2, 3] rfl
  refine va_calli (va_runV (As := []) (rest := []) ⟨hx, hb, hml, hown, hts⟩ (c_RE_next l dC dI h0 aw ac ao ab ax H.size cB n pa lim snd cc oc len f wf pwf pwl hs (by (first | (apply Int.le_antisymm <;> omega) | omega)) ) (cwV 0 hts (gV kM_RE_60 kV_RE_next kS_RE_next kI_RE kC_RE_next) rfl rfl rfl (by decide +kernel) ⟨Nat.le_of_ble_eq_true rfl, Nat.le_of_ble_eq_true rfl⟩) ⟨fun a U g mk z => by obtain ⟨z0, z1, zP, zK, zD⟩ := z; exact ⟨z0, z1, zP, va_K.moved (u := U) (U := U.calling g mk a) (Vm.Alike.refl U.vm) zK, zD⟩, va_recv hKc hPc (ci := 7) (q0 := 0) rfl rfl, fun U hU hW => ⟨rfl, by rw [hU], va_P.he hU.symm hPc, va_K.moved hW.alike hKc, hDc.weaken (fun _ _ _ _ => trivial)⟩⟩ rfl rfl hl.1 rfl (lv_room (Nat.le_of_ble_eq_true rfl)) d_RE_openBlock_1 ⟨(Nat.zero_le _), (Nat.zero_le _)⟩) hS (fun q _ h => hFc q h) hFc (fun r1 u t H1 locs ht hvm hw hB hz1 hk1 hS => ?_)
  obtain ⟨n2, n3⟩ := u
  try dsimp only at hw
  obtain ⟨hsn3, tn2⟩ := hw
  have bsn3 := b01 hsn3
  obtain ⟨hP1, hK1, hD1⟩ := hB
  replace hP1 := va_P.he ht hP1
  obtain ⟨hP, hD⟩ := va_join (wr := [(ac, .inr (3, [.ref afi, .ref alk, .ref alt, .int cl, .ref aop, .ref ava, .ref apt, .ref ael, .int lc, .ref alb])), (ava, .inl (cva, 5000, .inr (.inl gva))), (ao, .inl (co, 100, .inl go))]) (w1 := (wz_1 h0 aw ac n2 lim n3 cc ao oc aw wf ab ax len ax cB n f)) hP hD [0, 1, 2, 3] [4, 5, 6] rfl rfl (by decide) (by decide) hk1 hFc hP1 hD1
  clear hPc hDc hKc hFc hz1 hk1 hP1 hK1 hD1
  rename Heap => H
  have hP : va_P (dC, dI) cls (wz_3 ac afi alk alt cl aop ava apt ael lc alb ava cva gva ao co go h0 aw ac n2 lim n3 cc ao oc aw wf ab ax len ax cB n f) H := hP
  have hD : va_D A (wz_3 ac afi alk alt cl aop ava apt ael lc alb ava cva gva ao co go h0 aw ac n2 lim n3 cc ao oc aw wf ab ax len ax cB n f) := hD
  refine lv_istore_n (lv' := [(2, .int r1), (0, .ref h0), (1, .int p0)]) hx hb d_RE_openBlock_4 rfl hl (by decide) rfl (fun ls hl => ?_)
  refine lv_aload_n hx hb d_RE_openBlock_5 rfl (lv_at hl 1 rfl) ?_
  refine lv_aload_n hx hb d_RE_openBlock_6 rfl (lv_at hl 1 rfl) ?_
  refine va_get (D := (dC, dI)) (ci := 7) (v := .int n3) (C := R_RE) (T := F_RE) (N := 8) hx hb hts i_RE hown hK hP 3 rfl rfl 4 (by decide) (hts _ kF_RE_45) (fun _ h9 => h9) rfl d_RE_openBlock_7 ?_
  refine lv_if_eq (tgt := 44) hx hb d_RE_openBlock_10 (by decide) (fun c10 => ?_) (fun c10 => ?_)
  · have q10 := eqI c10
    refine lv_iconst (v := 0) hx hb d_RE_openBlock_44 (by decide) ?_
    have k0 : (0 : Int32).toInt = 0 := by decide
    refine va_put (D := (dC, dI)) (ci := 7) (v := .int 0) (ty := .boolean) (C := R_RE) (T := F_RE) (N := 8) hx hb hts i_RE t_RE t_RE_ok n_RE hown hK hP hD hS 3 rfl rfl 4 (by decide) (hts _ kF_RE_45) (fun _ h9 => h9) rfl (by decide +kernel) rfl rfl (Nat.le_of_ble_eq_true rfl) d_RE_openBlock_45 (fun H locs hP hD hS => ?_)
    have hP : va_P (dC, dI) cls (wz_3 ac afi alk alt cl aop ava apt ael lc alb ava cva gva ao co go h0 aw ac n2 lim 0 cc ao oc aw wf ab ax len ax cB n f) H := hP
    have hD : va_D A (wz_3 ac afi alk alt cl aop ava apt ael lc alb ava cva gva ao co go h0 aw ac n2 lim 0 cc ao oc aw wf ab ax len ax cB n f) := hD
    refine lv_aload_n hx hb d_RE_openBlock_48 rfl (lv_at hl 1 rfl) ?_
    refine va_get (D := (dC, dI)) (ci := 7) (v := .int 0) (C := R_RE) (T := F_RE) (N := 8) hx hb hts i_RE hown hK hP 3 rfl rfl 4 (by decide) (hts _ kF_RE_45) (fun _ h9 => h9) rfl d_RE_openBlock_49 ?_
    refine lv_if_eq (tgt := 83) hx hb d_RE_openBlock_52 (by decide) (fun c52 => ?_) (fun c52 => absurd (neI c52) (by (first | (apply Int.le_antisymm <;> omega) | omega)))
    have q52 := eqI c52
    have hP9 := hP.sb (wq := (wz_2 h0 aw ac n2 lim 0 cc ao oc aw wf ab ax len ax cB n f ac afi alk alt cl aop ava apt ael lc alb ava cva gva ao co go)) [3, 4, 5, 6, 0, 1, 2] rfl
    have hD9 := hD.sb (wq := (wz_2 h0 aw ac n2 lim 0 cc ao oc aw wf ab ax len ax cB n f ac afi alk alt cl aop ava apt ael lc alb ava cva gva ao co go)) [3, 4, 5, 6, 0, 1, 2] (by decide) rfl
    exact W.vret hx hb hr (fun t ht hW => ⟨⟨(n2, 0, oc, cl, lc, gva, go), rfl, ⟨(Or.inl rfl), by (try dsimp only); (first | (apply Int.le_antisymm <;> omega) | omega), by (try dsimp only); (first | (apply Int.le_antisymm <;> omega) | omega), by (try dsimp only); (first | (apply Int.le_antisymm <;> omega) | omega), by (try dsimp only); (first | (apply Int.le_antisymm <;> omega) | omega), rfl, rfl, fun z => absurd z (by (try dsimp only); (first | (apply Int.le_antisymm <;> omega) | omega)), fun z => ⟨rfl, rfl⟩⟩, va_P.he ht.symm hP9, va_K.moved hW.alike hK, hD9⟩, hS.F ht⟩) hS.2.2 d_RE_openBlock_83
  · have q10 := neI c10
    refine lv_aload_n hx hb d_RE_openBlock_13 rfl (lv_at hl 1 rfl) ?_
    refine va_get (D := (dC, dI)) (ci := 7) (v := .int oc) (C := R_RE) (T := F_RE) (N := 8) hx hb hts i_RE hown hK hP 3 rfl rfl 7 (by decide) (hts _ kF_RE_179) (fun _ h9 => h9) rfl d_RE_openBlock_14 ?_
    refine lv_bipush (v := 100) hx hb d_RE_openBlock_17 (by decide) ?_
    have k100 : (100 : Int32).toInt = 100 := by decide
    refine lv_icmp_ge (tgt := 44) hx hb d_RE_openBlock_19 (by decide) (fun c19 => ?_) (fun c19 => ?_)
    · have q19 := leI c19
      refine lv_iconst (v := 0) hx hb d_RE_openBlock_44 (by decide) ?_
      have k0 : (0 : Int32).toInt = 0 := by decide
      refine va_put (D := (dC, dI)) (ci := 7) (v := .int 0) (ty := .boolean) (C := R_RE) (T := F_RE) (N := 8) hx hb hts i_RE t_RE t_RE_ok n_RE hown hK hP hD hS 3 rfl rfl 4 (by decide) (hts _ kF_RE_45) (fun _ h9 => h9) rfl (by decide +kernel) rfl rfl (Nat.le_of_ble_eq_true rfl) d_RE_openBlock_45 (fun H locs hP hD hS => ?_)
      have hP : va_P (dC, dI) cls (wz_3 ac afi alk alt cl aop ava apt ael lc alb ava cva gva ao co go h0 aw ac n2 lim 0 cc ao oc aw wf ab ax len ax cB n f) H := hP
      have hD : va_D A (wz_3 ac afi alk alt cl aop ava apt ael lc alb ava cva gva ao co go h0 aw ac n2 lim 0 cc ao oc aw wf ab ax len ax cB n f) := hD
      refine lv_aload_n hx hb d_RE_openBlock_48 rfl (lv_at hl 1 rfl) ?_
      refine va_get (D := (dC, dI)) (ci := 7) (v := .int 0) (C := R_RE) (T := F_RE) (N := 8) hx hb hts i_RE hown hK hP 3 rfl rfl 4 (by decide) (hts _ kF_RE_45) (fun _ h9 => h9) rfl d_RE_openBlock_49 ?_
      refine lv_if_eq (tgt := 83) hx hb d_RE_openBlock_52 (by decide) (fun c52 => ?_) (fun c52 => absurd (neI c52) (by (first | (apply Int.le_antisymm <;> omega) | omega)))
      have q52 := eqI c52
      have hP9 := hP.sb (wq := (wz_2 h0 aw ac n2 lim 0 cc ao oc aw wf ab ax len ax cB n f ac afi alk alt cl aop ava apt ael lc alb ava cva gva ao co go)) [3, 4, 5, 6, 0, 1, 2] rfl
      have hD9 := hD.sb (wq := (wz_2 h0 aw ac n2 lim 0 cc ao oc aw wf ab ax len ax cB n f ac afi alk alt cl aop ava apt ael lc alb ava cva gva ao co go)) [3, 4, 5, 6, 0, 1, 2] (by decide) rfl
      exact W.vret hx hb hr (fun t ht hW => ⟨⟨(n2, 0, oc, cl, lc, gva, go), rfl, ⟨(Or.inl rfl), by (try dsimp only); (first | (apply Int.le_antisymm <;> omega) | omega), by (try dsimp only); (first | (apply Int.le_antisymm <;> omega) | omega), by (try dsimp only); (first | (apply Int.le_antisymm <;> omega) | omega), by (try dsimp only); (first | (apply Int.le_antisymm <;> omega) | omega), rfl, rfl, fun z => absurd z (by (try dsimp only); (first | (apply Int.le_antisymm <;> omega) | omega)), fun z => ⟨rfl, rfl⟩⟩, va_P.he ht.symm hP9, va_K.moved hW.alike hK, hD9⟩, hS.F ht⟩) hS.2.2 d_RE_openBlock_83
    · have q19 := nleI c19
      refine lv_iload_n hx hb d_RE_openBlock_22 rfl (lv_at hl 0 rfl) ?_
      refine lv_bipush (v := 64) hx hb d_RE_openBlock_23 (by decide) ?_
      have k64 : (64 : Int32).toInt = 64 := by decide
      refine lv_icmp_eq (tgt := 40) hx hb d_RE_openBlock_25 (by decide) (fun c25 => ?_) (fun c25 => ?_)
      · have q25 := eqI c25
        refine lv_iconst (v := 1) hx hb d_RE_openBlock_40 (by decide) ?_
        have k1 : (1 : Int32).toInt = 1 := by decide
        refine lv_goto (tgt := 45) hx hb d_RE_openBlock_41 (by decide) ?_
        refine va_put (D := (dC, dI)) (ci := 7) (v := .int 1) (ty := .boolean) (C := R_RE) (T := F_RE) (N := 8) hx hb hts i_RE t_RE t_RE_ok n_RE hown hK hP hD hS 3 rfl rfl 4 (by decide) (hts _ kF_RE_45) (fun _ h9 => h9) rfl (by decide +kernel) rfl rfl (Nat.le_of_ble_eq_true rfl) d_RE_openBlock_45 (fun H locs hP hD hS => ?_)
        have hP : va_P (dC, dI) cls (wz_3 ac afi alk alt cl aop ava apt ael lc alb ava cva gva ao co go h0 aw ac n2 lim 1 cc ao oc aw wf ab ax len ax cB n f) H := hP
        have hD : va_D A (wz_3 ac afi alk alt cl aop ava apt ael lc alb ava cva gva ao co go h0 aw ac n2 lim 1 cc ao oc aw wf ab ax len ax cB n f) := hD
        refine lv_aload_n hx hb d_RE_openBlock_48 rfl (lv_at hl 1 rfl) ?_
        refine va_get (D := (dC, dI)) (ci := 7) (v := .int 1) (C := R_RE) (T := F_RE) (N := 8) hx hb hts i_RE hown hK hP 3 rfl rfl 4 (by decide) (hts _ kF_RE_45) (fun _ h9 => h9) rfl d_RE_openBlock_49 ?_
        refine lv_if_eq (tgt := 83) hx hb d_RE_openBlock_52 (by decide) (fun c52 => absurd (eqI c52) (by (first | (apply Int.le_antisymm <;> omega) | omega))) (fun c52 => ?_)
        have q52 := neI c52
        refine lv_aload_n hx hb d_RE_openBlock_55 rfl (lv_at hl 1 rfl) ?_
        refine va_get (D := (dC, dI)) (ci := 7) (v := .ref ac) (C := R_RE) (T := F_RE) (N := 8) hx hb hts i_RE hown hK hP 3 rfl rfl 1 (by decide) (hts _ kF_RE_25) (fun _ h9 => h9) rfl d_RE_openBlock_56 ?_
        refine va_get (D := (dC, dI)) (ci := 3) (v := .ref ava) (C := R_CD) (T := F_CD) (N := 10) hx hb hts i_CD hown hK hP 0 rfl rfl 5 (by decide) (hts _ kF_RE_197) (fun _ h9 => h9) rfl d_RE_openBlock_59 ?_
        refine lv_iload_n hx hb d_RE_openBlock_62 rfl (lv_at hl 2 rfl) ?_
        refine lv_iload_n hx hb d_RE_openBlock_63 rfl (lv_at hl 0 rfl) ?_
        refine lv_i2l hx hb d_RE_openBlock_64 rfl ?_
        refine lv_topl (fun x4 ex4 => ?_)
        have tx4 := i2l_t ex4
        have g65 : vp_in p0 5000 := vp_in_iff.mpr ⟨by (first | (apply Int.le_antisymm <;> omega) | omega), by (first | (apply Int.le_antisymm <;> omega) | omega)⟩
        refine va_last hx hb hK hP hD hS 1 1 rfl rfl g65 d_RE_openBlock_65 (fun H locs hP hD hS => ?_)
        have hP : va_P (dC, dI) cls (wz_3 ac afi alk alt cl aop ava apt ael lc alb ava cva (vp_updL gva p0.toNatClampNeg x4) ao co go h0 aw ac n2 lim 1 cc ao oc aw wf ab ax len ax cB n f) H := hP
        have hD : va_D A (wz_3 ac afi alk alt cl aop ava apt ael lc alb ava cva (vp_updL gva p0.toNatClampNeg x4) ao co go h0 aw ac n2 lim 1 cc ao oc aw wf ab ax len ax cB n f) := hD
        generalize ef5 : vp_updL gva p0.toNatClampNeg x4 = f5 at hP hD
        refine lv_aload_n hx hb d_RE_openBlock_66 rfl (lv_at hl 1 rfl) ?_
        refine va_get (D := (dC, dI)) (ci := 7) (v := .ref ao) (C := R_RE) (T := F_RE) (N := 8) hx hb hts i_RE hown hK hP 3 rfl rfl 6 (by decide) (hts _ kF_RE_9) (fun _ h9 => h9) rfl d_RE_openBlock_67 ?_
        refine lv_aload_n hx hb d_RE_openBlock_70 rfl (lv_at hl 1 rfl) ?_
        refine lv_dup hx hb d_RE_openBlock_71 rfl ?_
        refine va_get (D := (dC, dI)) (ci := 7) (v := .int oc) (C := R_RE) (T := F_RE) (N := 8) hx hb hts i_RE hown hK hP 3 rfl rfl 7 (by decide) (hts _ kF_RE_179) (fun _ h9 => h9) rfl d_RE_openBlock_72 ?_
        refine lv_dup_x1 hx hb d_RE_openBlock_75 rfl rfl ?_
        refine lv_iconst (v := 1) hx hb d_RE_openBlock_76 (by decide) ?_
        have k1 : (1 : Int32).toInt = 1 := by decide
        refine lv_iadd hx hb d_RE_openBlock_77 ?_
        refine lv_topi (fun x6 ex6 => ?_)
        have tx6 : x6.toInt = oc.toInt + 1 := by have z := i32_add ex6 (by (first | (apply Int.le_antisymm <;> omega) | omega)) (by (first | (apply Int.le_antisymm <;> omega) | omega)); first | exact z | (first | (apply Int.le_antisymm <;> omega) | omega)
        refine va_put (D := (dC, dI)) (ci := 7) (v := .int x6) (ty := .int) (C := R_RE) (T := F_RE) (N := 8) hx hb hts i_RE t_RE t_RE_ok n_RE hown hK hP hD hS 3 rfl rfl 7 (by decide) (hts _ kF_RE_179) (fun _ h9 => h9) rfl (by decide +kernel) rfl rfl (Nat.le_of_ble_eq_true rfl) d_RE_openBlock_78 (fun H locs hP hD hS => ?_)
        have hP : va_P (dC, dI) cls (wz_3 ac afi alk alt cl aop ava apt ael lc alb ava cva f5 ao co go h0 aw ac n2 lim 1 cc ao x6 aw wf ab ax len ax cB n f) H := hP
        have hD : va_D A (wz_3 ac afi alk alt cl aop ava apt ael lc alb ava cva f5 ao co go h0 aw ac n2 lim 1 cc ao x6 aw wf ab ax len ax cB n f) := hD
        refine lv_iload_n hx hb d_RE_openBlock_81 rfl (lv_at hl 2 rfl) ?_
        have g82 : vp_in oc 100 := vp_in_iff.mpr ⟨by (first | (apply Int.le_antisymm <;> omega) | omega), by (first | (apply Int.le_antisymm <;> omega) | omega)⟩
        refine va_iast hx hb hK hP hD hS 2 2 rfl rfl g82 d_RE_openBlock_82 (fun H locs hP hD hS => ?_)
        have hP : va_P (dC, dI) cls (wz_3 ac afi alk alt cl aop ava apt ael lc alb ava cva f5 ao co (upd go oc.toNatClampNeg p0) h0 aw ac n2 lim 1 cc ao x6 aw wf ab ax len ax cB n f) H := hP
        have hD : va_D A (wz_3 ac afi alk alt cl aop ava apt ael lc alb ava cva f5 ao co (upd go oc.toNatClampNeg p0) h0 aw ac n2 lim 1 cc ao x6 aw wf ab ax len ax cB n f) := hD
        generalize ef7 : upd go oc.toNatClampNeg p0 = f7 at hP hD
        have hP9 := hP.sb (wq := (wz_2 h0 aw ac n2 lim 1 cc ao x6 aw wf ab ax len ax cB n f ac afi alk alt cl aop ava apt ael lc alb ava cva f5 ao co f7)) [3, 4, 5, 6, 0, 1, 2] rfl
        have hD9 := hD.sb (wq := (wz_2 h0 aw ac n2 lim 1 cc ao x6 aw wf ab ax len ax cB n f ac afi alk alt cl aop ava apt ael lc alb ava cva f5 ao co f7)) [3, 4, 5, 6, 0, 1, 2] (by decide) rfl
        exact W.vret hx hb hr (fun t ht hW => ⟨⟨(n2, 1, x6, cl, lc, f5, f7), rfl, ⟨(Or.inr rfl), by (try dsimp only); (first | (apply Int.le_antisymm <;> omega) | omega), by (try dsimp only); (first | (apply Int.le_antisymm <;> omega) | omega), by (try dsimp only); (first | (apply Int.le_antisymm <;> omega) | omega), by (try dsimp only); (first | (apply Int.le_antisymm <;> omega) | omega), rfl, rfl, fun z => ⟨by (try dsimp only at z); (try dsimp only); (first | (apply Int.le_antisymm <;> omega) | omega), by (try dsimp only at z); (try dsimp only); (first | (apply Int.le_antisymm <;> omega) | omega), by (try dsimp only at z); (try dsimp only); (first | (apply Int.le_antisymm <;> omega) | omega), by (try dsimp only at z); (try dsimp only); (first | (apply Int.le_antisymm <;> omega) | omega), by (try dsimp only at z); (try dsimp only); (first | (apply Int.le_antisymm <;> omega) | omega), ⟨x4, by (try dsimp only at z); (try dsimp only); (first | (apply Int.le_antisymm <;> omega) | omega), by (try dsimp only) <;> exact ef5.symm⟩, by (try dsimp only) <;> exact ef7.symm⟩, fun z => absurd z (by (try dsimp only); (first | (apply Int.le_antisymm <;> omega) | omega))⟩, va_P.he ht.symm hP9, va_K.moved hW.alike hK, hD9⟩, hS.F ht⟩) hS.2.2 d_RE_openBlock_83
      · have q25 := neI c25
        refine lv_iload_n hx hb d_RE_openBlock_28 rfl (lv_at hl 0 rfl) ?_
        refine lv_bipush (v := 127) hx hb d_RE_openBlock_29 (by decide) ?_
        have k127 : (127 : Int32).toInt = 127 := by decide
        refine lv_icmp_eq (tgt := 40) hx hb d_RE_openBlock_31 (by decide) (fun c31 => ?_) (fun c31 => ?_)
        · have q31 := eqI c31
          refine lv_iconst (v := 1) hx hb d_RE_openBlock_40 (by decide) ?_
          have k1 : (1 : Int32).toInt = 1 := by decide
          refine lv_goto (tgt := 45) hx hb d_RE_openBlock_41 (by decide) ?_
          refine va_put (D := (dC, dI)) (ci := 7) (v := .int 1) (ty := .boolean) (C := R_RE) (T := F_RE) (N := 8) hx hb hts i_RE t_RE t_RE_ok n_RE hown hK hP hD hS 3 rfl rfl 4 (by decide) (hts _ kF_RE_45) (fun _ h9 => h9) rfl (by decide +kernel) rfl rfl (Nat.le_of_ble_eq_true rfl) d_RE_openBlock_45 (fun H locs hP hD hS => ?_)
          have hP : va_P (dC, dI) cls (wz_3 ac afi alk alt cl aop ava apt ael lc alb ava cva gva ao co go h0 aw ac n2 lim 1 cc ao oc aw wf ab ax len ax cB n f) H := hP
          have hD : va_D A (wz_3 ac afi alk alt cl aop ava apt ael lc alb ava cva gva ao co go h0 aw ac n2 lim 1 cc ao oc aw wf ab ax len ax cB n f) := hD
          refine lv_aload_n hx hb d_RE_openBlock_48 rfl (lv_at hl 1 rfl) ?_
          refine va_get (D := (dC, dI)) (ci := 7) (v := .int 1) (C := R_RE) (T := F_RE) (N := 8) hx hb hts i_RE hown hK hP 3 rfl rfl 4 (by decide) (hts _ kF_RE_45) (fun _ h9 => h9) rfl d_RE_openBlock_49 ?_
          refine lv_if_eq (tgt := 83) hx hb d_RE_openBlock_52 (by decide) (fun c52 => absurd (eqI c52) (by (first | (apply Int.le_antisymm <;> omega) | omega))) (fun c52 => ?_)
          have q52 := neI c52
          refine lv_aload_n hx hb d_RE_openBlock_55 rfl (lv_at hl 1 rfl) ?_
          refine va_get (D := (dC, dI)) (ci := 7) (v := .ref ac) (C := R_RE) (T := F_RE) (N := 8) hx hb hts i_RE hown hK hP 3 rfl rfl 1 (by decide) (hts _ kF_RE_25) (fun _ h9 => h9) rfl d_RE_openBlock_56 ?_
          refine va_get (D := (dC, dI)) (ci := 3) (v := .ref ava) (C := R_CD) (T := F_CD) (N := 10) hx hb hts i_CD hown hK hP 0 rfl rfl 5 (by decide) (hts _ kF_RE_197) (fun _ h9 => h9) rfl d_RE_openBlock_59 ?_
          refine lv_iload_n hx hb d_RE_openBlock_62 rfl (lv_at hl 2 rfl) ?_
          refine lv_iload_n hx hb d_RE_openBlock_63 rfl (lv_at hl 0 rfl) ?_
          refine lv_i2l hx hb d_RE_openBlock_64 rfl ?_
          refine lv_topl (fun x8 ex8 => ?_)
          have tx8 := i2l_t ex8
          have g65 : vp_in p0 5000 := vp_in_iff.mpr ⟨by (first | (apply Int.le_antisymm <;> omega) | omega), by (first | (apply Int.le_antisymm <;> omega) | omega)⟩
          refine va_last hx hb hK hP hD hS 1 1 rfl rfl g65 d_RE_openBlock_65 (fun H locs hP hD hS => ?_)
          have hP : va_P (dC, dI) cls (wz_3 ac afi alk alt cl aop ava apt ael lc alb ava cva (vp_updL gva p0.toNatClampNeg x8) ao co go h0 aw ac n2 lim 1 cc ao oc aw wf ab ax len ax cB n f) H := hP
          have hD : va_D A (wz_3 ac afi alk alt cl aop ava apt ael lc alb ava cva (vp_updL gva p0.toNatClampNeg x8) ao co go h0 aw ac n2 lim 1 cc ao oc aw wf ab ax len ax cB n f) := hD
          generalize ef9 : vp_updL gva p0.toNatClampNeg x8 = f9 at hP hD
          refine lv_aload_n hx hb d_RE_openBlock_66 rfl (lv_at hl 1 rfl) ?_
          refine va_get (D := (dC, dI)) (ci := 7) (v := .ref ao) (C := R_RE) (T := F_RE) (N := 8) hx hb hts i_RE hown hK hP 3 rfl rfl 6 (by decide) (hts _ kF_RE_9) (fun _ h9 => h9) rfl d_RE_openBlock_67 ?_
          refine lv_aload_n hx hb d_RE_openBlock_70 rfl (lv_at hl 1 rfl) ?_
          refine lv_dup hx hb d_RE_openBlock_71 rfl ?_
          refine va_get (D := (dC, dI)) (ci := 7) (v := .int oc) (C := R_RE) (T := F_RE) (N := 8) hx hb hts i_RE hown hK hP 3 rfl rfl 7 (by decide) (hts _ kF_RE_179) (fun _ h9 => h9) rfl d_RE_openBlock_72 ?_
          refine lv_dup_x1 hx hb d_RE_openBlock_75 rfl rfl ?_
          refine lv_iconst (v := 1) hx hb d_RE_openBlock_76 (by decide) ?_
          have k1 : (1 : Int32).toInt = 1 := by decide
          refine lv_iadd hx hb d_RE_openBlock_77 ?_
          refine lv_topi (fun x10 ex10 => ?_)
          have tx10 : x10.toInt = oc.toInt + 1 := by have z := i32_add ex10 (by (first | (apply Int.le_antisymm <;> omega) | omega)) (by (first | (apply Int.le_antisymm <;> omega) | omega)); first | exact z | (first | (apply Int.le_antisymm <;> omega) | omega)
          refine va_put (D := (dC, dI)) (ci := 7) (v := .int x10) (ty := .int) (C := R_RE) (T := F_RE) (N := 8) hx hb hts i_RE t_RE t_RE_ok n_RE hown hK hP hD hS 3 rfl rfl 7 (by decide) (hts _ kF_RE_179) (fun _ h9 => h9) rfl (by decide +kernel) rfl rfl (Nat.le_of_ble_eq_true rfl) d_RE_openBlock_78 (fun H locs hP hD hS => ?_)
          have hP : va_P (dC, dI) cls (wz_3 ac afi alk alt cl aop ava apt ael lc alb ava cva f9 ao co go h0 aw ac n2 lim 1 cc ao x10 aw wf ab ax len ax cB n f) H := hP
          have hD : va_D A (wz_3 ac afi alk alt cl aop ava apt ael lc alb ava cva f9 ao co go h0 aw ac n2 lim 1 cc ao x10 aw wf ab ax len ax cB n f) := hD
          refine lv_iload_n hx hb d_RE_openBlock_81 rfl (lv_at hl 2 rfl) ?_
          have g82 : vp_in oc 100 := vp_in_iff.mpr ⟨by (first | (apply Int.le_antisymm <;> omega) | omega), by (first | (apply Int.le_antisymm <;> omega) | omega)⟩
          refine va_iast hx hb hK hP hD hS 2 2 rfl rfl g82 d_RE_openBlock_82 (fun H locs hP hD hS => ?_)
          have hP : va_P (dC, dI) cls (wz_3 ac afi alk alt cl aop ava apt ael lc alb ava cva f9 ao co (upd go oc.toNatClampNeg p0) h0 aw ac n2 lim 1 cc ao x10 aw wf ab ax len ax cB n f) H := hP
          have hD : va_D A (wz_3 ac afi alk alt cl aop ava apt ael lc alb ava cva f9 ao co (upd go oc.toNatClampNeg p0) h0 aw ac n2 lim 1 cc ao x10 aw wf ab ax len ax cB n f) := hD
          generalize ef11 : upd go oc.toNatClampNeg p0 = f11 at hP hD
          have hP9 := hP.sb (wq := (wz_2 h0 aw ac n2 lim 1 cc ao x10 aw wf ab ax len ax cB n f ac afi alk alt cl aop ava apt ael lc alb ava cva f9 ao co f11)) [3, 4, 5, 6, 0, 1, 2] rfl
          have hD9 := hD.sb (wq := (wz_2 h0 aw ac n2 lim 1 cc ao x10 aw wf ab ax len ax cB n f ac afi alk alt cl aop ava apt ael lc alb ava cva f9 ao co f11)) [3, 4, 5, 6, 0, 1, 2] (by decide) rfl
          exact W.vret hx hb hr (fun t ht hW => ⟨⟨(n2, 1, x10, cl, lc, f9, f11), rfl, ⟨(Or.inr rfl), by (try dsimp only); (first | (apply Int.le_antisymm <;> omega) | omega), by (try dsimp only); (first | (apply Int.le_antisymm <;> omega) | omega), by (try dsimp only); (first | (apply Int.le_antisymm <;> omega) | omega), by (try dsimp only); (first | (apply Int.le_antisymm <;> omega) | omega), rfl, rfl, fun z => ⟨by (try dsimp only at z); (try dsimp only); (first | (apply Int.le_antisymm <;> omega) | omega), by (try dsimp only at z); (try dsimp only); (first | (apply Int.le_antisymm <;> omega) | omega), by (try dsimp only at z); (try dsimp only); (first | (apply Int.le_antisymm <;> omega) | omega), by (try dsimp only at z); (try dsimp only); (first | (apply Int.le_antisymm <;> omega) | omega), by (try dsimp only at z); (try dsimp only); (first | (apply Int.le_antisymm <;> omega) | omega), ⟨x8, by (try dsimp only at z); (try dsimp only); (first | (apply Int.le_antisymm <;> omega) | omega), by (try dsimp only) <;> exact ef9.symm⟩, by (try dsimp only) <;> exact ef11.symm⟩, fun z => absurd z (by (try dsimp only); (first | (apply Int.le_antisymm <;> omega) | omega))⟩, va_P.he ht.symm hP9, va_K.moved hW.alike hK, hD9⟩, hS.F ht⟩) hS.2.2 d_RE_openBlock_83
        · have q31 := neI c31
          refine lv_iload_n hx hb d_RE_openBlock_34 rfl (lv_at hl 0 rfl) ?_
          refine lv_bipush (v := 126) hx hb d_RE_openBlock_35 (by decide) ?_
          have k126 : (126 : Int32).toInt = 126 := by decide
          refine lv_icmp_ne (tgt := 44) hx hb d_RE_openBlock_37 (by decide) (fun c37 => ?_) (fun c37 => ?_)
          · have q37 := neI c37
            refine lv_iconst (v := 0) hx hb d_RE_openBlock_44 (by decide) ?_
            have k0 : (0 : Int32).toInt = 0 := by decide
            refine va_put (D := (dC, dI)) (ci := 7) (v := .int 0) (ty := .boolean) (C := R_RE) (T := F_RE) (N := 8) hx hb hts i_RE t_RE t_RE_ok n_RE hown hK hP hD hS 3 rfl rfl 4 (by decide) (hts _ kF_RE_45) (fun _ h9 => h9) rfl (by decide +kernel) rfl rfl (Nat.le_of_ble_eq_true rfl) d_RE_openBlock_45 (fun H locs hP hD hS => ?_)
            have hP : va_P (dC, dI) cls (wz_3 ac afi alk alt cl aop ava apt ael lc alb ava cva gva ao co go h0 aw ac n2 lim 0 cc ao oc aw wf ab ax len ax cB n f) H := hP
            have hD : va_D A (wz_3 ac afi alk alt cl aop ava apt ael lc alb ava cva gva ao co go h0 aw ac n2 lim 0 cc ao oc aw wf ab ax len ax cB n f) := hD
            refine lv_aload_n hx hb d_RE_openBlock_48 rfl (lv_at hl 1 rfl) ?_
            refine va_get (D := (dC, dI)) (ci := 7) (v := .int 0) (C := R_RE) (T := F_RE) (N := 8) hx hb hts i_RE hown hK hP 3 rfl rfl 4 (by decide) (hts _ kF_RE_45) (fun _ h9 => h9) rfl d_RE_openBlock_49 ?_
            refine lv_if_eq (tgt := 83) hx hb d_RE_openBlock_52 (by decide) (fun c52 => ?_) (fun c52 => absurd (neI c52) (by (first | (apply Int.le_antisymm <;> omega) | omega)))
            have q52 := eqI c52
            have hP9 := hP.sb (wq := (wz_2 h0 aw ac n2 lim 0 cc ao oc aw wf ab ax len ax cB n f ac afi alk alt cl aop ava apt ael lc alb ava cva gva ao co go)) [3, 4, 5, 6, 0, 1, 2] rfl
            have hD9 := hD.sb (wq := (wz_2 h0 aw ac n2 lim 0 cc ao oc aw wf ab ax len ax cB n f ac afi alk alt cl aop ava apt ael lc alb ava cva gva ao co go)) [3, 4, 5, 6, 0, 1, 2] (by decide) rfl
            exact W.vret hx hb hr (fun t ht hW => ⟨⟨(n2, 0, oc, cl, lc, gva, go), rfl, ⟨(Or.inl rfl), by (try dsimp only); (first | (apply Int.le_antisymm <;> omega) | omega), by (try dsimp only); (first | (apply Int.le_antisymm <;> omega) | omega), by (try dsimp only); (first | (apply Int.le_antisymm <;> omega) | omega), by (try dsimp only); (first | (apply Int.le_antisymm <;> omega) | omega), rfl, rfl, fun z => absurd z (by (try dsimp only); (first | (apply Int.le_antisymm <;> omega) | omega)), fun z => ⟨rfl, rfl⟩⟩, va_P.he ht.symm hP9, va_K.moved hW.alike hK, hD9⟩, hS.F ht⟩) hS.2.2 d_RE_openBlock_83
          · have q37 := eqI c37
            refine lv_iconst (v := 1) hx hb d_RE_openBlock_40 (by decide) ?_
            have k1 : (1 : Int32).toInt = 1 := by decide
            refine lv_goto (tgt := 45) hx hb d_RE_openBlock_41 (by decide) ?_
            refine va_put (D := (dC, dI)) (ci := 7) (v := .int 1) (ty := .boolean) (C := R_RE) (T := F_RE) (N := 8) hx hb hts i_RE t_RE t_RE_ok n_RE hown hK hP hD hS 3 rfl rfl 4 (by decide) (hts _ kF_RE_45) (fun _ h9 => h9) rfl (by decide +kernel) rfl rfl (Nat.le_of_ble_eq_true rfl) d_RE_openBlock_45 (fun H locs hP hD hS => ?_)
            have hP : va_P (dC, dI) cls (wz_3 ac afi alk alt cl aop ava apt ael lc alb ava cva gva ao co go h0 aw ac n2 lim 1 cc ao oc aw wf ab ax len ax cB n f) H := hP
            have hD : va_D A (wz_3 ac afi alk alt cl aop ava apt ael lc alb ava cva gva ao co go h0 aw ac n2 lim 1 cc ao oc aw wf ab ax len ax cB n f) := hD
            refine lv_aload_n hx hb d_RE_openBlock_48 rfl (lv_at hl 1 rfl) ?_
            refine va_get (D := (dC, dI)) (ci := 7) (v := .int 1) (C := R_RE) (T := F_RE) (N := 8) hx hb hts i_RE hown hK hP 3 rfl rfl 4 (by decide) (hts _ kF_RE_45) (fun _ h9 => h9) rfl d_RE_openBlock_49 ?_
            refine lv_if_eq (tgt := 83) hx hb d_RE_openBlock_52 (by decide) (fun c52 => absurd (eqI c52) (by (first | (apply Int.le_antisymm <;> omega) | omega))) (fun c52 => ?_)
            have q52 := neI c52
            refine lv_aload_n hx hb d_RE_openBlock_55 rfl (lv_at hl 1 rfl) ?_
            refine va_get (D := (dC, dI)) (ci := 7) (v := .ref ac) (C := R_RE) (T := F_RE) (N := 8) hx hb hts i_RE hown hK hP 3 rfl rfl 1 (by decide) (hts _ kF_RE_25) (fun _ h9 => h9) rfl d_RE_openBlock_56 ?_
            refine va_get (D := (dC, dI)) (ci := 3) (v := .ref ava) (C := R_CD) (T := F_CD) (N := 10) hx hb hts i_CD hown hK hP 0 rfl rfl 5 (by decide) (hts _ kF_RE_197) (fun _ h9 => h9) rfl d_RE_openBlock_59 ?_
            refine lv_iload_n hx hb d_RE_openBlock_62 rfl (lv_at hl 2 rfl) ?_
            refine lv_iload_n hx hb d_RE_openBlock_63 rfl (lv_at hl 0 rfl) ?_
            refine lv_i2l hx hb d_RE_openBlock_64 rfl ?_
            refine lv_topl (fun x12 ex12 => ?_)
            have tx12 := i2l_t ex12
            have g65 : vp_in p0 5000 := vp_in_iff.mpr ⟨by (first | (apply Int.le_antisymm <;> omega) | omega), by (first | (apply Int.le_antisymm <;> omega) | omega)⟩
            refine va_last hx hb hK hP hD hS 1 1 rfl rfl g65 d_RE_openBlock_65 (fun H locs hP hD hS => ?_)
            have hP : va_P (dC, dI) cls (wz_3 ac afi alk alt cl aop ava apt ael lc alb ava cva (vp_updL gva p0.toNatClampNeg x12) ao co go h0 aw ac n2 lim 1 cc ao oc aw wf ab ax len ax cB n f) H := hP
            have hD : va_D A (wz_3 ac afi alk alt cl aop ava apt ael lc alb ava cva (vp_updL gva p0.toNatClampNeg x12) ao co go h0 aw ac n2 lim 1 cc ao oc aw wf ab ax len ax cB n f) := hD
            generalize ef13 : vp_updL gva p0.toNatClampNeg x12 = f13 at hP hD
            refine lv_aload_n hx hb d_RE_openBlock_66 rfl (lv_at hl 1 rfl) ?_
            refine va_get (D := (dC, dI)) (ci := 7) (v := .ref ao) (C := R_RE) (T := F_RE) (N := 8) hx hb hts i_RE hown hK hP 3 rfl rfl 6 (by decide) (hts _ kF_RE_9) (fun _ h9 => h9) rfl d_RE_openBlock_67 ?_
            refine lv_aload_n hx hb d_RE_openBlock_70 rfl (lv_at hl 1 rfl) ?_
            refine lv_dup hx hb d_RE_openBlock_71 rfl ?_
            refine va_get (D := (dC, dI)) (ci := 7) (v := .int oc) (C := R_RE) (T := F_RE) (N := 8) hx hb hts i_RE hown hK hP 3 rfl rfl 7 (by decide) (hts _ kF_RE_179) (fun _ h9 => h9) rfl d_RE_openBlock_72 ?_
            refine lv_dup_x1 hx hb d_RE_openBlock_75 rfl rfl ?_
            refine lv_iconst (v := 1) hx hb d_RE_openBlock_76 (by decide) ?_
            have k1 : (1 : Int32).toInt = 1 := by decide
            refine lv_iadd hx hb d_RE_openBlock_77 ?_
            refine lv_topi (fun x14 ex14 => ?_)
            have tx14 : x14.toInt = oc.toInt + 1 := by have z := i32_add ex14 (by (first | (apply Int.le_antisymm <;> omega) | omega)) (by (first | (apply Int.le_antisymm <;> omega) | omega)); first | exact z | (first | (apply Int.le_antisymm <;> omega) | omega)
            refine va_put (D := (dC, dI)) (ci := 7) (v := .int x14) (ty := .int) (C := R_RE) (T := F_RE) (N := 8) hx hb hts i_RE t_RE t_RE_ok n_RE hown hK hP hD hS 3 rfl rfl 7 (by decide) (hts _ kF_RE_179) (fun _ h9 => h9) rfl (by decide +kernel) rfl rfl (Nat.le_of_ble_eq_true rfl) d_RE_openBlock_78 (fun H locs hP hD hS => ?_)
            have hP : va_P (dC, dI) cls (wz_3 ac afi alk alt cl aop ava apt ael lc alb ava cva f13 ao co go h0 aw ac n2 lim 1 cc ao x14 aw wf ab ax len ax cB n f) H := hP
            have hD : va_D A (wz_3 ac afi alk alt cl aop ava apt ael lc alb ava cva f13 ao co go h0 aw ac n2 lim 1 cc ao x14 aw wf ab ax len ax cB n f) := hD
            refine lv_iload_n hx hb d_RE_openBlock_81 rfl (lv_at hl 2 rfl) ?_
            have g82 : vp_in oc 100 := vp_in_iff.mpr ⟨by (first | (apply Int.le_antisymm <;> omega) | omega), by (first | (apply Int.le_antisymm <;> omega) | omega)⟩
            refine va_iast hx hb hK hP hD hS 2 2 rfl rfl g82 d_RE_openBlock_82 (fun H locs hP hD hS => ?_)
            have hP : va_P (dC, dI) cls (wz_3 ac afi alk alt cl aop ava apt ael lc alb ava cva f13 ao co (upd go oc.toNatClampNeg p0) h0 aw ac n2 lim 1 cc ao x14 aw wf ab ax len ax cB n f) H := hP
            have hD : va_D A (wz_3 ac afi alk alt cl aop ava apt ael lc alb ava cva f13 ao co (upd go oc.toNatClampNeg p0) h0 aw ac n2 lim 1 cc ao x14 aw wf ab ax len ax cB n f) := hD
            generalize ef15 : upd go oc.toNatClampNeg p0 = f15 at hP hD
            have hP9 := hP.sb (wq := (wz_2 h0 aw ac n2 lim 1 cc ao x14 aw wf ab ax len ax cB n f ac afi alk alt cl aop ava apt ael lc alb ava cva f13 ao co f15)) [3, 4, 5, 6, 0, 1, 2] rfl
            have hD9 := hD.sb (wq := (wz_2 h0 aw ac n2 lim 1 cc ao x14 aw wf ab ax len ax cB n f ac afi alk alt cl aop ava apt ael lc alb ava cva f13 ao co f15)) [3, 4, 5, 6, 0, 1, 2] (by decide) rfl
            exact W.vret hx hb hr (fun t ht hW => ⟨⟨(n2, 1, x14, cl, lc, f13, f15), rfl, ⟨(Or.inr rfl), by (try dsimp only); (first | (apply Int.le_antisymm <;> omega) | omega), by (try dsimp only); (first | (apply Int.le_antisymm <;> omega) | omega), by (try dsimp only); (first | (apply Int.le_antisymm <;> omega) | omega), by (try dsimp only); (first | (apply Int.le_antisymm <;> omega) | omega), rfl, rfl, fun z => ⟨by (try dsimp only at z); (try dsimp only); (first | (apply Int.le_antisymm <;> omega) | omega), by (try dsimp only at z); (try dsimp only); (first | (apply Int.le_antisymm <;> omega) | omega), by (try dsimp only at z); (try dsimp only); (first | (apply Int.le_antisymm <;> omega) | omega), by (try dsimp only at z); (try dsimp only); (first | (apply Int.le_antisymm <;> omega) | omega), by (try dsimp only at z); (try dsimp only); (first | (apply Int.le_antisymm <;> omega) | omega), ⟨x12, by (try dsimp only at z); (try dsimp only); (first | (apply Int.le_antisymm <;> omega) | omega), by (try dsimp only) <;> exact ef13.symm⟩, by (try dsimp only) <;> exact ef15.symm⟩, fun z => absurd z (by (try dsimp only); (first | (apply Int.le_antisymm <;> omega) | omega))⟩, va_P.he ht.symm hP9, va_K.moved hW.alike hK, hD9⟩, hS.F ht⟩) hS.2.2 d_RE_openBlock_83
abbrev b_RE_turnToElse : ByteArray := prog_9_method_12_code
def y_RE_turnToElse : MethodName := ⟨R_RE, "turnToElse", "(I)V"⟩
abbrev w_RE_turnToElse : List Cond := .code y_RE_turnToElse b_RE_turnToElse 3 none :: lw_g
theorem kC_RE_turnToElse : Cond.code y_RE_turnToElse b_RE_turnToElse 3 none ∈ lw_g := in_c6 148 rfl rfl
theorem d_RE_turnToElse_0 : decode b_RE_turnToElse 0 = .ok (.aload_n 0, 1) := bz_c42 (by decide +kernel)
theorem d_RE_turnToElse_1 : decode b_RE_turnToElse 1 = .ok (.getfield 179, 3) := bz_c180 (by decide +kernel)
theorem d_RE_turnToElse_4 : decode b_RE_turnToElse 4 = .ok (.ifCond .le 17, 3) := bz_c158 (by decide +kernel)
theorem d_RE_turnToElse_7 : decode b_RE_turnToElse 7 = .ok (.aload_n 0, 1) := bz_c42 (by decide +kernel)
theorem d_RE_turnToElse_8 : decode b_RE_turnToElse 8 = .ok (.getfield 9, 3) := bz_c180 (by decide +kernel)
theorem d_RE_turnToElse_11 : decode b_RE_turnToElse 11 = .ok (.aload_n 0, 1) := bz_c42 (by decide +kernel)
theorem d_RE_turnToElse_12 : decode b_RE_turnToElse 12 = .ok (.getfield 179, 3) := bz_c180 (by decide +kernel)
theorem d_RE_turnToElse_15 : decode b_RE_turnToElse 15 = .ok (.iconst 1, 1) := bz_c4 (by decide +kernel)
theorem d_RE_turnToElse_16 : decode b_RE_turnToElse 16 = .ok (.isub, 1) := bz_c100 (by decide +kernel)
theorem d_RE_turnToElse_17 : decode b_RE_turnToElse 17 = .ok (.iaload, 1) := bz_c46 (by decide +kernel)
theorem d_RE_turnToElse_18 : decode b_RE_turnToElse 18 = .ok (.goto 4, 3) := bz_c167 (by decide +kernel)
theorem d_RE_turnToElse_21 : decode b_RE_turnToElse 21 = .ok (.iconst (-1), 1) := bz_c2 (by decide +kernel)
theorem d_RE_turnToElse_22 : decode b_RE_turnToElse 22 = .ok (.istore_n 2, 1) := bz_c61 (by decide +kernel)
theorem d_RE_turnToElse_23 : decode b_RE_turnToElse 23 = .ok (.aload_n 0, 1) := bz_c42 (by decide +kernel)
theorem d_RE_turnToElse_24 : decode b_RE_turnToElse 24 = .ok (.iload_n 2, 1) := bz_c28 (by decide +kernel)
theorem d_RE_turnToElse_25 : decode b_RE_turnToElse 25 = .ok (.ifCond .lt 32, 3) := bz_c155 (by decide +kernel)
theorem d_RE_turnToElse_28 : decode b_RE_turnToElse 28 = .ok (.aload_n 0, 1) := bz_c42 (by decide +kernel)
theorem d_RE_turnToElse_29 : decode b_RE_turnToElse 29 = .ok (.getfield 25, 3) := bz_c180 (by decide +kernel)
theorem d_RE_turnToElse_32 : decode b_RE_turnToElse 32 = .ok (.getfield 194, 3) := bz_c180 (by decide +kernel)
theorem d_RE_turnToElse_35 : decode b_RE_turnToElse 35 = .ok (.iload_n 2, 1) := bz_c28 (by decide +kernel)
theorem d_RE_turnToElse_36 : decode b_RE_turnToElse 36 = .ok (.iaload, 1) := bz_c46 (by decide +kernel)
theorem d_RE_turnToElse_37 : decode b_RE_turnToElse 37 = .ok (.iconst 4, 1) := bz_c7 (by decide +kernel)
theorem d_RE_turnToElse_38 : decode b_RE_turnToElse 38 = .ok (.if_icmp .ne 19, 3) := bz_c160 (by decide +kernel)
theorem d_RE_turnToElse_41 : decode b_RE_turnToElse 41 = .ok (.aload_n 0, 1) := bz_c42 (by decide +kernel)
theorem d_RE_turnToElse_42 : decode b_RE_turnToElse 42 = .ok (.getfield 25, 3) := bz_c180 (by decide +kernel)
theorem d_RE_turnToElse_45 : decode b_RE_turnToElse 45 = .ok (.getfield 203, 3) := bz_c180 (by decide +kernel)
theorem d_RE_turnToElse_48 : decode b_RE_turnToElse 48 = .ok (.iload_n 2, 1) := bz_c28 (by decide +kernel)
theorem d_RE_turnToElse_49 : decode b_RE_turnToElse 49 = .ok (.iaload, 1) := bz_c46 (by decide +kernel)
theorem d_RE_turnToElse_50 : decode b_RE_turnToElse 50 = .ok (.ifCond .ge 7, 3) := bz_c156 (by decide +kernel)
theorem d_RE_turnToElse_53 : decode b_RE_turnToElse 53 = .ok (.iconst 1, 1) := bz_c4 (by decide +kernel)
theorem d_RE_turnToElse_54 : decode b_RE_turnToElse 54 = .ok (.goto 4, 3) := bz_c167 (by decide +kernel)
theorem d_RE_turnToElse_57 : decode b_RE_turnToElse 57 = .ok (.iconst 0, 1) := bz_c3 (by decide +kernel)
theorem d_RE_turnToElse_58 : decode b_RE_turnToElse 58 = .ok (.putfield 45, 3) := bz_c181 (by decide +kernel)
theorem d_RE_turnToElse_61 : decode b_RE_turnToElse 61 = .ok (.aload_n 0, 1) := bz_c42 (by decide +kernel)
theorem d_RE_turnToElse_62 : decode b_RE_turnToElse 62 = .ok (.getfield 45, 3) := bz_c180 (by decide +kernel)
theorem d_RE_turnToElse_65 : decode b_RE_turnToElse 65 = .ok (.ifCond .eq 13, 3) := bz_c153 (by decide +kernel)
theorem d_RE_turnToElse_68 : decode b_RE_turnToElse 68 = .ok (.aload_n 0, 1) := bz_c42 (by decide +kernel)
theorem d_RE_turnToElse_69 : decode b_RE_turnToElse 69 = .ok (.getfield 25, 3) := bz_c180 (by decide +kernel)
theorem d_RE_turnToElse_72 : decode b_RE_turnToElse 72 = .ok (.getfield 203, 3) := bz_c180 (by decide +kernel)
theorem d_RE_turnToElse_75 : decode b_RE_turnToElse 75 = .ok (.iload_n 2, 1) := bz_c28 (by decide +kernel)
theorem d_RE_turnToElse_76 : decode b_RE_turnToElse 76 = .ok (.iload_n 1, 1) := bz_c27 (by decide +kernel)
theorem d_RE_turnToElse_77 : decode b_RE_turnToElse 77 = .ok (.iastore, 1) := bz_c79 (by decide +kernel)
theorem d_RE_turnToElse_78 : decode b_RE_turnToElse 78 = .ok (.return_, 1) := bz_c177 (by decide +kernel)
theorem kF_RE_194 : Cond.fieldLink R_RE 194 "WaferForge$Codes" "ops" "[I" ∈ lw_g := in_c1 100 rfl rfl
theorem kF_RE_203 : Cond.fieldLink R_RE 203 "WaferForge$Codes" "elses" "[I" ∈ lw_g := in_c1 111 rfl rfl
abbrev at_RE_turnToElse (dC : Nat → ClassId) (dI : Nat → Nat → Nat) (h0 aw ac ao ab ax : Nat) (lim cc : Int32) (afi alk alt aop ava apt ael alb : Nat) (cop : ClassId) (cel : ClassId) (co : ClassId) (A : Nat → Prop) (u : Int32 × Int32 × Int32 × Int32 × Int32 × (Nat → Int32) × (Nat → Int32) × (Nat → Int32)) (t : State) : Prop := match u with
  | (pa, snd, oc, cl, lc, gop, gel, go) => va_P (dC, dI) cls (wz_4 h0 aw ac pa lim snd cc ao oc ac afi alk alt cl aop ava apt ael lc alb aop cop gop ael cel gel ao co go) t.heap ∧ va_K (dC, dI) cls [(cop, .int), (cel, .int), (co, .int)] t ∧ va_D A (wz_4 h0 aw ac pa lim snd cc ao oc ac afi alk alt cl aop ava apt ael lc alb aop cop gop ael cel gel ao co go)
set_option maxHeartbeats 4000000 in
set_option maxRecDepth 100000 in
theorem c_RE_turnToElse (l : Launch) (dC : Nat → ClassId) (dI : Nat → Nat → Nat) (sz : Nat) (h0 aw ac ao ab ax : Nat) (lim cc : Int32) (afi alk alt aop ava apt ael alb : Nat) (cop : ClassId) (cel : ClassId) (co : ClassId) (pa : Int32) (snd : Int32) (oc : Int32) (cl : Int32) (lc : Int32) (gop : Nat → Int32) (gel : Nat → Int32) (go : Nat → Int32) (hs : snd = 0 ∨ snd = 1) (ho : 0 ≤ oc.toInt ∧ oc.toInt ≤ 100) (p0 : Int32) (hgo : ∀ j : Nat, (j : Int) < oc.toInt → 0 ≤ (go j).toInt ∧ (go j).toInt < 5000) : Met l y_RE_turnToElse w_RE_turnToElse ({ frames := 0, cells := 0, slots := 0, locals := 0 }) (va_Pc [.ref h0, .int p0] (fun U => U.heap.size = sz ∧ va_P (dC, dI) cls (wz_4 h0 aw ac pa lim snd cc ao oc ac afi alk alt cl aop ava apt ael lc alb aop cop gop ael cel gel ao co go) U.heap ∧ va_K (dC, dI) cls [(cop, .int), (cel, .int), (co, .int)] U ∧ va_D (fun _ => True) (wz_4 h0 aw ac pa lim snd cc ao oc ac afi alk alt cl aop ava apt ael lc alb aop cop gop ael cel gel ao co go))) (va_Qv (fun (u : Int32 × Int32 × Int32 × Int32 × Int32 × (Nat → Int32) × (Nat → Int32) × (Nat → Int32)) => match u with | (pa2, snd2, oc2, cl2, lc2, gop2, gel2, go2) => (snd2 = 0 ∨ snd2 = 1) ∧ pa = pa2 ∧ oc = oc2 ∧ cl = cl2 ∧ lc = lc2 ∧ gop = gop2 ∧ go = go2 ∧ (snd2.toInt = 1 → 0 < oc.toInt ∧ (gop (go (oc.toNatClampNeg - 1)).toNatClampNeg).toInt = 4 ∧ (gel (go (oc.toNatClampNeg - 1)).toNatClampNeg).toInt < 0 ∧ gel2 = upd gel (go (oc.toNatClampNeg - 1)).toNatClampNeg p0) ∧ (snd2.toInt = 0 → gel2 = gel)) (at_RE_turnToElse dC dI h0 aw ac ao ab ax lim cc afi alk alt aop ava apt ael alb cop cel co (va_A (wz_4 h0 aw ac pa lim snd cc ao oc ac afi alk alt cl aop ava apt ael lc alb aop cop gop ael cel gel ao co go) sz)) (va_A (wz_4 h0 aw ac pa lim snd cc ao oc ac afi alk alt cl aop ava apt ael lc alb aop cop gop ael cel gel ao co go) sz)) 0 0 (va_A (wz_4 h0 aw ac pa lim snd cc ao oc ac afi alk alt cl aop ava apt ael lc alb aop cop gop ael cel gel ao co go) sz) := by
  refine Met.ofW (cc := b_RE_turnToElse) (maxL := 3) (ret := none) (by decide) rfl ?_
  intro p e s m args below meth c s₁ B hml hv
  obtain ⟨rfl, hsz, hP, hK, hD0⟩ := hv
  have hx := B.exec
  have hb := B.bytes
  have hr := B.returns
  have hts0 := atoms_spec (ws := w_RE_turnToElse) B.pre
  have hts : ∀ w ∈ lw_g, w.before _ s = true := fun w h => hts0 w (List.mem_cons_of_mem _ h)
  have hown : s.vm.findClass R_RE = some m.cls := findClass_of_methodNamed B.named
  have hlocks := B.notSynchronized
  clear hts0
  subst hsz
  have hD := hD0.self (sz := s.heap.size)
  generalize hAe : va_A (wz_4 h0 aw ac pa lim snd cc ao oc ac afi alk alt cl aop ava apt ael lc alb aop cop gop ael cel gel ao co go) s.heap.size = A at hD ⊢
  have hA : ∀ q : Nat, s.heap.size ≤ q → A q := fun q h => by rw [← hAe]; exact Or.inr h
  clear hAe
  have hP : va_P (dC, dI) cls (wz_4 h0 aw ac pa lim snd cc ao oc ac afi alk alt cl aop ava apt ael lc alb aop cop gop ael cel gel ao co go) s.heap := hP
  have hl := lv_entry ([.ref h0, .int p0]) (n := 3) (Nat.le_of_ble_eq_true rfl)
  rw [lg_entry_eq]
  generalize (lg_sl ([.ref h0, .int p0]) ++ List.replicate (3 - (lg_sl ([.ref h0, .int p0])).length) Slot.unset).toArray = ls at hl ⊢
  have hl : lv_has ls 3 [(0, .ref h0), (1, .int p0)] := hl
  have k0 : (0 : Int32).toInt = 0 := by decide
  refine w_gen (A := A) hP (fun H locs hP hS => ?_)
  have lo_p0 := i32_lo p0
  have hi_p0 := i32_hi p0
  have hs0 := b01 hs
  refine lv_aload_n hx hb d_RE_turnToElse_0 rfl (lv_at hl 0 rfl) ?_
  refine va_get (D := (dC, dI)) (ci := 7) (v := .int oc) (C := R_RE) (T := F_RE) (N := 8) hx hb hts i_RE hown hK hP 0 rfl rfl 7 (by decide) (hts _ kF_RE_179) (fun _ h9 => h9) rfl d_RE_turnToElse_1 ?_
  refine lv_if_le (tgt := 21) hx hb d_RE_turnToElse_4 (by decide) (fun c4 => ?_) (fun c4 => ?_)
  · have q4 := leI c4
    refine lv_iconst (v := (-1)) hx hb d_RE_turnToElse_21 (by decide) ?_
    have km1 : (-1 : Int32).toInt = -1 := by decide
    refine lv_istore_n (lv' := [(2, .int ((-1))), (0, .ref h0), (1, .int p0)]) hx hb d_RE_turnToElse_22 rfl hl (by decide) rfl (fun ls hl => ?_)
    refine lv_aload_n hx hb d_RE_turnToElse_23 rfl (lv_at hl 1 rfl) ?_
    refine lv_iload_n hx hb d_RE_turnToElse_24 rfl (lv_at hl 0 rfl) ?_
    refine lv_if_lt (tgt := 57) hx hb d_RE_turnToElse_25 (by decide) (fun c25 => ?_) (fun c25 => absurd (nltI c25) (by (first | (apply Int.le_antisymm <;> omega) | omega)))
    have q25 := ltI c25
    refine lv_iconst (v := 0) hx hb d_RE_turnToElse_57 (by decide) ?_
    have k0 : (0 : Int32).toInt = 0 := by decide
    refine va_put (D := (dC, dI)) (ci := 7) (v := .int 0) (ty := .boolean) (C := R_RE) (T := F_RE) (N := 8) hx hb hts i_RE t_RE t_RE_ok n_RE hown hK hP hD hS 0 rfl rfl 4 (by decide) (hts _ kF_RE_45) (fun _ h9 => h9) rfl (by decide +kernel) rfl rfl (Nat.le_of_ble_eq_true rfl) d_RE_turnToElse_58 (fun H locs hP hD hS => ?_)
    have hP : va_P (dC, dI) cls (wz_4 h0 aw ac pa lim 0 cc ao oc ac afi alk alt cl aop ava apt ael lc alb aop cop gop ael cel gel ao co go) H := hP
    have hD : va_D A (wz_4 h0 aw ac pa lim 0 cc ao oc ac afi alk alt cl aop ava apt ael lc alb aop cop gop ael cel gel ao co go) := hD
    refine lv_aload_n hx hb d_RE_turnToElse_61 rfl (lv_at hl 1 rfl) ?_
    refine va_get (D := (dC, dI)) (ci := 7) (v := .int 0) (C := R_RE) (T := F_RE) (N := 8) hx hb hts i_RE hown hK hP 0 rfl rfl 4 (by decide) (hts _ kF_RE_45) (fun _ h9 => h9) rfl d_RE_turnToElse_62 ?_
    refine lv_if_eq (tgt := 78) hx hb d_RE_turnToElse_65 (by decide) (fun c65 => ?_) (fun c65 => absurd (neI c65) (by (first | (apply Int.le_antisymm <;> omega) | omega)))
    have q65 := eqI c65
    have hP9 := hP.sb (wq := (wz_4 h0 aw ac pa lim 0 cc ao oc ac afi alk alt cl aop ava apt ael lc alb aop cop gop ael cel gel ao co go)) [0, 1, 2, 3, 4] rfl
    have hD9 := hD.sb (wq := (wz_4 h0 aw ac pa lim 0 cc ao oc ac afi alk alt cl aop ava apt ael lc alb aop cop gop ael cel gel ao co go)) [0, 1, 2, 3, 4] (by decide) rfl
    exact W.vret hx hb hr (fun t ht hW => ⟨⟨(pa, 0, oc, cl, lc, gop, gel, go), rfl, ⟨(Or.inl rfl), rfl, rfl, rfl, rfl, rfl, rfl, fun z => absurd z (by (try dsimp only); (first | (apply Int.le_antisymm <;> omega) | omega)), fun z => rfl⟩, va_P.he ht.symm hP9, va_K.moved hW.alike hK, hD9⟩, hS.F ht⟩) hS.2.2 d_RE_turnToElse_78
  · have q4 := nleI c4
    refine lv_aload_n hx hb d_RE_turnToElse_7 rfl (lv_at hl 0 rfl) ?_
    refine va_get (D := (dC, dI)) (ci := 7) (v := .ref ao) (C := R_RE) (T := F_RE) (N := 8) hx hb hts i_RE hown hK hP 0 rfl rfl 6 (by decide) (hts _ kF_RE_9) (fun _ h9 => h9) rfl d_RE_turnToElse_8 ?_
    refine lv_aload_n hx hb d_RE_turnToElse_11 rfl (lv_at hl 0 rfl) ?_
    refine va_get (D := (dC, dI)) (ci := 7) (v := .int oc) (C := R_RE) (T := F_RE) (N := 8) hx hb hts i_RE hown hK hP 0 rfl rfl 7 (by decide) (hts _ kF_RE_179) (fun _ h9 => h9) rfl d_RE_turnToElse_12 ?_
    refine lv_iconst (v := 1) hx hb d_RE_turnToElse_15 (by decide) ?_
    have k1 : (1 : Int32).toInt = 1 := by decide
    refine lv_isub hx hb d_RE_turnToElse_16 ?_
    refine lv_topi (fun x1 ex1 => ?_)
    have tx1 : x1.toInt = oc.toInt - 1 := by have z := i32_sub ex1 (by (first | (apply Int.le_antisymm <;> omega) | omega)) (by (first | (apply Int.le_antisymm <;> omega) | omega)); first | exact z | (first | (apply Int.le_antisymm <;> omega) | omega)
    have g17 : vp_in x1 100 := vp_in_iff.mpr ⟨by (first | (apply Int.le_antisymm <;> omega) | omega), by (first | (apply Int.le_antisymm <;> omega) | omega)⟩
    refine va_iald hx hb hK hP 4 2 rfl rfl g17 d_RE_turnToElse_17 ?_
    refine lv_topi (fun x2 ex2 => ?_)
    have yx2 := i32_clamp (x := x1) (by (first | (apply Int.le_antisymm <;> omega) | omega))
    have tx2 := hgo x1.toNatClampNeg (by (first | (apply Int.le_antisymm <;> omega) | omega))
    rw [← ex2] at tx2
    have topx2 : x2 = go (oc.toNatClampNeg - 1) := by rw [ex2]; congr 1; have := i32_clamp (x := oc) (by (first | (apply Int.le_antisymm <;> omega) | omega)); (first | (apply Int.le_antisymm <;> omega) | omega)
    refine lv_goto (tgt := 22) hx hb d_RE_turnToElse_18 (by decide) ?_
    refine lv_istore_n (lv' := [(2, .int x2), (0, .ref h0), (1, .int p0)]) hx hb d_RE_turnToElse_22 rfl hl (by decide) rfl (fun ls hl => ?_)
    refine lv_aload_n hx hb d_RE_turnToElse_23 rfl (lv_at hl 1 rfl) ?_
    refine lv_iload_n hx hb d_RE_turnToElse_24 rfl (lv_at hl 0 rfl) ?_
    refine lv_if_lt (tgt := 57) hx hb d_RE_turnToElse_25 (by decide) (fun c25 => ?_) (fun c25 => ?_)
    · have q25 := ltI c25
      refine lv_iconst (v := 0) hx hb d_RE_turnToElse_57 (by decide) ?_
      have k0 : (0 : Int32).toInt = 0 := by decide
      refine va_put (D := (dC, dI)) (ci := 7) (v := .int 0) (ty := .boolean) (C := R_RE) (T := F_RE) (N := 8) hx hb hts i_RE t_RE t_RE_ok n_RE hown hK hP hD hS 0 rfl rfl 4 (by decide) (hts _ kF_RE_45) (fun _ h9 => h9) rfl (by decide +kernel) rfl rfl (Nat.le_of_ble_eq_true rfl) d_RE_turnToElse_58 (fun H locs hP hD hS => ?_)
      have hP : va_P (dC, dI) cls (wz_4 h0 aw ac pa lim 0 cc ao oc ac afi alk alt cl aop ava apt ael lc alb aop cop gop ael cel gel ao co go) H := hP
      have hD : va_D A (wz_4 h0 aw ac pa lim 0 cc ao oc ac afi alk alt cl aop ava apt ael lc alb aop cop gop ael cel gel ao co go) := hD
      refine lv_aload_n hx hb d_RE_turnToElse_61 rfl (lv_at hl 1 rfl) ?_
      refine va_get (D := (dC, dI)) (ci := 7) (v := .int 0) (C := R_RE) (T := F_RE) (N := 8) hx hb hts i_RE hown hK hP 0 rfl rfl 4 (by decide) (hts _ kF_RE_45) (fun _ h9 => h9) rfl d_RE_turnToElse_62 ?_
      refine lv_if_eq (tgt := 78) hx hb d_RE_turnToElse_65 (by decide) (fun c65 => ?_) (fun c65 => absurd (neI c65) (by (first | (apply Int.le_antisymm <;> omega) | omega)))
      have q65 := eqI c65
      have hP9 := hP.sb (wq := (wz_4 h0 aw ac pa lim 0 cc ao oc ac afi alk alt cl aop ava apt ael lc alb aop cop gop ael cel gel ao co go)) [0, 1, 2, 3, 4] rfl
      have hD9 := hD.sb (wq := (wz_4 h0 aw ac pa lim 0 cc ao oc ac afi alk alt cl aop ava apt ael lc alb aop cop gop ael cel gel ao co go)) [0, 1, 2, 3, 4] (by decide) rfl
      exact W.vret hx hb hr (fun t ht hW => ⟨⟨(pa, 0, oc, cl, lc, gop, gel, go), rfl, ⟨(Or.inl rfl), rfl, rfl, rfl, rfl, rfl, rfl, fun z => absurd z (by (try dsimp only); (first | (apply Int.le_antisymm <;> omega) | omega)), fun z => rfl⟩, va_P.he ht.symm hP9, va_K.moved hW.alike hK, hD9⟩, hS.F ht⟩) hS.2.2 d_RE_turnToElse_78
    · have q25 := nltI c25
      refine lv_aload_n hx hb d_RE_turnToElse_28 rfl (lv_at hl 1 rfl) ?_
      refine va_get (D := (dC, dI)) (ci := 7) (v := .ref ac) (C := R_RE) (T := F_RE) (N := 8) hx hb hts i_RE hown hK hP 0 rfl rfl 1 (by decide) (hts _ kF_RE_25) (fun _ h9 => h9) rfl d_RE_turnToElse_29 ?_
      refine va_get (D := (dC, dI)) (ci := 3) (v := .ref aop) (C := R_CD) (T := F_CD) (N := 10) hx hb hts i_CD hown hK hP 1 rfl rfl 4 (by decide) (hts _ kF_RE_194) (fun _ h9 => h9) rfl d_RE_turnToElse_32 ?_
      refine lv_iload_n hx hb d_RE_turnToElse_35 rfl (lv_at hl 0 rfl) ?_
      have g36 : vp_in x2 5000 := vp_in_iff.mpr ⟨by (first | (apply Int.le_antisymm <;> omega) | omega), by (first | (apply Int.le_antisymm <;> omega) | omega)⟩
      refine va_iald hx hb hK hP 2 0 rfl rfl g36 d_RE_turnToElse_36 ?_
      refine lv_topi (fun x3 ex3 => ?_)
      refine lv_iconst (v := 4) hx hb d_RE_turnToElse_37 (by decide) ?_
      have k4 : (4 : Int32).toInt = 4 := by decide
      refine lv_icmp_ne (tgt := 57) hx hb d_RE_turnToElse_38 (by decide) (fun c38 => ?_) (fun c38 => ?_)
      · have q38 := neI c38
        refine lv_iconst (v := 0) hx hb d_RE_turnToElse_57 (by decide) ?_
        have k0 : (0 : Int32).toInt = 0 := by decide
        refine va_put (D := (dC, dI)) (ci := 7) (v := .int 0) (ty := .boolean) (C := R_RE) (T := F_RE) (N := 8) hx hb hts i_RE t_RE t_RE_ok n_RE hown hK hP hD hS 0 rfl rfl 4 (by decide) (hts _ kF_RE_45) (fun _ h9 => h9) rfl (by decide +kernel) rfl rfl (Nat.le_of_ble_eq_true rfl) d_RE_turnToElse_58 (fun H locs hP hD hS => ?_)
        have hP : va_P (dC, dI) cls (wz_4 h0 aw ac pa lim 0 cc ao oc ac afi alk alt cl aop ava apt ael lc alb aop cop gop ael cel gel ao co go) H := hP
        have hD : va_D A (wz_4 h0 aw ac pa lim 0 cc ao oc ac afi alk alt cl aop ava apt ael lc alb aop cop gop ael cel gel ao co go) := hD
        refine lv_aload_n hx hb d_RE_turnToElse_61 rfl (lv_at hl 1 rfl) ?_
        refine va_get (D := (dC, dI)) (ci := 7) (v := .int 0) (C := R_RE) (T := F_RE) (N := 8) hx hb hts i_RE hown hK hP 0 rfl rfl 4 (by decide) (hts _ kF_RE_45) (fun _ h9 => h9) rfl d_RE_turnToElse_62 ?_
        refine lv_if_eq (tgt := 78) hx hb d_RE_turnToElse_65 (by decide) (fun c65 => ?_) (fun c65 => absurd (neI c65) (by (first | (apply Int.le_antisymm <;> omega) | omega)))
        have q65 := eqI c65
        have hP9 := hP.sb (wq := (wz_4 h0 aw ac pa lim 0 cc ao oc ac afi alk alt cl aop ava apt ael lc alb aop cop gop ael cel gel ao co go)) [0, 1, 2, 3, 4] rfl
        have hD9 := hD.sb (wq := (wz_4 h0 aw ac pa lim 0 cc ao oc ac afi alk alt cl aop ava apt ael lc alb aop cop gop ael cel gel ao co go)) [0, 1, 2, 3, 4] (by decide) rfl
        exact W.vret hx hb hr (fun t ht hW => ⟨⟨(pa, 0, oc, cl, lc, gop, gel, go), rfl, ⟨(Or.inl rfl), rfl, rfl, rfl, rfl, rfl, rfl, fun z => absurd z (by (try dsimp only); (first | (apply Int.le_antisymm <;> omega) | omega)), fun z => rfl⟩, va_P.he ht.symm hP9, va_K.moved hW.alike hK, hD9⟩, hS.F ht⟩) hS.2.2 d_RE_turnToElse_78
      · have q38 := eqI c38
        refine lv_aload_n hx hb d_RE_turnToElse_41 rfl (lv_at hl 1 rfl) ?_
        refine va_get (D := (dC, dI)) (ci := 7) (v := .ref ac) (C := R_RE) (T := F_RE) (N := 8) hx hb hts i_RE hown hK hP 0 rfl rfl 1 (by decide) (hts _ kF_RE_25) (fun _ h9 => h9) rfl d_RE_turnToElse_42 ?_
        refine va_get (D := (dC, dI)) (ci := 3) (v := .ref ael) (C := R_CD) (T := F_CD) (N := 10) hx hb hts i_CD hown hK hP 1 rfl rfl 7 (by decide) (hts _ kF_RE_203) (fun _ h9 => h9) rfl d_RE_turnToElse_45 ?_
        refine lv_iload_n hx hb d_RE_turnToElse_48 rfl (lv_at hl 0 rfl) ?_
        have g49 : vp_in x2 5000 := vp_in_iff.mpr ⟨by (first | (apply Int.le_antisymm <;> omega) | omega), by (first | (apply Int.le_antisymm <;> omega) | omega)⟩
        refine va_iald hx hb hK hP 3 1 rfl rfl g49 d_RE_turnToElse_49 ?_
        refine lv_topi (fun x4 ex4 => ?_)
        refine lv_if_ge (tgt := 57) hx hb d_RE_turnToElse_50 (by decide) (fun c50 => ?_) (fun c50 => ?_)
        · have q50 := leI c50
          refine lv_iconst (v := 0) hx hb d_RE_turnToElse_57 (by decide) ?_
          have k0 : (0 : Int32).toInt = 0 := by decide
          refine va_put (D := (dC, dI)) (ci := 7) (v := .int 0) (ty := .boolean) (C := R_RE) (T := F_RE) (N := 8) hx hb hts i_RE t_RE t_RE_ok n_RE hown hK hP hD hS 0 rfl rfl 4 (by decide) (hts _ kF_RE_45) (fun _ h9 => h9) rfl (by decide +kernel) rfl rfl (Nat.le_of_ble_eq_true rfl) d_RE_turnToElse_58 (fun H locs hP hD hS => ?_)
          have hP : va_P (dC, dI) cls (wz_4 h0 aw ac pa lim 0 cc ao oc ac afi alk alt cl aop ava apt ael lc alb aop cop gop ael cel gel ao co go) H := hP
          have hD : va_D A (wz_4 h0 aw ac pa lim 0 cc ao oc ac afi alk alt cl aop ava apt ael lc alb aop cop gop ael cel gel ao co go) := hD
          refine lv_aload_n hx hb d_RE_turnToElse_61 rfl (lv_at hl 1 rfl) ?_
          refine va_get (D := (dC, dI)) (ci := 7) (v := .int 0) (C := R_RE) (T := F_RE) (N := 8) hx hb hts i_RE hown hK hP 0 rfl rfl 4 (by decide) (hts _ kF_RE_45) (fun _ h9 => h9) rfl d_RE_turnToElse_62 ?_
          refine lv_if_eq (tgt := 78) hx hb d_RE_turnToElse_65 (by decide) (fun c65 => ?_) (fun c65 => absurd (neI c65) (by (first | (apply Int.le_antisymm <;> omega) | omega)))
          have q65 := eqI c65
          have hP9 := hP.sb (wq := (wz_4 h0 aw ac pa lim 0 cc ao oc ac afi alk alt cl aop ava apt ael lc alb aop cop gop ael cel gel ao co go)) [0, 1, 2, 3, 4] rfl
          have hD9 := hD.sb (wq := (wz_4 h0 aw ac pa lim 0 cc ao oc ac afi alk alt cl aop ava apt ael lc alb aop cop gop ael cel gel ao co go)) [0, 1, 2, 3, 4] (by decide) rfl
          exact W.vret hx hb hr (fun t ht hW => ⟨⟨(pa, 0, oc, cl, lc, gop, gel, go), rfl, ⟨(Or.inl rfl), rfl, rfl, rfl, rfl, rfl, rfl, fun z => absurd z (by (try dsimp only); (first | (apply Int.le_antisymm <;> omega) | omega)), fun z => rfl⟩, va_P.he ht.symm hP9, va_K.moved hW.alike hK, hD9⟩, hS.F ht⟩) hS.2.2 d_RE_turnToElse_78
        · have q50 := nleI c50
          refine lv_iconst (v := 1) hx hb d_RE_turnToElse_53 (by decide) ?_
          have k1 : (1 : Int32).toInt = 1 := by decide
          refine lv_goto (tgt := 58) hx hb d_RE_turnToElse_54 (by decide) ?_
          refine va_put (D := (dC, dI)) (ci := 7) (v := .int 1) (ty := .boolean) (C := R_RE) (T := F_RE) (N := 8) hx hb hts i_RE t_RE t_RE_ok n_RE hown hK hP hD hS 0 rfl rfl 4 (by decide) (hts _ kF_RE_45) (fun _ h9 => h9) rfl (by decide +kernel) rfl rfl (Nat.le_of_ble_eq_true rfl) d_RE_turnToElse_58 (fun H locs hP hD hS => ?_)
          have hP : va_P (dC, dI) cls (wz_4 h0 aw ac pa lim 1 cc ao oc ac afi alk alt cl aop ava apt ael lc alb aop cop gop ael cel gel ao co go) H := hP
          have hD : va_D A (wz_4 h0 aw ac pa lim 1 cc ao oc ac afi alk alt cl aop ava apt ael lc alb aop cop gop ael cel gel ao co go) := hD
          refine lv_aload_n hx hb d_RE_turnToElse_61 rfl (lv_at hl 1 rfl) ?_
          refine va_get (D := (dC, dI)) (ci := 7) (v := .int 1) (C := R_RE) (T := F_RE) (N := 8) hx hb hts i_RE hown hK hP 0 rfl rfl 4 (by decide) (hts _ kF_RE_45) (fun _ h9 => h9) rfl d_RE_turnToElse_62 ?_
          refine lv_if_eq (tgt := 78) hx hb d_RE_turnToElse_65 (by decide) (fun c65 => absurd (eqI c65) (by (first | (apply Int.le_antisymm <;> omega) | omega))) (fun c65 => ?_)
          have q65 := neI c65
          refine lv_aload_n hx hb d_RE_turnToElse_68 rfl (lv_at hl 1 rfl) ?_
          refine va_get (D := (dC, dI)) (ci := 7) (v := .ref ac) (C := R_RE) (T := F_RE) (N := 8) hx hb hts i_RE hown hK hP 0 rfl rfl 1 (by decide) (hts _ kF_RE_25) (fun _ h9 => h9) rfl d_RE_turnToElse_69 ?_
          refine va_get (D := (dC, dI)) (ci := 3) (v := .ref ael) (C := R_CD) (T := F_CD) (N := 10) hx hb hts i_CD hown hK hP 1 rfl rfl 7 (by decide) (hts _ kF_RE_203) (fun _ h9 => h9) rfl d_RE_turnToElse_72 ?_
          refine lv_iload_n hx hb d_RE_turnToElse_75 rfl (lv_at hl 0 rfl) ?_
          refine lv_iload_n hx hb d_RE_turnToElse_76 rfl (lv_at hl 2 rfl) ?_
          have g77 : vp_in x2 5000 := vp_in_iff.mpr ⟨by (first | (apply Int.le_antisymm <;> omega) | omega), by (first | (apply Int.le_antisymm <;> omega) | omega)⟩
          refine va_iast hx hb hK hP hD hS 3 1 rfl rfl g77 d_RE_turnToElse_77 (fun H locs hP hD hS => ?_)
          have hP : va_P (dC, dI) cls (wz_4 h0 aw ac pa lim 1 cc ao oc ac afi alk alt cl aop ava apt ael lc alb aop cop gop ael cel (upd gel x2.toNatClampNeg p0) ao co go) H := hP
          have hD : va_D A (wz_4 h0 aw ac pa lim 1 cc ao oc ac afi alk alt cl aop ava apt ael lc alb aop cop gop ael cel (upd gel x2.toNatClampNeg p0) ao co go) := hD
          generalize ef5 : upd gel x2.toNatClampNeg p0 = f5 at hP hD
          have hP9 := hP.sb (wq := (wz_4 h0 aw ac pa lim 1 cc ao oc ac afi alk alt cl aop ava apt ael lc alb aop cop gop ael cel f5 ao co go)) [0, 1, 2, 3, 4] rfl
          have hD9 := hD.sb (wq := (wz_4 h0 aw ac pa lim 1 cc ao oc ac afi alk alt cl aop ava apt ael lc alb aop cop gop ael cel f5 ao co go)) [0, 1, 2, 3, 4] (by decide) rfl
          exact W.vret hx hb hr (fun t ht hW => ⟨⟨(pa, 1, oc, cl, lc, gop, f5, go), rfl, ⟨(Or.inr rfl), rfl, rfl, rfl, rfl, rfl, rfl, fun z => ⟨by (first | (apply Int.le_antisymm <;> omega) | omega), by (try dsimp only); rw [← topx2, ← ex3]; (first | (apply Int.le_antisymm <;> omega) | omega), by (try dsimp only); rw [← topx2, ← ex4]; (first | (apply Int.le_antisymm <;> omega) | omega), by (try dsimp only) <;> (rw [← topx2]; exact ef5.symm)⟩, fun z => absurd z (by (try dsimp only); (first | (apply Int.le_antisymm <;> omega) | omega))⟩, va_P.he ht.symm hP9, va_K.moved hW.alike hK, hD9⟩, hS.F ht⟩) hS.2.2 d_RE_turnToElse_78
abbrev b_RE_closeBlock : ByteArray := prog_9_method_13_code
def y_RE_closeBlock : MethodName := ⟨R_RE, "closeBlock", "(I)Z"⟩
abbrev w_RE_closeBlock : List Cond := .code y_RE_closeBlock b_RE_closeBlock 3 (Option.some .boolean) :: lw_g
theorem kC_RE_closeBlock : Cond.code y_RE_closeBlock b_RE_closeBlock 3 (Option.some .boolean) ∈ lw_g := in_c6 152 rfl rfl
theorem d_RE_closeBlock_0 : decode b_RE_closeBlock 0 = .ok (.aload_n 0, 1) := bz_c42 (by decide +kernel)
theorem d_RE_closeBlock_1 : decode b_RE_closeBlock 1 = .ok (.getfield 179, 3) := bz_c180 (by decide +kernel)
theorem d_RE_closeBlock_4 : decode b_RE_closeBlock 4 = .ok (.ifCond .ne 5, 3) := bz_c154 (by decide +kernel)
theorem d_RE_closeBlock_7 : decode b_RE_closeBlock 7 = .ok (.iconst 0, 1) := bz_c3 (by decide +kernel)
theorem d_RE_closeBlock_8 : decode b_RE_closeBlock 8 = .ok (.ireturn, 1) := bz_c172 (by decide +kernel)
theorem d_RE_closeBlock_9 : decode b_RE_closeBlock 9 = .ok (.aload_n 0, 1) := bz_c42 (by decide +kernel)
theorem d_RE_closeBlock_10 : decode b_RE_closeBlock 10 = .ok (.dup, 1) := bz_c89 (by decide +kernel)
theorem d_RE_closeBlock_11 : decode b_RE_closeBlock 11 = .ok (.getfield 179, 3) := bz_c180 (by decide +kernel)
theorem d_RE_closeBlock_14 : decode b_RE_closeBlock 14 = .ok (.iconst 1, 1) := bz_c4 (by decide +kernel)
theorem d_RE_closeBlock_15 : decode b_RE_closeBlock 15 = .ok (.isub, 1) := bz_c100 (by decide +kernel)
theorem d_RE_closeBlock_16 : decode b_RE_closeBlock 16 = .ok (.putfield 179, 3) := bz_c181 (by decide +kernel)
theorem d_RE_closeBlock_19 : decode b_RE_closeBlock 19 = .ok (.aload_n 0, 1) := bz_c42 (by decide +kernel)
theorem d_RE_closeBlock_20 : decode b_RE_closeBlock 20 = .ok (.getfield 9, 3) := bz_c180 (by decide +kernel)
theorem d_RE_closeBlock_23 : decode b_RE_closeBlock 23 = .ok (.aload_n 0, 1) := bz_c42 (by decide +kernel)
theorem d_RE_closeBlock_24 : decode b_RE_closeBlock 24 = .ok (.getfield 179, 3) := bz_c180 (by decide +kernel)
theorem d_RE_closeBlock_27 : decode b_RE_closeBlock 27 = .ok (.iaload, 1) := bz_c46 (by decide +kernel)
theorem d_RE_closeBlock_28 : decode b_RE_closeBlock 28 = .ok (.istore_n 2, 1) := bz_c61 (by decide +kernel)
theorem d_RE_closeBlock_29 : decode b_RE_closeBlock 29 = .ok (.aload_n 0, 1) := bz_c42 (by decide +kernel)
theorem d_RE_closeBlock_30 : decode b_RE_closeBlock 30 = .ok (.getfield 25, 3) := bz_c180 (by decide +kernel)
theorem d_RE_closeBlock_33 : decode b_RE_closeBlock 33 = .ok (.getfield 200, 3) := bz_c180 (by decide +kernel)
theorem d_RE_closeBlock_36 : decode b_RE_closeBlock 36 = .ok (.iload_n 2, 1) := bz_c28 (by decide +kernel)
theorem d_RE_closeBlock_37 : decode b_RE_closeBlock 37 = .ok (.iload_n 1, 1) := bz_c27 (by decide +kernel)
theorem d_RE_closeBlock_38 : decode b_RE_closeBlock 38 = .ok (.iastore, 1) := bz_c79 (by decide +kernel)
theorem d_RE_closeBlock_39 : decode b_RE_closeBlock 39 = .ok (.aload_n 0, 1) := bz_c42 (by decide +kernel)
theorem d_RE_closeBlock_40 : decode b_RE_closeBlock 40 = .ok (.getfield 25, 3) := bz_c180 (by decide +kernel)
theorem d_RE_closeBlock_43 : decode b_RE_closeBlock 43 = .ok (.getfield 203, 3) := bz_c180 (by decide +kernel)
theorem d_RE_closeBlock_46 : decode b_RE_closeBlock 46 = .ok (.iload_n 2, 1) := bz_c28 (by decide +kernel)
theorem d_RE_closeBlock_47 : decode b_RE_closeBlock 47 = .ok (.iaload, 1) := bz_c46 (by decide +kernel)
theorem d_RE_closeBlock_48 : decode b_RE_closeBlock 48 = .ok (.ifCond .lt 21, 3) := bz_c155 (by decide +kernel)
theorem d_RE_closeBlock_51 : decode b_RE_closeBlock 51 = .ok (.aload_n 0, 1) := bz_c42 (by decide +kernel)
theorem d_RE_closeBlock_52 : decode b_RE_closeBlock 52 = .ok (.getfield 25, 3) := bz_c180 (by decide +kernel)
theorem d_RE_closeBlock_55 : decode b_RE_closeBlock 55 = .ok (.getfield 200, 3) := bz_c180 (by decide +kernel)
theorem d_RE_closeBlock_58 : decode b_RE_closeBlock 58 = .ok (.aload_n 0, 1) := bz_c42 (by decide +kernel)
theorem d_RE_closeBlock_59 : decode b_RE_closeBlock 59 = .ok (.getfield 25, 3) := bz_c180 (by decide +kernel)
theorem d_RE_closeBlock_62 : decode b_RE_closeBlock 62 = .ok (.getfield 203, 3) := bz_c180 (by decide +kernel)
theorem d_RE_closeBlock_65 : decode b_RE_closeBlock 65 = .ok (.iload_n 2, 1) := bz_c28 (by decide +kernel)
theorem d_RE_closeBlock_66 : decode b_RE_closeBlock 66 = .ok (.iaload, 1) := bz_c46 (by decide +kernel)
theorem d_RE_closeBlock_67 : decode b_RE_closeBlock 67 = .ok (.iload_n 1, 1) := bz_c27 (by decide +kernel)
theorem d_RE_closeBlock_68 : decode b_RE_closeBlock 68 = .ok (.iastore, 1) := bz_c79 (by decide +kernel)
theorem d_RE_closeBlock_69 : decode b_RE_closeBlock 69 = .ok (.iconst 1, 1) := bz_c4 (by decide +kernel)
theorem d_RE_closeBlock_70 : decode b_RE_closeBlock 70 = .ok (.ireturn, 1) := bz_c172 (by decide +kernel)
theorem kF_RE_200 : Cond.fieldLink R_RE 200 "WaferForge$Codes" "partners" "[I" ∈ lw_g := in_c1 108 rfl rfl
abbrev at_RE_closeBlock (dC : Nat → ClassId) (dI : Nat → Nat → Nat) (h0 aw ac ao ab ax : Nat) (lim cc : Int32) (afi alk alt aop ava apt ael alb : Nat) (cpt : ClassId) (cel : ClassId) (co : ClassId) (A : Nat → Prop) (u : Int32 × Int32 × Int32 × Int32 × Int32 × (Nat → Int32) × (Nat → Int32) × (Nat → Int32)) (t : State) : Prop := match u with
  | (pa, snd, oc, cl, lc, gpt, gel, go) => va_P (dC, dI) cls (wz_4 h0 aw ac pa lim snd cc ao oc ac afi alk alt cl aop ava apt ael lc alb apt cpt gpt ael cel gel ao co go) t.heap ∧ va_K (dC, dI) cls [(cpt, .int), (cel, .int), (co, .int)] t ∧ va_D A (wz_4 h0 aw ac pa lim snd cc ao oc ac afi alk alt cl aop ava apt ael lc alb apt cpt gpt ael cel gel ao co go)
set_option maxHeartbeats 4000000 in
set_option maxRecDepth 100000 in
theorem c_RE_closeBlock (l : Launch) (dC : Nat → ClassId) (dI : Nat → Nat → Nat) (sz : Nat) (h0 aw ac ao ab ax : Nat) (lim cc : Int32) (afi alk alt aop ava apt ael alb : Nat) (cpt : ClassId) (cel : ClassId) (co : ClassId) (pa : Int32) (snd : Int32) (oc : Int32) (cl : Int32) (lc : Int32) (gpt : Nat → Int32) (gel : Nat → Int32) (go : Nat → Int32) (hs : snd = 0 ∨ snd = 1) (ho : 0 ≤ oc.toInt ∧ oc.toInt ≤ 100) (p0 : Int32) (hgo : ∀ j : Nat, (j : Int) < oc.toInt → 0 ≤ (go j).toInt ∧ (go j).toInt < 5000) (hel : ∀ j : Nat, (gel j).toInt < 5000) : Met l y_RE_closeBlock w_RE_closeBlock ({ frames := 0, cells := 0, slots := 0, locals := 0 }) (va_Pc [.ref h0, .int p0] (fun U => U.heap.size = sz ∧ va_P (dC, dI) cls (wz_4 h0 aw ac pa lim snd cc ao oc ac afi alk alt cl aop ava apt ael lc alb apt cpt gpt ael cel gel ao co go) U.heap ∧ va_K (dC, dI) cls [(cpt, .int), (cel, .int), (co, .int)] U ∧ va_D (fun _ => True) (wz_4 h0 aw ac pa lim snd cc ao oc ac afi alk alt cl aop ava apt ael lc alb apt cpt gpt ael cel gel ao co go))) (va_Qi (fun (r : Int32) (u : Int32 × Int32 × Int32 × Int32 × Int32 × (Nat → Int32) × (Nat → Int32) × (Nat → Int32)) => match u with | (pa2, snd2, oc2, cl2, lc2, gpt2, gel2, go2) => (r = 0 ∨ r = 1) ∧ pa = pa2 ∧ snd = snd2 ∧ cl = cl2 ∧ lc = lc2 ∧ gel = gel2 ∧ go = go2 ∧ (r.toInt = 0 → oc.toInt = 0 ∧ oc = oc2 ∧ gpt2 = gpt) ∧ (r.toInt = 1 → 0 < oc.toInt ∧ oc2.toInt = oc.toInt - 1 ∧ gpt2 = if 0 ≤ (gel (go (oc.toNatClampNeg - 1)).toNatClampNeg).toInt then upd (upd gpt (go (oc.toNatClampNeg - 1)).toNatClampNeg p0) (gel (go (oc.toNatClampNeg - 1)).toNatClampNeg).toNatClampNeg p0 else upd gpt (go (oc.toNatClampNeg - 1)).toNatClampNeg p0)) (at_RE_closeBlock dC dI h0 aw ac ao ab ax lim cc afi alk alt aop ava apt ael alb cpt cel co (va_A (wz_4 h0 aw ac pa lim snd cc ao oc ac afi alk alt cl aop ava apt ael lc alb apt cpt gpt ael cel gel ao co go) sz)) (va_A (wz_4 h0 aw ac pa lim snd cc ao oc ac afi alk alt cl aop ava apt ael lc alb apt cpt gpt ael cel gel ao co go) sz)) 0 0 (va_A (wz_4 h0 aw ac pa lim snd cc ao oc ac afi alk alt cl aop ava apt ael lc alb apt cpt gpt ael cel gel ao co go) sz) := by
  refine Met.ofW (cc := b_RE_closeBlock) (maxL := 3) (ret := (Option.some .boolean)) (by decide) rfl ?_
  intro p e s m args below meth c s₁ B hml hv
  obtain ⟨rfl, hsz, hP, hK, hD0⟩ := hv
  have hx := B.exec
  have hb := B.bytes
  have hr := B.returns
  have hts0 := atoms_spec (ws := w_RE_closeBlock) B.pre
  have hts : ∀ w ∈ lw_g, w.before _ s = true := fun w h => hts0 w (List.mem_cons_of_mem _ h)
  have hown : s.vm.findClass R_RE = some m.cls := findClass_of_methodNamed B.named
  have hlocks := B.notSynchronized
  clear hts0
  subst hsz
  have hD := hD0.self (sz := s.heap.size)
  generalize hAe : va_A (wz_4 h0 aw ac pa lim snd cc ao oc ac afi alk alt cl aop ava apt ael lc alb apt cpt gpt ael cel gel ao co go) s.heap.size = A at hD ⊢
  have hA : ∀ q : Nat, s.heap.size ≤ q → A q := fun q h => by rw [← hAe]; exact Or.inr h
  clear hAe
  have hP : va_P (dC, dI) cls (wz_4 h0 aw ac pa lim snd cc ao oc ac afi alk alt cl aop ava apt ael lc alb apt cpt gpt ael cel gel ao co go) s.heap := hP
  have hl := lv_entry ([.ref h0, .int p0]) (n := 3) (Nat.le_of_ble_eq_true rfl)
  rw [lg_entry_eq]
  generalize (lg_sl ([.ref h0, .int p0]) ++ List.replicate (3 - (lg_sl ([.ref h0, .int p0])).length) Slot.unset).toArray = ls at hl ⊢
  have hl : lv_has ls 3 [(0, .ref h0), (1, .int p0)] := hl
  have k0 : (0 : Int32).toInt = 0 := by decide
  refine w_gen (A := A) hP (fun H locs hP hS => ?_)
  have lo_p0 := i32_lo p0
  have hi_p0 := i32_hi p0
  have hs0 := b01 hs
  refine lv_aload_n hx hb d_RE_closeBlock_0 rfl (lv_at hl 0 rfl) ?_
  refine va_get (D := (dC, dI)) (ci := 7) (v := .int oc) (C := R_RE) (T := F_RE) (N := 8) hx hb hts i_RE hown hK hP 0 rfl rfl 7 (by decide) (hts _ kF_RE_179) (fun _ h9 => h9) rfl d_RE_closeBlock_1 ?_
  refine lv_if_ne (tgt := 9) hx hb d_RE_closeBlock_4 (by decide) (fun c4 => ?_) (fun c4 => ?_)
  · have q4 := neI c4
    refine lv_aload_n hx hb d_RE_closeBlock_9 rfl (lv_at hl 0 rfl) ?_
    refine lv_dup hx hb d_RE_closeBlock_10 rfl ?_
    refine va_get (D := (dC, dI)) (ci := 7) (v := .int oc) (C := R_RE) (T := F_RE) (N := 8) hx hb hts i_RE hown hK hP 0 rfl rfl 7 (by decide) (hts _ kF_RE_179) (fun _ h9 => h9) rfl d_RE_closeBlock_11 ?_
    refine lv_iconst (v := 1) hx hb d_RE_closeBlock_14 (by decide) ?_
    have k1 : (1 : Int32).toInt = 1 := by decide
    refine lv_isub hx hb d_RE_closeBlock_15 ?_
    refine lv_topi (fun x1 ex1 => ?_)
    have tx1 : x1.toInt = oc.toInt - 1 := by have z := i32_sub ex1 (by (first | (apply Int.le_antisymm <;> omega) | omega)) (by (first | (apply Int.le_antisymm <;> omega) | omega)); first | exact z | (first | (apply Int.le_antisymm <;> omega) | omega)
    refine va_put (D := (dC, dI)) (ci := 7) (v := .int x1) (ty := .int) (C := R_RE) (T := F_RE) (N := 8) hx hb hts i_RE t_RE t_RE_ok n_RE hown hK hP hD hS 0 rfl rfl 7 (by decide) (hts _ kF_RE_179) (fun _ h9 => h9) rfl (by decide +kernel) rfl rfl (Nat.le_of_ble_eq_true rfl) d_RE_closeBlock_16 (fun H locs hP hD hS => ?_)
    have hP : va_P (dC, dI) cls (wz_4 h0 aw ac pa lim snd cc ao x1 ac afi alk alt cl aop ava apt ael lc alb apt cpt gpt ael cel gel ao co go) H := hP
    have hD : va_D A (wz_4 h0 aw ac pa lim snd cc ao x1 ac afi alk alt cl aop ava apt ael lc alb apt cpt gpt ael cel gel ao co go) := hD
    refine lv_aload_n hx hb d_RE_closeBlock_19 rfl (lv_at hl 0 rfl) ?_
    refine va_get (D := (dC, dI)) (ci := 7) (v := .ref ao) (C := R_RE) (T := F_RE) (N := 8) hx hb hts i_RE hown hK hP 0 rfl rfl 6 (by decide) (hts _ kF_RE_9) (fun _ h9 => h9) rfl d_RE_closeBlock_20 ?_
    refine lv_aload_n hx hb d_RE_closeBlock_23 rfl (lv_at hl 0 rfl) ?_
    refine va_get (D := (dC, dI)) (ci := 7) (v := .int x1) (C := R_RE) (T := F_RE) (N := 8) hx hb hts i_RE hown hK hP 0 rfl rfl 7 (by decide) (hts _ kF_RE_179) (fun _ h9 => h9) rfl d_RE_closeBlock_24 ?_
    have g27 : vp_in x1 100 := vp_in_iff.mpr ⟨by (first | (apply Int.le_antisymm <;> omega) | omega), by (first | (apply Int.le_antisymm <;> omega) | omega)⟩
    refine va_iald hx hb hK hP 4 2 rfl rfl g27 d_RE_closeBlock_27 ?_
    refine lv_topi (fun x2 ex2 => ?_)
    have yx2 := i32_clamp (x := x1) (by (first | (apply Int.le_antisymm <;> omega) | omega))
    have tx2 := hgo x1.toNatClampNeg (by (first | (apply Int.le_antisymm <;> omega) | omega))
    rw [← ex2] at tx2
    have topx2 : x2 = go (oc.toNatClampNeg - 1) := by rw [ex2]; congr 1; have := i32_clamp (x := oc) (by (first | (apply Int.le_antisymm <;> omega) | omega)); (first | (apply Int.le_antisymm <;> omega) | omega)
    refine lv_istore_n (lv' := [(2, .int x2), (0, .ref h0), (1, .int p0)]) hx hb d_RE_closeBlock_28 rfl hl (by decide) rfl (fun ls hl => ?_)
    refine lv_aload_n hx hb d_RE_closeBlock_29 rfl (lv_at hl 1 rfl) ?_
    refine va_get (D := (dC, dI)) (ci := 7) (v := .ref ac) (C := R_RE) (T := F_RE) (N := 8) hx hb hts i_RE hown hK hP 0 rfl rfl 1 (by decide) (hts _ kF_RE_25) (fun _ h9 => h9) rfl d_RE_closeBlock_30 ?_
    refine va_get (D := (dC, dI)) (ci := 3) (v := .ref apt) (C := R_CD) (T := F_CD) (N := 10) hx hb hts i_CD hown hK hP 1 rfl rfl 6 (by decide) (hts _ kF_RE_200) (fun _ h9 => h9) rfl d_RE_closeBlock_33 ?_
    refine lv_iload_n hx hb d_RE_closeBlock_36 rfl (lv_at hl 0 rfl) ?_
    refine lv_iload_n hx hb d_RE_closeBlock_37 rfl (lv_at hl 2 rfl) ?_
    have g38 : vp_in x2 5000 := vp_in_iff.mpr ⟨by (first | (apply Int.le_antisymm <;> omega) | omega), by (first | (apply Int.le_antisymm <;> omega) | omega)⟩
    refine va_iast hx hb hK hP hD hS 2 0 rfl rfl g38 d_RE_closeBlock_38 (fun H locs hP hD hS => ?_)
    have hP : va_P (dC, dI) cls (wz_4 h0 aw ac pa lim snd cc ao x1 ac afi alk alt cl aop ava apt ael lc alb apt cpt (upd gpt x2.toNatClampNeg p0) ael cel gel ao co go) H := hP
    have hD : va_D A (wz_4 h0 aw ac pa lim snd cc ao x1 ac afi alk alt cl aop ava apt ael lc alb apt cpt (upd gpt x2.toNatClampNeg p0) ael cel gel ao co go) := hD
    generalize ef3 : upd gpt x2.toNatClampNeg p0 = f3 at hP hD
    refine lv_aload_n hx hb d_RE_closeBlock_39 rfl (lv_at hl 1 rfl) ?_
    refine va_get (D := (dC, dI)) (ci := 7) (v := .ref ac) (C := R_RE) (T := F_RE) (N := 8) hx hb hts i_RE hown hK hP 0 rfl rfl 1 (by decide) (hts _ kF_RE_25) (fun _ h9 => h9) rfl d_RE_closeBlock_40 ?_
    refine va_get (D := (dC, dI)) (ci := 3) (v := .ref ael) (C := R_CD) (T := F_CD) (N := 10) hx hb hts i_CD hown hK hP 1 rfl rfl 7 (by decide) (hts _ kF_RE_203) (fun _ h9 => h9) rfl d_RE_closeBlock_43 ?_
    refine lv_iload_n hx hb d_RE_closeBlock_46 rfl (lv_at hl 0 rfl) ?_
    have g47 : vp_in x2 5000 := vp_in_iff.mpr ⟨by (first | (apply Int.le_antisymm <;> omega) | omega), by (first | (apply Int.le_antisymm <;> omega) | omega)⟩
    refine va_iald hx hb hK hP 3 1 rfl rfl g47 d_RE_closeBlock_47 ?_
    refine lv_topi (fun x4 ex4 => ?_)
    have tx4 := hel x2.toNatClampNeg
    rw [← ex4] at tx4
    refine lv_if_lt (tgt := 69) hx hb d_RE_closeBlock_48 (by decide) (fun c48 => ?_) (fun c48 => ?_)
    · have q48 := ltI c48
      refine lv_iconst (v := 1) hx hb d_RE_closeBlock_69 (by decide) ?_
      have k1 : (1 : Int32).toInt = 1 := by decide
      have hP9 := hP.sb (wq := (wz_4 h0 aw ac pa lim snd cc ao x1 ac afi alk alt cl aop ava apt ael lc alb apt cpt f3 ael cel gel ao co go)) [0, 1, 2, 3, 4] rfl
      have hD9 := hD.sb (wq := (wz_4 h0 aw ac pa lim snd cc ao x1 ac afi alk alt cl aop ava apt ael lc alb apt cpt f3 ael cel gel ao co go)) [0, 1, 2, 3, 4] (by decide) rfl
      exact W.zret (v := 1) hx hb hr (zn01 (by first | exact Or.inl rfl | exact Or.inr rfl)) (fun t ht hW => ⟨⟨1, (pa, snd, x1, cl, lc, f3, gel, go), rfl, ⟨Or.inr rfl, rfl, rfl, rfl, rfl, rfl, rfl, fun z => absurd z (by (first | (apply Int.le_antisymm <;> omega) | omega)), fun z => ⟨by (first | (apply Int.le_antisymm <;> omega) | omega), by (try dsimp only at z); (try dsimp only); (first | (apply Int.le_antisymm <;> omega) | omega), by (try dsimp only); rw [← topx2, ← ex4]; rw [if_neg (by (first | (apply Int.le_antisymm <;> omega) | omega))]; exact ef3.symm⟩⟩, va_P.he ht.symm hP9, va_K.moved hW.alike hK, hD9⟩, hS.F ht⟩) hS.2.2 d_RE_closeBlock_70
    · have q48 := nltI c48
      refine lv_aload_n hx hb d_RE_closeBlock_51 rfl (lv_at hl 1 rfl) ?_
      refine va_get (D := (dC, dI)) (ci := 7) (v := .ref ac) (C := R_RE) (T := F_RE) (N := 8) hx hb hts i_RE hown hK hP 0 rfl rfl 1 (by decide) (hts _ kF_RE_25) (fun _ h9 => h9) rfl d_RE_closeBlock_52 ?_
      refine va_get (D := (dC, dI)) (ci := 3) (v := .ref apt) (C := R_CD) (T := F_CD) (N := 10) hx hb hts i_CD hown hK hP 1 rfl rfl 6 (by decide) (hts _ kF_RE_200) (fun _ h9 => h9) rfl d_RE_closeBlock_55 ?_
      refine lv_aload_n hx hb d_RE_closeBlock_58 rfl (lv_at hl 1 rfl) ?_
      refine va_get (D := (dC, dI)) (ci := 7) (v := .ref ac) (C := R_RE) (T := F_RE) (N := 8) hx hb hts i_RE hown hK hP 0 rfl rfl 1 (by decide) (hts _ kF_RE_25) (fun _ h9 => h9) rfl d_RE_closeBlock_59 ?_
      refine va_get (D := (dC, dI)) (ci := 3) (v := .ref ael) (C := R_CD) (T := F_CD) (N := 10) hx hb hts i_CD hown hK hP 1 rfl rfl 7 (by decide) (hts _ kF_RE_203) (fun _ h9 => h9) rfl d_RE_closeBlock_62 ?_
      refine lv_iload_n hx hb d_RE_closeBlock_65 rfl (lv_at hl 0 rfl) ?_
      have g66 : vp_in x2 5000 := vp_in_iff.mpr ⟨by (first | (apply Int.le_antisymm <;> omega) | omega), by (first | (apply Int.le_antisymm <;> omega) | omega)⟩
      refine va_iald hx hb hK hP 3 1 rfl rfl g66 d_RE_closeBlock_66 ?_
      refine lv_topi (fun x5 ex5 => ?_)
      have dx5 : x5 = x4 := by rw [ex5, ex4]
      have qx5 := eqI dx5
      refine lv_iload_n hx hb d_RE_closeBlock_67 rfl (lv_at hl 2 rfl) ?_
      have g68 : vp_in x5 5000 := vp_in_iff.mpr ⟨by (first | (apply Int.le_antisymm <;> omega) | omega), by (first | (apply Int.le_antisymm <;> omega) | omega)⟩
      refine va_iast hx hb hK hP hD hS 2 0 rfl rfl g68 d_RE_closeBlock_68 (fun H locs hP hD hS => ?_)
      have hP : va_P (dC, dI) cls (wz_4 h0 aw ac pa lim snd cc ao x1 ac afi alk alt cl aop ava apt ael lc alb apt cpt (upd f3 x5.toNatClampNeg p0) ael cel gel ao co go) H := hP
      have hD : va_D A (wz_4 h0 aw ac pa lim snd cc ao x1 ac afi alk alt cl aop ava apt ael lc alb apt cpt (upd f3 x5.toNatClampNeg p0) ael cel gel ao co go) := hD
      generalize ef6 : upd f3 x5.toNatClampNeg p0 = f6 at hP hD
      refine lv_iconst (v := 1) hx hb d_RE_closeBlock_69 (by decide) ?_
      have k1 : (1 : Int32).toInt = 1 := by decide
      have hP9 := hP.sb (wq := (wz_4 h0 aw ac pa lim snd cc ao x1 ac afi alk alt cl aop ava apt ael lc alb apt cpt f6 ael cel gel ao co go)) [0, 1, 2, 3, 4] rfl
      have hD9 := hD.sb (wq := (wz_4 h0 aw ac pa lim snd cc ao x1 ac afi alk alt cl aop ava apt ael lc alb apt cpt f6 ael cel gel ao co go)) [0, 1, 2, 3, 4] (by decide) rfl
      exact W.zret (v := 1) hx hb hr (zn01 (by first | exact Or.inl rfl | exact Or.inr rfl)) (fun t ht hW => ⟨⟨1, (pa, snd, x1, cl, lc, f6, gel, go), rfl, ⟨Or.inr rfl, rfl, rfl, rfl, rfl, rfl, rfl, fun z => absurd z (by (first | (apply Int.le_antisymm <;> omega) | omega)), fun z => ⟨by (first | (apply Int.le_antisymm <;> omega) | omega), by (try dsimp only at z); (try dsimp only); (first | (apply Int.le_antisymm <;> omega) | omega), by (try dsimp only); rw [← topx2, ← ex4]; rw [if_pos (by (first | (apply Int.le_antisymm <;> omega) | omega)), ← ef6, dx5, ef3]⟩⟩, va_P.he ht.symm hP9, va_K.moved hW.alike hK, hD9⟩, hS.F ht⟩) hS.2.2 d_RE_closeBlock_70
  · have q4 := eqI c4
    refine lv_iconst (v := 0) hx hb d_RE_closeBlock_7 (by decide) ?_
    have k0 : (0 : Int32).toInt = 0 := by decide
    have hP9 := hP.sb (wq := (wz_4 h0 aw ac pa lim snd cc ao oc ac afi alk alt cl aop ava apt ael lc alb apt cpt gpt ael cel gel ao co go)) [0, 1, 2, 3, 4] rfl
    have hD9 := hD.sb (wq := (wz_4 h0 aw ac pa lim snd cc ao oc ac afi alk alt cl aop ava apt ael lc alb apt cpt gpt ael cel gel ao co go)) [0, 1, 2, 3, 4] (by decide) rfl
    exact W.zret (v := 0) hx hb hr (zn01 (by first | exact Or.inl rfl | exact Or.inr rfl)) (fun t ht hW => ⟨⟨0, (pa, snd, oc, cl, lc, gpt, gel, go), rfl, ⟨Or.inl rfl, rfl, rfl, rfl, rfl, rfl, rfl, fun z => ⟨by (first | (apply Int.le_antisymm <;> omega) | omega), rfl, rfl⟩, fun z => absurd z (by (first | (apply Int.le_antisymm <;> omega) | omega))⟩, va_P.he ht.symm hP9, va_K.moved hW.alike hK, hD9⟩, hS.F ht⟩) hS.2.2 d_RE_closeBlock_8
abbrev b_RE_readTable : ByteArray := prog_9_method_14_code
def y_RE_readTable : MethodName := ⟨R_RE, "readTable", "(I)V"⟩
abbrev w_RE_readTable : List Cond := .code y_RE_readTable b_RE_readTable 4 none :: lw_g
theorem kC_RE_readTable : Cond.code y_RE_readTable b_RE_readTable 4 none ∈ lw_g := in_c6 156 rfl rfl
theorem d_RE_readTable_0 : decode b_RE_readTable 0 = .ok (.aload_n 0, 1) := bz_c42 (by decide +kernel)
theorem d_RE_readTable_1 : decode b_RE_readTable 1 = .ok (.ldc2_w 223, 3) := bz_c20 (by decide +kernel)
theorem d_RE_readTable_4 : decode b_RE_readTable 4 = .ok (.invokevirtual 64, 3) := bz_c182 (by decide +kernel)
theorem d_RE_readTable_7 : decode b_RE_readTable 7 = .ok (.l2i, 1) := bz_c136 (by decide +kernel)
theorem d_RE_readTable_8 : decode b_RE_readTable 8 = .ok (.istore_n 2, 1) := bz_c61 (by decide +kernel)
theorem d_RE_readTable_9 : decode b_RE_readTable 9 = .ok (.aload_n 0, 1) := bz_c42 (by decide +kernel)
theorem d_RE_readTable_10 : decode b_RE_readTable 10 = .ok (.aload_n 0, 1) := bz_c42 (by decide +kernel)
theorem d_RE_readTable_11 : decode b_RE_readTable 11 = .ok (.getfield 45, 3) := bz_c180 (by decide +kernel)
theorem d_RE_readTable_14 : decode b_RE_readTable 14 = .ok (.ifCond .eq 27, 3) := bz_c153 (by decide +kernel)
theorem d_RE_readTable_17 : decode b_RE_readTable 17 = .ok (.aload_n 0, 1) := bz_c42 (by decide +kernel)
theorem d_RE_readTable_18 : decode b_RE_readTable 18 = .ok (.getfield 25, 3) := bz_c180 (by decide +kernel)
theorem d_RE_readTable_21 : decode b_RE_readTable 21 = .ok (.getfield 225, 3) := bz_c180 (by decide +kernel)
theorem d_RE_readTable_24 : decode b_RE_readTable 24 = .ok (.iload_n 2, 1) := bz_c28 (by decide +kernel)
theorem d_RE_readTable_25 : decode b_RE_readTable 25 = .ok (.iadd, 1) := bz_c96 (by decide +kernel)
theorem d_RE_readTable_26 : decode b_RE_readTable 26 = .ok (.aload_n 0, 1) := bz_c42 (by decide +kernel)
theorem d_RE_readTable_27 : decode b_RE_readTable 27 = .ok (.getfield 25, 3) := bz_c180 (by decide +kernel)
theorem d_RE_readTable_30 : decode b_RE_readTable 30 = .ok (.getfield 228, 3) := bz_c180 (by decide +kernel)
theorem d_RE_readTable_33 : decode b_RE_readTable 33 = .ok (.arraylength, 1) := bz_c190 (by decide +kernel)
theorem d_RE_readTable_34 : decode b_RE_readTable 34 = .ok (.if_icmp .ge 7, 3) := bz_c162 (by decide +kernel)
theorem d_RE_readTable_37 : decode b_RE_readTable 37 = .ok (.iconst 1, 1) := bz_c4 (by decide +kernel)
theorem d_RE_readTable_38 : decode b_RE_readTable 38 = .ok (.goto 4, 3) := bz_c167 (by decide +kernel)
theorem d_RE_readTable_41 : decode b_RE_readTable 41 = .ok (.iconst 0, 1) := bz_c3 (by decide +kernel)
theorem d_RE_readTable_42 : decode b_RE_readTable 42 = .ok (.putfield 45, 3) := bz_c181 (by decide +kernel)
theorem d_RE_readTable_45 : decode b_RE_readTable 45 = .ok (.aload_n 0, 1) := bz_c42 (by decide +kernel)
theorem d_RE_readTable_46 : decode b_RE_readTable 46 = .ok (.getfield 45, 3) := bz_c180 (by decide +kernel)
theorem d_RE_readTable_49 : decode b_RE_readTable 49 = .ok (.ifCond .eq 73, 3) := bz_c153 (by decide +kernel)
theorem d_RE_readTable_52 : decode b_RE_readTable 52 = .ok (.aload_n 0, 1) := bz_c42 (by decide +kernel)
theorem d_RE_readTable_53 : decode b_RE_readTable 53 = .ok (.getfield 25, 3) := bz_c180 (by decide +kernel)
theorem d_RE_readTable_56 : decode b_RE_readTable 56 = .ok (.getfield 197, 3) := bz_c180 (by decide +kernel)
theorem d_RE_readTable_59 : decode b_RE_readTable 59 = .ok (.iload_n 1, 1) := bz_c27 (by decide +kernel)
theorem d_RE_readTable_60 : decode b_RE_readTable 60 = .ok (.aload_n 0, 1) := bz_c42 (by decide +kernel)
theorem d_RE_readTable_61 : decode b_RE_readTable 61 = .ok (.getfield 25, 3) := bz_c180 (by decide +kernel)
theorem d_RE_readTable_64 : decode b_RE_readTable 64 = .ok (.getfield 225, 3) := bz_c180 (by decide +kernel)
theorem d_RE_readTable_67 : decode b_RE_readTable 67 = .ok (.i2l, 1) := bz_c133 (by decide +kernel)
theorem d_RE_readTable_68 : decode b_RE_readTable 68 = .ok (.lastore, 1) := bz_c80 (by decide +kernel)
theorem d_RE_readTable_69 : decode b_RE_readTable 69 = .ok (.aload_n 0, 1) := bz_c42 (by decide +kernel)
theorem d_RE_readTable_70 : decode b_RE_readTable 70 = .ok (.getfield 25, 3) := bz_c180 (by decide +kernel)
theorem d_RE_readTable_73 : decode b_RE_readTable 73 = .ok (.getfield 200, 3) := bz_c180 (by decide +kernel)
theorem d_RE_readTable_76 : decode b_RE_readTable 76 = .ok (.iload_n 1, 1) := bz_c27 (by decide +kernel)
theorem d_RE_readTable_77 : decode b_RE_readTable 77 = .ok (.iload_n 2, 1) := bz_c28 (by decide +kernel)
theorem d_RE_readTable_78 : decode b_RE_readTable 78 = .ok (.iastore, 1) := bz_c79 (by decide +kernel)
theorem d_RE_readTable_79 : decode b_RE_readTable 79 = .ok (.iconst 0, 1) := bz_c3 (by decide +kernel)
theorem d_RE_readTable_80 : decode b_RE_readTable 80 = .ok (.istore_n 3, 1) := bz_c62 (by decide +kernel)
theorem d_RE_readTable_81 : decode b_RE_readTable 81 = .ok (.iload_n 3, 1) := bz_c29 (by decide +kernel)
theorem d_RE_readTable_82 : decode b_RE_readTable 82 = .ok (.iload_n 2, 1) := bz_c28 (by decide +kernel)
theorem d_RE_readTable_83 : decode b_RE_readTable 83 = .ok (.if_icmp .gt 39, 3) := bz_c163 (by decide +kernel)
theorem d_RE_readTable_86 : decode b_RE_readTable 86 = .ok (.aload_n 0, 1) := bz_c42 (by decide +kernel)
theorem d_RE_readTable_87 : decode b_RE_readTable 87 = .ok (.getfield 25, 3) := bz_c180 (by decide +kernel)
theorem d_RE_readTable_90 : decode b_RE_readTable 90 = .ok (.getfield 228, 3) := bz_c180 (by decide +kernel)
theorem d_RE_readTable_93 : decode b_RE_readTable 93 = .ok (.aload_n 0, 1) := bz_c42 (by decide +kernel)
theorem d_RE_readTable_94 : decode b_RE_readTable 94 = .ok (.getfield 25, 3) := bz_c180 (by decide +kernel)
theorem d_RE_readTable_97 : decode b_RE_readTable 97 = .ok (.dup, 1) := bz_c89 (by decide +kernel)
theorem d_RE_readTable_98 : decode b_RE_readTable 98 = .ok (.getfield 225, 3) := bz_c180 (by decide +kernel)
theorem d_RE_readTable_101 : decode b_RE_readTable 101 = .ok (.dup_x1, 1) := by decide +kernel
theorem d_RE_readTable_102 : decode b_RE_readTable 102 = .ok (.iconst 1, 1) := bz_c4 (by decide +kernel)
theorem d_RE_readTable_103 : decode b_RE_readTable 103 = .ok (.iadd, 1) := bz_c96 (by decide +kernel)
theorem d_RE_readTable_104 : decode b_RE_readTable 104 = .ok (.putfield 225, 3) := bz_c181 (by decide +kernel)
theorem d_RE_readTable_107 : decode b_RE_readTable 107 = .ok (.aload_n 0, 1) := bz_c42 (by decide +kernel)
theorem d_RE_readTable_108 : decode b_RE_readTable 108 = .ok (.ldc2_w 82, 3) := bz_c20 (by decide +kernel)
theorem d_RE_readTable_111 : decode b_RE_readTable 111 = .ok (.invokevirtual 64, 3) := bz_c182 (by decide +kernel)
theorem d_RE_readTable_114 : decode b_RE_readTable 114 = .ok (.l2i, 1) := bz_c136 (by decide +kernel)
theorem d_RE_readTable_115 : decode b_RE_readTable 115 = .ok (.iastore, 1) := bz_c79 (by decide +kernel)
theorem d_RE_readTable_116 : decode b_RE_readTable 116 = .ok (.iinc 3 1, 3) := by decide +kernel
theorem d_RE_readTable_119 : decode b_RE_readTable 119 = .ok (.goto (-38), 3) := bz_c167 (by decide +kernel)
theorem d_RE_readTable_122 : decode b_RE_readTable 122 = .ok (.return_, 1) := bz_c177 (by decide +kernel)
theorem kL_RE_223 : Cond.constantLong R_RE 223 (50) ∈ lw_g := in_c6 157 rfl rfl
theorem kM_RE_64 : Cond.methodLink R_RE 64 y_RE_readUnsigned ∈ lw_g := in_c6 85 rfl rfl
theorem kV_RE_readUnsigned : Cond.instanceMethod y_RE_readUnsigned ∈ lw_g := in_c6 87 rfl rfl
theorem kS_RE_readUnsigned : Cond.selects R_RE y_RE_readUnsigned y_RE_readUnsigned ∈ lw_g := in_s 63 (by decide +kernel) rfl
theorem kF_RE_225 : Cond.fieldLink R_RE 225 "WaferForge$Codes" "labelCount" "I" ∈ lw_g := in_c1 113 rfl rfl
theorem kF_RE_228 : Cond.fieldLink R_RE 228 "WaferForge$Codes" "labels" "[I" ∈ lw_g := in_c1 117 rfl rfl
theorem kL_RE_82 : Cond.constantLong R_RE 82 (2147483647) ∈ lw_g := in_c6 104 rfl rfl
abbrev at_RE_readTable (dC : Nat → ClassId) (dI : Nat → Nat → Nat) (h0 aw ac ao ab ax : Nat) (lim cc : Int32) (cB : ClassId) (n : Nat) (len : Int32) (f : Nat → Int32) (wf : List Value) (afi alk alt aop ava apt ael alb : Nat) (cva : ClassId) (cpt : ClassId) (clb : ClassId) (A : Nat → Prop) (u : Int32 × Int32 × Int32 × Int32 × Int32 × (Nat → Int64) × (Nat → Int32) × (Nat → Int32)) (t : State) : Prop := match u with
  | (pa, snd, oc, cl, lc, gva, gpt, glb) => va_P (dC, dI) cls (wz_5 h0 aw ac pa lim snd cc ao oc aw wf ab ax len ax cB n f ac afi alk alt cl aop ava apt ael lc alb ava cva gva apt cpt gpt alb clb glb) t.heap ∧ va_K (dC, dI) cls [(cB, .byte), (cva, .long), (cpt, .int), (clb, .int)] t ∧ va_D A (wz_5 h0 aw ac pa lim snd cc ao oc aw wf ab ax len ax cB n f ac afi alk alt cl aop ava apt ael lc alb ava cva gva apt cpt gpt alb clb glb)
set_option maxHeartbeats 4000000 in
set_option maxRecDepth 100000 in
theorem c_RE_readTable (l : Launch) (dC : Nat → ClassId) (dI : Nat → Nat → Nat) (sz : Nat) (h0 aw ac ao ab ax : Nat) (lim cc : Int32) (cB : ClassId) (n : Nat) (len : Int32) (f : Nat → Int32) (wf : List Value) (pwf : wf[0]? = some (.ref ab)) (pwl : wf.length = 21) (afi alk alt aop ava apt ael alb : Nat) (cva : ClassId) (cpt : ClassId) (clb : ClassId) (pa : Int32) (snd : Int32) (oc : Int32) (cl : Int32) (lc : Int32) (gva : Nat → Int64) (gpt : Nat → Int32) (glb : Nat → Int32) (hs : snd = 0 ∨ snd = 1) (ho : 0 ≤ oc.toInt ∧ oc.toInt ≤ 100) (ha : 0 ≤ pa.toInt ∧ pa.toInt ≤ lim.toInt ∧ lim.toInt ≤ len.toInt ∧ len.toInt ≤ n ∧ n < 2147483648) (p0 : Int32) (hp : 0 ≤ p0.toInt ∧ p0.toInt < 5000) (hlb : ∀ j : Nat, (j : Int) < lc.toInt → 0 ≤ (glb j).toInt) (hlc : 0 ≤ lc.toInt ∧ lc.toInt ≤ 2000) : Met l y_RE_readTable w_RE_readTable ({ frames := 2, cells := 0, slots := 0, locals := 46 }) (va_Pc [.ref h0, .int p0] (fun U => U.heap.size = sz ∧ va_P (dC, dI) cls (wz_5 h0 aw ac pa lim snd cc ao oc aw wf ab ax len ax cB n f ac afi alk alt cl aop ava apt ael lc alb ava cva gva apt cpt gpt alb clb glb) U.heap ∧ va_K (dC, dI) cls [(cB, .byte), (cva, .long), (cpt, .int), (clb, .int)] U ∧ va_D (fun _ => True) (wz_5 h0 aw ac pa lim snd cc ao oc aw wf ab ax len ax cB n f ac afi alk alt cl aop ava apt ael lc alb ava cva gva apt cpt gpt alb clb glb))) (va_Qv (fun (u : Int32 × Int32 × Int32 × Int32 × Int32 × (Nat → Int64) × (Nat → Int32) × (Nat → Int32)) => match u with | (pa2, snd2, oc2, cl2, lc2, gva2, gpt2, glb2) => (snd2 = 0 ∨ snd2 = 1) ∧ pa.toInt ≤ pa2.toInt ∧ pa2.toInt ≤ lim.toInt ∧ oc = oc2 ∧ cl = cl2 ∧ lc.toInt ≤ lc2.toInt ∧ lc2.toInt ≤ 2000 ∧ (∀ j : Nat, (j : Int) < lc2.toInt → 0 ≤ (glb2 j).toInt) ∧ (snd2.toInt = 1 → snd.toInt = 1 ∧ pa.toInt < pa2.toInt ∧ ∃ (b : Int32) (x : Int64), 0 ≤ b.toInt ∧ b.toInt ≤ 50 ∧ x.toInt = lc.toInt ∧ lc2.toInt = lc.toInt + b.toInt + 1 ∧ gva2 = vp_updL gva p0.toNatClampNeg x ∧ gpt2 = upd gpt p0.toNatClampNeg b)) (at_RE_readTable dC dI h0 aw ac ao ab ax lim cc cB n len f wf afi alk alt aop ava apt ael alb cva cpt clb (va_A (wz_5 h0 aw ac pa lim snd cc ao oc aw wf ab ax len ax cB n f ac afi alk alt cl aop ava apt ael lc alb ava cva gva apt cpt gpt alb clb glb) sz)) (va_A (wz_5 h0 aw ac pa lim snd cc ao oc aw wf ab ax len ax cB n f ac afi alk alt cl aop ava apt ael lc alb ava cva gva apt cpt gpt alb clb glb) sz)) 0 0 (va_A (wz_5 h0 aw ac pa lim snd cc ao oc aw wf ab ax len ax cB n f ac afi alk alt cl aop ava apt ael lc alb ava cva gva apt cpt gpt alb clb glb) sz) := by
  refine Met.ofW (cc := b_RE_readTable) (maxL := 4) (ret := none) (by decide) rfl ?_
  intro p e s m args below meth c s₁ B hml hv
  obtain ⟨rfl, hsz, hP, hK, hD0⟩ := hv
  have hx := B.exec
  have hb := B.bytes
  have hr := B.returns
  have hts0 := atoms_spec (ws := w_RE_readTable) B.pre
  have hts : ∀ w ∈ lw_g, w.before _ s = true := fun w h => hts0 w (List.mem_cons_of_mem _ h)
  have hown : s.vm.findClass R_RE = some m.cls := findClass_of_methodNamed B.named
  have hlocks := B.notSynchronized
  clear hts0
  subst hsz
  have hD := hD0.self (sz := s.heap.size)
  generalize hAe : va_A (wz_5 h0 aw ac pa lim snd cc ao oc aw wf ab ax len ax cB n f ac afi alk alt cl aop ava apt ael lc alb ava cva gva apt cpt gpt alb clb glb) s.heap.size = A at hD ⊢
  have hA : ∀ q : Nat, s.heap.size ≤ q → A q := fun q h => by rw [← hAe]; exact Or.inr h
  clear hAe
  have hP : va_P (dC, dI) cls (wz_5 h0 aw ac pa lim snd cc ao oc aw wf ab ax len ax cB n f ac afi alk alt cl aop ava apt ael lc alb ava cva gva apt cpt gpt alb clb glb) s.heap := hP
  have hl := lv_entry ([.ref h0, .int p0]) (n := 4) (Nat.le_of_ble_eq_true rfl)
  rw [lg_entry_eq]
  generalize (lg_sl ([.ref h0, .int p0]) ++ List.replicate (4 - (lg_sl ([.ref h0, .int p0])).length) Slot.unset).toArray = ls at hl ⊢
  have hl : lv_has ls 4 [(0, .ref h0), (1, .int p0)] := hl
  have k0 : (0 : Int32).toInt = 0 := by decide
  refine w_gen (A := A) hP (fun H locs hP hS => ?_)
  have lo_p0 := i32_lo p0
  have hi_p0 := i32_hi p0
  have hs0 := b01 hs
  refine lv_aload_n hx hb d_RE_readTable_0 rfl (lv_at hl 0 rfl) ?_
  refine lv_ldc2 hx hb hown (hts _ kL_RE_223) d_RE_readTable_1 ?_
  refine lv_topl (fun x1 ex1 => ?_)
  have tx1 : x1.toInt = 50 := by rw [ex1]; decide
  have hPc := hP.sb (wq := (wz_1 h0 aw ac pa lim snd cc ao oc aw wf ab ax len ax cB n f)) [0, 1, 2, 3] rfl
  have hDc := hD.sb (wq := (wz_1 h0 aw ac pa lim snd cc ao oc aw wf ab ax len ax cB n f)) [0, 1, 2, 3] (by decide) rfl
  have hKc := hK.sb (tyq := [(cB, .byte)]) [0] rfl
  have hFc := va_free (wc := (wz_1 h0 aw ac pa lim snd cc ao oc aw wf ab ax len ax cB n f)) hD hS hA [0, 1, 2, 3] rfl
  refine va_calll (va_runV (As := [.long x1]) (rest := []) ⟨hx, hb, hml, hown, hts⟩ (c_RE_readUnsigned l dC dI h0 aw ac ao ab ax H.size cB n pa lim snd cc oc len f wf pwf pwl hs (by (first | (apply Int.le_antisymm <;> omega) | omega)) x1 (by (first | (apply Int.le_antisymm <;> omega) | omega))) (cwV 1 hts (gV kM_RE_64 kV_RE_readUnsigned kS_RE_readUnsigned kI_RE kC_RE_readUnsigned) rfl rfl rfl (by decide +kernel) ⟨Nat.le_of_ble_eq_true rfl, Nat.le_of_ble_eq_true rfl⟩) ⟨fun a U g mk z => by obtain ⟨z0, z1, zP, zK, zD⟩ := z; exact ⟨z0, z1, zP, va_K.moved (u := U) (U := U.calling g mk a) (Vm.Alike.refl U.vm) zK, zD⟩, va_recv hKc hPc (ci := 7) (q0 := 0) rfl rfl, fun U hU hW => ⟨rfl, by rw [hU], va_P.he hU.symm hPc, va_K.moved hW.alike hKc, hDc.weaken (fun _ _ _ _ => trivial)⟩⟩ rfl rfl hl.1 rfl (lv_room (Nat.le_of_ble_eq_true rfl)) d_RE_readTable_4 ⟨(Nat.zero_le _), (Nat.zero_le _)⟩) hS (fun q _ h => hFc q h) hFc (fun r2 u t H1 locs ht hvm hw hB hz1 hk1 hS => ?_)
  obtain ⟨n3, n4⟩ := u
  try dsimp only at hw
  obtain ⟨hsn4, tn3⟩ := hw
  have bsn4 := b01 hsn4
  obtain ⟨hP1, hK1, hD1⟩ := hB
  replace hP1 := va_P.he ht hP1
  obtain ⟨hP, hD⟩ := va_join (wr := [(ac, .inr (3, [.ref afi, .ref alk, .ref alt, .int cl, .ref aop, .ref ava, .ref apt, .ref ael, .int lc, .ref alb])), (ava, .inl (cva, 5000, .inr (.inl gva))), (apt, .inl (cpt, 5000, .inl gpt)), (alb, .inl (clb, 2000, .inl glb))]) (w1 := (wz_1 h0 aw ac n3 lim n4 cc ao oc aw wf ab ax len ax cB n f)) hP hD [0, 1, 2, 3] [4, 5, 6, 7] rfl rfl (by decide) (by decide) hk1 hFc hP1 hD1
  clear hPc hDc hKc hFc hz1 hk1 hP1 hK1 hD1
  rename Heap => H
  have hP : va_P (dC, dI) cls (wz_6 ac afi alk alt cl aop ava apt ael lc alb ava cva gva apt cpt gpt alb clb glb h0 aw ac n3 lim n4 cc ao oc aw wf ab ax len ax cB n f) H := hP
  have hD : va_D A (wz_6 ac afi alk alt cl aop ava apt ael lc alb ava cva gva apt cpt gpt alb clb glb h0 aw ac n3 lim n4 cc ao oc aw wf ab ax len ax cB n f) := hD
  refine lv_l2i hx hb d_RE_readTable_7 rfl ?_
  refine lv_topi (fun x5 ex5 => ?_)
  have tx5 := l2i_t ex5 (by (first | (apply Int.le_antisymm <;> omega) | omega)) (by (first | (apply Int.le_antisymm <;> omega) | omega))
  refine lv_istore_n (lv' := [(2, .int x5), (0, .ref h0), (1, .int p0)]) hx hb d_RE_readTable_8 rfl hl (by decide) rfl (fun ls hl => ?_)
  refine lv_aload_n hx hb d_RE_readTable_9 rfl (lv_at hl 1 rfl) ?_
  refine lv_aload_n hx hb d_RE_readTable_10 rfl (lv_at hl 1 rfl) ?_
  refine va_get (D := (dC, dI)) (ci := 7) (v := .int n4) (C := R_RE) (T := F_RE) (N := 8) hx hb hts i_RE hown hK hP 4 rfl rfl 4 (by decide) (hts _ kF_RE_45) (fun _ h9 => h9) rfl d_RE_readTable_11 ?_
  refine lv_if_eq (tgt := 41) hx hb d_RE_readTable_14 (by decide) (fun c14 => ?_) (fun c14 => ?_)
  · have q14 := eqI c14
    refine lv_iconst (v := 0) hx hb d_RE_readTable_41 (by decide) ?_
    have k0 : (0 : Int32).toInt = 0 := by decide
    refine va_put (D := (dC, dI)) (ci := 7) (v := .int 0) (ty := .boolean) (C := R_RE) (T := F_RE) (N := 8) hx hb hts i_RE t_RE t_RE_ok n_RE hown hK hP hD hS 4 rfl rfl 4 (by decide) (hts _ kF_RE_45) (fun _ h9 => h9) rfl (by decide +kernel) rfl rfl (Nat.le_of_ble_eq_true rfl) d_RE_readTable_42 (fun H locs hP hD hS => ?_)
    have hP : va_P (dC, dI) cls (wz_6 ac afi alk alt cl aop ava apt ael lc alb ava cva gva apt cpt gpt alb clb glb h0 aw ac n3 lim 0 cc ao oc aw wf ab ax len ax cB n f) H := hP
    have hD : va_D A (wz_6 ac afi alk alt cl aop ava apt ael lc alb ava cva gva apt cpt gpt alb clb glb h0 aw ac n3 lim 0 cc ao oc aw wf ab ax len ax cB n f) := hD
    refine lv_aload_n hx hb d_RE_readTable_45 rfl (lv_at hl 1 rfl) ?_
    refine va_get (D := (dC, dI)) (ci := 7) (v := .int 0) (C := R_RE) (T := F_RE) (N := 8) hx hb hts i_RE hown hK hP 4 rfl rfl 4 (by decide) (hts _ kF_RE_45) (fun _ h9 => h9) rfl d_RE_readTable_46 ?_
    refine lv_if_eq (tgt := 122) hx hb d_RE_readTable_49 (by decide) (fun c49 => ?_) (fun c49 => absurd (neI c49) (by (first | (apply Int.le_antisymm <;> omega) | omega)))
    have q49 := eqI c49
    have hP9 := hP.sb (wq := (wz_5 h0 aw ac n3 lim 0 cc ao oc aw wf ab ax len ax cB n f ac afi alk alt cl aop ava apt ael lc alb ava cva gva apt cpt gpt alb clb glb)) [4, 5, 6, 7, 0, 1, 2, 3] rfl
    have hD9 := hD.sb (wq := (wz_5 h0 aw ac n3 lim 0 cc ao oc aw wf ab ax len ax cB n f ac afi alk alt cl aop ava apt ael lc alb ava cva gva apt cpt gpt alb clb glb)) [4, 5, 6, 7, 0, 1, 2, 3] (by decide) rfl
    exact W.vret hx hb hr (fun t ht hW => ⟨⟨(n3, 0, oc, cl, lc, gva, gpt, glb), rfl, ⟨(Or.inl rfl), by (try dsimp only); (first | (apply Int.le_antisymm <;> omega) | omega), by (try dsimp only); (first | (apply Int.le_antisymm <;> omega) | omega), rfl, rfl, by (try dsimp only); (first | (apply Int.le_antisymm <;> omega) | omega), by (try dsimp only); (first | (apply Int.le_antisymm <;> omega) | omega), hlb, fun z => absurd z (by (try dsimp only); (first | (apply Int.le_antisymm <;> omega) | omega))⟩, va_P.he ht.symm hP9, va_K.moved hW.alike hK, hD9⟩, hS.F ht⟩) hS.2.2 d_RE_readTable_122
  · have q14 := neI c14
    refine lv_aload_n hx hb d_RE_readTable_17 rfl (lv_at hl 1 rfl) ?_
    refine va_get (D := (dC, dI)) (ci := 7) (v := .ref ac) (C := R_RE) (T := F_RE) (N := 8) hx hb hts i_RE hown hK hP 4 rfl rfl 1 (by decide) (hts _ kF_RE_25) (fun _ h9 => h9) rfl d_RE_readTable_18 ?_
    refine va_get (D := (dC, dI)) (ci := 3) (v := .int lc) (C := R_CD) (T := F_CD) (N := 10) hx hb hts i_CD hown hK hP 0 rfl rfl 8 (by decide) (hts _ kF_RE_225) (fun _ h9 => h9) rfl d_RE_readTable_21 ?_
    refine lv_iload_n hx hb d_RE_readTable_24 rfl (lv_at hl 0 rfl) ?_
    refine lv_iadd hx hb d_RE_readTable_25 ?_
    refine lv_topi (fun x6 ex6 => ?_)
    have tx6 : x6.toInt = lc.toInt + x5.toInt := by have z := i32_add ex6 (by (first | (apply Int.le_antisymm <;> omega) | omega)) (by (first | (apply Int.le_antisymm <;> omega) | omega)); first | exact z | (first | (apply Int.le_antisymm <;> omega) | omega)
    refine lv_aload_n hx hb d_RE_readTable_26 rfl (lv_at hl 1 rfl) ?_
    refine va_get (D := (dC, dI)) (ci := 7) (v := .ref ac) (C := R_RE) (T := F_RE) (N := 8) hx hb hts i_RE hown hK hP 4 rfl rfl 1 (by decide) (hts _ kF_RE_25) (fun _ h9 => h9) rfl d_RE_readTable_27 ?_
    refine va_get (D := (dC, dI)) (ci := 3) (v := .ref alb) (C := R_CD) (T := F_CD) (N := 10) hx hb hts i_CD hown hK hP 0 rfl rfl 9 (by decide) (hts _ kF_RE_228) (fun _ h9 => h9) rfl d_RE_readTable_30 ?_
    refine va_alen hx hb hK hP 3 3 rfl rfl rfl d_RE_readTable_33 ?_
    refine lv_topi (fun x7 ex7 => ?_)
    have tx7 : x7.toInt = 2000 := by rw [ex7]; exact i32_len (by (first | (apply Int.le_antisymm <;> omega) | omega))
    refine lv_icmp_ge (tgt := 41) hx hb d_RE_readTable_34 (by decide) (fun c34 => ?_) (fun c34 => ?_)
    · have q34 := leI c34
      refine lv_iconst (v := 0) hx hb d_RE_readTable_41 (by decide) ?_
      have k0 : (0 : Int32).toInt = 0 := by decide
      refine va_put (D := (dC, dI)) (ci := 7) (v := .int 0) (ty := .boolean) (C := R_RE) (T := F_RE) (N := 8) hx hb hts i_RE t_RE t_RE_ok n_RE hown hK hP hD hS 4 rfl rfl 4 (by decide) (hts _ kF_RE_45) (fun _ h9 => h9) rfl (by decide +kernel) rfl rfl (Nat.le_of_ble_eq_true rfl) d_RE_readTable_42 (fun H locs hP hD hS => ?_)
      have hP : va_P (dC, dI) cls (wz_6 ac afi alk alt cl aop ava apt ael lc alb ava cva gva apt cpt gpt alb clb glb h0 aw ac n3 lim 0 cc ao oc aw wf ab ax len ax cB n f) H := hP
      have hD : va_D A (wz_6 ac afi alk alt cl aop ava apt ael lc alb ava cva gva apt cpt gpt alb clb glb h0 aw ac n3 lim 0 cc ao oc aw wf ab ax len ax cB n f) := hD
      refine lv_aload_n hx hb d_RE_readTable_45 rfl (lv_at hl 1 rfl) ?_
      refine va_get (D := (dC, dI)) (ci := 7) (v := .int 0) (C := R_RE) (T := F_RE) (N := 8) hx hb hts i_RE hown hK hP 4 rfl rfl 4 (by decide) (hts _ kF_RE_45) (fun _ h9 => h9) rfl d_RE_readTable_46 ?_
      refine lv_if_eq (tgt := 122) hx hb d_RE_readTable_49 (by decide) (fun c49 => ?_) (fun c49 => absurd (neI c49) (by (first | (apply Int.le_antisymm <;> omega) | omega)))
      have q49 := eqI c49
      have hP9 := hP.sb (wq := (wz_5 h0 aw ac n3 lim 0 cc ao oc aw wf ab ax len ax cB n f ac afi alk alt cl aop ava apt ael lc alb ava cva gva apt cpt gpt alb clb glb)) [4, 5, 6, 7, 0, 1, 2, 3] rfl
      have hD9 := hD.sb (wq := (wz_5 h0 aw ac n3 lim 0 cc ao oc aw wf ab ax len ax cB n f ac afi alk alt cl aop ava apt ael lc alb ava cva gva apt cpt gpt alb clb glb)) [4, 5, 6, 7, 0, 1, 2, 3] (by decide) rfl
      exact W.vret hx hb hr (fun t ht hW => ⟨⟨(n3, 0, oc, cl, lc, gva, gpt, glb), rfl, ⟨(Or.inl rfl), by (try dsimp only); (first | (apply Int.le_antisymm <;> omega) | omega), by (try dsimp only); (first | (apply Int.le_antisymm <;> omega) | omega), rfl, rfl, by (try dsimp only); (first | (apply Int.le_antisymm <;> omega) | omega), by (try dsimp only); (first | (apply Int.le_antisymm <;> omega) | omega), hlb, fun z => absurd z (by (try dsimp only); (first | (apply Int.le_antisymm <;> omega) | omega))⟩, va_P.he ht.symm hP9, va_K.moved hW.alike hK, hD9⟩, hS.F ht⟩) hS.2.2 d_RE_readTable_122
    · have q34 := nleI c34
      refine lv_iconst (v := 1) hx hb d_RE_readTable_37 (by decide) ?_
      have k1 : (1 : Int32).toInt = 1 := by decide
      refine lv_goto (tgt := 42) hx hb d_RE_readTable_38 (by decide) ?_
      refine va_put (D := (dC, dI)) (ci := 7) (v := .int 1) (ty := .boolean) (C := R_RE) (T := F_RE) (N := 8) hx hb hts i_RE t_RE t_RE_ok n_RE hown hK hP hD hS 4 rfl rfl 4 (by decide) (hts _ kF_RE_45) (fun _ h9 => h9) rfl (by decide +kernel) rfl rfl (Nat.le_of_ble_eq_true rfl) d_RE_readTable_42 (fun H locs hP hD hS => ?_)
      have hP : va_P (dC, dI) cls (wz_6 ac afi alk alt cl aop ava apt ael lc alb ava cva gva apt cpt gpt alb clb glb h0 aw ac n3 lim 1 cc ao oc aw wf ab ax len ax cB n f) H := hP
      have hD : va_D A (wz_6 ac afi alk alt cl aop ava apt ael lc alb ava cva gva apt cpt gpt alb clb glb h0 aw ac n3 lim 1 cc ao oc aw wf ab ax len ax cB n f) := hD
      refine lv_aload_n hx hb d_RE_readTable_45 rfl (lv_at hl 1 rfl) ?_
      refine va_get (D := (dC, dI)) (ci := 7) (v := .int 1) (C := R_RE) (T := F_RE) (N := 8) hx hb hts i_RE hown hK hP 4 rfl rfl 4 (by decide) (hts _ kF_RE_45) (fun _ h9 => h9) rfl d_RE_readTable_46 ?_
      refine lv_if_eq (tgt := 122) hx hb d_RE_readTable_49 (by decide) (fun c49 => absurd (eqI c49) (by (first | (apply Int.le_antisymm <;> omega) | omega))) (fun c49 => ?_)
      have q49 := neI c49
      refine lv_aload_n hx hb d_RE_readTable_52 rfl (lv_at hl 1 rfl) ?_
      refine va_get (D := (dC, dI)) (ci := 7) (v := .ref ac) (C := R_RE) (T := F_RE) (N := 8) hx hb hts i_RE hown hK hP 4 rfl rfl 1 (by decide) (hts _ kF_RE_25) (fun _ h9 => h9) rfl d_RE_readTable_53 ?_
      refine va_get (D := (dC, dI)) (ci := 3) (v := .ref ava) (C := R_CD) (T := F_CD) (N := 10) hx hb hts i_CD hown hK hP 0 rfl rfl 5 (by decide) (hts _ kF_RE_197) (fun _ h9 => h9) rfl d_RE_readTable_56 ?_
      refine lv_iload_n hx hb d_RE_readTable_59 rfl (lv_at hl 2 rfl) ?_
      refine lv_aload_n hx hb d_RE_readTable_60 rfl (lv_at hl 1 rfl) ?_
      refine va_get (D := (dC, dI)) (ci := 7) (v := .ref ac) (C := R_RE) (T := F_RE) (N := 8) hx hb hts i_RE hown hK hP 4 rfl rfl 1 (by decide) (hts _ kF_RE_25) (fun _ h9 => h9) rfl d_RE_readTable_61 ?_
      refine va_get (D := (dC, dI)) (ci := 3) (v := .int lc) (C := R_CD) (T := F_CD) (N := 10) hx hb hts i_CD hown hK hP 0 rfl rfl 8 (by decide) (hts _ kF_RE_225) (fun _ h9 => h9) rfl d_RE_readTable_64 ?_
      refine lv_i2l hx hb d_RE_readTable_67 rfl ?_
      refine lv_topl (fun x8 ex8 => ?_)
      have tx8 := i2l_t ex8
      have g68 : vp_in p0 5000 := vp_in_iff.mpr ⟨by (first | (apply Int.le_antisymm <;> omega) | omega), by (first | (apply Int.le_antisymm <;> omega) | omega)⟩
      refine va_last hx hb hK hP hD hS 1 1 rfl rfl g68 d_RE_readTable_68 (fun H locs hP hD hS => ?_)
      have hP : va_P (dC, dI) cls (wz_6 ac afi alk alt cl aop ava apt ael lc alb ava cva (vp_updL gva p0.toNatClampNeg x8) apt cpt gpt alb clb glb h0 aw ac n3 lim 1 cc ao oc aw wf ab ax len ax cB n f) H := hP
      have hD : va_D A (wz_6 ac afi alk alt cl aop ava apt ael lc alb ava cva (vp_updL gva p0.toNatClampNeg x8) apt cpt gpt alb clb glb h0 aw ac n3 lim 1 cc ao oc aw wf ab ax len ax cB n f) := hD
      generalize ef9 : vp_updL gva p0.toNatClampNeg x8 = f9 at hP hD
      refine lv_aload_n hx hb d_RE_readTable_69 rfl (lv_at hl 1 rfl) ?_
      refine va_get (D := (dC, dI)) (ci := 7) (v := .ref ac) (C := R_RE) (T := F_RE) (N := 8) hx hb hts i_RE hown hK hP 4 rfl rfl 1 (by decide) (hts _ kF_RE_25) (fun _ h9 => h9) rfl d_RE_readTable_70 ?_
      refine va_get (D := (dC, dI)) (ci := 3) (v := .ref apt) (C := R_CD) (T := F_CD) (N := 10) hx hb hts i_CD hown hK hP 0 rfl rfl 6 (by decide) (hts _ kF_RE_200) (fun _ h9 => h9) rfl d_RE_readTable_73 ?_
      refine lv_iload_n hx hb d_RE_readTable_76 rfl (lv_at hl 2 rfl) ?_
      refine lv_iload_n hx hb d_RE_readTable_77 rfl (lv_at hl 0 rfl) ?_
      have g78 : vp_in p0 5000 := vp_in_iff.mpr ⟨by (first | (apply Int.le_antisymm <;> omega) | omega), by (first | (apply Int.le_antisymm <;> omega) | omega)⟩
      refine va_iast hx hb hK hP hD hS 2 2 rfl rfl g78 d_RE_readTable_78 (fun H locs hP hD hS => ?_)
      have hP : va_P (dC, dI) cls (wz_6 ac afi alk alt cl aop ava apt ael lc alb ava cva f9 apt cpt (upd gpt p0.toNatClampNeg x5) alb clb glb h0 aw ac n3 lim 1 cc ao oc aw wf ab ax len ax cB n f) H := hP
      have hD : va_D A (wz_6 ac afi alk alt cl aop ava apt ael lc alb ava cva f9 apt cpt (upd gpt p0.toNatClampNeg x5) alb clb glb h0 aw ac n3 lim 1 cc ao oc aw wf ab ax len ax cB n f) := hD
      generalize ef10 : upd gpt p0.toNatClampNeg x5 = f10 at hP hD
      refine lv_iconst (v := 0) hx hb d_RE_readTable_79 (by decide) ?_
      refine lv_topi (fun x11 ex11 => ?_)
      have tx11 : x11.toInt = 0 := by rw [ex11]; decide
      refine lv_istore_n (lv' := [(3, .int x11), (2, .int x5), (0, .ref h0), (1, .int p0)]) hx hb d_RE_readTable_80 rfl hl (by decide) rfl (fun ls hl => ?_)
      refine w_loop (σ := Int32 × Int32 × Int32 × Int32 × (Nat → Int32)) (fun u H locs ls => match u with | (k, a, sd, q, gl) => (0 ≤ k.toInt ∧ k.toInt ≤ x5.toInt + 1) ∧ (q.toInt = lc.toInt + k.toInt) ∧ (n3.toInt ≤ a.toInt ∧ a.toInt ≤ lim.toInt) ∧ (sd = 0 ∨ sd = 1) ∧ (sd.toInt = 1 → snd.toInt = 1) ∧ (∀ j : Nat, (j : Int) < q.toInt → 0 ≤ (gl j).toInt) ∧ va_P (dC, dI) cls (wz_6 ac afi alk alt cl aop ava apt ael q alb ava cva f9 apt cpt f10 alb clb gl h0 aw ac a lim sd cc ao oc aw wf ab ax len ax cB n f) H ∧ va_D A (wz_6 ac afi alk alt cl aop ava apt ael q alb ava cva f9 apt cpt f10 alb clb gl h0 aw ac a lim sd cc ao oc aw wf ab ax len ax cB n f) ∧ va_S A s.heap H locs ∧ lv_has ls 4 [(3, .int k), (2, .int x5), (0, .ref h0), (1, .int p0)]) (fun u => match u with | (k, a, sd, q, gl) => (x5.toInt + 1 - k.toInt).toNat) ?_ (x11, n3, 1, lc, glb) ⟨by (first | (apply Int.le_antisymm <;> omega) | omega), by (first | (apply Int.le_antisymm <;> omega) | omega), by (first | (apply Int.le_antisymm <;> omega) | omega), (Or.inr rfl), by (first | (apply Int.le_antisymm <;> omega) | omega), hlb, hP, hD, hS, lv_sub hl [0, 1, 2, 3] rfl⟩
      intro N ih u H locs ls hN hI
      obtain ⟨k, a, sd, q, gl⟩ := u
      obtain ⟨v1, v2, v3, v4, v5, v6, hP, hD, hS, hl⟩ := hI
      have hN : (x5.toInt + 1 - k.toInt).toNat < N + 1 := hN
      have bv4 := b01 v4
      refine lv_iload_n hx hb d_RE_readTable_81 rfl (lv_at hl 0 rfl) ?_
      refine lv_iload_n hx hb d_RE_readTable_82 rfl (lv_at hl 1 rfl) ?_
      refine lv_icmp_gt (tgt := 122) hx hb d_RE_readTable_83 (by decide) (fun c83 => ?_) (fun c83 => ?_)
      · have q83 := ltI c83
        have hP9 := hP.sb (wq := (wz_5 h0 aw ac a lim sd cc ao oc aw wf ab ax len ax cB n f ac afi alk alt cl aop ava apt ael q alb ava cva f9 apt cpt f10 alb clb gl)) [4, 5, 6, 7, 0, 1, 2, 3] rfl
        have hD9 := hD.sb (wq := (wz_5 h0 aw ac a lim sd cc ao oc aw wf ab ax len ax cB n f ac afi alk alt cl aop ava apt ael q alb ava cva f9 apt cpt f10 alb clb gl)) [4, 5, 6, 7, 0, 1, 2, 3] (by decide) rfl
        exact W.vret hx hb hr (fun t ht hW => ⟨⟨(a, sd, oc, cl, q, f9, f10, gl), rfl, ⟨v4, by (try dsimp only); (first | (apply Int.le_antisymm <;> omega) | omega), by (try dsimp only); (first | (apply Int.le_antisymm <;> omega) | omega), rfl, rfl, by (try dsimp only); (first | (apply Int.le_antisymm <;> omega) | omega), by (try dsimp only); (first | (apply Int.le_antisymm <;> omega) | omega), v6, fun z => ⟨by (try dsimp only at z); (try dsimp only); (first | (apply Int.le_antisymm <;> omega) | omega), by (try dsimp only at z); (try dsimp only); (first | (apply Int.le_antisymm <;> omega) | omega), ⟨x5, x8, by (first | (apply Int.le_antisymm <;> omega) | omega), by (first | (apply Int.le_antisymm <;> omega) | omega), by (try dsimp only); (first | (apply Int.le_antisymm <;> omega) | omega), by (try dsimp only); (first | (apply Int.le_antisymm <;> omega) | omega), by (try dsimp only) <;> exact ef9.symm, by (try dsimp only) <;> exact ef10.symm⟩⟩⟩, va_P.he ht.symm hP9, va_K.moved hW.alike hK, hD9⟩, hS.F ht⟩) hS.2.2 d_RE_readTable_122
      · have q83 := nltI c83
        refine lv_aload_n hx hb d_RE_readTable_86 rfl (lv_at hl 2 rfl) ?_
        refine va_get (D := (dC, dI)) (ci := 7) (v := .ref ac) (C := R_RE) (T := F_RE) (N := 8) hx hb hts i_RE hown hK hP 4 rfl rfl 1 (by decide) (hts _ kF_RE_25) (fun _ h9 => h9) rfl d_RE_readTable_87 ?_
        refine va_get (D := (dC, dI)) (ci := 3) (v := .ref alb) (C := R_CD) (T := F_CD) (N := 10) hx hb hts i_CD hown hK hP 0 rfl rfl 9 (by decide) (hts _ kF_RE_228) (fun _ h9 => h9) rfl d_RE_readTable_90 ?_
        refine lv_aload_n hx hb d_RE_readTable_93 rfl (lv_at hl 2 rfl) ?_
        refine va_get (D := (dC, dI)) (ci := 7) (v := .ref ac) (C := R_RE) (T := F_RE) (N := 8) hx hb hts i_RE hown hK hP 4 rfl rfl 1 (by decide) (hts _ kF_RE_25) (fun _ h9 => h9) rfl d_RE_readTable_94 ?_
        refine lv_dup hx hb d_RE_readTable_97 rfl ?_
        refine va_get (D := (dC, dI)) (ci := 3) (v := .int q) (C := R_CD) (T := F_CD) (N := 10) hx hb hts i_CD hown hK hP 0 rfl rfl 8 (by decide) (hts _ kF_RE_225) (fun _ h9 => h9) rfl d_RE_readTable_98 ?_
        refine lv_dup_x1 hx hb d_RE_readTable_101 rfl rfl ?_
        refine lv_iconst (v := 1) hx hb d_RE_readTable_102 (by decide) ?_
        have k1 : (1 : Int32).toInt = 1 := by decide
        refine lv_iadd hx hb d_RE_readTable_103 ?_
        refine lv_topi (fun x12 ex12 => ?_)
        have tx12 : x12.toInt = q.toInt + 1 := by have z := i32_add ex12 (by (first | (apply Int.le_antisymm <;> omega) | omega)) (by (first | (apply Int.le_antisymm <;> omega) | omega)); first | exact z | (first | (apply Int.le_antisymm <;> omega) | omega)
        refine va_put (D := (dC, dI)) (ci := 3) (v := .int x12) (ty := .int) (C := R_CD) (T := F_CD) (N := 10) hx hb hts i_CD t_CD t_CD_ok n_CD hown hK hP hD hS 0 rfl rfl 8 (by decide) (hts _ kF_RE_225) (fun _ h9 => h9) rfl (by decide +kernel) rfl rfl (Nat.le_of_ble_eq_true rfl) d_RE_readTable_104 (fun H locs hP hD hS => ?_)
        have hP : va_P (dC, dI) cls (wz_6 ac afi alk alt cl aop ava apt ael x12 alb ava cva f9 apt cpt f10 alb clb gl h0 aw ac a lim sd cc ao oc aw wf ab ax len ax cB n f) H := hP
        have hD : va_D A (wz_6 ac afi alk alt cl aop ava apt ael x12 alb ava cva f9 apt cpt f10 alb clb gl h0 aw ac a lim sd cc ao oc aw wf ab ax len ax cB n f) := hD
        refine lv_aload_n hx hb d_RE_readTable_107 rfl (lv_at hl 2 rfl) ?_
        refine lv_ldc2 hx hb hown (hts _ kL_RE_82) d_RE_readTable_108 ?_
        refine lv_topl (fun x13 ex13 => ?_)
        have tx13 : x13.toInt = 2147483647 := by rw [ex13]; decide
        have hPc := hP.sb (wq := (wz_1 h0 aw ac a lim sd cc ao oc aw wf ab ax len ax cB n f)) [4, 5, 6, 7] rfl
        have hDc := hD.sb (wq := (wz_1 h0 aw ac a lim sd cc ao oc aw wf ab ax len ax cB n f)) [4, 5, 6, 7] (by decide) rfl
        have hKc := hK.sb (tyq := [(cB, .byte)]) [0] rfl
        have hFc := va_free (wc := (wz_1 h0 aw ac a lim sd cc ao oc aw wf ab ax len ax cB n f)) hD hS hA [4, 5, 6, 7] rfl
        refine va_calll (va_runV (As := [.long x13]) (rest := [.int q, .ref alb]) ⟨hx, hb, hml, hown, hts⟩ (c_RE_readUnsigned l dC dI h0 aw ac ao ab ax H.size cB n a lim sd cc oc len f wf pwf pwl v4 (by (first | (apply Int.le_antisymm <;> omega) | omega)) x13 (by (first | (apply Int.le_antisymm <;> omega) | omega))) (cwV 1 hts (gV kM_RE_64 kV_RE_readUnsigned kS_RE_readUnsigned kI_RE kC_RE_readUnsigned) rfl rfl rfl (by decide +kernel) ⟨Nat.le_of_ble_eq_true rfl, Nat.le_of_ble_eq_true rfl⟩) ⟨fun a U g mk z => by obtain ⟨z0, z1, zP, zK, zD⟩ := z; exact ⟨z0, z1, zP, va_K.moved (u := U) (U := U.calling g mk a) (Vm.Alike.refl U.vm) zK, zD⟩, va_recv hKc hPc (ci := 7) (q0 := 0) rfl rfl, fun U hU hW => ⟨rfl, by rw [hU], va_P.he hU.symm hPc, va_K.moved hW.alike hKc, hDc.weaken (fun _ _ _ _ => trivial)⟩⟩ rfl rfl hl.1 rfl (lv_room (Nat.le_of_ble_eq_true rfl)) d_RE_readTable_111 ⟨(Nat.zero_le _), (Nat.zero_le _)⟩) hS (fun q _ h => hFc q h) hFc (fun r14 u t H1 locs ht hvm hw hB hz1 hk1 hS => ?_)
        obtain ⟨n15, n16⟩ := u
        try dsimp only at hw
        obtain ⟨hsn16, tn15⟩ := hw
        have bsn16 := b01 hsn16
        obtain ⟨hP1, hK1, hD1⟩ := hB
        replace hP1 := va_P.he ht hP1
        obtain ⟨hP, hD⟩ := va_join (wr := [(ac, .inr (3, [.ref afi, .ref alk, .ref alt, .int cl, .ref aop, .ref ava, .ref apt, .ref ael, .int x12, .ref alb])), (ava, .inl (cva, 5000, .inr (.inl f9))), (apt, .inl (cpt, 5000, .inl f10)), (alb, .inl (clb, 2000, .inl gl))]) (w1 := (wz_1 h0 aw ac n15 lim n16 cc ao oc aw wf ab ax len ax cB n f)) hP hD [4, 5, 6, 7] [0, 1, 2, 3] rfl rfl (by decide) (by decide) hk1 hFc hP1 hD1
        clear hPc hDc hKc hFc hz1 hk1 hP1 hK1 hD1
        rename Heap => H
        have hP : va_P (dC, dI) cls (wz_6 ac afi alk alt cl aop ava apt ael x12 alb ava cva f9 apt cpt f10 alb clb gl h0 aw ac n15 lim n16 cc ao oc aw wf ab ax len ax cB n f) H := hP
        have hD : va_D A (wz_6 ac afi alk alt cl aop ava apt ael x12 alb ava cva f9 apt cpt f10 alb clb gl h0 aw ac n15 lim n16 cc ao oc aw wf ab ax len ax cB n f) := hD
        refine lv_l2i hx hb d_RE_readTable_114 rfl ?_
        refine lv_topi (fun x17 ex17 => ?_)
        have tx17 := l2i_t ex17 (by (first | (apply Int.le_antisymm <;> omega) | omega)) (by (first | (apply Int.le_antisymm <;> omega) | omega))
        have g115 : vp_in q 2000 := vp_in_iff.mpr ⟨by (first | (apply Int.le_antisymm <;> omega) | omega), by (first | (apply Int.le_antisymm <;> omega) | omega)⟩
        refine va_iast hx hb hK hP hD hS 3 3 rfl rfl g115 d_RE_readTable_115 (fun H locs hP hD hS => ?_)
        have hP : va_P (dC, dI) cls (wz_6 ac afi alk alt cl aop ava apt ael x12 alb ava cva f9 apt cpt f10 alb clb (upd gl q.toNatClampNeg x17) h0 aw ac n15 lim n16 cc ao oc aw wf ab ax len ax cB n f) H := hP
        have hD : va_D A (wz_6 ac afi alk alt cl aop ava apt ael x12 alb ava cva f9 apt cpt f10 alb clb (upd gl q.toNatClampNeg x17) h0 aw ac n15 lim n16 cc ao oc aw wf ab ax len ax cB n f) := hD
        generalize ef18 : upd gl q.toNatClampNeg x17 = f18 at hP hD
        obtain ⟨x19, ex19⟩ : ∃ z : Int32, z = k + 1 := ⟨_, rfl⟩
        have k1 : (1 : Int32).toInt = 1 := by decide
        have tx19 : x19.toInt = k.toInt + 1 := by have z := i32_add ex19 (by (first | (apply Int.le_antisymm <;> omega) | omega)) (by (first | (apply Int.le_antisymm <;> omega) | omega)); first | exact z | (first | (apply Int.le_antisymm <;> omega) | omega)
        refine lv_iinc (v := x19) (lv' := [(3, .int x19), (2, .int x5), (0, .ref h0), (1, .int p0)]) hx hb d_RE_readTable_116 hl (k := 0) rfl (by rw [ex19]; rfl) (by decide) rfl (fun ls hl => ?_)
        refine lv_goto (tgt := 81) hx hb d_RE_readTable_119 (by decide) ?_
        have z1 := i32_clamp (x := q) (by (first | (apply Int.le_antisymm <;> omega) | omega))
        skip
        exact ih (x19, n15, n16, x12, f18) _ _ _ (by show (x5.toInt + 1 - x19.toInt).toNat < N; (first | (apply Int.le_antisymm <;> omega) | omega)) ⟨by (first | (apply Int.le_antisymm <;> omega) | omega), by (first | (apply Int.le_antisymm <;> omega) | omega), by (first | (apply Int.le_antisymm <;> omega) | omega), hsn16, by (first | (apply Int.le_antisymm <;> omega) | omega), by rw [← ef18]; exact upd_nn v6 (by (first | (apply Int.le_antisymm <;> omega) | omega)) (by (first | (apply Int.le_antisymm <;> omega) | omega)) (by (first | (apply Int.le_antisymm <;> omega) | omega)), hP, hD, hS, lv_sub hl [0, 1, 2, 3] rfl⟩
abbrev b_RE_readOther : ByteArray := prog_9_method_15_code
def y_RE_readOther : MethodName := ⟨R_RE, "readOther", "(II)V"⟩
abbrev w_RE_readOther : List Cond := .code y_RE_readOther b_RE_readOther 3 none :: lw_g
theorem kC_RE_readOther : Cond.code y_RE_readOther b_RE_readOther 3 none ∈ lw_g := in_c6 161 rfl rfl
theorem d_RE_readOther_0 : decode b_RE_readOther 0 = .ok (.iload_n 2, 1) := bz_c28 (by decide +kernel)
theorem d_RE_readOther_1 : decode b_RE_readOther 1 = .ok (.invokestatic 231, 3) := bz_c184 (by decide +kernel)
theorem d_RE_readOther_4 : decode b_RE_readOther 4 = .ok (.ifCond .eq 39, 3) := bz_c153 (by decide +kernel)
theorem d_RE_readOther_7 : decode b_RE_readOther 7 = .ok (.aload_n 0, 1) := bz_c42 (by decide +kernel)
theorem d_RE_readOther_8 : decode b_RE_readOther 8 = .ok (.getfield 25, 3) := bz_c180 (by decide +kernel)
theorem d_RE_readOther_11 : decode b_RE_readOther 11 = .ok (.getfield 200, 3) := bz_c180 (by decide +kernel)
theorem d_RE_readOther_14 : decode b_RE_readOther 14 = .ok (.iload_n 1, 1) := bz_c27 (by decide +kernel)
theorem d_RE_readOther_15 : decode b_RE_readOther 15 = .ok (.aload_n 0, 1) := bz_c42 (by decide +kernel)
theorem d_RE_readOther_16 : decode b_RE_readOther 16 = .ok (.ldc2_w 82, 3) := bz_c20 (by decide +kernel)
theorem d_RE_readOther_19 : decode b_RE_readOther 19 = .ok (.invokevirtual 64, 3) := bz_c182 (by decide +kernel)
theorem d_RE_readOther_22 : decode b_RE_readOther 22 = .ok (.l2i, 1) := bz_c136 (by decide +kernel)
theorem d_RE_readOther_23 : decode b_RE_readOther 23 = .ok (.iastore, 1) := bz_c79 (by decide +kernel)
theorem d_RE_readOther_24 : decode b_RE_readOther 24 = .ok (.aload_n 0, 1) := bz_c42 (by decide +kernel)
theorem d_RE_readOther_25 : decode b_RE_readOther 25 = .ok (.getfield 25, 3) := bz_c180 (by decide +kernel)
theorem d_RE_readOther_28 : decode b_RE_readOther 28 = .ok (.getfield 197, 3) := bz_c180 (by decide +kernel)
theorem d_RE_readOther_31 : decode b_RE_readOther 31 = .ok (.iload_n 1, 1) := bz_c27 (by decide +kernel)
theorem d_RE_readOther_32 : decode b_RE_readOther 32 = .ok (.aload_n 0, 1) := bz_c42 (by decide +kernel)
theorem d_RE_readOther_33 : decode b_RE_readOther 33 = .ok (.ldc2_w 121, 3) := bz_c20 (by decide +kernel)
theorem d_RE_readOther_36 : decode b_RE_readOther 36 = .ok (.invokevirtual 64, 3) := bz_c182 (by decide +kernel)
theorem d_RE_readOther_39 : decode b_RE_readOther 39 = .ok (.lastore, 1) := bz_c80 (by decide +kernel)
theorem d_RE_readOther_40 : decode b_RE_readOther 40 = .ok (.goto 46, 3) := bz_c167 (by decide +kernel)
theorem d_RE_readOther_43 : decode b_RE_readOther 43 = .ok (.aload_n 0, 1) := bz_c42 (by decide +kernel)
theorem d_RE_readOther_44 : decode b_RE_readOther 44 = .ok (.iload_n 2, 1) := bz_c28 (by decide +kernel)
theorem d_RE_readOther_45 : decode b_RE_readOther 45 = .ok (.invokestatic 234, 3) := bz_c184 (by decide +kernel)
theorem d_RE_readOther_48 : decode b_RE_readOther 48 = .ok (.ifCond .ne 30, 3) := bz_c154 (by decide +kernel)
theorem d_RE_readOther_51 : decode b_RE_readOther 51 = .ok (.iload_n 2, 1) := bz_c28 (by decide +kernel)
theorem d_RE_readOther_52 : decode b_RE_readOther 52 = .ok (.ifCond .eq 26, 3) := bz_c153 (by decide +kernel)
theorem d_RE_readOther_55 : decode b_RE_readOther 55 = .ok (.iload_n 2, 1) := bz_c28 (by decide +kernel)
theorem d_RE_readOther_56 : decode b_RE_readOther 56 = .ok (.iconst 1, 1) := bz_c4 (by decide +kernel)
theorem d_RE_readOther_57 : decode b_RE_readOther 57 = .ok (.if_icmp .eq 21, 3) := bz_c159 (by decide +kernel)
theorem d_RE_readOther_60 : decode b_RE_readOther 60 = .ok (.iload_n 2, 1) := bz_c28 (by decide +kernel)
theorem d_RE_readOther_61 : decode b_RE_readOther 61 = .ok (.bipush 15, 2) := bz_c16 (by decide +kernel)
theorem d_RE_readOther_63 : decode b_RE_readOther 63 = .ok (.if_icmp .eq 15, 3) := bz_c159 (by decide +kernel)
theorem d_RE_readOther_66 : decode b_RE_readOther 66 = .ok (.iload_n 2, 1) := bz_c28 (by decide +kernel)
theorem d_RE_readOther_67 : decode b_RE_readOther 67 = .ok (.bipush 26, 2) := bz_c16 (by decide +kernel)
theorem d_RE_readOther_69 : decode b_RE_readOther 69 = .ok (.if_icmp .eq 9, 3) := bz_c159 (by decide +kernel)
theorem d_RE_readOther_72 : decode b_RE_readOther 72 = .ok (.iload_n 2, 1) := bz_c28 (by decide +kernel)
theorem d_RE_readOther_73 : decode b_RE_readOther 73 = .ok (.bipush 27, 2) := bz_c16 (by decide +kernel)
theorem d_RE_readOther_75 : decode b_RE_readOther 75 = .ok (.if_icmp .ne 7, 3) := bz_c160 (by decide +kernel)
theorem d_RE_readOther_78 : decode b_RE_readOther 78 = .ok (.iconst 1, 1) := bz_c4 (by decide +kernel)
theorem d_RE_readOther_79 : decode b_RE_readOther 79 = .ok (.goto 4, 3) := bz_c167 (by decide +kernel)
theorem d_RE_readOther_82 : decode b_RE_readOther 82 = .ok (.iconst 0, 1) := bz_c3 (by decide +kernel)
theorem d_RE_readOther_83 : decode b_RE_readOther 83 = .ok (.putfield 45, 3) := bz_c181 (by decide +kernel)
theorem d_RE_readOther_86 : decode b_RE_readOther 86 = .ok (.return_, 1) := bz_c177 (by decide +kernel)
theorem kM_RE_231 : Cond.methodLink R_RE 231 y_CD_isAccess ∈ lw_g := in_c6 162 rfl rfl
theorem kT_CD_isAccess : Cond.static y_CD_isAccess ∈ lw_g := in_c5 213 rfl rfl
theorem kM_RE_234 : Cond.methodLink R_RE 234 y_CD_isNumeric ∈ lw_g := in_c6 163 rfl rfl
theorem kT_CD_isNumeric : Cond.static y_CD_isNumeric ∈ lw_g := in_c6 164 rfl rfl
theorem kL_RE_121 : Cond.constantLong R_RE 121 (4294967295) ∈ lw_g := in_c6 113 rfl rfl
abbrev at_RE_readOther (dC : Nat → ClassId) (dI : Nat → Nat → Nat) (h0 aw ac ao ab ax : Nat) (lim cc : Int32) (cB : ClassId) (n : Nat) (len : Int32) (f : Nat → Int32) (wf : List Value) (afi alk alt aop ava apt ael alb : Nat) (cva : ClassId) (cpt : ClassId) (A : Nat → Prop) (u : Int32 × Int32 × Int32 × Int32 × Int32 × (Nat → Int64) × (Nat → Int32)) (t : State) : Prop := match u with
  | (pa, snd, oc, cl, lc, gva, gpt) => va_P (dC, dI) cls (wz_7 h0 aw ac pa lim snd cc ao oc aw wf ab ax len ax cB n f ac afi alk alt cl aop ava apt ael lc alb ava cva gva apt cpt gpt) t.heap ∧ va_K (dC, dI) cls [(cB, .byte), (cva, .long), (cpt, .int)] t ∧ va_D A (wz_7 h0 aw ac pa lim snd cc ao oc aw wf ab ax len ax cB n f ac afi alk alt cl aop ava apt ael lc alb ava cva gva apt cpt gpt)
set_option maxHeartbeats 4000000 in
set_option maxRecDepth 100000 in
theorem c_RE_readOther (l : Launch) (dC : Nat → ClassId) (dI : Nat → Nat → Nat) (sz : Nat) (h0 aw ac ao ab ax : Nat) (lim cc : Int32) (cB : ClassId) (n : Nat) (len : Int32) (f : Nat → Int32) (wf : List Value) (pwf : wf[0]? = some (.ref ab)) (pwl : wf.length = 21) (afi alk alt aop ava apt ael alb : Nat) (cva : ClassId) (cpt : ClassId) (pa : Int32) (snd : Int32) (oc : Int32) (cl : Int32) (lc : Int32) (gva : Nat → Int64) (gpt : Nat → Int32) (hs : snd = 0 ∨ snd = 1) (ho : 0 ≤ oc.toInt ∧ oc.toInt ≤ 100) (ha : 0 ≤ pa.toInt ∧ pa.toInt ≤ lim.toInt ∧ lim.toInt ≤ len.toInt ∧ len.toInt ≤ n ∧ n < 2147483648) (p0 : Int32) (p1 : Int32) (hp : 0 ≤ p0.toInt ∧ p0.toInt < 5000) : Met l y_RE_readOther w_RE_readOther ({ frames := 2, cells := 0, slots := 0, locals := 46 }) (va_Pc [.ref h0, .int p0, .int p1] (fun U => U.heap.size = sz ∧ va_P (dC, dI) cls (wz_7 h0 aw ac pa lim snd cc ao oc aw wf ab ax len ax cB n f ac afi alk alt cl aop ava apt ael lc alb ava cva gva apt cpt gpt) U.heap ∧ va_K (dC, dI) cls [(cB, .byte), (cva, .long), (cpt, .int)] U ∧ va_D (fun _ => True) (wz_7 h0 aw ac pa lim snd cc ao oc aw wf ab ax len ax cB n f ac afi alk alt cl aop ava apt ael lc alb ava cva gva apt cpt gpt))) (va_Qv (fun (u : Int32 × Int32 × Int32 × Int32 × Int32 × (Nat → Int64) × (Nat → Int32)) => match u with | (pa2, snd2, oc2, cl2, lc2, gva2, gpt2) => (snd2 = 0 ∨ snd2 = 1) ∧ pa.toInt ≤ pa2.toInt ∧ pa2.toInt ≤ lim.toInt ∧ oc = oc2 ∧ cl = cl2 ∧ lc = lc2 ∧ (snd2.toInt = 1 → ((p1.toInt = 44 ∨ p1.toInt = 45 ∨ p1.toInt = 58 ∨ p1.toInt = 40 ∨ p1.toInt = 54 ∨ p1.toInt = 41 ∨ p1.toInt = 55) ∨ p1.toInt = 0 ∨ p1.toInt = 1 ∨ p1.toInt = 15 ∨ p1.toInt = 26 ∨ p1.toInt = 27 ∨ (69 ≤ p1.toInt ∧ p1.toInt ≤ 90) ∨ (103 ≤ p1.toInt ∧ p1.toInt ≤ 138) ∨ p1.toInt = 167 ∨ p1.toInt = 172 ∨ p1.toInt = 173) ∧ ((p1.toInt = 44 ∨ p1.toInt = 45 ∨ p1.toInt = 58 ∨ p1.toInt = 40 ∨ p1.toInt = 54 ∨ p1.toInt = 41 ∨ p1.toInt = 55) → snd.toInt = 1 ∧ ∃ (b : Int32) (x : Int64), 0 ≤ b.toInt ∧ 0 ≤ x.toInt ∧ x.toInt ≤ 4294967295 ∧ gpt2 = upd gpt p0.toNatClampNeg b ∧ gva2 = vp_updL gva p0.toNatClampNeg x) ∧ (¬ (p1.toInt = 44 ∨ p1.toInt = 45 ∨ p1.toInt = 58 ∨ p1.toInt = 40 ∨ p1.toInt = 54 ∨ p1.toInt = 41 ∨ p1.toInt = 55) → gpt = gpt2 ∧ gva2 = gva))) (at_RE_readOther dC dI h0 aw ac ao ab ax lim cc cB n len f wf afi alk alt aop ava apt ael alb cva cpt (va_A (wz_7 h0 aw ac pa lim snd cc ao oc aw wf ab ax len ax cB n f ac afi alk alt cl aop ava apt ael lc alb ava cva gva apt cpt gpt) sz)) (va_A (wz_7 h0 aw ac pa lim snd cc ao oc aw wf ab ax len ax cB n f ac afi alk alt cl aop ava apt ael lc alb ava cva gva apt cpt gpt) sz)) 0 0 (va_A (wz_7 h0 aw ac pa lim snd cc ao oc aw wf ab ax len ax cB n f ac afi alk alt cl aop ava apt ael lc alb ava cva gva apt cpt gpt) sz) := by
  refine Met.ofW (cc := b_RE_readOther) (maxL := 3) (ret := none) (by decide) rfl ?_
  intro p e s m args below meth c s₁ B hml hv
  obtain ⟨rfl, hsz, hP, hK, hD0⟩ := hv
  have hx := B.exec
  have hb := B.bytes
  have hr := B.returns
  have hts0 := atoms_spec (ws := w_RE_readOther) B.pre
  have hts : ∀ w ∈ lw_g, w.before _ s = true := fun w h => hts0 w (List.mem_cons_of_mem _ h)
  have hown : s.vm.findClass R_RE = some m.cls := findClass_of_methodNamed B.named
  have hlocks := B.notSynchronized
  clear hts0
  subst hsz
  have hD := hD0.self (sz := s.heap.size)
  generalize hAe : va_A (wz_7 h0 aw ac pa lim snd cc ao oc aw wf ab ax len ax cB n f ac afi alk alt cl aop ava apt ael lc alb ava cva gva apt cpt gpt) s.heap.size = A at hD ⊢
  have hA : ∀ q : Nat, s.heap.size ≤ q → A q := fun q h => by rw [← hAe]; exact Or.inr h
  clear hAe
  have hP : va_P (dC, dI) cls (wz_7 h0 aw ac pa lim snd cc ao oc aw wf ab ax len ax cB n f ac afi alk alt cl aop ava apt ael lc alb ava cva gva apt cpt gpt) s.heap := hP
  have hl := lv_entry ([.ref h0, .int p0, .int p1]) (n := 3) (Nat.le_of_ble_eq_true rfl)
  rw [lg_entry_eq]
  generalize (lg_sl ([.ref h0, .int p0, .int p1]) ++ List.replicate (3 - (lg_sl ([.ref h0, .int p0, .int p1])).length) Slot.unset).toArray = ls at hl ⊢
  have hl : lv_has ls 3 [(0, .ref h0), (1, .int p0), (2, .int p1)] := hl
  have k0 : (0 : Int32).toInt = 0 := by decide
  refine w_gen (A := A) hP (fun H locs hP hS => ?_)
  have lo_p0 := i32_lo p0
  have hi_p0 := i32_hi p0
  have lo_p1 := i32_lo p1
  have hi_p1 := i32_hi p1
  have hs0 := b01 hs
  refine lv_iload_n hx hb d_RE_readOther_0 rfl (lv_at hl 2 rfl) ?_
  have hPc := hP.sb (wq := []) [] rfl
  have hDc := hD.sb (wq := []) [] (by decide) rfl
  have hKc := hK.sb (tyq := []) [] rfl
  have hFc := va_free (wc := []) hD hS hA [] rfl
  refine va_calli (va_runS (As := [.int p1]) (rest := []) ⟨hx, hb, hml, hown, hts⟩ (c_CD_isAccess l dC dI H.size p1) ⟨callB_of 1 hts (gW kC_CD_isAccess) rfl rfl rfl (hts _ kI_CD) (hts _ kM_RE_231) (by decide +kernel) ⟨Nat.le_of_ble_eq_true rfl, Nat.le_of_ble_eq_true rfl⟩, hts _ kT_CD_isAccess⟩ ⟨fun a U g mk z => by obtain ⟨z0, z1, zP, zK, zD⟩ := z; exact ⟨z0, z1, zP, va_K.moved (u := U) (U := U.calling g mk a) (Vm.Alike.refl U.vm) zK, zD⟩, fun U hU hW => ⟨rfl, by rw [hU], va_P.he hU.symm hPc, va_K.moved hW.alike hKc, hDc.weaken (fun _ _ _ _ => trivial)⟩⟩ rfl rfl hl.1 rfl (lv_room (Nat.le_of_ble_eq_true rfl)) d_RE_readOther_1 ⟨(Nat.zero_le _), (Nat.zero_le _)⟩) hS (fun q _ h => hFc q h) hFc (fun r1 u t H1 locs ht hvm hw hB hz1 hk1 hS => ?_)
  try dsimp only at hw
  have tr1 := hw
  obtain ⟨hP1, hK1, hD1⟩ := hB
  replace hP1 := va_P.he ht hP1
  obtain ⟨hP, hD⟩ := va_join (wr := (wz_7 h0 aw ac pa lim snd cc ao oc aw wf ab ax len ax cB n f ac afi alk alt cl aop ava apt ael lc alb ava cva gva apt cpt gpt)) (w1 := []) hP hD [] [0, 1, 2, 3, 4, 5, 6] rfl rfl (by decide) (by decide) hk1 hFc hP1 hD1
  clear hPc hDc hKc hFc hz1 hk1 hP1 hK1 hD1
  rename Heap => H
  have hP : va_P (dC, dI) cls (wz_7 h0 aw ac pa lim snd cc ao oc aw wf ab ax len ax cB n f ac afi alk alt cl aop ava apt ael lc alb ava cva gva apt cpt gpt) H := hP
  have hD : va_D A (wz_7 h0 aw ac pa lim snd cc ao oc aw wf ab ax len ax cB n f ac afi alk alt cl aop ava apt ael lc alb ava cva gva apt cpt gpt) := hD
  refine lv_if_eq (tgt := 43) hx hb d_RE_readOther_4 (by decide) (fun c4 => ?_) (fun c4 => ?_)
  · have q4 := eqI c4
    refine lv_aload_n hx hb d_RE_readOther_43 rfl (lv_at hl 0 rfl) ?_
    refine lv_iload_n hx hb d_RE_readOther_44 rfl (lv_at hl 2 rfl) ?_
    have hPc := hP.sb (wq := []) [] rfl
    have hDc := hD.sb (wq := []) [] (by decide) rfl
    have hKc := hK.sb (tyq := []) [] rfl
    have hFc := va_free (wc := []) hD hS hA [] rfl
    refine va_calli (va_runS (As := [.int p1]) (rest := [.ref h0]) ⟨hx, hb, hml, hown, hts⟩ (c_CD_isNumeric l dC dI H.size p1) ⟨callB_of 1 hts (gW kC_CD_isNumeric) rfl rfl rfl (hts _ kI_CD) (hts _ kM_RE_234) (by decide +kernel) ⟨Nat.le_of_ble_eq_true rfl, Nat.le_of_ble_eq_true rfl⟩, hts _ kT_CD_isNumeric⟩ ⟨fun a U g mk z => by obtain ⟨z0, z1, zP, zK, zD⟩ := z; exact ⟨z0, z1, zP, va_K.moved (u := U) (U := U.calling g mk a) (Vm.Alike.refl U.vm) zK, zD⟩, fun U hU hW => ⟨rfl, by rw [hU], va_P.he hU.symm hPc, va_K.moved hW.alike hKc, hDc.weaken (fun _ _ _ _ => trivial)⟩⟩ rfl rfl hl.1 rfl (lv_room (Nat.le_of_ble_eq_true rfl)) d_RE_readOther_45 ⟨(Nat.zero_le _), (Nat.zero_le _)⟩) hS (fun q _ h => hFc q h) hFc (fun r2 u t H1 locs ht hvm hw hB hz1 hk1 hS => ?_)
    try dsimp only at hw
    have tr2 := hw
    obtain ⟨hP1, hK1, hD1⟩ := hB
    replace hP1 := va_P.he ht hP1
    obtain ⟨hP, hD⟩ := va_join (wr := (wz_7 h0 aw ac pa lim snd cc ao oc aw wf ab ax len ax cB n f ac afi alk alt cl aop ava apt ael lc alb ava cva gva apt cpt gpt)) (w1 := []) hP hD [] [0, 1, 2, 3, 4, 5, 6] rfl rfl (by decide) (by decide) hk1 hFc hP1 hD1
    clear hPc hDc hKc hFc hz1 hk1 hP1 hK1 hD1
    rename Heap => H
    have hP : va_P (dC, dI) cls (wz_7 h0 aw ac pa lim snd cc ao oc aw wf ab ax len ax cB n f ac afi alk alt cl aop ava apt ael lc alb ava cva gva apt cpt gpt) H := hP
    have hD : va_D A (wz_7 h0 aw ac pa lim snd cc ao oc aw wf ab ax len ax cB n f ac afi alk alt cl aop ava apt ael lc alb ava cva gva apt cpt gpt) := hD
    refine lv_if_ne (tgt := 78) hx hb d_RE_readOther_48 (by decide) (fun c48 => ?_) (fun c48 => ?_)
    · have q48 := neI c48
      refine lv_iconst (v := 1) hx hb d_RE_readOther_78 (by decide) ?_
      have k1 : (1 : Int32).toInt = 1 := by decide
      refine lv_goto (tgt := 83) hx hb d_RE_readOther_79 (by decide) ?_
      refine va_put (D := (dC, dI)) (ci := 7) (v := .int 1) (ty := .boolean) (C := R_RE) (T := F_RE) (N := 8) hx hb hts i_RE t_RE t_RE_ok n_RE hown hK hP hD hS 0 rfl rfl 4 (by decide) (hts _ kF_RE_45) (fun _ h9 => h9) rfl (by decide +kernel) rfl rfl (Nat.le_of_ble_eq_true rfl) d_RE_readOther_83 (fun H locs hP hD hS => ?_)
      have hP : va_P (dC, dI) cls (wz_7 h0 aw ac pa lim 1 cc ao oc aw wf ab ax len ax cB n f ac afi alk alt cl aop ava apt ael lc alb ava cva gva apt cpt gpt) H := hP
      have hD : va_D A (wz_7 h0 aw ac pa lim 1 cc ao oc aw wf ab ax len ax cB n f ac afi alk alt cl aop ava apt ael lc alb ava cva gva apt cpt gpt) := hD
      have hP9 := hP.sb (wq := (wz_7 h0 aw ac pa lim 1 cc ao oc aw wf ab ax len ax cB n f ac afi alk alt cl aop ava apt ael lc alb ava cva gva apt cpt gpt)) [0, 1, 2, 3, 4, 5, 6] rfl
      have hD9 := hD.sb (wq := (wz_7 h0 aw ac pa lim 1 cc ao oc aw wf ab ax len ax cB n f ac afi alk alt cl aop ava apt ael lc alb ava cva gva apt cpt gpt)) [0, 1, 2, 3, 4, 5, 6] (by decide) rfl
      exact W.vret hx hb hr (fun t ht hW => ⟨⟨(pa, 1, oc, cl, lc, gva, gpt), rfl, ⟨(Or.inr rfl), by (try dsimp only); (first | (apply Int.le_antisymm <;> omega) | omega), by (try dsimp only); (first | (apply Int.le_antisymm <;> omega) | omega), rfl, rfl, rfl, fun z => ⟨by (try dsimp only at z); (try dsimp only); (first | (apply Int.le_antisymm <;> omega) | omega), fun y => absurd y (by (first | (apply Int.le_antisymm <;> omega) | omega)), fun _ => ⟨rfl, rfl⟩⟩⟩, va_P.he ht.symm hP9, va_K.moved hW.alike hK, hD9⟩, hS.F ht⟩) hS.2.2 d_RE_readOther_86
    · have q48 := eqI c48
      refine lv_iload_n hx hb d_RE_readOther_51 rfl (lv_at hl 2 rfl) ?_
      refine lv_if_eq (tgt := 78) hx hb d_RE_readOther_52 (by decide) (fun c52 => ?_) (fun c52 => ?_)
      · have q52 := eqI c52
        refine lv_iconst (v := 1) hx hb d_RE_readOther_78 (by decide) ?_
        have k1 : (1 : Int32).toInt = 1 := by decide
        refine lv_goto (tgt := 83) hx hb d_RE_readOther_79 (by decide) ?_
        refine va_put (D := (dC, dI)) (ci := 7) (v := .int 1) (ty := .boolean) (C := R_RE) (T := F_RE) (N := 8) hx hb hts i_RE t_RE t_RE_ok n_RE hown hK hP hD hS 0 rfl rfl 4 (by decide) (hts _ kF_RE_45) (fun _ h9 => h9) rfl (by decide +kernel) rfl rfl (Nat.le_of_ble_eq_true rfl) d_RE_readOther_83 (fun H locs hP hD hS => ?_)
        have hP : va_P (dC, dI) cls (wz_7 h0 aw ac pa lim 1 cc ao oc aw wf ab ax len ax cB n f ac afi alk alt cl aop ava apt ael lc alb ava cva gva apt cpt gpt) H := hP
        have hD : va_D A (wz_7 h0 aw ac pa lim 1 cc ao oc aw wf ab ax len ax cB n f ac afi alk alt cl aop ava apt ael lc alb ava cva gva apt cpt gpt) := hD
        have hP9 := hP.sb (wq := (wz_7 h0 aw ac pa lim 1 cc ao oc aw wf ab ax len ax cB n f ac afi alk alt cl aop ava apt ael lc alb ava cva gva apt cpt gpt)) [0, 1, 2, 3, 4, 5, 6] rfl
        have hD9 := hD.sb (wq := (wz_7 h0 aw ac pa lim 1 cc ao oc aw wf ab ax len ax cB n f ac afi alk alt cl aop ava apt ael lc alb ava cva gva apt cpt gpt)) [0, 1, 2, 3, 4, 5, 6] (by decide) rfl
        exact W.vret hx hb hr (fun t ht hW => ⟨⟨(pa, 1, oc, cl, lc, gva, gpt), rfl, ⟨(Or.inr rfl), by (try dsimp only); (first | (apply Int.le_antisymm <;> omega) | omega), by (try dsimp only); (first | (apply Int.le_antisymm <;> omega) | omega), rfl, rfl, rfl, fun z => ⟨by (try dsimp only at z); (try dsimp only); (first | (apply Int.le_antisymm <;> omega) | omega), fun y => absurd y (by (first | (apply Int.le_antisymm <;> omega) | omega)), fun _ => ⟨rfl, rfl⟩⟩⟩, va_P.he ht.symm hP9, va_K.moved hW.alike hK, hD9⟩, hS.F ht⟩) hS.2.2 d_RE_readOther_86
      · have q52 := neI c52
        refine lv_iload_n hx hb d_RE_readOther_55 rfl (lv_at hl 2 rfl) ?_
        refine lv_iconst (v := 1) hx hb d_RE_readOther_56 (by decide) ?_
        have k1 : (1 : Int32).toInt = 1 := by decide
        refine lv_icmp_eq (tgt := 78) hx hb d_RE_readOther_57 (by decide) (fun c57 => ?_) (fun c57 => ?_)
        · have q57 := eqI c57
          refine lv_iconst (v := 1) hx hb d_RE_readOther_78 (by decide) ?_
          have k1 : (1 : Int32).toInt = 1 := by decide
          refine lv_goto (tgt := 83) hx hb d_RE_readOther_79 (by decide) ?_
          refine va_put (D := (dC, dI)) (ci := 7) (v := .int 1) (ty := .boolean) (C := R_RE) (T := F_RE) (N := 8) hx hb hts i_RE t_RE t_RE_ok n_RE hown hK hP hD hS 0 rfl rfl 4 (by decide) (hts _ kF_RE_45) (fun _ h9 => h9) rfl (by decide +kernel) rfl rfl (Nat.le_of_ble_eq_true rfl) d_RE_readOther_83 (fun H locs hP hD hS => ?_)
          have hP : va_P (dC, dI) cls (wz_7 h0 aw ac pa lim 1 cc ao oc aw wf ab ax len ax cB n f ac afi alk alt cl aop ava apt ael lc alb ava cva gva apt cpt gpt) H := hP
          have hD : va_D A (wz_7 h0 aw ac pa lim 1 cc ao oc aw wf ab ax len ax cB n f ac afi alk alt cl aop ava apt ael lc alb ava cva gva apt cpt gpt) := hD
          have hP9 := hP.sb (wq := (wz_7 h0 aw ac pa lim 1 cc ao oc aw wf ab ax len ax cB n f ac afi alk alt cl aop ava apt ael lc alb ava cva gva apt cpt gpt)) [0, 1, 2, 3, 4, 5, 6] rfl
          have hD9 := hD.sb (wq := (wz_7 h0 aw ac pa lim 1 cc ao oc aw wf ab ax len ax cB n f ac afi alk alt cl aop ava apt ael lc alb ava cva gva apt cpt gpt)) [0, 1, 2, 3, 4, 5, 6] (by decide) rfl
          exact W.vret hx hb hr (fun t ht hW => ⟨⟨(pa, 1, oc, cl, lc, gva, gpt), rfl, ⟨(Or.inr rfl), by (try dsimp only); (first | (apply Int.le_antisymm <;> omega) | omega), by (try dsimp only); (first | (apply Int.le_antisymm <;> omega) | omega), rfl, rfl, rfl, fun z => ⟨by (try dsimp only at z); (try dsimp only); (first | (apply Int.le_antisymm <;> omega) | omega), fun y => absurd y (by (first | (apply Int.le_antisymm <;> omega) | omega)), fun _ => ⟨rfl, rfl⟩⟩⟩, va_P.he ht.symm hP9, va_K.moved hW.alike hK, hD9⟩, hS.F ht⟩) hS.2.2 d_RE_readOther_86
        · have q57 := neI c57
          refine lv_iload_n hx hb d_RE_readOther_60 rfl (lv_at hl 2 rfl) ?_
          refine lv_bipush (v := 15) hx hb d_RE_readOther_61 (by decide) ?_
          have k15 : (15 : Int32).toInt = 15 := by decide
          refine lv_icmp_eq (tgt := 78) hx hb d_RE_readOther_63 (by decide) (fun c63 => ?_) (fun c63 => ?_)
          · have q63 := eqI c63
            refine lv_iconst (v := 1) hx hb d_RE_readOther_78 (by decide) ?_
            have k1 : (1 : Int32).toInt = 1 := by decide
            refine lv_goto (tgt := 83) hx hb d_RE_readOther_79 (by decide) ?_
            refine va_put (D := (dC, dI)) (ci := 7) (v := .int 1) (ty := .boolean) (C := R_RE) (T := F_RE) (N := 8) hx hb hts i_RE t_RE t_RE_ok n_RE hown hK hP hD hS 0 rfl rfl 4 (by decide) (hts _ kF_RE_45) (fun _ h9 => h9) rfl (by decide +kernel) rfl rfl (Nat.le_of_ble_eq_true rfl) d_RE_readOther_83 (fun H locs hP hD hS => ?_)
            have hP : va_P (dC, dI) cls (wz_7 h0 aw ac pa lim 1 cc ao oc aw wf ab ax len ax cB n f ac afi alk alt cl aop ava apt ael lc alb ava cva gva apt cpt gpt) H := hP
            have hD : va_D A (wz_7 h0 aw ac pa lim 1 cc ao oc aw wf ab ax len ax cB n f ac afi alk alt cl aop ava apt ael lc alb ava cva gva apt cpt gpt) := hD
            have hP9 := hP.sb (wq := (wz_7 h0 aw ac pa lim 1 cc ao oc aw wf ab ax len ax cB n f ac afi alk alt cl aop ava apt ael lc alb ava cva gva apt cpt gpt)) [0, 1, 2, 3, 4, 5, 6] rfl
            have hD9 := hD.sb (wq := (wz_7 h0 aw ac pa lim 1 cc ao oc aw wf ab ax len ax cB n f ac afi alk alt cl aop ava apt ael lc alb ava cva gva apt cpt gpt)) [0, 1, 2, 3, 4, 5, 6] (by decide) rfl
            exact W.vret hx hb hr (fun t ht hW => ⟨⟨(pa, 1, oc, cl, lc, gva, gpt), rfl, ⟨(Or.inr rfl), by (try dsimp only); (first | (apply Int.le_antisymm <;> omega) | omega), by (try dsimp only); (first | (apply Int.le_antisymm <;> omega) | omega), rfl, rfl, rfl, fun z => ⟨by (try dsimp only at z); (try dsimp only); (first | (apply Int.le_antisymm <;> omega) | omega), fun y => absurd y (by (first | (apply Int.le_antisymm <;> omega) | omega)), fun _ => ⟨rfl, rfl⟩⟩⟩, va_P.he ht.symm hP9, va_K.moved hW.alike hK, hD9⟩, hS.F ht⟩) hS.2.2 d_RE_readOther_86
          · have q63 := neI c63
            refine lv_iload_n hx hb d_RE_readOther_66 rfl (lv_at hl 2 rfl) ?_
            refine lv_bipush (v := 26) hx hb d_RE_readOther_67 (by decide) ?_
            have k26 : (26 : Int32).toInt = 26 := by decide
            refine lv_icmp_eq (tgt := 78) hx hb d_RE_readOther_69 (by decide) (fun c69 => ?_) (fun c69 => ?_)
            · have q69 := eqI c69
              refine lv_iconst (v := 1) hx hb d_RE_readOther_78 (by decide) ?_
              have k1 : (1 : Int32).toInt = 1 := by decide
              refine lv_goto (tgt := 83) hx hb d_RE_readOther_79 (by decide) ?_
              refine va_put (D := (dC, dI)) (ci := 7) (v := .int 1) (ty := .boolean) (C := R_RE) (T := F_RE) (N := 8) hx hb hts i_RE t_RE t_RE_ok n_RE hown hK hP hD hS 0 rfl rfl 4 (by decide) (hts _ kF_RE_45) (fun _ h9 => h9) rfl (by decide +kernel) rfl rfl (Nat.le_of_ble_eq_true rfl) d_RE_readOther_83 (fun H locs hP hD hS => ?_)
              have hP : va_P (dC, dI) cls (wz_7 h0 aw ac pa lim 1 cc ao oc aw wf ab ax len ax cB n f ac afi alk alt cl aop ava apt ael lc alb ava cva gva apt cpt gpt) H := hP
              have hD : va_D A (wz_7 h0 aw ac pa lim 1 cc ao oc aw wf ab ax len ax cB n f ac afi alk alt cl aop ava apt ael lc alb ava cva gva apt cpt gpt) := hD
              have hP9 := hP.sb (wq := (wz_7 h0 aw ac pa lim 1 cc ao oc aw wf ab ax len ax cB n f ac afi alk alt cl aop ava apt ael lc alb ava cva gva apt cpt gpt)) [0, 1, 2, 3, 4, 5, 6] rfl
              have hD9 := hD.sb (wq := (wz_7 h0 aw ac pa lim 1 cc ao oc aw wf ab ax len ax cB n f ac afi alk alt cl aop ava apt ael lc alb ava cva gva apt cpt gpt)) [0, 1, 2, 3, 4, 5, 6] (by decide) rfl
              exact W.vret hx hb hr (fun t ht hW => ⟨⟨(pa, 1, oc, cl, lc, gva, gpt), rfl, ⟨(Or.inr rfl), by (try dsimp only); (first | (apply Int.le_antisymm <;> omega) | omega), by (try dsimp only); (first | (apply Int.le_antisymm <;> omega) | omega), rfl, rfl, rfl, fun z => ⟨by (try dsimp only at z); (try dsimp only); (first | (apply Int.le_antisymm <;> omega) | omega), fun y => absurd y (by (first | (apply Int.le_antisymm <;> omega) | omega)), fun _ => ⟨rfl, rfl⟩⟩⟩, va_P.he ht.symm hP9, va_K.moved hW.alike hK, hD9⟩, hS.F ht⟩) hS.2.2 d_RE_readOther_86
            · have q69 := neI c69
              refine lv_iload_n hx hb d_RE_readOther_72 rfl (lv_at hl 2 rfl) ?_
              refine lv_bipush (v := 27) hx hb d_RE_readOther_73 (by decide) ?_
              have k27 : (27 : Int32).toInt = 27 := by decide
              refine lv_icmp_ne (tgt := 82) hx hb d_RE_readOther_75 (by decide) (fun c75 => ?_) (fun c75 => ?_)
              · have q75 := neI c75
                refine lv_iconst (v := 0) hx hb d_RE_readOther_82 (by decide) ?_
                have k0 : (0 : Int32).toInt = 0 := by decide
                refine va_put (D := (dC, dI)) (ci := 7) (v := .int 0) (ty := .boolean) (C := R_RE) (T := F_RE) (N := 8) hx hb hts i_RE t_RE t_RE_ok n_RE hown hK hP hD hS 0 rfl rfl 4 (by decide) (hts _ kF_RE_45) (fun _ h9 => h9) rfl (by decide +kernel) rfl rfl (Nat.le_of_ble_eq_true rfl) d_RE_readOther_83 (fun H locs hP hD hS => ?_)
                have hP : va_P (dC, dI) cls (wz_7 h0 aw ac pa lim 0 cc ao oc aw wf ab ax len ax cB n f ac afi alk alt cl aop ava apt ael lc alb ava cva gva apt cpt gpt) H := hP
                have hD : va_D A (wz_7 h0 aw ac pa lim 0 cc ao oc aw wf ab ax len ax cB n f ac afi alk alt cl aop ava apt ael lc alb ava cva gva apt cpt gpt) := hD
                have hP9 := hP.sb (wq := (wz_7 h0 aw ac pa lim 0 cc ao oc aw wf ab ax len ax cB n f ac afi alk alt cl aop ava apt ael lc alb ava cva gva apt cpt gpt)) [0, 1, 2, 3, 4, 5, 6] rfl
                have hD9 := hD.sb (wq := (wz_7 h0 aw ac pa lim 0 cc ao oc aw wf ab ax len ax cB n f ac afi alk alt cl aop ava apt ael lc alb ava cva gva apt cpt gpt)) [0, 1, 2, 3, 4, 5, 6] (by decide) rfl
                exact W.vret hx hb hr (fun t ht hW => ⟨⟨(pa, 0, oc, cl, lc, gva, gpt), rfl, ⟨(Or.inl rfl), by (try dsimp only); (first | (apply Int.le_antisymm <;> omega) | omega), by (try dsimp only); (first | (apply Int.le_antisymm <;> omega) | omega), rfl, rfl, rfl, fun z => ⟨by (try dsimp only at z); (try dsimp only); (first | (apply Int.le_antisymm <;> omega) | omega), fun y => absurd y (by (first | (apply Int.le_antisymm <;> omega) | omega)), fun _ => ⟨rfl, rfl⟩⟩⟩, va_P.he ht.symm hP9, va_K.moved hW.alike hK, hD9⟩, hS.F ht⟩) hS.2.2 d_RE_readOther_86
              · have q75 := eqI c75
                refine lv_iconst (v := 1) hx hb d_RE_readOther_78 (by decide) ?_
                have k1 : (1 : Int32).toInt = 1 := by decide
                refine lv_goto (tgt := 83) hx hb d_RE_readOther_79 (by decide) ?_
                refine va_put (D := (dC, dI)) (ci := 7) (v := .int 1) (ty := .boolean) (C := R_RE) (T := F_RE) (N := 8) hx hb hts i_RE t_RE t_RE_ok n_RE hown hK hP hD hS 0 rfl rfl 4 (by decide) (hts _ kF_RE_45) (fun _ h9 => h9) rfl (by decide +kernel) rfl rfl (Nat.le_of_ble_eq_true rfl) d_RE_readOther_83 (fun H locs hP hD hS => ?_)
                have hP : va_P (dC, dI) cls (wz_7 h0 aw ac pa lim 1 cc ao oc aw wf ab ax len ax cB n f ac afi alk alt cl aop ava apt ael lc alb ava cva gva apt cpt gpt) H := hP
                have hD : va_D A (wz_7 h0 aw ac pa lim 1 cc ao oc aw wf ab ax len ax cB n f ac afi alk alt cl aop ava apt ael lc alb ava cva gva apt cpt gpt) := hD
                have hP9 := hP.sb (wq := (wz_7 h0 aw ac pa lim 1 cc ao oc aw wf ab ax len ax cB n f ac afi alk alt cl aop ava apt ael lc alb ava cva gva apt cpt gpt)) [0, 1, 2, 3, 4, 5, 6] rfl
                have hD9 := hD.sb (wq := (wz_7 h0 aw ac pa lim 1 cc ao oc aw wf ab ax len ax cB n f ac afi alk alt cl aop ava apt ael lc alb ava cva gva apt cpt gpt)) [0, 1, 2, 3, 4, 5, 6] (by decide) rfl
                exact W.vret hx hb hr (fun t ht hW => ⟨⟨(pa, 1, oc, cl, lc, gva, gpt), rfl, ⟨(Or.inr rfl), by (try dsimp only); (first | (apply Int.le_antisymm <;> omega) | omega), by (try dsimp only); (first | (apply Int.le_antisymm <;> omega) | omega), rfl, rfl, rfl, fun z => ⟨by (try dsimp only at z); (try dsimp only); (first | (apply Int.le_antisymm <;> omega) | omega), fun y => absurd y (by (first | (apply Int.le_antisymm <;> omega) | omega)), fun _ => ⟨rfl, rfl⟩⟩⟩, va_P.he ht.symm hP9, va_K.moved hW.alike hK, hD9⟩, hS.F ht⟩) hS.2.2 d_RE_readOther_86
  · have q4 := neI c4
    refine lv_aload_n hx hb d_RE_readOther_7 rfl (lv_at hl 0 rfl) ?_
    refine va_get (D := (dC, dI)) (ci := 7) (v := .ref ac) (C := R_RE) (T := F_RE) (N := 8) hx hb hts i_RE hown hK hP 0 rfl rfl 1 (by decide) (hts _ kF_RE_25) (fun _ h9 => h9) rfl d_RE_readOther_8 ?_
    refine va_get (D := (dC, dI)) (ci := 3) (v := .ref apt) (C := R_CD) (T := F_CD) (N := 10) hx hb hts i_CD hown hK hP 4 rfl rfl 6 (by decide) (hts _ kF_RE_200) (fun _ h9 => h9) rfl d_RE_readOther_11 ?_
    refine lv_iload_n hx hb d_RE_readOther_14 rfl (lv_at hl 1 rfl) ?_
    refine lv_aload_n hx hb d_RE_readOther_15 rfl (lv_at hl 0 rfl) ?_
    refine lv_ldc2 hx hb hown (hts _ kL_RE_82) d_RE_readOther_16 ?_
    refine lv_topl (fun x3 ex3 => ?_)
    have tx3 : x3.toInt = 2147483647 := by rw [ex3]; decide
    have hPc := hP.sb (wq := (wz_1 h0 aw ac pa lim snd cc ao oc aw wf ab ax len ax cB n f)) [0, 1, 2, 3] rfl
    have hDc := hD.sb (wq := (wz_1 h0 aw ac pa lim snd cc ao oc aw wf ab ax len ax cB n f)) [0, 1, 2, 3] (by decide) rfl
    have hKc := hK.sb (tyq := [(cB, .byte)]) [0] rfl
    have hFc := va_free (wc := (wz_1 h0 aw ac pa lim snd cc ao oc aw wf ab ax len ax cB n f)) hD hS hA [0, 1, 2, 3] rfl
    refine va_calll (va_runV (As := [.long x3]) (rest := [.int p0, .ref apt]) ⟨hx, hb, hml, hown, hts⟩ (c_RE_readUnsigned l dC dI h0 aw ac ao ab ax H.size cB n pa lim snd cc oc len f wf pwf pwl hs (by (first | (apply Int.le_antisymm <;> omega) | omega)) x3 (by (first | (apply Int.le_antisymm <;> omega) | omega))) (cwV 1 hts (gV kM_RE_64 kV_RE_readUnsigned kS_RE_readUnsigned kI_RE kC_RE_readUnsigned) rfl rfl rfl (by decide +kernel) ⟨Nat.le_of_ble_eq_true rfl, Nat.le_of_ble_eq_true rfl⟩) ⟨fun a U g mk z => by obtain ⟨z0, z1, zP, zK, zD⟩ := z; exact ⟨z0, z1, zP, va_K.moved (u := U) (U := U.calling g mk a) (Vm.Alike.refl U.vm) zK, zD⟩, va_recv hKc hPc (ci := 7) (q0 := 0) rfl rfl, fun U hU hW => ⟨rfl, by rw [hU], va_P.he hU.symm hPc, va_K.moved hW.alike hKc, hDc.weaken (fun _ _ _ _ => trivial)⟩⟩ rfl rfl hl.1 rfl (lv_room (Nat.le_of_ble_eq_true rfl)) d_RE_readOther_19 ⟨(Nat.zero_le _), (Nat.zero_le _)⟩) hS (fun q _ h => hFc q h) hFc (fun r4 u t H1 locs ht hvm hw hB hz1 hk1 hS => ?_)
    obtain ⟨n5, n6⟩ := u
    try dsimp only at hw
    obtain ⟨hsn6, tn5⟩ := hw
    have bsn6 := b01 hsn6
    obtain ⟨hP1, hK1, hD1⟩ := hB
    replace hP1 := va_P.he ht hP1
    obtain ⟨hP, hD⟩ := va_join (wr := (wz_8 ac afi alk alt cl aop ava apt ael lc alb ava cva gva apt cpt gpt)) (w1 := (wz_1 h0 aw ac n5 lim n6 cc ao oc aw wf ab ax len ax cB n f)) hP hD [0, 1, 2, 3] [4, 5, 6] rfl rfl (by decide) (by decide) hk1 hFc hP1 hD1
    clear hPc hDc hKc hFc hz1 hk1 hP1 hK1 hD1
    rename Heap => H
    have hP : va_P (dC, dI) cls (wz_9 ac afi alk alt cl aop ava apt ael lc alb ava cva gva apt cpt gpt h0 aw ac n5 lim n6 cc ao oc aw wf ab ax len ax cB n f) H := hP
    have hD : va_D A (wz_9 ac afi alk alt cl aop ava apt ael lc alb ava cva gva apt cpt gpt h0 aw ac n5 lim n6 cc ao oc aw wf ab ax len ax cB n f) := hD
    refine lv_l2i hx hb d_RE_readOther_22 rfl ?_
    refine lv_topi (fun x7 ex7 => ?_)
    have tx7 := l2i_t ex7 (by (first | (apply Int.le_antisymm <;> omega) | omega)) (by (first | (apply Int.le_antisymm <;> omega) | omega))
    have g23 : vp_in p0 5000 := vp_in_iff.mpr ⟨by (first | (apply Int.le_antisymm <;> omega) | omega), by (first | (apply Int.le_antisymm <;> omega) | omega)⟩
    refine va_iast hx hb hK hP hD hS 2 2 rfl rfl g23 d_RE_readOther_23 (fun H locs hP hD hS => ?_)
    have hP : va_P (dC, dI) cls (wz_9 ac afi alk alt cl aop ava apt ael lc alb ava cva gva apt cpt (upd gpt p0.toNatClampNeg x7) h0 aw ac n5 lim n6 cc ao oc aw wf ab ax len ax cB n f) H := hP
    have hD : va_D A (wz_9 ac afi alk alt cl aop ava apt ael lc alb ava cva gva apt cpt (upd gpt p0.toNatClampNeg x7) h0 aw ac n5 lim n6 cc ao oc aw wf ab ax len ax cB n f) := hD
    generalize ef8 : upd gpt p0.toNatClampNeg x7 = f8 at hP hD
    refine lv_aload_n hx hb d_RE_readOther_24 rfl (lv_at hl 0 rfl) ?_
    refine va_get (D := (dC, dI)) (ci := 7) (v := .ref ac) (C := R_RE) (T := F_RE) (N := 8) hx hb hts i_RE hown hK hP 3 rfl rfl 1 (by decide) (hts _ kF_RE_25) (fun _ h9 => h9) rfl d_RE_readOther_25 ?_
    refine va_get (D := (dC, dI)) (ci := 3) (v := .ref ava) (C := R_CD) (T := F_CD) (N := 10) hx hb hts i_CD hown hK hP 0 rfl rfl 5 (by decide) (hts _ kF_RE_197) (fun _ h9 => h9) rfl d_RE_readOther_28 ?_
    refine lv_iload_n hx hb d_RE_readOther_31 rfl (lv_at hl 1 rfl) ?_
    refine lv_aload_n hx hb d_RE_readOther_32 rfl (lv_at hl 0 rfl) ?_
    refine lv_ldc2 hx hb hown (hts _ kL_RE_121) d_RE_readOther_33 ?_
    refine lv_topl (fun x9 ex9 => ?_)
    have tx9 : x9.toInt = 4294967295 := by rw [ex9]; decide
    have hPc := hP.sb (wq := (wz_1 h0 aw ac n5 lim n6 cc ao oc aw wf ab ax len ax cB n f)) [3, 4, 5, 6] rfl
    have hDc := hD.sb (wq := (wz_1 h0 aw ac n5 lim n6 cc ao oc aw wf ab ax len ax cB n f)) [3, 4, 5, 6] (by decide) rfl
    have hKc := hK.sb (tyq := [(cB, .byte)]) [0] rfl
    have hFc := va_free (wc := (wz_1 h0 aw ac n5 lim n6 cc ao oc aw wf ab ax len ax cB n f)) hD hS hA [3, 4, 5, 6] rfl
    refine va_calll (va_runV (As := [.long x9]) (rest := [.int p0, .ref ava]) ⟨hx, hb, hml, hown, hts⟩ (c_RE_readUnsigned l dC dI h0 aw ac ao ab ax H.size cB n n5 lim n6 cc oc len f wf pwf pwl hsn6 (by (first | (apply Int.le_antisymm <;> omega) | omega)) x9 (by (first | (apply Int.le_antisymm <;> omega) | omega))) (cwV 1 hts (gV kM_RE_64 kV_RE_readUnsigned kS_RE_readUnsigned kI_RE kC_RE_readUnsigned) rfl rfl rfl (by decide +kernel) ⟨Nat.le_of_ble_eq_true rfl, Nat.le_of_ble_eq_true rfl⟩) ⟨fun a U g mk z => by obtain ⟨z0, z1, zP, zK, zD⟩ := z; exact ⟨z0, z1, zP, va_K.moved (u := U) (U := U.calling g mk a) (Vm.Alike.refl U.vm) zK, zD⟩, va_recv hKc hPc (ci := 7) (q0 := 0) rfl rfl, fun U hU hW => ⟨rfl, by rw [hU], va_P.he hU.symm hPc, va_K.moved hW.alike hKc, hDc.weaken (fun _ _ _ _ => trivial)⟩⟩ rfl rfl hl.1 rfl (lv_room (Nat.le_of_ble_eq_true rfl)) d_RE_readOther_36 ⟨(Nat.zero_le _), (Nat.zero_le _)⟩) hS (fun q _ h => hFc q h) hFc (fun r10 u t H1 locs ht hvm hw hB hz1 hk1 hS => ?_)
    obtain ⟨n11, n12⟩ := u
    try dsimp only at hw
    obtain ⟨hsn12, tn11⟩ := hw
    have bsn12 := b01 hsn12
    obtain ⟨hP1, hK1, hD1⟩ := hB
    replace hP1 := va_P.he ht hP1
    obtain ⟨hP, hD⟩ := va_join (wr := (wz_8 ac afi alk alt cl aop ava apt ael lc alb ava cva gva apt cpt f8)) (w1 := (wz_1 h0 aw ac n11 lim n12 cc ao oc aw wf ab ax len ax cB n f)) hP hD [3, 4, 5, 6] [0, 1, 2] rfl rfl (by decide) (by decide) hk1 hFc hP1 hD1
    clear hPc hDc hKc hFc hz1 hk1 hP1 hK1 hD1
    rename Heap => H
    have hP : va_P (dC, dI) cls (wz_9 ac afi alk alt cl aop ava apt ael lc alb ava cva gva apt cpt f8 h0 aw ac n11 lim n12 cc ao oc aw wf ab ax len ax cB n f) H := hP
    have hD : va_D A (wz_9 ac afi alk alt cl aop ava apt ael lc alb ava cva gva apt cpt f8 h0 aw ac n11 lim n12 cc ao oc aw wf ab ax len ax cB n f) := hD
    have g39 : vp_in p0 5000 := vp_in_iff.mpr ⟨by (first | (apply Int.le_antisymm <;> omega) | omega), by (first | (apply Int.le_antisymm <;> omega) | omega)⟩
    refine va_last hx hb hK hP hD hS 1 1 rfl rfl g39 d_RE_readOther_39 (fun H locs hP hD hS => ?_)
    have hP : va_P (dC, dI) cls (wz_9 ac afi alk alt cl aop ava apt ael lc alb ava cva (vp_updL gva p0.toNatClampNeg r10) apt cpt f8 h0 aw ac n11 lim n12 cc ao oc aw wf ab ax len ax cB n f) H := hP
    have hD : va_D A (wz_9 ac afi alk alt cl aop ava apt ael lc alb ava cva (vp_updL gva p0.toNatClampNeg r10) apt cpt f8 h0 aw ac n11 lim n12 cc ao oc aw wf ab ax len ax cB n f) := hD
    generalize ef13 : vp_updL gva p0.toNatClampNeg r10 = f13 at hP hD
    refine lv_goto (tgt := 86) hx hb d_RE_readOther_40 (by decide) ?_
    have hP9 := hP.sb (wq := (wz_7 h0 aw ac n11 lim n12 cc ao oc aw wf ab ax len ax cB n f ac afi alk alt cl aop ava apt ael lc alb ava cva f13 apt cpt f8)) [3, 4, 5, 6, 0, 1, 2] rfl
    have hD9 := hD.sb (wq := (wz_7 h0 aw ac n11 lim n12 cc ao oc aw wf ab ax len ax cB n f ac afi alk alt cl aop ava apt ael lc alb ava cva f13 apt cpt f8)) [3, 4, 5, 6, 0, 1, 2] (by decide) rfl
    exact W.vret hx hb hr (fun t ht hW => ⟨⟨(n11, n12, oc, cl, lc, f13, f8), rfl, ⟨hsn12, by (try dsimp only); (first | (apply Int.le_antisymm <;> omega) | omega), by (try dsimp only); (first | (apply Int.le_antisymm <;> omega) | omega), rfl, rfl, rfl, fun z => ⟨by (try dsimp only at z); (try dsimp only); (first | (apply Int.le_antisymm <;> omega) | omega), fun _ => ⟨by (first | (apply Int.le_antisymm <;> omega) | omega), x7, r10, by (first | (apply Int.le_antisymm <;> omega) | omega), by (first | (apply Int.le_antisymm <;> omega) | omega), by (first | (apply Int.le_antisymm <;> omega) | omega), by (try dsimp only) <;> exact ef8.symm, by (try dsimp only) <;> exact ef13.symm⟩, fun y => absurd y (by (first | (apply Int.le_antisymm <;> omega) | omega))⟩⟩, va_P.he ht.symm hP9, va_K.moved hW.alike hK, hD9⟩, hS.F ht⟩) hS.2.2 d_RE_readOther_86
end q_07
section q_08
/-! Reader: an instruction -/
/-- what reading one instruction more does to the tables of the code (o: its op, at the place cl) -/
def rstep (cl o oc lc r oc2 lc2 : Int32) (gop gpt gel glb go gop2 gpt2 gel2 glb2 go2 : Nat → Int32) (gva gva2 : Nat → Int64) : Prop :=
  gop2 = upd gop cl.toNatClampNeg o ∧
  (((o.toInt = 2 ∨ o.toInt = 3 ∨ o.toInt = 4) ∧ r.toInt = 1 ∧ oc.toInt < 100 ∧ oc2.toInt = oc.toInt + 1 ∧ go2 = upd go oc.toNatClampNeg cl ∧ lc2 = lc ∧ glb2 = glb ∧ gpt2 = upd gpt cl.toNatClampNeg 0 ∧ gel2 = upd gel cl.toNatClampNeg (-1) ∧ ∃ v : Int64, (v.toInt = 64 ∨ v.toInt = 127 ∨ v.toInt = 126) ∧ gva2 = vp_updL (vp_updL gva cl.toNatClampNeg 0) cl.toNatClampNeg v) ∨
   (o.toInt = 5 ∧ r.toInt = 1 ∧ oc2 = oc ∧ go2 = go ∧ lc2 = lc ∧ glb2 = glb ∧ gpt2 = upd gpt cl.toNatClampNeg 0 ∧ gva2 = vp_updL gva cl.toNatClampNeg 0 ∧ 0 < oc.toInt ∧ (gop2 (go (oc.toNatClampNeg - 1)).toNatClampNeg).toInt = 4 ∧ (upd gel cl.toNatClampNeg (-1) (go (oc.toNatClampNeg - 1)).toNatClampNeg).toInt < 0 ∧ gel2 = upd (upd gel cl.toNatClampNeg (-1)) (go (oc.toNatClampNeg - 1)).toNatClampNeg cl) ∨
   (o.toInt = 11 ∧ go2 = go ∧ lc2 = lc ∧ glb2 = glb ∧ gel2 = upd gel cl.toNatClampNeg (-1) ∧ gva2 = vp_updL gva cl.toNatClampNeg 0 ∧ (r.toInt = 0 → oc.toInt = 0 ∧ oc2 = oc ∧ gpt2 = upd gpt cl.toNatClampNeg 0) ∧ (r.toInt = 1 → 0 < oc.toInt ∧ oc2.toInt = oc.toInt - 1 ∧ gpt2 = if 0 ≤ (upd gel cl.toNatClampNeg (-1) (go (oc.toNatClampNeg - 1)).toNatClampNeg).toInt then upd (upd (upd gpt cl.toNatClampNeg 0) (go (oc.toNatClampNeg - 1)).toNatClampNeg cl) (upd gel cl.toNatClampNeg (-1) (go (oc.toNatClampNeg - 1)).toNatClampNeg).toNatClampNeg cl else upd (upd gpt cl.toNatClampNeg 0) (go (oc.toNatClampNeg - 1)).toNatClampNeg cl)) ∨
   ((o.toInt = 12 ∨ o.toInt = 13 ∨ o.toInt = 16 ∨ o.toInt = 32 ∨ o.toInt = 33 ∨ o.toInt = 34 ∨ o.toInt = 35 ∨ o.toInt = 36) ∧ r.toInt = 1 ∧ oc2 = oc ∧ go2 = go ∧ lc2 = lc ∧ glb2 = glb ∧ gpt2 = upd gpt cl.toNatClampNeg 0 ∧ gel2 = upd gel cl.toNatClampNeg (-1) ∧ ∃ v : Int64, 0 ≤ v.toInt ∧ v.toInt ≤ 2147483647 ∧ gva2 = vp_updL (vp_updL gva cl.toNatClampNeg 0) cl.toNatClampNeg v) ∨
   (o.toInt = 14 ∧ r.toInt = 1 ∧ oc2 = oc ∧ go2 = go ∧ gel2 = upd gel cl.toNatClampNeg (-1) ∧ ∃ (b : Int32) (x : Int64), 0 ≤ b.toInt ∧ b.toInt ≤ 50 ∧ x.toInt = lc.toInt ∧ lc2.toInt = lc.toInt + b.toInt + 1 ∧ gva2 = vp_updL (vp_updL gva cl.toNatClampNeg 0) cl.toNatClampNeg x ∧ gpt2 = upd (upd gpt cl.toNatClampNeg 0) cl.toNatClampNeg b) ∨
   ((o.toInt = 63 ∨ o.toInt = 64 ∨ o.toInt = 0 ∨ o.toInt = 1 ∨ o.toInt = 15 ∨ o.toInt = 26 ∨ o.toInt = 27 ∨ (69 ≤ o.toInt ∧ o.toInt ≤ 90) ∨ (103 ≤ o.toInt ∧ o.toInt ≤ 138) ∨ o.toInt = 167 ∨ o.toInt = 172 ∨ o.toInt = 173) ∧ r.toInt = 1 ∧ oc2 = oc ∧ go2 = go ∧ lc2 = lc ∧ glb2 = glb ∧ gpt2 = upd gpt cl.toNatClampNeg 0 ∧ gel2 = upd gel cl.toNatClampNeg (-1) ∧ gva2 = vp_updL gva cl.toNatClampNeg 0) ∨
   ((o.toInt = 65 ∨ o.toInt = 66) ∧ r.toInt = 1 ∧ oc2 = oc ∧ go2 = go ∧ lc2 = lc ∧ glb2 = glb ∧ gpt2 = upd gpt cl.toNatClampNeg 0 ∧ gel2 = upd gel cl.toNatClampNeg (-1) ∧ ∃ v : Int64, gva2 = vp_updL (vp_updL gva cl.toNatClampNeg 0) cl.toNatClampNeg v) ∨
   ((o.toInt = 44 ∨ o.toInt = 45 ∨ o.toInt = 58 ∨ o.toInt = 40 ∨ o.toInt = 54 ∨ o.toInt = 41 ∨ o.toInt = 55) ∧ r.toInt = 1 ∧ oc2 = oc ∧ go2 = go ∧ lc2 = lc ∧ glb2 = glb ∧ gel2 = upd gel cl.toNatClampNeg (-1) ∧ ∃ (b : Int32) (x : Int64), 0 ≤ b.toInt ∧ 0 ≤ x.toInt ∧ x.toInt ≤ 4294967295 ∧ gpt2 = upd (upd gpt cl.toNatClampNeg 0) cl.toNatClampNeg b ∧ gva2 = vp_updL (vp_updL gva cl.toNatClampNeg 0) cl.toNatClampNeg x))
theorem upd_lt {g : Nat → Int32} {k : Nat} {v : Int32} (h : ∀ j : Nat, (g j).toInt < 5000) (hv : v.toInt < 5000) : ∀ j : Nat, (upd g k v j).toInt < 5000 := by
  intro j
  by_cases e : j = k
  · rw [e, pk_us]
    exact hv
  · rw [pk_un e]
    exact h j
abbrev b_RE_readInstruction : ByteArray := prog_9_method_10_code
def y_RE_readInstruction : MethodName := ⟨R_RE, "readInstruction", "()Z"⟩
abbrev w_RE_readInstruction : List Cond := .code y_RE_readInstruction b_RE_readInstruction 3 (Option.some .boolean) :: lw_g
theorem kC_RE_readInstruction : Cond.code y_RE_readInstruction b_RE_readInstruction 3 (Option.some .boolean) ∈ lw_g := in_c6 140 rfl rfl
theorem d_RE_readInstruction_0 : decode b_RE_readInstruction 0 = .ok (.aload_n 0, 1) := bz_c42 (by decide +kernel)
theorem d_RE_readInstruction_1 : decode b_RE_readInstruction 1 = .ok (.invokevirtual 60, 3) := bz_c182 (by decide +kernel)
theorem d_RE_readInstruction_4 : decode b_RE_readInstruction 4 = .ok (.istore_n 1, 1) := bz_c60 (by decide +kernel)
theorem d_RE_readInstruction_5 : decode b_RE_readInstruction 5 = .ok (.aload_n 0, 1) := bz_c42 (by decide +kernel)
theorem d_RE_readInstruction_6 : decode b_RE_readInstruction 6 = .ok (.getfield 25, 3) := bz_c180 (by decide +kernel)
theorem d_RE_readInstruction_9 : decode b_RE_readInstruction 9 = .ok (.getfield 175, 3) := bz_c180 (by decide +kernel)
theorem d_RE_readInstruction_12 : decode b_RE_readInstruction 12 = .ok (.istore_n 2, 1) := bz_c61 (by decide +kernel)
theorem d_RE_readInstruction_13 : decode b_RE_readInstruction 13 = .ok (.aload_n 0, 1) := bz_c42 (by decide +kernel)
theorem d_RE_readInstruction_14 : decode b_RE_readInstruction 14 = .ok (.aload_n 0, 1) := bz_c42 (by decide +kernel)
theorem d_RE_readInstruction_15 : decode b_RE_readInstruction 15 = .ok (.getfield 45, 3) := bz_c180 (by decide +kernel)
theorem d_RE_readInstruction_18 : decode b_RE_readInstruction 18 = .ok (.ifCond .eq 14, 3) := bz_c153 (by decide +kernel)
theorem d_RE_readInstruction_21 : decode b_RE_readInstruction 21 = .ok (.iload_n 2, 1) := bz_c28 (by decide +kernel)
theorem d_RE_readInstruction_22 : decode b_RE_readInstruction 22 = .ok (.sipush 5000, 3) := bz_c17 (by decide +kernel)
theorem d_RE_readInstruction_25 : decode b_RE_readInstruction 25 = .ok (.if_icmp .ge 7, 3) := bz_c162 (by decide +kernel)
theorem d_RE_readInstruction_28 : decode b_RE_readInstruction 28 = .ok (.iconst 1, 1) := bz_c4 (by decide +kernel)
theorem d_RE_readInstruction_29 : decode b_RE_readInstruction 29 = .ok (.goto 4, 3) := bz_c167 (by decide +kernel)
theorem d_RE_readInstruction_32 : decode b_RE_readInstruction 32 = .ok (.iconst 0, 1) := bz_c3 (by decide +kernel)
theorem d_RE_readInstruction_33 : decode b_RE_readInstruction 33 = .ok (.putfield 45, 3) := bz_c181 (by decide +kernel)
theorem d_RE_readInstruction_36 : decode b_RE_readInstruction 36 = .ok (.aload_n 0, 1) := bz_c42 (by decide +kernel)
theorem d_RE_readInstruction_37 : decode b_RE_readInstruction 37 = .ok (.getfield 45, 3) := bz_c180 (by decide +kernel)
theorem d_RE_readInstruction_40 : decode b_RE_readInstruction 40 = .ok (.ifCond .ne 5, 3) := bz_c154 (by decide +kernel)
theorem d_RE_readInstruction_43 : decode b_RE_readInstruction 43 = .ok (.iconst 0, 1) := bz_c3 (by decide +kernel)
theorem d_RE_readInstruction_44 : decode b_RE_readInstruction 44 = .ok (.ireturn, 1) := bz_c172 (by decide +kernel)
theorem d_RE_readInstruction_45 : decode b_RE_readInstruction 45 = .ok (.aload_n 0, 1) := bz_c42 (by decide +kernel)
theorem d_RE_readInstruction_46 : decode b_RE_readInstruction 46 = .ok (.getfield 25, 3) := bz_c180 (by decide +kernel)
theorem d_RE_readInstruction_49 : decode b_RE_readInstruction 49 = .ok (.dup, 1) := bz_c89 (by decide +kernel)
theorem d_RE_readInstruction_50 : decode b_RE_readInstruction 50 = .ok (.getfield 175, 3) := bz_c180 (by decide +kernel)
theorem d_RE_readInstruction_53 : decode b_RE_readInstruction 53 = .ok (.iconst 1, 1) := bz_c4 (by decide +kernel)
theorem d_RE_readInstruction_54 : decode b_RE_readInstruction 54 = .ok (.iadd, 1) := bz_c96 (by decide +kernel)
theorem d_RE_readInstruction_55 : decode b_RE_readInstruction 55 = .ok (.putfield 175, 3) := bz_c181 (by decide +kernel)
theorem d_RE_readInstruction_58 : decode b_RE_readInstruction 58 = .ok (.aload_n 0, 1) := bz_c42 (by decide +kernel)
theorem d_RE_readInstruction_59 : decode b_RE_readInstruction 59 = .ok (.getfield 25, 3) := bz_c180 (by decide +kernel)
theorem d_RE_readInstruction_62 : decode b_RE_readInstruction 62 = .ok (.getfield 194, 3) := bz_c180 (by decide +kernel)
theorem d_RE_readInstruction_65 : decode b_RE_readInstruction 65 = .ok (.iload_n 2, 1) := bz_c28 (by decide +kernel)
theorem d_RE_readInstruction_66 : decode b_RE_readInstruction 66 = .ok (.iload_n 1, 1) := bz_c27 (by decide +kernel)
theorem d_RE_readInstruction_67 : decode b_RE_readInstruction 67 = .ok (.iastore, 1) := bz_c79 (by decide +kernel)
theorem d_RE_readInstruction_68 : decode b_RE_readInstruction 68 = .ok (.aload_n 0, 1) := bz_c42 (by decide +kernel)
theorem d_RE_readInstruction_69 : decode b_RE_readInstruction 69 = .ok (.getfield 25, 3) := bz_c180 (by decide +kernel)
theorem d_RE_readInstruction_72 : decode b_RE_readInstruction 72 = .ok (.getfield 197, 3) := bz_c180 (by decide +kernel)
theorem d_RE_readInstruction_75 : decode b_RE_readInstruction 75 = .ok (.iload_n 2, 1) := bz_c28 (by decide +kernel)
theorem d_RE_readInstruction_76 : decode b_RE_readInstruction 76 = .ok (.lconst 0, 1) := bz_c9 (by decide +kernel)
theorem d_RE_readInstruction_77 : decode b_RE_readInstruction 77 = .ok (.lastore, 1) := bz_c80 (by decide +kernel)
theorem d_RE_readInstruction_78 : decode b_RE_readInstruction 78 = .ok (.aload_n 0, 1) := bz_c42 (by decide +kernel)
theorem d_RE_readInstruction_79 : decode b_RE_readInstruction 79 = .ok (.getfield 25, 3) := bz_c180 (by decide +kernel)
theorem d_RE_readInstruction_82 : decode b_RE_readInstruction 82 = .ok (.getfield 200, 3) := bz_c180 (by decide +kernel)
theorem d_RE_readInstruction_85 : decode b_RE_readInstruction 85 = .ok (.iload_n 2, 1) := bz_c28 (by decide +kernel)
theorem d_RE_readInstruction_86 : decode b_RE_readInstruction 86 = .ok (.iconst 0, 1) := bz_c3 (by decide +kernel)
theorem d_RE_readInstruction_87 : decode b_RE_readInstruction 87 = .ok (.iastore, 1) := bz_c79 (by decide +kernel)
theorem d_RE_readInstruction_88 : decode b_RE_readInstruction 88 = .ok (.aload_n 0, 1) := bz_c42 (by decide +kernel)
theorem d_RE_readInstruction_89 : decode b_RE_readInstruction 89 = .ok (.getfield 25, 3) := bz_c180 (by decide +kernel)
theorem d_RE_readInstruction_92 : decode b_RE_readInstruction 92 = .ok (.getfield 203, 3) := bz_c180 (by decide +kernel)
theorem d_RE_readInstruction_95 : decode b_RE_readInstruction 95 = .ok (.iload_n 2, 1) := bz_c28 (by decide +kernel)
theorem d_RE_readInstruction_96 : decode b_RE_readInstruction 96 = .ok (.iconst (-1), 1) := bz_c2 (by decide +kernel)
theorem d_RE_readInstruction_97 : decode b_RE_readInstruction 97 = .ok (.iastore, 1) := bz_c79 (by decide +kernel)
theorem d_RE_readInstruction_98 : decode b_RE_readInstruction 98 = .ok (.iload_n 1, 1) := bz_c27 (by decide +kernel)
theorem d_RE_readInstruction_99 : decode b_RE_readInstruction 99 = .ok (.tableswitch 366 2 66 #[273, 273, 273, 281, 366, 366, 366, 366, 366, 289, 295, 295, 314, 366, 295, 366, 366, 366, 366, 366, 366, 366, 366, 366, 366, 366, 366, 366, 366, 366, 295, 295, 295, 295, 295, 366, 366, 366, 366, 366, 366, 366, 366, 366, 366, 366, 366, 366, 366, 366, 366, 366, 366, 366, 366, 366, 366, 366, 366, 366, 366, 322, 322, 330, 348], 273) := by decide +kernel
theorem d_RE_readInstruction_372 : decode b_RE_readInstruction 372 = .ok (.aload_n 0, 1) := bz_c42 (by decide +kernel)
theorem d_RE_readInstruction_373 : decode b_RE_readInstruction 373 = .ok (.iload_n 2, 1) := bz_c28 (by decide +kernel)
theorem d_RE_readInstruction_374 : decode b_RE_readInstruction 374 = .ok (.invokevirtual 206, 3) := bz_c182 (by decide +kernel)
theorem d_RE_readInstruction_377 : decode b_RE_readInstruction 377 = .ok (.goto 94, 3) := bz_c167 (by decide +kernel)
theorem d_RE_readInstruction_380 : decode b_RE_readInstruction 380 = .ok (.aload_n 0, 1) := bz_c42 (by decide +kernel)
theorem d_RE_readInstruction_381 : decode b_RE_readInstruction 381 = .ok (.iload_n 2, 1) := bz_c28 (by decide +kernel)
theorem d_RE_readInstruction_382 : decode b_RE_readInstruction 382 = .ok (.invokevirtual 209, 3) := bz_c182 (by decide +kernel)
theorem d_RE_readInstruction_385 : decode b_RE_readInstruction 385 = .ok (.goto 86, 3) := bz_c167 (by decide +kernel)
theorem d_RE_readInstruction_388 : decode b_RE_readInstruction 388 = .ok (.aload_n 0, 1) := bz_c42 (by decide +kernel)
theorem d_RE_readInstruction_389 : decode b_RE_readInstruction 389 = .ok (.iload_n 2, 1) := bz_c28 (by decide +kernel)
theorem d_RE_readInstruction_390 : decode b_RE_readInstruction 390 = .ok (.invokevirtual 212, 3) := bz_c182 (by decide +kernel)
theorem d_RE_readInstruction_393 : decode b_RE_readInstruction 393 = .ok (.ireturn, 1) := bz_c172 (by decide +kernel)
theorem d_RE_readInstruction_394 : decode b_RE_readInstruction 394 = .ok (.aload_n 0, 1) := bz_c42 (by decide +kernel)
theorem d_RE_readInstruction_395 : decode b_RE_readInstruction 395 = .ok (.getfield 25, 3) := bz_c180 (by decide +kernel)
theorem d_RE_readInstruction_398 : decode b_RE_readInstruction 398 = .ok (.getfield 197, 3) := bz_c180 (by decide +kernel)
theorem d_RE_readInstruction_401 : decode b_RE_readInstruction 401 = .ok (.iload_n 2, 1) := bz_c28 (by decide +kernel)
theorem d_RE_readInstruction_402 : decode b_RE_readInstruction 402 = .ok (.aload_n 0, 1) := bz_c42 (by decide +kernel)
theorem d_RE_readInstruction_403 : decode b_RE_readInstruction 403 = .ok (.ldc2_w 82, 3) := bz_c20 (by decide +kernel)
theorem d_RE_readInstruction_406 : decode b_RE_readInstruction 406 = .ok (.invokevirtual 64, 3) := bz_c182 (by decide +kernel)
theorem d_RE_readInstruction_409 : decode b_RE_readInstruction 409 = .ok (.lastore, 1) := bz_c80 (by decide +kernel)
theorem d_RE_readInstruction_410 : decode b_RE_readInstruction 410 = .ok (.goto 61, 3) := bz_c167 (by decide +kernel)
theorem d_RE_readInstruction_413 : decode b_RE_readInstruction 413 = .ok (.aload_n 0, 1) := bz_c42 (by decide +kernel)
theorem d_RE_readInstruction_414 : decode b_RE_readInstruction 414 = .ok (.iload_n 2, 1) := bz_c28 (by decide +kernel)
theorem d_RE_readInstruction_415 : decode b_RE_readInstruction 415 = .ok (.invokevirtual 216, 3) := bz_c182 (by decide +kernel)
theorem d_RE_readInstruction_418 : decode b_RE_readInstruction 418 = .ok (.goto 53, 3) := bz_c167 (by decide +kernel)
theorem d_RE_readInstruction_421 : decode b_RE_readInstruction 421 = .ok (.aload_n 0, 1) := bz_c42 (by decide +kernel)
theorem d_RE_readInstruction_422 : decode b_RE_readInstruction 422 = .ok (.iconst 0, 1) := bz_c3 (by decide +kernel)
theorem d_RE_readInstruction_423 : decode b_RE_readInstruction 423 = .ok (.invokevirtual 56, 3) := bz_c182 (by decide +kernel)
theorem d_RE_readInstruction_426 : decode b_RE_readInstruction 426 = .ok (.goto 45, 3) := bz_c167 (by decide +kernel)
theorem d_RE_readInstruction_429 : decode b_RE_readInstruction 429 = .ok (.aload_n 0, 1) := bz_c42 (by decide +kernel)
theorem d_RE_readInstruction_430 : decode b_RE_readInstruction 430 = .ok (.getfield 25, 3) := bz_c180 (by decide +kernel)
theorem d_RE_readInstruction_433 : decode b_RE_readInstruction 433 = .ok (.getfield 197, 3) := bz_c180 (by decide +kernel)
theorem d_RE_readInstruction_436 : decode b_RE_readInstruction 436 = .ok (.iload_n 2, 1) := bz_c28 (by decide +kernel)
theorem d_RE_readInstruction_437 : decode b_RE_readInstruction 437 = .ok (.aload_n 0, 1) := bz_c42 (by decide +kernel)
theorem d_RE_readInstruction_438 : decode b_RE_readInstruction 438 = .ok (.bipush 32, 2) := bz_c16 (by decide +kernel)
theorem d_RE_readInstruction_440 : decode b_RE_readInstruction 440 = .ok (.invokevirtual 149, 3) := bz_c182 (by decide +kernel)
theorem d_RE_readInstruction_443 : decode b_RE_readInstruction 443 = .ok (.lastore, 1) := bz_c80 (by decide +kernel)
theorem d_RE_readInstruction_444 : decode b_RE_readInstruction 444 = .ok (.goto 27, 3) := bz_c167 (by decide +kernel)
theorem d_RE_readInstruction_447 : decode b_RE_readInstruction 447 = .ok (.aload_n 0, 1) := bz_c42 (by decide +kernel)
theorem d_RE_readInstruction_448 : decode b_RE_readInstruction 448 = .ok (.getfield 25, 3) := bz_c180 (by decide +kernel)
theorem d_RE_readInstruction_451 : decode b_RE_readInstruction 451 = .ok (.getfield 197, 3) := bz_c180 (by decide +kernel)
theorem d_RE_readInstruction_454 : decode b_RE_readInstruction 454 = .ok (.iload_n 2, 1) := bz_c28 (by decide +kernel)
theorem d_RE_readInstruction_455 : decode b_RE_readInstruction 455 = .ok (.aload_n 0, 1) := bz_c42 (by decide +kernel)
theorem d_RE_readInstruction_456 : decode b_RE_readInstruction 456 = .ok (.bipush 64, 2) := bz_c16 (by decide +kernel)
theorem d_RE_readInstruction_458 : decode b_RE_readInstruction 458 = .ok (.invokevirtual 149, 3) := bz_c182 (by decide +kernel)
theorem d_RE_readInstruction_461 : decode b_RE_readInstruction 461 = .ok (.lastore, 1) := bz_c80 (by decide +kernel)
theorem d_RE_readInstruction_462 : decode b_RE_readInstruction 462 = .ok (.goto 9, 3) := bz_c167 (by decide +kernel)
theorem d_RE_readInstruction_465 : decode b_RE_readInstruction 465 = .ok (.aload_n 0, 1) := bz_c42 (by decide +kernel)
theorem d_RE_readInstruction_466 : decode b_RE_readInstruction 466 = .ok (.iload_n 2, 1) := bz_c28 (by decide +kernel)
theorem d_RE_readInstruction_467 : decode b_RE_readInstruction 467 = .ok (.iload_n 1, 1) := bz_c27 (by decide +kernel)
theorem d_RE_readInstruction_468 : decode b_RE_readInstruction 468 = .ok (.invokevirtual 219, 3) := bz_c182 (by decide +kernel)
theorem d_RE_readInstruction_471 : decode b_RE_readInstruction 471 = .ok (.iconst 1, 1) := bz_c4 (by decide +kernel)
theorem d_RE_readInstruction_472 : decode b_RE_readInstruction 472 = .ok (.ireturn, 1) := bz_c172 (by decide +kernel)
theorem kF_RE_175 : Cond.fieldLink R_RE 175 "WaferForge$Codes" "length" "I" ∈ lw_g := in_c1 96 rfl rfl
theorem kM_RE_206 : Cond.methodLink R_RE 206 y_RE_openBlock ∈ lw_g := in_c6 141 rfl rfl
theorem kV_RE_openBlock : Cond.instanceMethod y_RE_openBlock ∈ lw_g := in_c6 143 rfl rfl
theorem kS_RE_openBlock : Cond.selects R_RE y_RE_openBlock y_RE_openBlock ∈ lw_g := in_s 75 (by decide +kernel) rfl
theorem kM_RE_209 : Cond.methodLink R_RE 209 y_RE_turnToElse ∈ lw_g := in_c6 145 rfl rfl
theorem kV_RE_turnToElse : Cond.instanceMethod y_RE_turnToElse ∈ lw_g := in_c6 147 rfl rfl
theorem kS_RE_turnToElse : Cond.selects R_RE y_RE_turnToElse y_RE_turnToElse ∈ lw_g := in_s 76 (by decide +kernel) rfl
theorem kM_RE_212 : Cond.methodLink R_RE 212 y_RE_closeBlock ∈ lw_g := in_c6 149 rfl rfl
theorem kV_RE_closeBlock : Cond.instanceMethod y_RE_closeBlock ∈ lw_g := in_c6 151 rfl rfl
theorem kS_RE_closeBlock : Cond.selects R_RE y_RE_closeBlock y_RE_closeBlock ∈ lw_g := in_s 77 (by decide +kernel) rfl
theorem kM_RE_216 : Cond.methodLink R_RE 216 y_RE_readTable ∈ lw_g := in_c6 153 rfl rfl
theorem kV_RE_readTable : Cond.instanceMethod y_RE_readTable ∈ lw_g := in_c6 155 rfl rfl
theorem kS_RE_readTable : Cond.selects R_RE y_RE_readTable y_RE_readTable ∈ lw_g := in_s 78 (by decide +kernel) rfl
theorem kM_RE_56 : Cond.methodLink R_RE 56 y_RE_expect ∈ lw_g := in_c6 77 rfl rfl
theorem kV_RE_expect : Cond.instanceMethod y_RE_expect ∈ lw_g := in_c6 79 rfl rfl
theorem kS_RE_expect : Cond.selects R_RE y_RE_expect y_RE_expect ∈ lw_g := in_s 61 (by decide +kernel) rfl
theorem kM_RE_149 : Cond.methodLink R_RE 149 y_RE_readSigned ∈ lw_g := in_c6 119 rfl rfl
theorem kV_RE_readSigned : Cond.instanceMethod y_RE_readSigned ∈ lw_g := in_c6 121 rfl rfl
theorem kS_RE_readSigned : Cond.selects R_RE y_RE_readSigned y_RE_readSigned ∈ lw_g := in_s 70 (by decide +kernel) rfl
theorem kM_RE_219 : Cond.methodLink R_RE 219 y_RE_readOther ∈ lw_g := in_c6 158 rfl rfl
theorem kV_RE_readOther : Cond.instanceMethod y_RE_readOther ∈ lw_g := in_c6 160 rfl rfl
theorem kS_RE_readOther : Cond.selects R_RE y_RE_readOther y_RE_readOther ∈ lw_g := in_s 79 (by decide +kernel) rfl
abbrev at_RE_readInstruction (dC : Nat → ClassId) (dI : Nat → Nat → Nat) (h0 aw ac ao ab ax : Nat) (lim cc : Int32) (cB : ClassId) (n : Nat) (len : Int32) (f : Nat → Int32) (wf : List Value) (afi alk alt aop ava apt ael alb : Nat) (cop : ClassId) (cva : ClassId) (cpt : ClassId) (cel : ClassId) (clb : ClassId) (co : ClassId) (A : Nat → Prop) (u : Int32 × Int32 × Int32 × Int32 × Int32 × (Nat → Int32) × (Nat → Int64) × (Nat → Int32) × (Nat → Int32) × (Nat → Int32) × (Nat → Int32)) (t : State) : Prop := match u with
  | (pa, snd, oc, cl, lc, gop, gva, gpt, gel, glb, go) => va_P (dC, dI) cls (wz_10 h0 aw ac pa lim snd cc ao oc aw wf ab ax len ax cB n f ac afi alk alt cl aop ava apt ael lc alb aop cop gop ava cva gva apt cpt gpt ael cel gel alb clb glb ao co go) t.heap ∧ va_K (dC, dI) cls [(cB, .byte), (cop, .int), (cva, .long), (cpt, .int), (cel, .int), (clb, .int), (co, .int)] t ∧ va_D A (wz_10 h0 aw ac pa lim snd cc ao oc aw wf ab ax len ax cB n f ac afi alk alt cl aop ava apt ael lc alb aop cop gop ava cva gva apt cpt gpt ael cel gel alb clb glb ao co go)
set_option maxHeartbeats 4000000 in
set_option maxRecDepth 100000 in
theorem c_RE_readInstruction (l : Launch) (dC : Nat → ClassId) (dI : Nat → Nat → Nat) (sz : Nat) (h0 aw ac ao ab ax : Nat) (lim cc : Int32) (cB : ClassId) (n : Nat) (len : Int32) (f : Nat → Int32) (wf : List Value) (pwf : wf[0]? = some (.ref ab)) (pwl : wf.length = 21) (afi alk alt aop ava apt ael alb : Nat) (cop : ClassId) (cva : ClassId) (cpt : ClassId) (cel : ClassId) (clb : ClassId) (co : ClassId) (pa : Int32) (snd : Int32) (oc : Int32) (cl : Int32) (lc : Int32) (gop : Nat → Int32) (gva : Nat → Int64) (gpt : Nat → Int32) (gel : Nat → Int32) (glb : Nat → Int32) (go : Nat → Int32) (hs : snd = 0 ∨ snd = 1) (ho : 0 ≤ oc.toInt ∧ oc.toInt ≤ 100) (ha : 0 ≤ pa.toInt ∧ pa.toInt ≤ lim.toInt ∧ lim.toInt ≤ len.toInt ∧ len.toInt ≤ n ∧ n < 2147483648)  (hgo : ∀ j : Nat, (j : Int) < oc.toInt → 0 ≤ (go j).toInt ∧ (go j).toInt < 5000) (hel : ∀ j : Nat, (gel j).toInt < 5000) (hlb : ∀ j : Nat, (j : Int) < lc.toInt → 0 ≤ (glb j).toInt) (hlc : 0 ≤ lc.toInt ∧ lc.toInt ≤ 2000) (hcl : 0 ≤ cl.toInt ∧ cl.toInt ≤ 5000) : Met l y_RE_readInstruction w_RE_readInstruction ({ frames := 3, cells := 0, slots := 0, locals := 69 }) (va_Pc [.ref h0] (fun U => U.heap.size = sz ∧ va_P (dC, dI) cls (wz_10 h0 aw ac pa lim snd cc ao oc aw wf ab ax len ax cB n f ac afi alk alt cl aop ava apt ael lc alb aop cop gop ava cva gva apt cpt gpt ael cel gel alb clb glb ao co go) U.heap ∧ va_K (dC, dI) cls [(cB, .byte), (cop, .int), (cva, .long), (cpt, .int), (cel, .int), (clb, .int), (co, .int)] U ∧ va_D (fun _ => True) (wz_10 h0 aw ac pa lim snd cc ao oc aw wf ab ax len ax cB n f ac afi alk alt cl aop ava apt ael lc alb aop cop gop ava cva gva apt cpt gpt ael cel gel alb clb glb ao co go))) (va_Qi (fun (r : Int32) (u : Int32 × Int32 × Int32 × Int32 × Int32 × (Nat → Int32) × (Nat → Int64) × (Nat → Int32) × (Nat → Int32) × (Nat → Int32) × (Nat → Int32)) => match u with | (pa2, snd2, oc2, cl2, lc2, gop2, gva2, gpt2, gel2, glb2, go2) => (r = 0 ∨ r = 1) ∧ (snd2 = 0 ∨ snd2 = 1) ∧ pa.toInt ≤ pa2.toInt ∧ pa2.toInt ≤ lim.toInt ∧ 0 ≤ oc2.toInt ∧ oc2.toInt ≤ 100 ∧ cl.toInt ≤ cl2.toInt ∧ cl2.toInt ≤ 5000 ∧ lc.toInt ≤ lc2.toInt ∧ lc2.toInt ≤ 2000 ∧ (∀ j : Nat, (j : Int) < lc2.toInt → 0 ≤ (glb2 j).toInt) ∧ (∀ j : Nat, (gel2 j).toInt < 5000) ∧ (snd2.toInt = 1 → snd.toInt = 1 ∧ pa.toInt < pa2.toInt ∧ cl2.toInt = cl.toInt + 1 ∧ ∃ o : Int32, o.toInt = (bn (f pa.toNatClampNeg) : Nat) ∧ rstep cl o oc lc r oc2 lc2 gop gpt gel glb go gop2 gpt2 gel2 glb2 go2 gva gva2)) (at_RE_readInstruction dC dI h0 aw ac ao ab ax lim cc cB n len f wf afi alk alt aop ava apt ael alb cop cva cpt cel clb co (va_A (wz_10 h0 aw ac pa lim snd cc ao oc aw wf ab ax len ax cB n f ac afi alk alt cl aop ava apt ael lc alb aop cop gop ava cva gva apt cpt gpt ael cel gel alb clb glb ao co go) sz)) (va_A (wz_10 h0 aw ac pa lim snd cc ao oc aw wf ab ax len ax cB n f ac afi alk alt cl aop ava apt ael lc alb aop cop gop ava cva gva apt cpt gpt ael cel gel alb clb glb ao co go) sz)) 0 0 (va_A (wz_10 h0 aw ac pa lim snd cc ao oc aw wf ab ax len ax cB n f ac afi alk alt cl aop ava apt ael lc alb aop cop gop ava cva gva apt cpt gpt ael cel gel alb clb glb ao co go) sz) := by
  refine Met.ofW (cc := b_RE_readInstruction) (maxL := 3) (ret := (Option.some .boolean)) (by decide) rfl ?_
  intro p e s m args below meth c s₁ B hml hv
  obtain ⟨rfl, hsz, hP, hK, hD0⟩ := hv
  have hx := B.exec
  have hb := B.bytes
  have hr := B.returns
  have hts0 := atoms_spec (ws := w_RE_readInstruction) B.pre
  have hts : ∀ w ∈ lw_g, w.before _ s = true := fun w h => hts0 w (List.mem_cons_of_mem _ h)
  have hown : s.vm.findClass R_RE = some m.cls := findClass_of_methodNamed B.named
  have hlocks := B.notSynchronized
  clear hts0
  subst hsz
  have hD := hD0.self (sz := s.heap.size)
  generalize hAe : va_A (wz_10 h0 aw ac pa lim snd cc ao oc aw wf ab ax len ax cB n f ac afi alk alt cl aop ava apt ael lc alb aop cop gop ava cva gva apt cpt gpt ael cel gel alb clb glb ao co go) s.heap.size = A at hD ⊢
  have hA : ∀ q : Nat, s.heap.size ≤ q → A q := fun q h => by rw [← hAe]; exact Or.inr h
  clear hAe
  have hP : va_P (dC, dI) cls (wz_10 h0 aw ac pa lim snd cc ao oc aw wf ab ax len ax cB n f ac afi alk alt cl aop ava apt ael lc alb aop cop gop ava cva gva apt cpt gpt ael cel gel alb clb glb ao co go) s.heap := hP
  have hl := lv_entry ([.ref h0]) (n := 3) (Nat.le_of_ble_eq_true rfl)
  rw [lg_entry_eq]
  generalize (lg_sl ([.ref h0]) ++ List.replicate (3 - (lg_sl ([.ref h0])).length) Slot.unset).toArray = ls at hl ⊢
  have hl : lv_has ls 3 [(0, .ref h0)] := hl
  have k0 : (0 : Int32).toInt = 0 := by decide
  refine w_gen (A := A) hP (fun H locs hP hS => ?_)
  have km1 : (-1 : Int32).toInt = -1 := by decide
  have k1 : (1 : Int32).toInt = 1 := by decide
  have k32 : (32 : Int32).toInt = 32 := by decide
  have k64 : (64 : Int32).toInt = 64 := by decide
  have k5000 : (5000 : Int32).toInt = 5000 := by decide
  have hs0 := b01 hs
  refine lv_aload_n hx hb d_RE_readInstruction_0 rfl (lv_at hl 0 rfl) ?_
  have hPc := hP.sb (wq := (wz_1 h0 aw ac pa lim snd cc ao oc aw wf ab ax len ax cB n f)) [0, 1, 2, 3] rfl
  have hDc := hD.sb (wq := (wz_1 h0 aw ac pa lim snd cc ao oc aw wf ab ax len ax cB n f)) [0, 1, 2, 3] (by decide) rfl
  have hKc := hK.sb (tyq := [(cB, .byte)]) [0] rfl
  have hFc := va_free (wc := (wz_1 h0 aw ac pa lim snd cc ao oc aw wf ab ax len ax cB n f)) hD hS hA [0, 1, 2, 3] rfl
  refine va_calli (va_runV (As := []) (rest := []) ⟨hx, hb, hml, hown, hts⟩ (c_RE_next l dC dI h0 aw ac ao ab ax H.size cB n pa lim snd cc oc len f wf pwf pwl hs (by (first | (apply Int.le_antisymm <;> omega) | omega)) ) (cwV 0 hts (gV kM_RE_60 kV_RE_next kS_RE_next kI_RE kC_RE_next) rfl rfl rfl (by decide +kernel) ⟨Nat.le_of_ble_eq_true rfl, Nat.le_of_ble_eq_true rfl⟩) ⟨fun a U g mk z => by obtain ⟨z0, z1, zP, zK, zD⟩ := z; exact ⟨z0, z1, zP, va_K.moved (u := U) (U := U.calling g mk a) (Vm.Alike.refl U.vm) zK, zD⟩, va_recv hKc hPc (ci := 7) (q0 := 0) rfl rfl, fun U hU hW => ⟨rfl, by rw [hU], va_P.he hU.symm hPc, va_K.moved hW.alike hKc, hDc.weaken (fun _ _ _ _ => trivial)⟩⟩ rfl rfl hl.1 rfl (lv_room (Nat.le_of_ble_eq_true rfl)) d_RE_readInstruction_1 ⟨(Nat.zero_le _), (Nat.zero_le _)⟩) hS (fun q _ h => hFc q h) hFc (fun r1 u t H1 locs ht hvm hw hB hz1 hk1 hS => ?_)
  obtain ⟨n2, n3⟩ := u
  try dsimp only at hw
  obtain ⟨hsn3, tn2⟩ := hw
  have bsn3 := b01 hsn3
  obtain ⟨hP1, hK1, hD1⟩ := hB
  replace hP1 := va_P.he ht hP1
  obtain ⟨hP, hD⟩ := va_join (wr := (wz_11 ac afi alk alt cl aop ava apt ael lc alb aop cop gop ava cva gva apt cpt gpt ael cel gel alb clb glb ao co go)) (w1 := (wz_1 h0 aw ac n2 lim n3 cc ao oc aw wf ab ax len ax cB n f)) hP hD [0, 1, 2, 3] [4, 5, 6, 7, 8, 9, 10] rfl rfl (by decide) (by decide) hk1 hFc hP1 hD1
  clear hPc hDc hKc hFc hz1 hk1 hP1 hK1 hD1
  rename Heap => H
  have hP : va_P (dC, dI) cls (wz_12 ac afi alk alt cl aop ava apt ael lc alb aop cop gop ava cva gva apt cpt gpt ael cel gel alb clb glb ao co go h0 aw ac n2 lim n3 cc ao oc aw wf ab ax len ax cB n f) H := hP
  have hD : va_D A (wz_12 ac afi alk alt cl aop ava apt ael lc alb aop cop gop ava cva gva apt cpt gpt ael cel gel alb clb glb ao co go h0 aw ac n2 lim n3 cc ao oc aw wf ab ax len ax cB n f) := hD
  refine lv_istore_n (lv' := [(1, .int r1), (0, .ref h0)]) hx hb d_RE_readInstruction_4 rfl hl (by decide) rfl (fun ls hl => ?_)
  refine lv_aload_n hx hb d_RE_readInstruction_5 rfl (lv_at hl 1 rfl) ?_
  refine va_get (D := (dC, dI)) (ci := 7) (v := .ref ac) (C := R_RE) (T := F_RE) (N := 8) hx hb hts i_RE hown hK hP 7 rfl rfl 1 (by decide) (hts _ kF_RE_25) (fun _ h9 => h9) rfl d_RE_readInstruction_6 ?_
  refine va_get (D := (dC, dI)) (ci := 3) (v := .int cl) (C := R_CD) (T := F_CD) (N := 10) hx hb hts i_CD hown hK hP 0 rfl rfl 3 (by decide) (hts _ kF_RE_175) (fun _ h9 => h9) rfl d_RE_readInstruction_9 ?_
  refine lv_istore_n (lv' := [(2, .int cl), (1, .int r1), (0, .ref h0)]) hx hb d_RE_readInstruction_12 rfl hl (by decide) rfl (fun ls hl => ?_)
  refine lv_aload_n hx hb d_RE_readInstruction_13 rfl (lv_at hl 2 rfl) ?_
  refine lv_aload_n hx hb d_RE_readInstruction_14 rfl (lv_at hl 2 rfl) ?_
  refine va_get (D := (dC, dI)) (ci := 7) (v := .int n3) (C := R_RE) (T := F_RE) (N := 8) hx hb hts i_RE hown hK hP 7 rfl rfl 4 (by decide) (hts _ kF_RE_45) (fun _ h9 => h9) rfl d_RE_readInstruction_15 ?_
  refine lv_if_eq (tgt := 32) hx hb d_RE_readInstruction_18 (by decide) (fun c18 => ?_) (fun c18 => ?_)
  · have q18 := eqI c18
    refine lv_iconst (v := 0) hx hb d_RE_readInstruction_32 (by decide) ?_
    refine va_put (D := (dC, dI)) (ci := 7) (v := .int 0) (ty := .boolean) (C := R_RE) (T := F_RE) (N := 8) hx hb hts i_RE t_RE t_RE_ok n_RE hown hK hP hD hS 7 rfl rfl 4 (by decide) (hts _ kF_RE_45) (fun _ h9 => h9) rfl (by decide +kernel) rfl rfl (Nat.le_of_ble_eq_true rfl) d_RE_readInstruction_33 (fun H locs hP hD hS => ?_)
    refine lv_aload_n hx hb d_RE_readInstruction_36 rfl (lv_at hl 2 rfl) ?_
    refine va_get (D := (dC, dI)) (ci := 7) (v := .int 0) (C := R_RE) (T := F_RE) (N := 8) hx hb hts i_RE hown hK hP 7 rfl rfl 4 (by decide) (hts _ kF_RE_45) (fun _ h9 => h9) rfl d_RE_readInstruction_37 ?_
    refine lv_if_ne (tgt := 45) hx hb d_RE_readInstruction_40 (by decide) (fun c40 => absurd (neI c40) (by (first | (apply Int.le_antisymm <;> omega) | omega))) (fun c40 => ?_)
    have q40 := eqI c40
    refine lv_iconst (v := 0) hx hb d_RE_readInstruction_43 (by decide) ?_
    have hP9 := hP.sb (wq := (wz_10 h0 aw ac n2 lim 0 cc ao oc aw wf ab ax len ax cB n f ac afi alk alt cl aop ava apt ael lc alb aop cop gop ava cva gva apt cpt gpt ael cel gel alb clb glb ao co go)) [7, 8, 9, 10, 0, 1, 2, 3, 4, 5, 6] rfl
    have hD9 := hD.sb (wq := (wz_10 h0 aw ac n2 lim 0 cc ao oc aw wf ab ax len ax cB n f ac afi alk alt cl aop ava apt ael lc alb aop cop gop ava cva gva apt cpt gpt ael cel gel alb clb glb ao co go)) [7, 8, 9, 10, 0, 1, 2, 3, 4, 5, 6] (by decide) rfl
    exact W.zret (v := 0) hx hb hr (zn01 (by first | exact Or.inl rfl | exact Or.inr rfl | exact hr0)) (fun t ht hW => ⟨⟨0, (n2, 0, oc, cl, lc, gop, gva, gpt, gel, glb, go), rfl, ⟨Or.inl rfl, (Or.inl rfl), by (try dsimp only); (first | (apply Int.le_antisymm <;> omega) | omega), by (try dsimp only); (first | (apply Int.le_antisymm <;> omega) | omega), by (try dsimp only); (first | (apply Int.le_antisymm <;> omega) | omega), by (try dsimp only); (first | (apply Int.le_antisymm <;> omega) | omega), by (try dsimp only); (first | (apply Int.le_antisymm <;> omega) | omega), by (try dsimp only); (first | (apply Int.le_antisymm <;> omega) | omega), by (try dsimp only); (first | (apply Int.le_antisymm <;> omega) | omega), by (try dsimp only); (first | (apply Int.le_antisymm <;> omega) | omega), hlb, hel, fun z => absurd z (by (try dsimp only); (first | (apply Int.le_antisymm <;> omega) | omega))⟩, va_P.he ht.symm hP9, va_K.moved hW.alike hK, hD9⟩, hS.F ht⟩) hS.2.2 d_RE_readInstruction_44
  · have q18 := neI c18
    refine lv_iload_n hx hb d_RE_readInstruction_21 rfl (lv_at hl 0 rfl) ?_
    refine lv_sipush (v := 5000) hx hb d_RE_readInstruction_22 (by decide) ?_
    refine lv_icmp_ge (tgt := 32) hx hb d_RE_readInstruction_25 (by decide) (fun c25 => ?_) (fun c25 => ?_)
    · have q25 := leI c25
      refine lv_iconst (v := 0) hx hb d_RE_readInstruction_32 (by decide) ?_
      refine va_put (D := (dC, dI)) (ci := 7) (v := .int 0) (ty := .boolean) (C := R_RE) (T := F_RE) (N := 8) hx hb hts i_RE t_RE t_RE_ok n_RE hown hK hP hD hS 7 rfl rfl 4 (by decide) (hts _ kF_RE_45) (fun _ h9 => h9) rfl (by decide +kernel) rfl rfl (Nat.le_of_ble_eq_true rfl) d_RE_readInstruction_33 (fun H locs hP hD hS => ?_)
      refine lv_aload_n hx hb d_RE_readInstruction_36 rfl (lv_at hl 2 rfl) ?_
      refine va_get (D := (dC, dI)) (ci := 7) (v := .int 0) (C := R_RE) (T := F_RE) (N := 8) hx hb hts i_RE hown hK hP 7 rfl rfl 4 (by decide) (hts _ kF_RE_45) (fun _ h9 => h9) rfl d_RE_readInstruction_37 ?_
      refine lv_if_ne (tgt := 45) hx hb d_RE_readInstruction_40 (by decide) (fun c40 => absurd (neI c40) (by (first | (apply Int.le_antisymm <;> omega) | omega))) (fun c40 => ?_)
      have q40 := eqI c40
      refine lv_iconst (v := 0) hx hb d_RE_readInstruction_43 (by decide) ?_
      have hP9 := hP.sb (wq := (wz_10 h0 aw ac n2 lim 0 cc ao oc aw wf ab ax len ax cB n f ac afi alk alt cl aop ava apt ael lc alb aop cop gop ava cva gva apt cpt gpt ael cel gel alb clb glb ao co go)) [7, 8, 9, 10, 0, 1, 2, 3, 4, 5, 6] rfl
      have hD9 := hD.sb (wq := (wz_10 h0 aw ac n2 lim 0 cc ao oc aw wf ab ax len ax cB n f ac afi alk alt cl aop ava apt ael lc alb aop cop gop ava cva gva apt cpt gpt ael cel gel alb clb glb ao co go)) [7, 8, 9, 10, 0, 1, 2, 3, 4, 5, 6] (by decide) rfl
      exact W.zret (v := 0) hx hb hr (zn01 (by first | exact Or.inl rfl | exact Or.inr rfl | exact hr0)) (fun t ht hW => ⟨⟨0, (n2, 0, oc, cl, lc, gop, gva, gpt, gel, glb, go), rfl, ⟨Or.inl rfl, (Or.inl rfl), by (try dsimp only); (first | (apply Int.le_antisymm <;> omega) | omega), by (try dsimp only); (first | (apply Int.le_antisymm <;> omega) | omega), by (try dsimp only); (first | (apply Int.le_antisymm <;> omega) | omega), by (try dsimp only); (first | (apply Int.le_antisymm <;> omega) | omega), by (try dsimp only); (first | (apply Int.le_antisymm <;> omega) | omega), by (try dsimp only); (first | (apply Int.le_antisymm <;> omega) | omega), by (try dsimp only); (first | (apply Int.le_antisymm <;> omega) | omega), by (try dsimp only); (first | (apply Int.le_antisymm <;> omega) | omega), hlb, hel, fun z => absurd z (by (try dsimp only); (first | (apply Int.le_antisymm <;> omega) | omega))⟩, va_P.he ht.symm hP9, va_K.moved hW.alike hK, hD9⟩, hS.F ht⟩) hS.2.2 d_RE_readInstruction_44
    · have q25 := nleI c25
      refine lv_iconst (v := 1) hx hb d_RE_readInstruction_28 (by decide) ?_
      refine lv_goto (tgt := 33) hx hb d_RE_readInstruction_29 (by decide) ?_
      refine va_put (D := (dC, dI)) (ci := 7) (v := .int 1) (ty := .boolean) (C := R_RE) (T := F_RE) (N := 8) hx hb hts i_RE t_RE t_RE_ok n_RE hown hK hP hD hS 7 rfl rfl 4 (by decide) (hts _ kF_RE_45) (fun _ h9 => h9) rfl (by decide +kernel) rfl rfl (Nat.le_of_ble_eq_true rfl) d_RE_readInstruction_33 (fun H locs hP hD hS => ?_)
      refine lv_aload_n hx hb d_RE_readInstruction_36 rfl (lv_at hl 2 rfl) ?_
      refine va_get (D := (dC, dI)) (ci := 7) (v := .int 1) (C := R_RE) (T := F_RE) (N := 8) hx hb hts i_RE hown hK hP 7 rfl rfl 4 (by decide) (hts _ kF_RE_45) (fun _ h9 => h9) rfl d_RE_readInstruction_37 ?_
      refine lv_if_ne (tgt := 45) hx hb d_RE_readInstruction_40 (by decide) (fun c40 => ?_) (fun c40 => absurd (eqI c40) (by (first | (apply Int.le_antisymm <;> omega) | omega)))
      have q40 := neI c40
      refine lv_aload_n hx hb d_RE_readInstruction_45 rfl (lv_at hl 2 rfl) ?_
      refine va_get (D := (dC, dI)) (ci := 7) (v := .ref ac) (C := R_RE) (T := F_RE) (N := 8) hx hb hts i_RE hown hK hP 7 rfl rfl 1 (by decide) (hts _ kF_RE_25) (fun _ h9 => h9) rfl d_RE_readInstruction_46 ?_
      refine lv_dup hx hb d_RE_readInstruction_49 rfl ?_
      refine va_get (D := (dC, dI)) (ci := 3) (v := .int cl) (C := R_CD) (T := F_CD) (N := 10) hx hb hts i_CD hown hK hP 0 rfl rfl 3 (by decide) (hts _ kF_RE_175) (fun _ h9 => h9) rfl d_RE_readInstruction_50 ?_
      refine lv_iconst (v := 1) hx hb d_RE_readInstruction_53 (by decide) ?_
      refine lv_iadd hx hb d_RE_readInstruction_54 ?_
      refine lv_topi (fun x4 ex4 => ?_)
      have tx4 : x4.toInt = cl.toInt + 1 := by have z := i32_add ex4 (by (first | (apply Int.le_antisymm <;> omega) | omega)) (by (first | (apply Int.le_antisymm <;> omega) | omega)); first | exact z | (first | (apply Int.le_antisymm <;> omega) | omega)
      refine va_put (D := (dC, dI)) (ci := 3) (v := .int x4) (ty := .int) (C := R_CD) (T := F_CD) (N := 10) hx hb hts i_CD t_CD t_CD_ok n_CD hown hK hP hD hS 0 rfl rfl 3 (by decide) (hts _ kF_RE_175) (fun _ h9 => h9) rfl (by decide +kernel) rfl rfl (Nat.le_of_ble_eq_true rfl) d_RE_readInstruction_55 (fun H locs hP hD hS => ?_)
      refine lv_aload_n hx hb d_RE_readInstruction_58 rfl (lv_at hl 2 rfl) ?_
      refine va_get (D := (dC, dI)) (ci := 7) (v := .ref ac) (C := R_RE) (T := F_RE) (N := 8) hx hb hts i_RE hown hK hP 7 rfl rfl 1 (by decide) (hts _ kF_RE_25) (fun _ h9 => h9) rfl d_RE_readInstruction_59 ?_
      refine va_get (D := (dC, dI)) (ci := 3) (v := .ref aop) (C := R_CD) (T := F_CD) (N := 10) hx hb hts i_CD hown hK hP 0 rfl rfl 4 (by decide) (hts _ kF_RE_194) (fun _ h9 => h9) rfl d_RE_readInstruction_62 ?_
      refine lv_iload_n hx hb d_RE_readInstruction_65 rfl (lv_at hl 0 rfl) ?_
      refine lv_iload_n hx hb d_RE_readInstruction_66 rfl (lv_at hl 1 rfl) ?_
      have g67 : vp_in cl 5000 := vp_in_iff.mpr ⟨by (first | (apply Int.le_antisymm <;> omega) | omega), by (first | (apply Int.le_antisymm <;> omega) | omega)⟩
      refine va_iast hx hb hK hP hD hS 1 1 rfl rfl g67 d_RE_readInstruction_67 (fun H locs hP hD hS => ?_)
      generalize ef5 : upd gop cl.toNatClampNeg r1 = f5 at hP hD
      refine lv_aload_n hx hb d_RE_readInstruction_68 rfl (lv_at hl 2 rfl) ?_
      refine va_get (D := (dC, dI)) (ci := 7) (v := .ref ac) (C := R_RE) (T := F_RE) (N := 8) hx hb hts i_RE hown hK hP 7 rfl rfl 1 (by decide) (hts _ kF_RE_25) (fun _ h9 => h9) rfl d_RE_readInstruction_69 ?_
      refine va_get (D := (dC, dI)) (ci := 3) (v := .ref ava) (C := R_CD) (T := F_CD) (N := 10) hx hb hts i_CD hown hK hP 0 rfl rfl 5 (by decide) (hts _ kF_RE_197) (fun _ h9 => h9) rfl d_RE_readInstruction_72 ?_
      refine lv_iload_n hx hb d_RE_readInstruction_75 rfl (lv_at hl 0 rfl) ?_
      refine lv_lconst (v := 0) hx hb d_RE_readInstruction_76 (by decide) ?_
      have kl0 : (0 : Int64).toInt = 0 := by decide
      have g77 : vp_in cl 5000 := vp_in_iff.mpr ⟨by (first | (apply Int.le_antisymm <;> omega) | omega), by (first | (apply Int.le_antisymm <;> omega) | omega)⟩
      refine va_last hx hb hK hP hD hS 2 2 rfl rfl g77 d_RE_readInstruction_77 (fun H locs hP hD hS => ?_)
      generalize ef6 : vp_updL gva cl.toNatClampNeg 0 = f6 at hP hD
      refine lv_aload_n hx hb d_RE_readInstruction_78 rfl (lv_at hl 2 rfl) ?_
      refine va_get (D := (dC, dI)) (ci := 7) (v := .ref ac) (C := R_RE) (T := F_RE) (N := 8) hx hb hts i_RE hown hK hP 7 rfl rfl 1 (by decide) (hts _ kF_RE_25) (fun _ h9 => h9) rfl d_RE_readInstruction_79 ?_
      refine va_get (D := (dC, dI)) (ci := 3) (v := .ref apt) (C := R_CD) (T := F_CD) (N := 10) hx hb hts i_CD hown hK hP 0 rfl rfl 6 (by decide) (hts _ kF_RE_200) (fun _ h9 => h9) rfl d_RE_readInstruction_82 ?_
      refine lv_iload_n hx hb d_RE_readInstruction_85 rfl (lv_at hl 0 rfl) ?_
      refine lv_iconst (v := 0) hx hb d_RE_readInstruction_86 (by decide) ?_
      have g87 : vp_in cl 5000 := vp_in_iff.mpr ⟨by (first | (apply Int.le_antisymm <;> omega) | omega), by (first | (apply Int.le_antisymm <;> omega) | omega)⟩
      refine va_iast hx hb hK hP hD hS 3 3 rfl rfl g87 d_RE_readInstruction_87 (fun H locs hP hD hS => ?_)
      generalize ef7 : upd gpt cl.toNatClampNeg 0 = f7 at hP hD
      refine lv_aload_n hx hb d_RE_readInstruction_88 rfl (lv_at hl 2 rfl) ?_
      refine va_get (D := (dC, dI)) (ci := 7) (v := .ref ac) (C := R_RE) (T := F_RE) (N := 8) hx hb hts i_RE hown hK hP 7 rfl rfl 1 (by decide) (hts _ kF_RE_25) (fun _ h9 => h9) rfl d_RE_readInstruction_89 ?_
      refine va_get (D := (dC, dI)) (ci := 3) (v := .ref ael) (C := R_CD) (T := F_CD) (N := 10) hx hb hts i_CD hown hK hP 0 rfl rfl 7 (by decide) (hts _ kF_RE_203) (fun _ h9 => h9) rfl d_RE_readInstruction_92 ?_
      refine lv_iload_n hx hb d_RE_readInstruction_95 rfl (lv_at hl 0 rfl) ?_
      refine lv_iconst (v := (-1)) hx hb d_RE_readInstruction_96 (by decide) ?_
      have g97 : vp_in cl 5000 := vp_in_iff.mpr ⟨by (first | (apply Int.le_antisymm <;> omega) | omega), by (first | (apply Int.le_antisymm <;> omega) | omega)⟩
      refine va_iast hx hb hK hP hD hS 4 4 rfl rfl g97 d_RE_readInstruction_97 (fun H locs hP hD hS => ?_)
      generalize ef8 : upd gel cl.toNatClampNeg ((-1)) = f8 at hP hD
      have hel : ∀ j : Nat, (f8 j).toInt < 5000 := fun j => by rw [← ef8]; exact upd_lt hel (by (first | (apply Int.le_antisymm <;> omega) | omega)) j
      refine lv_iload_n hx hb d_RE_readInstruction_98 rfl (lv_at hl 1 rfl) ?_
      by_cases g99_372 : r1.toInt = 2 ∨ r1.toInt = 3 ∨ r1.toInt = 4
      · have ho99 : tab_off 366 2 66 #[273, 273, 273, 281, 366, 366, 366, 366, 366, 289, 295, 295, 314, 366, 295, 366, 366, 366, 366, 366, 366, 366, 366, 366, 366, 366, 366, 366, 366, 366, 295, 295, 295, 295, 295, 366, 366, 366, 366, 366, 366, 366, 366, 366, 366, 366, 366, 366, 366, 366, 366, 366, 366, 366, 366, 366, 366, 366, 366, 366, 366, 322, 322, 330, 348] r1.toInt = 273 := by rcases g99_372 with z | z | z <;> (rw [z]; rfl)
        refine lv_tab (tgt := 372) hx hb d_RE_readInstruction_99 (by decide) ho99 (by decide) ?_
        clear ho99
        refine lv_aload_n hx hb d_RE_readInstruction_372 rfl (lv_at hl 2 rfl) ?_
        refine lv_iload_n hx hb d_RE_readInstruction_373 rfl (lv_at hl 0 rfl) ?_
        have hPc := hP.sb (wq := (wz_2 h0 aw ac n2 lim 1 cc ao oc aw wf ab ax len ax cB n f ac afi alk alt x4 aop ava apt ael lc alb ava cva f6 ao co go)) [7, 8, 9, 10, 0, 2, 6] rfl
        have hDc := hD.sb (wq := (wz_2 h0 aw ac n2 lim 1 cc ao oc aw wf ab ax len ax cB n f ac afi alk alt x4 aop ava apt ael lc alb ava cva f6 ao co go)) [7, 8, 9, 10, 0, 2, 6] (by decide) rfl
        have hKc := hK.sb (tyq := [(cB, .byte), (cva, .long), (co, .int)]) [0, 2, 6] rfl
        have hFc := va_free (wc := (wz_2 h0 aw ac n2 lim 1 cc ao oc aw wf ab ax len ax cB n f ac afi alk alt x4 aop ava apt ael lc alb ava cva f6 ao co go)) hD hS hA [7, 8, 9, 10, 0, 2, 6] rfl
        refine va_callv (va_runV (As := [.int cl]) (rest := []) ⟨hx, hb, hml, hown, hts⟩ (c_RE_openBlock l dC dI H.size h0 aw ac ao ab ax lim cc cB n len f wf pwf pwl afi alk alt aop ava apt ael alb cva co n2 1 oc x4 lc f6 go (Or.inr rfl) (by (first | (apply Int.le_antisymm <;> omega) | omega)) (by (first | (apply Int.le_antisymm <;> omega) | omega)) cl (by (first | (apply Int.le_antisymm <;> omega) | omega))) (cwV 1 hts (gV kM_RE_206 kV_RE_openBlock kS_RE_openBlock kI_RE kC_RE_openBlock) rfl rfl rfl (by decide +kernel) ⟨Nat.le_of_ble_eq_true rfl, Nat.le_of_ble_eq_true rfl⟩) ⟨fun a U g mk z => by obtain ⟨z0, z1, zP, zK, zD⟩ := z; exact ⟨z0, z1, zP, va_K.moved (u := U) (U := U.calling g mk a) (Vm.Alike.refl U.vm) zK, zD⟩, va_recv hKc hPc (ci := 7) (q0 := 0) rfl rfl, fun U hU hW => ⟨rfl, by rw [hU], va_P.he hU.symm hPc, va_K.moved hW.alike hKc, hDc.weaken (fun _ _ _ _ => trivial)⟩⟩ rfl rfl hl.1 rfl (lv_room (Nat.le_of_ble_eq_true rfl)) d_RE_readInstruction_374 ⟨(Nat.zero_le _), (Nat.zero_le _)⟩) hS (fun q _ h => hFc q h) hFc (fun u t H1 locs ht hvm hw hB hz1 hk1 hS => ?_)
        obtain ⟨n10, n11, n12, n13, n14, n15, n16⟩ := u
        try dsimp only at hw
        have hwn10 := hw
        clear hw
        obtain ⟨hsn11, i1, i2, i3, i4, rfl, rfl, iT, iF⟩ := hwn10
        have bsn11 := b01 hsn11
        obtain ⟨hP1, hK1, hD1⟩ := hB
        replace hP1 := va_P.he ht hP1
        obtain ⟨hP, hD⟩ := va_join (wr := [(aop, .inl (cop, 5000, .inl f5)), (apt, .inl (cpt, 5000, .inl f7)), (ael, .inl (cel, 5000, .inl f8)), (alb, .inl (clb, 2000, .inl glb))]) (w1 := (wz_2 h0 aw ac n10 lim n11 cc ao n12 aw wf ab ax len ax cB n f ac afi alk alt x4 aop ava apt ael lc alb ava cva n15 ao co n16)) hP hD [7, 8, 9, 10, 0, 2, 6] [1, 3, 4, 5] rfl rfl (by decide) (by decide) hk1 hFc hP1 hD1
        clear hPc hDc hKc hFc hz1 hk1 hP1 hK1 hD1
        rename Heap => H
        have hP : va_P (dC, dI) cls [(aop, .inl (cop, 5000, .inl f5)), (apt, .inl (cpt, 5000, .inl f7)), (ael, .inl (cel, 5000, .inl f8)), (alb, .inl (clb, 2000, .inl glb)), (h0, .inr (7, [.ref aw, .ref ac, .int n10, .int lim, .int n11, .int cc, .ref ao, .int n12])), (aw, .inr (10, wf)), (ab, .inr (1, [.ref ax, .int len])), (ax, .inl (cB, n, .inl f)), (ac, .inr (3, [.ref afi, .ref alk, .ref alt, .int x4, .ref aop, .ref ava, .ref apt, .ref ael, .int lc, .ref alb])), (ava, .inl (cva, 5000, .inr (.inl n15))), (ao, .inl (co, 100, .inl n16))] H := hP
        have hD : va_D A [(aop, .inl (cop, 5000, .inl f5)), (apt, .inl (cpt, 5000, .inl f7)), (ael, .inl (cel, 5000, .inl f8)), (alb, .inl (clb, 2000, .inl glb)), (h0, .inr (7, [.ref aw, .ref ac, .int n10, .int lim, .int n11, .int cc, .ref ao, .int n12])), (aw, .inr (10, wf)), (ab, .inr (1, [.ref ax, .int len])), (ax, .inl (cB, n, .inl f)), (ac, .inr (3, [.ref afi, .ref alk, .ref alt, .int x4, .ref aop, .ref ava, .ref apt, .ref ael, .int lc, .ref alb])), (ava, .inl (cva, 5000, .inr (.inl n15))), (ao, .inl (co, 100, .inl n16))] := hD
        refine lv_goto (tgt := 471) hx hb d_RE_readInstruction_377 (by decide) ?_
        refine lv_iconst (v := 1) hx hb d_RE_readInstruction_471 (by decide) ?_
        have hP9 := hP.sb (wq := (wz_10 h0 aw ac n10 lim n11 cc ao n12 aw wf ab ax len ax cB n f ac afi alk alt x4 aop ava apt ael lc alb aop cop f5 ava cva n15 apt cpt f7 ael cel f8 alb clb glb ao co n16)) [4, 5, 6, 7, 8, 0, 9, 1, 2, 3, 10] rfl
        have hD9 := hD.sb (wq := (wz_10 h0 aw ac n10 lim n11 cc ao n12 aw wf ab ax len ax cB n f ac afi alk alt x4 aop ava apt ael lc alb aop cop f5 ava cva n15 apt cpt f7 ael cel f8 alb clb glb ao co n16)) [4, 5, 6, 7, 8, 0, 9, 1, 2, 3, 10] (by decide) rfl
        exact W.zret (v := 1) hx hb hr (zn01 (by first | exact Or.inl rfl | exact Or.inr rfl | exact hr1)) (fun t ht hW => ⟨⟨1, (n10, n11, n12, x4, lc, f5, n15, f7, f8, glb, n16), rfl, ⟨Or.inr rfl, hsn11, by (try dsimp only); clear iT iF; (first | (apply Int.le_antisymm <;> omega) | omega), by (try dsimp only); clear iT iF; (first | (apply Int.le_antisymm <;> omega) | omega), i3, i4, by (try dsimp only); clear iT iF; (first | (apply Int.le_antisymm <;> omega) | omega), by (try dsimp only); clear iT iF; (first | (apply Int.le_antisymm <;> omega) | omega), by (try dsimp only); clear iT iF; (first | (apply Int.le_antisymm <;> omega) | omega), by (try dsimp only); clear iT iF; (first | (apply Int.le_antisymm <;> omega) | omega), hlb, hel, fun z => by have y : n11.toInt = 1 := z; have y1 := (iT y).1; have y2 := (iT y).2.1; have y3 := (iT y).2.2.2.2.1; exact ⟨by clear iT iF; (first | (apply Int.le_antisymm <;> omega) | omega), by (try dsimp only); clear iT iF; (first | (apply Int.le_antisymm <;> omega) | omega), by (try dsimp only); clear iT iF; (first | (apply Int.le_antisymm <;> omega) | omega), ⟨r1, by clear iT iF; (first | (apply Int.le_antisymm <;> omega) | omega), ef5.symm, Or.inl ⟨by clear iT iF; (first | (apply Int.le_antisymm <;> omega) | omega), k1, (iT y).2.2.2.1, (iT y).2.2.2.2.1, (iT y).2.2.2.2.2.2, rfl, rfl, ef7.symm, ef8.symm, by obtain ⟨v, hv, ev⟩ := (iT y).2.2.2.2.2.1; have := (iT y).2.2.1; exact ⟨v, by (first | (apply Int.le_antisymm <;> omega) | omega), by rw [ev, ef6]⟩⟩⟩⟩⟩, va_P.he ht.symm hP9, va_K.moved hW.alike hK, hD9⟩, hS.F ht⟩) hS.2.2 d_RE_readInstruction_472
      · skip
        by_cases g99_380 : r1.toInt = 5
        · have ho99 : tab_off 366 2 66 #[273, 273, 273, 281, 366, 366, 366, 366, 366, 289, 295, 295, 314, 366, 295, 366, 366, 366, 366, 366, 366, 366, 366, 366, 366, 366, 366, 366, 366, 366, 295, 295, 295, 295, 295, 366, 366, 366, 366, 366, 366, 366, 366, 366, 366, 366, 366, 366, 366, 366, 366, 366, 366, 366, 366, 366, 366, 366, 366, 366, 366, 322, 322, 330, 348] r1.toInt = 281 := by rw [g99_380]; rfl
          refine lv_tab (tgt := 380) hx hb d_RE_readInstruction_99 (by decide) ho99 (by decide) ?_
          clear ho99
          refine lv_aload_n hx hb d_RE_readInstruction_380 rfl (lv_at hl 2 rfl) ?_
          refine lv_iload_n hx hb d_RE_readInstruction_381 rfl (lv_at hl 0 rfl) ?_
          have hPc := hP.sb (wq := (wz_4 h0 aw ac n2 lim 1 cc ao oc ac afi alk alt x4 aop ava apt ael lc alb aop cop f5 ael cel f8 ao co go)) [7, 0, 1, 4, 6] rfl
          have hDc := hD.sb (wq := (wz_4 h0 aw ac n2 lim 1 cc ao oc ac afi alk alt x4 aop ava apt ael lc alb aop cop f5 ael cel f8 ao co go)) [7, 0, 1, 4, 6] (by decide) rfl
          have hKc := hK.sb (tyq := [(cop, .int), (cel, .int), (co, .int)]) [1, 4, 6] rfl
          have hFc := va_free (wc := (wz_4 h0 aw ac n2 lim 1 cc ao oc ac afi alk alt x4 aop ava apt ael lc alb aop cop f5 ael cel f8 ao co go)) hD hS hA [7, 0, 1, 4, 6] rfl
          refine va_callv (va_runV (As := [.int cl]) (rest := []) ⟨hx, hb, hml, hown, hts⟩ (c_RE_turnToElse l dC dI H.size h0 aw ac ao ab ax lim cc afi alk alt aop ava apt ael alb cop cel co n2 1 oc x4 lc f5 f8 go (Or.inr rfl) (by (first | (apply Int.le_antisymm <;> omega) | omega)) cl hgo) (cwV 1 hts (gV kM_RE_209 kV_RE_turnToElse kS_RE_turnToElse kI_RE kC_RE_turnToElse) rfl rfl rfl (by decide +kernel) ⟨Nat.le_of_ble_eq_true rfl, Nat.le_of_ble_eq_true rfl⟩) ⟨fun a U g mk z => by obtain ⟨z0, z1, zP, zK, zD⟩ := z; exact ⟨z0, z1, zP, va_K.moved (u := U) (U := U.calling g mk a) (Vm.Alike.refl U.vm) zK, zD⟩, va_recv hKc hPc (ci := 7) (q0 := 0) rfl rfl, fun U hU hW => ⟨rfl, by rw [hU], va_P.he hU.symm hPc, va_K.moved hW.alike hKc, hDc.weaken (fun _ _ _ _ => trivial)⟩⟩ rfl rfl hl.1 rfl (lv_room (Nat.le_of_ble_eq_true rfl)) d_RE_readInstruction_382 ⟨(Nat.zero_le _), (Nat.zero_le _)⟩) hS (fun q _ h => hFc q h) hFc (fun u t H1 locs ht hvm hw hB hz1 hk1 hS => ?_)
          obtain ⟨n18, n19, n20, n21, n22, n23, n24, n25⟩ := u
          try dsimp only at hw
          have hwn18 := hw
          clear hw
          obtain ⟨hsn19, rfl, rfl, rfl, rfl, rfl, rfl, iT, iF⟩ := hwn18
          have bsn19 := b01 hsn19
          obtain ⟨hP1, hK1, hD1⟩ := hB
          replace hP1 := va_P.he ht hP1
          obtain ⟨hP, hD⟩ := va_join (wr := [(ava, .inl (cva, 5000, .inr (.inl f6))), (apt, .inl (cpt, 5000, .inl f7)), (alb, .inl (clb, 2000, .inl glb)), (aw, .inr (10, wf)), (ab, .inr (1, [.ref ax, .int len])), (ax, .inl (cB, n, .inl f))]) (w1 := (wz_4 h0 aw ac n2 lim n19 cc ao oc ac afi alk alt x4 aop ava apt ael lc alb aop cop f5 ael cel n24 ao co go)) hP hD [7, 0, 1, 4, 6] [2, 3, 5, 8, 9, 10] rfl rfl (by decide) (by decide) hk1 hFc hP1 hD1
          clear hPc hDc hKc hFc hz1 hk1 hP1 hK1 hD1
          rename Heap => H
          have hP : va_P (dC, dI) cls [(ava, .inl (cva, 5000, .inr (.inl f6))), (apt, .inl (cpt, 5000, .inl f7)), (alb, .inl (clb, 2000, .inl glb)), (aw, .inr (10, wf)), (ab, .inr (1, [.ref ax, .int len])), (ax, .inl (cB, n, .inl f)), (h0, .inr (7, [.ref aw, .ref ac, .int n2, .int lim, .int n19, .int cc, .ref ao, .int oc])), (ac, .inr (3, [.ref afi, .ref alk, .ref alt, .int x4, .ref aop, .ref ava, .ref apt, .ref ael, .int lc, .ref alb])), (aop, .inl (cop, 5000, .inl f5)), (ael, .inl (cel, 5000, .inl n24)), (ao, .inl (co, 100, .inl go))] H := hP
          have hD : va_D A [(ava, .inl (cva, 5000, .inr (.inl f6))), (apt, .inl (cpt, 5000, .inl f7)), (alb, .inl (clb, 2000, .inl glb)), (aw, .inr (10, wf)), (ab, .inr (1, [.ref ax, .int len])), (ax, .inl (cB, n, .inl f)), (h0, .inr (7, [.ref aw, .ref ac, .int n2, .int lim, .int n19, .int cc, .ref ao, .int oc])), (ac, .inr (3, [.ref afi, .ref alk, .ref alt, .int x4, .ref aop, .ref ava, .ref apt, .ref ael, .int lc, .ref alb])), (aop, .inl (cop, 5000, .inl f5)), (ael, .inl (cel, 5000, .inl n24)), (ao, .inl (co, 100, .inl go))] := hD
          refine lv_goto (tgt := 471) hx hb d_RE_readInstruction_385 (by decide) ?_
          refine lv_iconst (v := 1) hx hb d_RE_readInstruction_471 (by decide) ?_
          have hP9 := hP.sb (wq := (wz_10 h0 aw ac n2 lim n19 cc ao oc aw wf ab ax len ax cB n f ac afi alk alt x4 aop ava apt ael lc alb aop cop f5 ava cva f6 apt cpt f7 ael cel n24 alb clb glb ao co go)) [6, 3, 4, 5, 7, 8, 0, 1, 9, 2, 10] rfl
          have hD9 := hD.sb (wq := (wz_10 h0 aw ac n2 lim n19 cc ao oc aw wf ab ax len ax cB n f ac afi alk alt x4 aop ava apt ael lc alb aop cop f5 ava cva f6 apt cpt f7 ael cel n24 alb clb glb ao co go)) [6, 3, 4, 5, 7, 8, 0, 1, 9, 2, 10] (by decide) rfl
          exact W.zret (v := 1) hx hb hr (zn01 (by first | exact Or.inl rfl | exact Or.inr rfl | exact hr1)) (fun t ht hW => ⟨⟨1, (n2, n19, oc, x4, lc, f5, f6, f7, n24, glb, go), rfl, ⟨Or.inr rfl, hsn19, by (try dsimp only); clear iT; (first | (apply Int.le_antisymm <;> omega) | omega), by (try dsimp only); clear iT; (first | (apply Int.le_antisymm <;> omega) | omega), by (try dsimp only); clear iT; (first | (apply Int.le_antisymm <;> omega) | omega), by (try dsimp only); clear iT; (first | (apply Int.le_antisymm <;> omega) | omega), by (try dsimp only); clear iT; (first | (apply Int.le_antisymm <;> omega) | omega), by (try dsimp only); clear iT; (first | (apply Int.le_antisymm <;> omega) | omega), by (try dsimp only); clear iT; (first | (apply Int.le_antisymm <;> omega) | omega), by (try dsimp only); clear iT; (first | (apply Int.le_antisymm <;> omega) | omega), hlb, (fun j => bsn19.elim (fun q => by rw [iF q]; exact hel j) (fun q => by rw [(iT q).2.2.2]; exact upd_lt hel (by clear iT iF; (first | (apply Int.le_antisymm <;> omega) | omega)) j)), fun z => by have y : n19.toInt = 1 := z; have y1 := (iT y).1; exact ⟨by clear iT iF; (first | (apply Int.le_antisymm <;> omega) | omega), by (try dsimp only); clear iT iF; (first | (apply Int.le_antisymm <;> omega) | omega), by (try dsimp only); clear iT iF; (first | (apply Int.le_antisymm <;> omega) | omega), ⟨r1, by clear iT iF; (first | (apply Int.le_antisymm <;> omega) | omega), ef5.symm, Or.inr (Or.inl ⟨by clear iT iF; (first | (apply Int.le_antisymm <;> omega) | omega), k1, rfl, rfl, rfl, rfl, ef7.symm, ef6.symm, (iT y).1, (iT y).2.1, by rw [ef8]; exact (iT y).2.2.1, by rw [ef8]; exact (iT y).2.2.2⟩)⟩⟩⟩, va_P.he ht.symm hP9, va_K.moved hW.alike hK, hD9⟩, hS.F ht⟩) hS.2.2 d_RE_readInstruction_472
        · skip
          by_cases g99_388 : r1.toInt = 11
          · have ho99 : tab_off 366 2 66 #[273, 273, 273, 281, 366, 366, 366, 366, 366, 289, 295, 295, 314, 366, 295, 366, 366, 366, 366, 366, 366, 366, 366, 366, 366, 366, 366, 366, 366, 366, 295, 295, 295, 295, 295, 366, 366, 366, 366, 366, 366, 366, 366, 366, 366, 366, 366, 366, 366, 366, 366, 366, 366, 366, 366, 366, 366, 366, 366, 366, 366, 322, 322, 330, 348] r1.toInt = 289 := by rw [g99_388]; rfl
            refine lv_tab (tgt := 388) hx hb d_RE_readInstruction_99 (by decide) ho99 (by decide) ?_
            clear ho99
            refine lv_aload_n hx hb d_RE_readInstruction_388 rfl (lv_at hl 2 rfl) ?_
            refine lv_iload_n hx hb d_RE_readInstruction_389 rfl (lv_at hl 0 rfl) ?_
            have hPc := hP.sb (wq := (wz_4 h0 aw ac n2 lim 1 cc ao oc ac afi alk alt x4 aop ava apt ael lc alb apt cpt f7 ael cel f8 ao co go)) [7, 0, 3, 4, 6] rfl
            have hDc := hD.sb (wq := (wz_4 h0 aw ac n2 lim 1 cc ao oc ac afi alk alt x4 aop ava apt ael lc alb apt cpt f7 ael cel f8 ao co go)) [7, 0, 3, 4, 6] (by decide) rfl
            have hKc := hK.sb (tyq := [(cpt, .int), (cel, .int), (co, .int)]) [3, 4, 6] rfl
            have hFc := va_free (wc := (wz_4 h0 aw ac n2 lim 1 cc ao oc ac afi alk alt x4 aop ava apt ael lc alb apt cpt f7 ael cel f8 ao co go)) hD hS hA [7, 0, 3, 4, 6] rfl
            refine va_calli (va_runV (As := [.int cl]) (rest := []) ⟨hx, hb, hml, hown, hts⟩ (c_RE_closeBlock l dC dI H.size h0 aw ac ao ab ax lim cc afi alk alt aop ava apt ael alb cpt cel co n2 1 oc x4 lc f7 f8 go (Or.inr rfl) (by (first | (apply Int.le_antisymm <;> omega) | omega)) cl hgo hel) (cwV 1 hts (gV kM_RE_212 kV_RE_closeBlock kS_RE_closeBlock kI_RE kC_RE_closeBlock) rfl rfl rfl (by decide +kernel) ⟨Nat.le_of_ble_eq_true rfl, Nat.le_of_ble_eq_true rfl⟩) ⟨fun a U g mk z => by obtain ⟨z0, z1, zP, zK, zD⟩ := z; exact ⟨z0, z1, zP, va_K.moved (u := U) (U := U.calling g mk a) (Vm.Alike.refl U.vm) zK, zD⟩, va_recv hKc hPc (ci := 7) (q0 := 0) rfl rfl, fun U hU hW => ⟨rfl, by rw [hU], va_P.he hU.symm hPc, va_K.moved hW.alike hKc, hDc.weaken (fun _ _ _ _ => trivial)⟩⟩ rfl rfl hl.1 rfl (lv_room (Nat.le_of_ble_eq_true rfl)) d_RE_readInstruction_390 ⟨(Nat.zero_le _), (Nat.zero_le _)⟩) hS (fun q _ h => hFc q h) hFc (fun r26 u t H1 locs ht hvm hw hB hz1 hk1 hS => ?_)
            obtain ⟨n27, n28, n29, n30, n31, n32, n33, n34⟩ := u
            try dsimp only at hw
            have hwn27 := hw
            clear hw
            obtain ⟨hrr26, rfl, rfl, rfl, rfl, rfl, rfl, iZ, iO⟩ := hwn27
            have bsr26 := b01 hrr26
            obtain ⟨hP1, hK1, hD1⟩ := hB
            replace hP1 := va_P.he ht hP1
            obtain ⟨hP, hD⟩ := va_join (wr := [(aop, .inl (cop, 5000, .inl f5)), (ava, .inl (cva, 5000, .inr (.inl f6))), (alb, .inl (clb, 2000, .inl glb)), (aw, .inr (10, wf)), (ab, .inr (1, [.ref ax, .int len])), (ax, .inl (cB, n, .inl f))]) (w1 := (wz_4 h0 aw ac n2 lim 1 cc ao n29 ac afi alk alt x4 aop ava apt ael lc alb apt cpt n32 ael cel f8 ao co go)) hP hD [7, 0, 3, 4, 6] [1, 2, 5, 8, 9, 10] rfl rfl (by decide) (by decide) hk1 hFc hP1 hD1
            clear hPc hDc hKc hFc hz1 hk1 hP1 hK1 hD1
            rename Heap => H
            have hP : va_P (dC, dI) cls [(aop, .inl (cop, 5000, .inl f5)), (ava, .inl (cva, 5000, .inr (.inl f6))), (alb, .inl (clb, 2000, .inl glb)), (aw, .inr (10, wf)), (ab, .inr (1, [.ref ax, .int len])), (ax, .inl (cB, n, .inl f)), (h0, .inr (7, [.ref aw, .ref ac, .int n2, .int lim, .int 1, .int cc, .ref ao, .int n29])), (ac, .inr (3, [.ref afi, .ref alk, .ref alt, .int x4, .ref aop, .ref ava, .ref apt, .ref ael, .int lc, .ref alb])), (apt, .inl (cpt, 5000, .inl n32)), (ael, .inl (cel, 5000, .inl f8)), (ao, .inl (co, 100, .inl go))] H := hP
            have hD : va_D A [(aop, .inl (cop, 5000, .inl f5)), (ava, .inl (cva, 5000, .inr (.inl f6))), (alb, .inl (clb, 2000, .inl glb)), (aw, .inr (10, wf)), (ab, .inr (1, [.ref ax, .int len])), (ax, .inl (cB, n, .inl f)), (h0, .inr (7, [.ref aw, .ref ac, .int n2, .int lim, .int 1, .int cc, .ref ao, .int n29])), (ac, .inr (3, [.ref afi, .ref alk, .ref alt, .int x4, .ref aop, .ref ava, .ref apt, .ref ael, .int lc, .ref alb])), (apt, .inl (cpt, 5000, .inl n32)), (ael, .inl (cel, 5000, .inl f8)), (ao, .inl (co, 100, .inl go))] := hD
            have zz : 0 ≤ n29.toInt ∧ n29.toInt ≤ 100 := bsr26.elim (fun q => by have w1 := eqI (iZ q).2.1; (first | (apply Int.le_antisymm <;> omega) | omega)) (fun q => by have w1 := (iO q).2.1; have w2 := (iO q).1; (first | (apply Int.le_antisymm <;> omega) | omega))
            have hP9 := hP.sb (wq := (wz_10 h0 aw ac n2 lim 1 cc ao n29 aw wf ab ax len ax cB n f ac afi alk alt x4 aop ava apt ael lc alb aop cop f5 ava cva f6 apt cpt n32 ael cel f8 alb clb glb ao co go)) [6, 3, 4, 5, 7, 0, 1, 8, 9, 2, 10] rfl
            have hD9 := hD.sb (wq := (wz_10 h0 aw ac n2 lim 1 cc ao n29 aw wf ab ax len ax cB n f ac afi alk alt x4 aop ava apt ael lc alb aop cop f5 ava cva f6 apt cpt n32 ael cel f8 alb clb glb ao co go)) [6, 3, 4, 5, 7, 0, 1, 8, 9, 2, 10] (by decide) rfl
            exact W.zret (v := r26) hx hb hr (zn01 (by first | exact Or.inl rfl | exact Or.inr rfl | exact hrr26)) (fun t ht hW => ⟨⟨r26, (n2, 1, n29, x4, lc, f5, f6, n32, f8, glb, go), rfl, ⟨hrr26, (Or.inr rfl), by (try dsimp only); clear iZ iO; (first | (apply Int.le_antisymm <;> omega) | omega), by (try dsimp only); clear iZ iO; (first | (apply Int.le_antisymm <;> omega) | omega), by (try dsimp only); clear iZ iO; (first | (apply Int.le_antisymm <;> omega) | omega), by (try dsimp only); clear iZ iO; (first | (apply Int.le_antisymm <;> omega) | omega), by (try dsimp only); clear iZ iO; (first | (apply Int.le_antisymm <;> omega) | omega), by (try dsimp only); clear iZ iO; (first | (apply Int.le_antisymm <;> omega) | omega), by (try dsimp only); clear iZ iO; (first | (apply Int.le_antisymm <;> omega) | omega), by (try dsimp only); clear iZ iO; (first | (apply Int.le_antisymm <;> omega) | omega), hlb, hel, fun z => ⟨by clear iZ iO; (first | (apply Int.le_antisymm <;> omega) | omega), by (try dsimp only); clear iZ iO; (first | (apply Int.le_antisymm <;> omega) | omega), by (try dsimp only); clear iZ iO; (first | (apply Int.le_antisymm <;> omega) | omega), ⟨r1, by clear iZ iO; (first | (apply Int.le_antisymm <;> omega) | omega), ef5.symm, Or.inr (Or.inr (Or.inl ⟨by clear iZ iO; (first | (apply Int.le_antisymm <;> omega) | omega), rfl, rfl, rfl, ef8.symm, ef6.symm, fun z => ⟨(iZ z).1, (iZ z).2.1.symm, by rw [(iZ z).2.2, ef7]⟩, fun z => ⟨(iO z).1, (iO z).2.1, by rw [(iO z).2.2, ef8, ef7]⟩⟩))⟩⟩⟩, va_P.he ht.symm hP9, va_K.moved hW.alike hK, hD9⟩, hS.F ht⟩) hS.2.2 d_RE_readInstruction_393
          · skip
            by_cases g99_394 : r1.toInt = 12 ∨ r1.toInt = 13 ∨ r1.toInt = 16 ∨ r1.toInt = 32 ∨ r1.toInt = 33 ∨ r1.toInt = 34 ∨ r1.toInt = 35 ∨ r1.toInt = 36
            · have ho99 : tab_off 366 2 66 #[273, 273, 273, 281, 366, 366, 366, 366, 366, 289, 295, 295, 314, 366, 295, 366, 366, 366, 366, 366, 366, 366, 366, 366, 366, 366, 366, 366, 366, 366, 295, 295, 295, 295, 295, 366, 366, 366, 366, 366, 366, 366, 366, 366, 366, 366, 366, 366, 366, 366, 366, 366, 366, 366, 366, 366, 366, 366, 366, 366, 366, 322, 322, 330, 348] r1.toInt = 295 := by rcases g99_394 with z | z | z | z | z | z | z | z <;> (rw [z]; rfl)
              refine lv_tab (tgt := 394) hx hb d_RE_readInstruction_99 (by decide) ho99 (by decide) ?_
              clear ho99
              refine lv_aload_n hx hb d_RE_readInstruction_394 rfl (lv_at hl 2 rfl) ?_
              refine va_get (D := (dC, dI)) (ci := 7) (v := .ref ac) (C := R_RE) (T := F_RE) (N := 8) hx hb hts i_RE hown hK hP 7 rfl rfl 1 (by decide) (hts _ kF_RE_25) (fun _ h9 => h9) rfl d_RE_readInstruction_395 ?_
              refine va_get (D := (dC, dI)) (ci := 3) (v := .ref ava) (C := R_CD) (T := F_CD) (N := 10) hx hb hts i_CD hown hK hP 0 rfl rfl 5 (by decide) (hts _ kF_RE_197) (fun _ h9 => h9) rfl d_RE_readInstruction_398 ?_
              refine lv_iload_n hx hb d_RE_readInstruction_401 rfl (lv_at hl 0 rfl) ?_
              refine lv_aload_n hx hb d_RE_readInstruction_402 rfl (lv_at hl 2 rfl) ?_
              refine lv_ldc2 hx hb hown (hts _ kL_RE_82) d_RE_readInstruction_403 ?_
              refine lv_topl (fun x35 ex35 => ?_)
              have tx35 : x35.toInt = 2147483647 := by rw [ex35]; decide
              have hPc := hP.sb (wq := (wz_1 h0 aw ac n2 lim 1 cc ao oc aw wf ab ax len ax cB n f)) [7, 8, 9, 10] rfl
              have hDc := hD.sb (wq := (wz_1 h0 aw ac n2 lim 1 cc ao oc aw wf ab ax len ax cB n f)) [7, 8, 9, 10] (by decide) rfl
              have hKc := hK.sb (tyq := [(cB, .byte)]) [0] rfl
              have hFc := va_free (wc := (wz_1 h0 aw ac n2 lim 1 cc ao oc aw wf ab ax len ax cB n f)) hD hS hA [7, 8, 9, 10] rfl
              refine va_calll (va_runV (As := [.long x35]) (rest := [.int cl, .ref ava]) ⟨hx, hb, hml, hown, hts⟩ (c_RE_readUnsigned l dC dI h0 aw ac ao ab ax H.size cB n n2 lim 1 cc oc len f wf pwf pwl (Or.inr rfl) (by (first | (apply Int.le_antisymm <;> omega) | omega)) x35 (by (first | (apply Int.le_antisymm <;> omega) | omega))) (cwV 1 hts (gV kM_RE_64 kV_RE_readUnsigned kS_RE_readUnsigned kI_RE kC_RE_readUnsigned) rfl rfl rfl (by decide +kernel) ⟨Nat.le_of_ble_eq_true rfl, Nat.le_of_ble_eq_true rfl⟩) ⟨fun a U g mk z => by obtain ⟨z0, z1, zP, zK, zD⟩ := z; exact ⟨z0, z1, zP, va_K.moved (u := U) (U := U.calling g mk a) (Vm.Alike.refl U.vm) zK, zD⟩, va_recv hKc hPc (ci := 7) (q0 := 0) rfl rfl, fun U hU hW => ⟨rfl, by rw [hU], va_P.he hU.symm hPc, va_K.moved hW.alike hKc, hDc.weaken (fun _ _ _ _ => trivial)⟩⟩ rfl rfl hl.1 rfl (lv_room (Nat.le_of_ble_eq_true rfl)) d_RE_readInstruction_406 ⟨(Nat.zero_le _), (Nat.zero_le _)⟩) hS (fun q _ h => hFc q h) hFc (fun r36 u t H1 locs ht hvm hw hB hz1 hk1 hS => ?_)
              obtain ⟨n37, n38⟩ := u
              try dsimp only at hw
              obtain ⟨hsn38, tn37⟩ := hw
              have bsn38 := b01 hsn38
              obtain ⟨hP1, hK1, hD1⟩ := hB
              replace hP1 := va_P.he ht hP1
              obtain ⟨hP, hD⟩ := va_join (wr := (wz_11 ac afi alk alt x4 aop ava apt ael lc alb aop cop f5 ava cva f6 apt cpt f7 ael cel f8 alb clb glb ao co go)) (w1 := (wz_1 h0 aw ac n37 lim n38 cc ao oc aw wf ab ax len ax cB n f)) hP hD [7, 8, 9, 10] [0, 1, 2, 3, 4, 5, 6] rfl rfl (by decide) (by decide) hk1 hFc hP1 hD1
              clear hPc hDc hKc hFc hz1 hk1 hP1 hK1 hD1
              rename Heap => H
              have hP : va_P (dC, dI) cls (wz_12 ac afi alk alt x4 aop ava apt ael lc alb aop cop f5 ava cva f6 apt cpt f7 ael cel f8 alb clb glb ao co go h0 aw ac n37 lim n38 cc ao oc aw wf ab ax len ax cB n f) H := hP
              have hD : va_D A (wz_12 ac afi alk alt x4 aop ava apt ael lc alb aop cop f5 ava cva f6 apt cpt f7 ael cel f8 alb clb glb ao co go h0 aw ac n37 lim n38 cc ao oc aw wf ab ax len ax cB n f) := hD
              have g409 : vp_in cl 5000 := vp_in_iff.mpr ⟨by (first | (apply Int.le_antisymm <;> omega) | omega), by (first | (apply Int.le_antisymm <;> omega) | omega)⟩
              refine va_last hx hb hK hP hD hS 2 2 rfl rfl g409 d_RE_readInstruction_409 (fun H locs hP hD hS => ?_)
              generalize ef39 : vp_updL f6 cl.toNatClampNeg r36 = f39 at hP hD
              refine lv_goto (tgt := 471) hx hb d_RE_readInstruction_410 (by decide) ?_
              refine lv_iconst (v := 1) hx hb d_RE_readInstruction_471 (by decide) ?_
              have hP9 := hP.sb (wq := (wz_10 h0 aw ac n37 lim n38 cc ao oc aw wf ab ax len ax cB n f ac afi alk alt x4 aop ava apt ael lc alb aop cop f5 ava cva f39 apt cpt f7 ael cel f8 alb clb glb ao co go)) [7, 8, 9, 10, 0, 1, 2, 3, 4, 5, 6] rfl
              have hD9 := hD.sb (wq := (wz_10 h0 aw ac n37 lim n38 cc ao oc aw wf ab ax len ax cB n f ac afi alk alt x4 aop ava apt ael lc alb aop cop f5 ava cva f39 apt cpt f7 ael cel f8 alb clb glb ao co go)) [7, 8, 9, 10, 0, 1, 2, 3, 4, 5, 6] (by decide) rfl
              exact W.zret (v := 1) hx hb hr (zn01 (by first | exact Or.inl rfl | exact Or.inr rfl | exact hr1)) (fun t ht hW => ⟨⟨1, (n37, n38, oc, x4, lc, f5, f39, f7, f8, glb, go), rfl, ⟨Or.inr rfl, hsn38, by (try dsimp only); (first | (apply Int.le_antisymm <;> omega) | omega), by (try dsimp only); (first | (apply Int.le_antisymm <;> omega) | omega), by (try dsimp only); (first | (apply Int.le_antisymm <;> omega) | omega), by (try dsimp only); (first | (apply Int.le_antisymm <;> omega) | omega), by (try dsimp only); (first | (apply Int.le_antisymm <;> omega) | omega), by (try dsimp only); (first | (apply Int.le_antisymm <;> omega) | omega), by (try dsimp only); (first | (apply Int.le_antisymm <;> omega) | omega), by (try dsimp only); (first | (apply Int.le_antisymm <;> omega) | omega), hlb, hel, fun z => by have y : n38.toInt = 1 := z; exact ⟨by (first | (apply Int.le_antisymm <;> omega) | omega), by (try dsimp only); (first | (apply Int.le_antisymm <;> omega) | omega), by (try dsimp only); (first | (apply Int.le_antisymm <;> omega) | omega), ⟨r1, by (first | (apply Int.le_antisymm <;> omega) | omega), ef5.symm, Or.inr (Or.inr (Or.inr (Or.inl ⟨by (first | (apply Int.le_antisymm <;> omega) | omega), k1, rfl, rfl, rfl, rfl, ef7.symm, ef8.symm, r36, by (first | (apply Int.le_antisymm <;> omega) | omega), by (first | (apply Int.le_antisymm <;> omega) | omega), by rw [ef6]; exact ef39.symm⟩)))⟩⟩⟩, va_P.he ht.symm hP9, va_K.moved hW.alike hK, hD9⟩, hS.F ht⟩) hS.2.2 d_RE_readInstruction_472
            · skip
              by_cases g99_413 : r1.toInt = 14
              · have ho99 : tab_off 366 2 66 #[273, 273, 273, 281, 366, 366, 366, 366, 366, 289, 295, 295, 314, 366, 295, 366, 366, 366, 366, 366, 366, 366, 366, 366, 366, 366, 366, 366, 366, 366, 295, 295, 295, 295, 295, 366, 366, 366, 366, 366, 366, 366, 366, 366, 366, 366, 366, 366, 366, 366, 366, 366, 366, 366, 366, 366, 366, 366, 366, 366, 366, 322, 322, 330, 348] r1.toInt = 314 := by rw [g99_413]; rfl
                refine lv_tab (tgt := 413) hx hb d_RE_readInstruction_99 (by decide) ho99 (by decide) ?_
                clear ho99
                refine lv_aload_n hx hb d_RE_readInstruction_413 rfl (lv_at hl 2 rfl) ?_
                refine lv_iload_n hx hb d_RE_readInstruction_414 rfl (lv_at hl 0 rfl) ?_
                have hPc := hP.sb (wq := (wz_5 h0 aw ac n2 lim 1 cc ao oc aw wf ab ax len ax cB n f ac afi alk alt x4 aop ava apt ael lc alb ava cva f6 apt cpt f7 alb clb glb)) [7, 8, 9, 10, 0, 2, 3, 5] rfl
                have hDc := hD.sb (wq := (wz_5 h0 aw ac n2 lim 1 cc ao oc aw wf ab ax len ax cB n f ac afi alk alt x4 aop ava apt ael lc alb ava cva f6 apt cpt f7 alb clb glb)) [7, 8, 9, 10, 0, 2, 3, 5] (by decide) rfl
                have hKc := hK.sb (tyq := [(cB, .byte), (cva, .long), (cpt, .int), (clb, .int)]) [0, 2, 3, 5] rfl
                have hFc := va_free (wc := (wz_5 h0 aw ac n2 lim 1 cc ao oc aw wf ab ax len ax cB n f ac afi alk alt x4 aop ava apt ael lc alb ava cva f6 apt cpt f7 alb clb glb)) hD hS hA [7, 8, 9, 10, 0, 2, 3, 5] rfl
                refine va_callv (va_runV (As := [.int cl]) (rest := []) ⟨hx, hb, hml, hown, hts⟩ (c_RE_readTable l dC dI H.size h0 aw ac ao ab ax lim cc cB n len f wf pwf pwl afi alk alt aop ava apt ael alb cva cpt clb n2 1 oc x4 lc f6 f7 glb (Or.inr rfl) (by (first | (apply Int.le_antisymm <;> omega) | omega)) (by (first | (apply Int.le_antisymm <;> omega) | omega)) cl (by (first | (apply Int.le_antisymm <;> omega) | omega)) hlb (by (first | (apply Int.le_antisymm <;> omega) | omega))) (cwV 1 hts (gV kM_RE_216 kV_RE_readTable kS_RE_readTable kI_RE kC_RE_readTable) rfl rfl rfl (by decide +kernel) ⟨Nat.le_of_ble_eq_true rfl, Nat.le_of_ble_eq_true rfl⟩) ⟨fun a U g mk z => by obtain ⟨z0, z1, zP, zK, zD⟩ := z; exact ⟨z0, z1, zP, va_K.moved (u := U) (U := U.calling g mk a) (Vm.Alike.refl U.vm) zK, zD⟩, va_recv hKc hPc (ci := 7) (q0 := 0) rfl rfl, fun U hU hW => ⟨rfl, by rw [hU], va_P.he hU.symm hPc, va_K.moved hW.alike hKc, hDc.weaken (fun _ _ _ _ => trivial)⟩⟩ rfl rfl hl.1 rfl (lv_room (Nat.le_of_ble_eq_true rfl)) d_RE_readInstruction_415 ⟨(Nat.zero_le _), (Nat.zero_le _)⟩) hS (fun q _ h => hFc q h) hFc (fun u t H1 locs ht hvm hw hB hz1 hk1 hS => ?_)
                obtain ⟨n41, n42, n43, n44, n45, n46, n47, n48⟩ := u
                try dsimp only at hw
                have hwn41 := hw
                clear hw
                obtain ⟨hsn42, i1, i2, rfl, rfl, i3, i4, iL, iT⟩ := hwn41
                have bsn42 := b01 hsn42
                obtain ⟨hP1, hK1, hD1⟩ := hB
                replace hP1 := va_P.he ht hP1
                obtain ⟨hP, hD⟩ := va_join (wr := [(aop, .inl (cop, 5000, .inl f5)), (ael, .inl (cel, 5000, .inl f8)), (ao, .inl (co, 100, .inl go))]) (w1 := (wz_5 h0 aw ac n41 lim n42 cc ao oc aw wf ab ax len ax cB n f ac afi alk alt x4 aop ava apt ael n45 alb ava cva n46 apt cpt n47 alb clb n48)) hP hD [7, 8, 9, 10, 0, 2, 3, 5] [1, 4, 6] rfl rfl (by decide) (by decide) hk1 hFc hP1 hD1
                clear hPc hDc hKc hFc hz1 hk1 hP1 hK1 hD1
                rename Heap => H
                have hP : va_P (dC, dI) cls [(aop, .inl (cop, 5000, .inl f5)), (ael, .inl (cel, 5000, .inl f8)), (ao, .inl (co, 100, .inl go)), (h0, .inr (7, [.ref aw, .ref ac, .int n41, .int lim, .int n42, .int cc, .ref ao, .int oc])), (aw, .inr (10, wf)), (ab, .inr (1, [.ref ax, .int len])), (ax, .inl (cB, n, .inl f)), (ac, .inr (3, [.ref afi, .ref alk, .ref alt, .int x4, .ref aop, .ref ava, .ref apt, .ref ael, .int n45, .ref alb])), (ava, .inl (cva, 5000, .inr (.inl n46))), (apt, .inl (cpt, 5000, .inl n47)), (alb, .inl (clb, 2000, .inl n48))] H := hP
                have hD : va_D A [(aop, .inl (cop, 5000, .inl f5)), (ael, .inl (cel, 5000, .inl f8)), (ao, .inl (co, 100, .inl go)), (h0, .inr (7, [.ref aw, .ref ac, .int n41, .int lim, .int n42, .int cc, .ref ao, .int oc])), (aw, .inr (10, wf)), (ab, .inr (1, [.ref ax, .int len])), (ax, .inl (cB, n, .inl f)), (ac, .inr (3, [.ref afi, .ref alk, .ref alt, .int x4, .ref aop, .ref ava, .ref apt, .ref ael, .int n45, .ref alb])), (ava, .inl (cva, 5000, .inr (.inl n46))), (apt, .inl (cpt, 5000, .inl n47)), (alb, .inl (clb, 2000, .inl n48))] := hD
                refine lv_goto (tgt := 471) hx hb d_RE_readInstruction_418 (by decide) ?_
                refine lv_iconst (v := 1) hx hb d_RE_readInstruction_471 (by decide) ?_
                have hP9 := hP.sb (wq := (wz_10 h0 aw ac n41 lim n42 cc ao oc aw wf ab ax len ax cB n f ac afi alk alt x4 aop ava apt ael n45 alb aop cop f5 ava cva n46 apt cpt n47 ael cel f8 alb clb n48 ao co go)) [3, 4, 5, 6, 7, 0, 8, 9, 1, 10, 2] rfl
                have hD9 := hD.sb (wq := (wz_10 h0 aw ac n41 lim n42 cc ao oc aw wf ab ax len ax cB n f ac afi alk alt x4 aop ava apt ael n45 alb aop cop f5 ava cva n46 apt cpt n47 ael cel f8 alb clb n48 ao co go)) [3, 4, 5, 6, 7, 0, 8, 9, 1, 10, 2] (by decide) rfl
                exact W.zret (v := 1) hx hb hr (zn01 (by first | exact Or.inl rfl | exact Or.inr rfl | exact hr1)) (fun t ht hW => ⟨⟨1, (n41, n42, oc, x4, n45, f5, n46, n47, f8, n48, go), rfl, ⟨Or.inr rfl, hsn42, by (try dsimp only); clear iT; (first | (apply Int.le_antisymm <;> omega) | omega), by (try dsimp only); clear iT; (first | (apply Int.le_antisymm <;> omega) | omega), by (try dsimp only); clear iT; (first | (apply Int.le_antisymm <;> omega) | omega), by (try dsimp only); clear iT; (first | (apply Int.le_antisymm <;> omega) | omega), by (try dsimp only); clear iT; (first | (apply Int.le_antisymm <;> omega) | omega), by (try dsimp only); clear iT; (first | (apply Int.le_antisymm <;> omega) | omega), by (try dsimp only); clear iT; (first | (apply Int.le_antisymm <;> omega) | omega), by (try dsimp only); clear iT; (first | (apply Int.le_antisymm <;> omega) | omega), iL, hel, fun z => by have y : n42.toInt = 1 := z; have y1 := (iT y).1; have y2 := (iT y).2.1; exact ⟨by clear iT; (first | (apply Int.le_antisymm <;> omega) | omega), by (try dsimp only); clear iT; (first | (apply Int.le_antisymm <;> omega) | omega), by (try dsimp only); clear iT; (first | (apply Int.le_antisymm <;> omega) | omega), ⟨r1, by clear iT; (first | (apply Int.le_antisymm <;> omega) | omega), ef5.symm, Or.inr (Or.inr (Or.inr (Or.inr (Or.inl ⟨by clear iT; (first | (apply Int.le_antisymm <;> omega) | omega), k1, rfl, rfl, ef8.symm, by obtain ⟨b9, x9, q1, q2, q3, q4, q5, q6⟩ := (iT y).2.2; exact ⟨b9, x9, q1, q2, q3, q4, by rw [q5, ef6], by rw [q6, ef7]⟩⟩))))⟩⟩⟩, va_P.he ht.symm hP9, va_K.moved hW.alike hK, hD9⟩, hS.F ht⟩) hS.2.2 d_RE_readInstruction_472
              · skip
                by_cases g99_421 : r1.toInt = 63 ∨ r1.toInt = 64
                · have ho99 : tab_off 366 2 66 #[273, 273, 273, 281, 366, 366, 366, 366, 366, 289, 295, 295, 314, 366, 295, 366, 366, 366, 366, 366, 366, 366, 366, 366, 366, 366, 366, 366, 366, 366, 295, 295, 295, 295, 295, 366, 366, 366, 366, 366, 366, 366, 366, 366, 366, 366, 366, 366, 366, 366, 366, 366, 366, 366, 366, 366, 366, 366, 366, 366, 366, 322, 322, 330, 348] r1.toInt = 322 := by rcases g99_421 with z | z <;> (rw [z]; rfl)
                  refine lv_tab (tgt := 421) hx hb d_RE_readInstruction_99 (by decide) ho99 (by decide) ?_
                  clear ho99
                  refine lv_aload_n hx hb d_RE_readInstruction_421 rfl (lv_at hl 2 rfl) ?_
                  refine lv_iconst (v := 0) hx hb d_RE_readInstruction_422 (by decide) ?_
                  have hPc := hP.sb (wq := (wz_1 h0 aw ac n2 lim 1 cc ao oc aw wf ab ax len ax cB n f)) [7, 8, 9, 10] rfl
                  have hDc := hD.sb (wq := (wz_1 h0 aw ac n2 lim 1 cc ao oc aw wf ab ax len ax cB n f)) [7, 8, 9, 10] (by decide) rfl
                  have hKc := hK.sb (tyq := [(cB, .byte)]) [0] rfl
                  have hFc := va_free (wc := (wz_1 h0 aw ac n2 lim 1 cc ao oc aw wf ab ax len ax cB n f)) hD hS hA [7, 8, 9, 10] rfl
                  refine va_callv (va_runV (As := [.int 0]) (rest := []) ⟨hx, hb, hml, hown, hts⟩ (c_RE_expect l dC dI h0 aw ac ao ab ax H.size cB n n2 lim 1 cc oc len f wf pwf pwl (Or.inr rfl) (by (first | (apply Int.le_antisymm <;> omega) | omega)) 0) (cwV 1 hts (gV kM_RE_56 kV_RE_expect kS_RE_expect kI_RE kC_RE_expect) rfl rfl rfl (by decide +kernel) ⟨Nat.le_of_ble_eq_true rfl, Nat.le_of_ble_eq_true rfl⟩) ⟨fun a U g mk z => by obtain ⟨z0, z1, zP, zK, zD⟩ := z; exact ⟨z0, z1, zP, va_K.moved (u := U) (U := U.calling g mk a) (Vm.Alike.refl U.vm) zK, zD⟩, va_recv hKc hPc (ci := 7) (q0 := 0) rfl rfl, fun U hU hW => ⟨rfl, by rw [hU], va_P.he hU.symm hPc, va_K.moved hW.alike hKc, hDc.weaken (fun _ _ _ _ => trivial)⟩⟩ rfl rfl hl.1 rfl (lv_room (Nat.le_of_ble_eq_true rfl)) d_RE_readInstruction_423 ⟨(Nat.zero_le _), (Nat.zero_le _)⟩) hS (fun q _ h => hFc q h) hFc (fun u t H1 locs ht hvm hw hB hz1 hk1 hS => ?_)
                  obtain ⟨n50, n51⟩ := u
                  try dsimp only at hw
                  obtain ⟨hsn51, tn50⟩ := hw
                  have bsn51 := b01 hsn51
                  obtain ⟨hP1, hK1, hD1⟩ := hB
                  replace hP1 := va_P.he ht hP1
                  obtain ⟨hP, hD⟩ := va_join (wr := (wz_11 ac afi alk alt x4 aop ava apt ael lc alb aop cop f5 ava cva f6 apt cpt f7 ael cel f8 alb clb glb ao co go)) (w1 := (wz_1 h0 aw ac n50 lim n51 cc ao oc aw wf ab ax len ax cB n f)) hP hD [7, 8, 9, 10] [0, 1, 2, 3, 4, 5, 6] rfl rfl (by decide) (by decide) hk1 hFc hP1 hD1
                  clear hPc hDc hKc hFc hz1 hk1 hP1 hK1 hD1
                  rename Heap => H
                  have hP : va_P (dC, dI) cls (wz_12 ac afi alk alt x4 aop ava apt ael lc alb aop cop f5 ava cva f6 apt cpt f7 ael cel f8 alb clb glb ao co go h0 aw ac n50 lim n51 cc ao oc aw wf ab ax len ax cB n f) H := hP
                  have hD : va_D A (wz_12 ac afi alk alt x4 aop ava apt ael lc alb aop cop f5 ava cva f6 apt cpt f7 ael cel f8 alb clb glb ao co go h0 aw ac n50 lim n51 cc ao oc aw wf ab ax len ax cB n f) := hD
                  refine lv_goto (tgt := 471) hx hb d_RE_readInstruction_426 (by decide) ?_
                  refine lv_iconst (v := 1) hx hb d_RE_readInstruction_471 (by decide) ?_
                  have hP9 := hP.sb (wq := (wz_10 h0 aw ac n50 lim n51 cc ao oc aw wf ab ax len ax cB n f ac afi alk alt x4 aop ava apt ael lc alb aop cop f5 ava cva f6 apt cpt f7 ael cel f8 alb clb glb ao co go)) [7, 8, 9, 10, 0, 1, 2, 3, 4, 5, 6] rfl
                  have hD9 := hD.sb (wq := (wz_10 h0 aw ac n50 lim n51 cc ao oc aw wf ab ax len ax cB n f ac afi alk alt x4 aop ava apt ael lc alb aop cop f5 ava cva f6 apt cpt f7 ael cel f8 alb clb glb ao co go)) [7, 8, 9, 10, 0, 1, 2, 3, 4, 5, 6] (by decide) rfl
                  exact W.zret (v := 1) hx hb hr (zn01 (by first | exact Or.inl rfl | exact Or.inr rfl | exact hr1)) (fun t ht hW => ⟨⟨1, (n50, n51, oc, x4, lc, f5, f6, f7, f8, glb, go), rfl, ⟨Or.inr rfl, hsn51, by (try dsimp only); (first | (apply Int.le_antisymm <;> omega) | omega), by (try dsimp only); (first | (apply Int.le_antisymm <;> omega) | omega), by (try dsimp only); (first | (apply Int.le_antisymm <;> omega) | omega), by (try dsimp only); (first | (apply Int.le_antisymm <;> omega) | omega), by (try dsimp only); (first | (apply Int.le_antisymm <;> omega) | omega), by (try dsimp only); (first | (apply Int.le_antisymm <;> omega) | omega), by (try dsimp only); (first | (apply Int.le_antisymm <;> omega) | omega), by (try dsimp only); (first | (apply Int.le_antisymm <;> omega) | omega), hlb, hel, fun z => by have y : n51.toInt = 1 := z; exact ⟨by (first | (apply Int.le_antisymm <;> omega) | omega), by (try dsimp only); (first | (apply Int.le_antisymm <;> omega) | omega), by (try dsimp only); (first | (apply Int.le_antisymm <;> omega) | omega), ⟨r1, by (first | (apply Int.le_antisymm <;> omega) | omega), ef5.symm, Or.inr (Or.inr (Or.inr (Or.inr (Or.inr (Or.inl ⟨by (first | (apply Int.le_antisymm <;> omega) | omega), k1, rfl, rfl, rfl, rfl, ef7.symm, ef8.symm, ef6.symm⟩)))))⟩⟩⟩, va_P.he ht.symm hP9, va_K.moved hW.alike hK, hD9⟩, hS.F ht⟩) hS.2.2 d_RE_readInstruction_472
                · skip
                  by_cases g99_429 : r1.toInt = 65
                  · have ho99 : tab_off 366 2 66 #[273, 273, 273, 281, 366, 366, 366, 366, 366, 289, 295, 295, 314, 366, 295, 366, 366, 366, 366, 366, 366, 366, 366, 366, 366, 366, 366, 366, 366, 366, 295, 295, 295, 295, 295, 366, 366, 366, 366, 366, 366, 366, 366, 366, 366, 366, 366, 366, 366, 366, 366, 366, 366, 366, 366, 366, 366, 366, 366, 366, 366, 322, 322, 330, 348] r1.toInt = 330 := by rw [g99_429]; rfl
                    refine lv_tab (tgt := 429) hx hb d_RE_readInstruction_99 (by decide) ho99 (by decide) ?_
                    clear ho99
                    refine lv_aload_n hx hb d_RE_readInstruction_429 rfl (lv_at hl 2 rfl) ?_
                    refine va_get (D := (dC, dI)) (ci := 7) (v := .ref ac) (C := R_RE) (T := F_RE) (N := 8) hx hb hts i_RE hown hK hP 7 rfl rfl 1 (by decide) (hts _ kF_RE_25) (fun _ h9 => h9) rfl d_RE_readInstruction_430 ?_
                    refine va_get (D := (dC, dI)) (ci := 3) (v := .ref ava) (C := R_CD) (T := F_CD) (N := 10) hx hb hts i_CD hown hK hP 0 rfl rfl 5 (by decide) (hts _ kF_RE_197) (fun _ h9 => h9) rfl d_RE_readInstruction_433 ?_
                    refine lv_iload_n hx hb d_RE_readInstruction_436 rfl (lv_at hl 0 rfl) ?_
                    refine lv_aload_n hx hb d_RE_readInstruction_437 rfl (lv_at hl 2 rfl) ?_
                    refine lv_bipush (v := 32) hx hb d_RE_readInstruction_438 (by decide) ?_
                    have hPc := hP.sb (wq := (wz_1 h0 aw ac n2 lim 1 cc ao oc aw wf ab ax len ax cB n f)) [7, 8, 9, 10] rfl
                    have hDc := hD.sb (wq := (wz_1 h0 aw ac n2 lim 1 cc ao oc aw wf ab ax len ax cB n f)) [7, 8, 9, 10] (by decide) rfl
                    have hKc := hK.sb (tyq := [(cB, .byte)]) [0] rfl
                    have hFc := va_free (wc := (wz_1 h0 aw ac n2 lim 1 cc ao oc aw wf ab ax len ax cB n f)) hD hS hA [7, 8, 9, 10] rfl
                    refine va_calll (va_runV (As := [.int 32]) (rest := [.int cl, .ref ava]) ⟨hx, hb, hml, hown, hts⟩ (c_RE_readSigned l dC dI h0 aw ac ao ab ax H.size cB n n2 lim 1 cc oc len f wf pwf pwl (Or.inr rfl) (by (first | (apply Int.le_antisymm <;> omega) | omega)) 32 (by (first | (apply Int.le_antisymm <;> omega) | omega))) (cwV 1 hts (gV kM_RE_149 kV_RE_readSigned kS_RE_readSigned kI_RE kC_RE_readSigned) rfl rfl rfl (by decide +kernel) ⟨Nat.le_of_ble_eq_true rfl, Nat.le_of_ble_eq_true rfl⟩) ⟨fun a U g mk z => by obtain ⟨z0, z1, zP, zK, zD⟩ := z; exact ⟨z0, z1, zP, va_K.moved (u := U) (U := U.calling g mk a) (Vm.Alike.refl U.vm) zK, zD⟩, va_recv hKc hPc (ci := 7) (q0 := 0) rfl rfl, fun U hU hW => ⟨rfl, by rw [hU], va_P.he hU.symm hPc, va_K.moved hW.alike hKc, hDc.weaken (fun _ _ _ _ => trivial)⟩⟩ rfl rfl hl.1 rfl (lv_room (Nat.le_of_ble_eq_true rfl)) d_RE_readInstruction_440 ⟨(Nat.zero_le _), (Nat.zero_le _)⟩) hS (fun q _ h => hFc q h) hFc (fun r52 u t H1 locs ht hvm hw hB hz1 hk1 hS => ?_)
                    obtain ⟨n53, n54⟩ := u
                    try dsimp only at hw
                    obtain ⟨hsn54, tn53⟩ := hw
                    have bsn54 := b01 hsn54
                    obtain ⟨hP1, hK1, hD1⟩ := hB
                    replace hP1 := va_P.he ht hP1
                    obtain ⟨hP, hD⟩ := va_join (wr := (wz_11 ac afi alk alt x4 aop ava apt ael lc alb aop cop f5 ava cva f6 apt cpt f7 ael cel f8 alb clb glb ao co go)) (w1 := (wz_1 h0 aw ac n53 lim n54 cc ao oc aw wf ab ax len ax cB n f)) hP hD [7, 8, 9, 10] [0, 1, 2, 3, 4, 5, 6] rfl rfl (by decide) (by decide) hk1 hFc hP1 hD1
                    clear hPc hDc hKc hFc hz1 hk1 hP1 hK1 hD1
                    rename Heap => H
                    have hP : va_P (dC, dI) cls (wz_12 ac afi alk alt x4 aop ava apt ael lc alb aop cop f5 ava cva f6 apt cpt f7 ael cel f8 alb clb glb ao co go h0 aw ac n53 lim n54 cc ao oc aw wf ab ax len ax cB n f) H := hP
                    have hD : va_D A (wz_12 ac afi alk alt x4 aop ava apt ael lc alb aop cop f5 ava cva f6 apt cpt f7 ael cel f8 alb clb glb ao co go h0 aw ac n53 lim n54 cc ao oc aw wf ab ax len ax cB n f) := hD
                    have g443 : vp_in cl 5000 := vp_in_iff.mpr ⟨by (first | (apply Int.le_antisymm <;> omega) | omega), by (first | (apply Int.le_antisymm <;> omega) | omega)⟩
                    refine va_last hx hb hK hP hD hS 2 2 rfl rfl g443 d_RE_readInstruction_443 (fun H locs hP hD hS => ?_)
                    generalize ef55 : vp_updL f6 cl.toNatClampNeg r52 = f55 at hP hD
                    refine lv_goto (tgt := 471) hx hb d_RE_readInstruction_444 (by decide) ?_
                    refine lv_iconst (v := 1) hx hb d_RE_readInstruction_471 (by decide) ?_
                    have hP9 := hP.sb (wq := (wz_10 h0 aw ac n53 lim n54 cc ao oc aw wf ab ax len ax cB n f ac afi alk alt x4 aop ava apt ael lc alb aop cop f5 ava cva f55 apt cpt f7 ael cel f8 alb clb glb ao co go)) [7, 8, 9, 10, 0, 1, 2, 3, 4, 5, 6] rfl
                    have hD9 := hD.sb (wq := (wz_10 h0 aw ac n53 lim n54 cc ao oc aw wf ab ax len ax cB n f ac afi alk alt x4 aop ava apt ael lc alb aop cop f5 ava cva f55 apt cpt f7 ael cel f8 alb clb glb ao co go)) [7, 8, 9, 10, 0, 1, 2, 3, 4, 5, 6] (by decide) rfl
                    exact W.zret (v := 1) hx hb hr (zn01 (by first | exact Or.inl rfl | exact Or.inr rfl | exact hr1)) (fun t ht hW => ⟨⟨1, (n53, n54, oc, x4, lc, f5, f55, f7, f8, glb, go), rfl, ⟨Or.inr rfl, hsn54, by (try dsimp only); (first | (apply Int.le_antisymm <;> omega) | omega), by (try dsimp only); (first | (apply Int.le_antisymm <;> omega) | omega), by (try dsimp only); (first | (apply Int.le_antisymm <;> omega) | omega), by (try dsimp only); (first | (apply Int.le_antisymm <;> omega) | omega), by (try dsimp only); (first | (apply Int.le_antisymm <;> omega) | omega), by (try dsimp only); (first | (apply Int.le_antisymm <;> omega) | omega), by (try dsimp only); (first | (apply Int.le_antisymm <;> omega) | omega), by (try dsimp only); (first | (apply Int.le_antisymm <;> omega) | omega), hlb, hel, fun z => by have y : n54.toInt = 1 := z; exact ⟨by (first | (apply Int.le_antisymm <;> omega) | omega), by (try dsimp only); (first | (apply Int.le_antisymm <;> omega) | omega), by (try dsimp only); (first | (apply Int.le_antisymm <;> omega) | omega), ⟨r1, by (first | (apply Int.le_antisymm <;> omega) | omega), ef5.symm, Or.inr (Or.inr (Or.inr (Or.inr (Or.inr (Or.inr (Or.inl ⟨by (first | (apply Int.le_antisymm <;> omega) | omega), k1, rfl, rfl, rfl, rfl, ef7.symm, ef8.symm, r52, by rw [ef6]; exact ef55.symm⟩))))))⟩⟩⟩, va_P.he ht.symm hP9, va_K.moved hW.alike hK, hD9⟩, hS.F ht⟩) hS.2.2 d_RE_readInstruction_472
                  · skip
                    by_cases g99_447 : r1.toInt = 66
                    · have ho99 : tab_off 366 2 66 #[273, 273, 273, 281, 366, 366, 366, 366, 366, 289, 295, 295, 314, 366, 295, 366, 366, 366, 366, 366, 366, 366, 366, 366, 366, 366, 366, 366, 366, 366, 295, 295, 295, 295, 295, 366, 366, 366, 366, 366, 366, 366, 366, 366, 366, 366, 366, 366, 366, 366, 366, 366, 366, 366, 366, 366, 366, 366, 366, 366, 366, 322, 322, 330, 348] r1.toInt = 348 := by rw [g99_447]; rfl
                      refine lv_tab (tgt := 447) hx hb d_RE_readInstruction_99 (by decide) ho99 (by decide) ?_
                      clear ho99
                      refine lv_aload_n hx hb d_RE_readInstruction_447 rfl (lv_at hl 2 rfl) ?_
                      refine va_get (D := (dC, dI)) (ci := 7) (v := .ref ac) (C := R_RE) (T := F_RE) (N := 8) hx hb hts i_RE hown hK hP 7 rfl rfl 1 (by decide) (hts _ kF_RE_25) (fun _ h9 => h9) rfl d_RE_readInstruction_448 ?_
                      refine va_get (D := (dC, dI)) (ci := 3) (v := .ref ava) (C := R_CD) (T := F_CD) (N := 10) hx hb hts i_CD hown hK hP 0 rfl rfl 5 (by decide) (hts _ kF_RE_197) (fun _ h9 => h9) rfl d_RE_readInstruction_451 ?_
                      refine lv_iload_n hx hb d_RE_readInstruction_454 rfl (lv_at hl 0 rfl) ?_
                      refine lv_aload_n hx hb d_RE_readInstruction_455 rfl (lv_at hl 2 rfl) ?_
                      refine lv_bipush (v := 64) hx hb d_RE_readInstruction_456 (by decide) ?_
                      have hPc := hP.sb (wq := (wz_1 h0 aw ac n2 lim 1 cc ao oc aw wf ab ax len ax cB n f)) [7, 8, 9, 10] rfl
                      have hDc := hD.sb (wq := (wz_1 h0 aw ac n2 lim 1 cc ao oc aw wf ab ax len ax cB n f)) [7, 8, 9, 10] (by decide) rfl
                      have hKc := hK.sb (tyq := [(cB, .byte)]) [0] rfl
                      have hFc := va_free (wc := (wz_1 h0 aw ac n2 lim 1 cc ao oc aw wf ab ax len ax cB n f)) hD hS hA [7, 8, 9, 10] rfl
                      refine va_calll (va_runV (As := [.int 64]) (rest := [.int cl, .ref ava]) ⟨hx, hb, hml, hown, hts⟩ (c_RE_readSigned l dC dI h0 aw ac ao ab ax H.size cB n n2 lim 1 cc oc len f wf pwf pwl (Or.inr rfl) (by (first | (apply Int.le_antisymm <;> omega) | omega)) 64 (by (first | (apply Int.le_antisymm <;> omega) | omega))) (cwV 1 hts (gV kM_RE_149 kV_RE_readSigned kS_RE_readSigned kI_RE kC_RE_readSigned) rfl rfl rfl (by decide +kernel) ⟨Nat.le_of_ble_eq_true rfl, Nat.le_of_ble_eq_true rfl⟩) ⟨fun a U g mk z => by obtain ⟨z0, z1, zP, zK, zD⟩ := z; exact ⟨z0, z1, zP, va_K.moved (u := U) (U := U.calling g mk a) (Vm.Alike.refl U.vm) zK, zD⟩, va_recv hKc hPc (ci := 7) (q0 := 0) rfl rfl, fun U hU hW => ⟨rfl, by rw [hU], va_P.he hU.symm hPc, va_K.moved hW.alike hKc, hDc.weaken (fun _ _ _ _ => trivial)⟩⟩ rfl rfl hl.1 rfl (lv_room (Nat.le_of_ble_eq_true rfl)) d_RE_readInstruction_458 ⟨(Nat.zero_le _), (Nat.zero_le _)⟩) hS (fun q _ h => hFc q h) hFc (fun r56 u t H1 locs ht hvm hw hB hz1 hk1 hS => ?_)
                      obtain ⟨n57, n58⟩ := u
                      try dsimp only at hw
                      obtain ⟨hsn58, tn57⟩ := hw
                      have bsn58 := b01 hsn58
                      obtain ⟨hP1, hK1, hD1⟩ := hB
                      replace hP1 := va_P.he ht hP1
                      obtain ⟨hP, hD⟩ := va_join (wr := (wz_11 ac afi alk alt x4 aop ava apt ael lc alb aop cop f5 ava cva f6 apt cpt f7 ael cel f8 alb clb glb ao co go)) (w1 := (wz_1 h0 aw ac n57 lim n58 cc ao oc aw wf ab ax len ax cB n f)) hP hD [7, 8, 9, 10] [0, 1, 2, 3, 4, 5, 6] rfl rfl (by decide) (by decide) hk1 hFc hP1 hD1
                      clear hPc hDc hKc hFc hz1 hk1 hP1 hK1 hD1
                      rename Heap => H
                      have hP : va_P (dC, dI) cls (wz_12 ac afi alk alt x4 aop ava apt ael lc alb aop cop f5 ava cva f6 apt cpt f7 ael cel f8 alb clb glb ao co go h0 aw ac n57 lim n58 cc ao oc aw wf ab ax len ax cB n f) H := hP
                      have hD : va_D A (wz_12 ac afi alk alt x4 aop ava apt ael lc alb aop cop f5 ava cva f6 apt cpt f7 ael cel f8 alb clb glb ao co go h0 aw ac n57 lim n58 cc ao oc aw wf ab ax len ax cB n f) := hD
                      have g461 : vp_in cl 5000 := vp_in_iff.mpr ⟨by (first | (apply Int.le_antisymm <;> omega) | omega), by (first | (apply Int.le_antisymm <;> omega) | omega)⟩
                      refine va_last hx hb hK hP hD hS 2 2 rfl rfl g461 d_RE_readInstruction_461 (fun H locs hP hD hS => ?_)
                      generalize ef59 : vp_updL f6 cl.toNatClampNeg r56 = f59 at hP hD
                      refine lv_goto (tgt := 471) hx hb d_RE_readInstruction_462 (by decide) ?_
                      refine lv_iconst (v := 1) hx hb d_RE_readInstruction_471 (by decide) ?_
                      have hP9 := hP.sb (wq := (wz_10 h0 aw ac n57 lim n58 cc ao oc aw wf ab ax len ax cB n f ac afi alk alt x4 aop ava apt ael lc alb aop cop f5 ava cva f59 apt cpt f7 ael cel f8 alb clb glb ao co go)) [7, 8, 9, 10, 0, 1, 2, 3, 4, 5, 6] rfl
                      have hD9 := hD.sb (wq := (wz_10 h0 aw ac n57 lim n58 cc ao oc aw wf ab ax len ax cB n f ac afi alk alt x4 aop ava apt ael lc alb aop cop f5 ava cva f59 apt cpt f7 ael cel f8 alb clb glb ao co go)) [7, 8, 9, 10, 0, 1, 2, 3, 4, 5, 6] (by decide) rfl
                      exact W.zret (v := 1) hx hb hr (zn01 (by first | exact Or.inl rfl | exact Or.inr rfl | exact hr1)) (fun t ht hW => ⟨⟨1, (n57, n58, oc, x4, lc, f5, f59, f7, f8, glb, go), rfl, ⟨Or.inr rfl, hsn58, by (try dsimp only); (first | (apply Int.le_antisymm <;> omega) | omega), by (try dsimp only); (first | (apply Int.le_antisymm <;> omega) | omega), by (try dsimp only); (first | (apply Int.le_antisymm <;> omega) | omega), by (try dsimp only); (first | (apply Int.le_antisymm <;> omega) | omega), by (try dsimp only); (first | (apply Int.le_antisymm <;> omega) | omega), by (try dsimp only); (first | (apply Int.le_antisymm <;> omega) | omega), by (try dsimp only); (first | (apply Int.le_antisymm <;> omega) | omega), by (try dsimp only); (first | (apply Int.le_antisymm <;> omega) | omega), hlb, hel, fun z => by have y : n58.toInt = 1 := z; exact ⟨by (first | (apply Int.le_antisymm <;> omega) | omega), by (try dsimp only); (first | (apply Int.le_antisymm <;> omega) | omega), by (try dsimp only); (first | (apply Int.le_antisymm <;> omega) | omega), ⟨r1, by (first | (apply Int.le_antisymm <;> omega) | omega), ef5.symm, Or.inr (Or.inr (Or.inr (Or.inr (Or.inr (Or.inr (Or.inl ⟨by (first | (apply Int.le_antisymm <;> omega) | omega), k1, rfl, rfl, rfl, rfl, ef7.symm, ef8.symm, r56, by rw [ef6]; exact ef59.symm⟩))))))⟩⟩⟩, va_P.he ht.symm hP9, va_K.moved hW.alike hK, hD9⟩, hS.F ht⟩) hS.2.2 d_RE_readInstruction_472
                    · skip
                      have ho99 : tab_off 366 2 66 #[273, 273, 273, 281, 366, 366, 366, 366, 366, 289, 295, 295, 314, 366, 295, 366, 366, 366, 366, 366, 366, 366, 366, 366, 366, 366, 366, 366, 366, 366, 295, 295, 295, 295, 295, 366, 366, 366, 366, 366, 366, 366, 366, 366, 366, 366, 366, 366, 366, 366, 366, 366, 366, 366, 366, 366, 366, 366, 366, 366, 366, 322, 322, 330, 348] r1.toInt = 366 := by
                        unfold tab_off
                        split
                        · rfl
                        · rcases (by (first | (apply Int.le_antisymm <;> omega) | omega) : r1.toInt = 6 ∨ r1.toInt = 7 ∨ r1.toInt = 8 ∨ r1.toInt = 9 ∨ r1.toInt = 10 ∨ r1.toInt = 15 ∨ r1.toInt = 17 ∨ r1.toInt = 18 ∨ r1.toInt = 19 ∨ r1.toInt = 20 ∨ r1.toInt = 21 ∨ r1.toInt = 22 ∨ r1.toInt = 23 ∨ r1.toInt = 24 ∨ r1.toInt = 25 ∨ r1.toInt = 26 ∨ r1.toInt = 27 ∨ r1.toInt = 28 ∨ r1.toInt = 29 ∨ r1.toInt = 30 ∨ r1.toInt = 31 ∨ r1.toInt = 37 ∨ r1.toInt = 38 ∨ r1.toInt = 39 ∨ r1.toInt = 40 ∨ r1.toInt = 41 ∨ r1.toInt = 42 ∨ r1.toInt = 43 ∨ r1.toInt = 44 ∨ r1.toInt = 45 ∨ r1.toInt = 46 ∨ r1.toInt = 47 ∨ r1.toInt = 48 ∨ r1.toInt = 49 ∨ r1.toInt = 50 ∨ r1.toInt = 51 ∨ r1.toInt = 52 ∨ r1.toInt = 53 ∨ r1.toInt = 54 ∨ r1.toInt = 55 ∨ r1.toInt = 56 ∨ r1.toInt = 57 ∨ r1.toInt = 58 ∨ r1.toInt = 59 ∨ r1.toInt = 60 ∨ r1.toInt = 61 ∨ r1.toInt = 62) with z | z | z | z | z | z | z | z | z | z | z | z | z | z | z | z | z | z | z | z | z | z | z | z | z | z | z | z | z | z | z | z | z | z | z | z | z | z | z | z | z | z | z | z | z | z | z <;> (rw [z]; rfl)
                      refine lv_tab (tgt := 465) hx hb d_RE_readInstruction_99 (by decide) ho99 (by decide) ?_
                      clear ho99
                      refine lv_aload_n hx hb d_RE_readInstruction_465 rfl (lv_at hl 2 rfl) ?_
                      refine lv_iload_n hx hb d_RE_readInstruction_466 rfl (lv_at hl 0 rfl) ?_
                      refine lv_iload_n hx hb d_RE_readInstruction_467 rfl (lv_at hl 1 rfl) ?_
                      have hPc := hP.sb (wq := (wz_7 h0 aw ac n2 lim 1 cc ao oc aw wf ab ax len ax cB n f ac afi alk alt x4 aop ava apt ael lc alb ava cva f6 apt cpt f7)) [7, 8, 9, 10, 0, 2, 3] rfl
                      have hDc := hD.sb (wq := (wz_7 h0 aw ac n2 lim 1 cc ao oc aw wf ab ax len ax cB n f ac afi alk alt x4 aop ava apt ael lc alb ava cva f6 apt cpt f7)) [7, 8, 9, 10, 0, 2, 3] (by decide) rfl
                      have hKc := hK.sb (tyq := [(cB, .byte), (cva, .long), (cpt, .int)]) [0, 2, 3] rfl
                      have hFc := va_free (wc := (wz_7 h0 aw ac n2 lim 1 cc ao oc aw wf ab ax len ax cB n f ac afi alk alt x4 aop ava apt ael lc alb ava cva f6 apt cpt f7)) hD hS hA [7, 8, 9, 10, 0, 2, 3] rfl
                      refine va_callv (va_runV (As := [.int cl, .int r1]) (rest := []) ⟨hx, hb, hml, hown, hts⟩ (c_RE_readOther l dC dI H.size h0 aw ac ao ab ax lim cc cB n len f wf pwf pwl afi alk alt aop ava apt ael alb cva cpt n2 1 oc x4 lc f6 f7 (Or.inr rfl) (by (first | (apply Int.le_antisymm <;> omega) | omega)) (by (first | (apply Int.le_antisymm <;> omega) | omega)) cl r1 (by (first | (apply Int.le_antisymm <;> omega) | omega))) (cwV 2 hts (gV kM_RE_219 kV_RE_readOther kS_RE_readOther kI_RE kC_RE_readOther) rfl rfl rfl (by decide +kernel) ⟨Nat.le_of_ble_eq_true rfl, Nat.le_of_ble_eq_true rfl⟩) ⟨fun a U g mk z => by obtain ⟨z0, z1, zP, zK, zD⟩ := z; exact ⟨z0, z1, zP, va_K.moved (u := U) (U := U.calling g mk a) (Vm.Alike.refl U.vm) zK, zD⟩, va_recv hKc hPc (ci := 7) (q0 := 0) rfl rfl, fun U hU hW => ⟨rfl, by rw [hU], va_P.he hU.symm hPc, va_K.moved hW.alike hKc, hDc.weaken (fun _ _ _ _ => trivial)⟩⟩ rfl rfl hl.1 rfl (lv_room (Nat.le_of_ble_eq_true rfl)) d_RE_readInstruction_468 ⟨(Nat.zero_le _), (Nat.zero_le _)⟩) hS (fun q _ h => hFc q h) hFc (fun u t H1 locs ht hvm hw hB hz1 hk1 hS => ?_)
                      obtain ⟨n61, n62, n63, n64, n65, n66, n67⟩ := u
                      try dsimp only at hw
                      have hwn61 := hw
                      clear hw
                      obtain ⟨hsn62, i1, i2, rfl, rfl, rfl, iT⟩ := hwn61
                      have bsn62 := b01 hsn62
                      obtain ⟨hP1, hK1, hD1⟩ := hB
                      replace hP1 := va_P.he ht hP1
                      obtain ⟨hP, hD⟩ := va_join (wr := [(aop, .inl (cop, 5000, .inl f5)), (ael, .inl (cel, 5000, .inl f8)), (alb, .inl (clb, 2000, .inl glb)), (ao, .inl (co, 100, .inl go))]) (w1 := (wz_7 h0 aw ac n61 lim n62 cc ao oc aw wf ab ax len ax cB n f ac afi alk alt x4 aop ava apt ael lc alb ava cva n66 apt cpt n67)) hP hD [7, 8, 9, 10, 0, 2, 3] [1, 4, 5, 6] rfl rfl (by decide) (by decide) hk1 hFc hP1 hD1
                      clear hPc hDc hKc hFc hz1 hk1 hP1 hK1 hD1
                      rename Heap => H
                      have hP : va_P (dC, dI) cls [(aop, .inl (cop, 5000, .inl f5)), (ael, .inl (cel, 5000, .inl f8)), (alb, .inl (clb, 2000, .inl glb)), (ao, .inl (co, 100, .inl go)), (h0, .inr (7, [.ref aw, .ref ac, .int n61, .int lim, .int n62, .int cc, .ref ao, .int oc])), (aw, .inr (10, wf)), (ab, .inr (1, [.ref ax, .int len])), (ax, .inl (cB, n, .inl f)), (ac, .inr (3, [.ref afi, .ref alk, .ref alt, .int x4, .ref aop, .ref ava, .ref apt, .ref ael, .int lc, .ref alb])), (ava, .inl (cva, 5000, .inr (.inl n66))), (apt, .inl (cpt, 5000, .inl n67))] H := hP
                      have hD : va_D A [(aop, .inl (cop, 5000, .inl f5)), (ael, .inl (cel, 5000, .inl f8)), (alb, .inl (clb, 2000, .inl glb)), (ao, .inl (co, 100, .inl go)), (h0, .inr (7, [.ref aw, .ref ac, .int n61, .int lim, .int n62, .int cc, .ref ao, .int oc])), (aw, .inr (10, wf)), (ab, .inr (1, [.ref ax, .int len])), (ax, .inl (cB, n, .inl f)), (ac, .inr (3, [.ref afi, .ref alk, .ref alt, .int x4, .ref aop, .ref ava, .ref apt, .ref ael, .int lc, .ref alb])), (ava, .inl (cva, 5000, .inr (.inl n66))), (apt, .inl (cpt, 5000, .inl n67))] := hD
                      refine lv_iconst (v := 1) hx hb d_RE_readInstruction_471 (by decide) ?_
                      have hP9 := hP.sb (wq := (wz_10 h0 aw ac n61 lim n62 cc ao oc aw wf ab ax len ax cB n f ac afi alk alt x4 aop ava apt ael lc alb aop cop f5 ava cva n66 apt cpt n67 ael cel f8 alb clb glb ao co go)) [4, 5, 6, 7, 8, 0, 9, 10, 1, 2, 3] rfl
                      have hD9 := hD.sb (wq := (wz_10 h0 aw ac n61 lim n62 cc ao oc aw wf ab ax len ax cB n f ac afi alk alt x4 aop ava apt ael lc alb aop cop f5 ava cva n66 apt cpt n67 ael cel f8 alb clb glb ao co go)) [4, 5, 6, 7, 8, 0, 9, 10, 1, 2, 3] (by decide) rfl
                      exact W.zret (v := 1) hx hb hr (zn01 (by first | exact Or.inl rfl | exact Or.inr rfl | exact hr1)) (fun t ht hW => ⟨⟨1, (n61, n62, oc, x4, lc, f5, n66, n67, f8, glb, go), rfl, ⟨Or.inr rfl, hsn62, by (try dsimp only); clear iT; (first | (apply Int.le_antisymm <;> omega) | omega), by (try dsimp only); clear iT; (first | (apply Int.le_antisymm <;> omega) | omega), by (try dsimp only); clear iT; (first | (apply Int.le_antisymm <;> omega) | omega), by (try dsimp only); clear iT; (first | (apply Int.le_antisymm <;> omega) | omega), by (try dsimp only); clear iT; (first | (apply Int.le_antisymm <;> omega) | omega), by (try dsimp only); clear iT; (first | (apply Int.le_antisymm <;> omega) | omega), by (try dsimp only); clear iT; (first | (apply Int.le_antisymm <;> omega) | omega), by (try dsimp only); clear iT; (first | (apply Int.le_antisymm <;> omega) | omega), hlb, hel, fun z => by have y : n62.toInt = 1 := z; have y1 := (iT y).1; exact ⟨by clear iT; (first | (apply Int.le_antisymm <;> omega) | omega), by (try dsimp only); clear iT; (first | (apply Int.le_antisymm <;> omega) | omega), by (try dsimp only); clear iT; (first | (apply Int.le_antisymm <;> omega) | omega), ⟨r1, by clear iT; (first | (apply Int.le_antisymm <;> omega) | omega), ef5.symm, (Classical.em (r1.toInt = 44 ∨ r1.toInt = 45 ∨ r1.toInt = 58 ∨ r1.toInt = 40 ∨ r1.toInt = 54 ∨ r1.toInt = 41 ∨ r1.toInt = 55)).elim (fun hac => Or.inr (Or.inr (Or.inr (Or.inr (Or.inr (Or.inr (Or.inr (⟨hac, k1, rfl, rfl, rfl, rfl, ef8.symm, by obtain ⟨b9, x9, q1, q2, q3, q4, q5⟩ := ((iT y).2.1 hac).2; exact ⟨b9, x9, q1, q2, q3, by rw [q4, ef7], by rw [q5, ef6]⟩⟩)))))))) (fun hac => Or.inr (Or.inr (Or.inr (Or.inr (Or.inr (Or.inl ⟨by have := (iT y).1; (first | (apply Int.le_antisymm <;> omega) | omega), k1, rfl, rfl, rfl, rfl, by rw [← ((iT y).2.2 hac).1, ef7], ef8.symm, by rw [((iT y).2.2 hac).2, ef6]⟩))))))⟩⟩⟩, va_P.he ht.symm hP9, va_K.moved hW.alike hK, hD9⟩, hS.F ht⟩) hS.2.2 d_RE_readInstruction_472
end q_08

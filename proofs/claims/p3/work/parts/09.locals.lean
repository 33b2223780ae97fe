/-! Reader: locals -/
theorem upd_ty {g : Nat → Int32} {a b c : Int} {k : Nat} {v : Int32} (h : ∀ j : Nat, a ≤ (j : Int) → (j : Int) < b → (g j).toInt = 127 ∨ (g j).toInt = 126) (hv : v.toInt = 127 ∨ v.toInt = 126) (hk : (k : Int) = b) (hc : c ≤ b + 1) : ∀ j : Nat, a ≤ (j : Int) → (j : Int) < c → (upd g k v j).toInt = 127 ∨ (upd g k v j).toInt = 126 := by
  intro j h1 h2
  by_cases e : j = k
  · rw [e, pk_us]
    exact hv
  · rw [pk_un e]
    exact h j h1 (by omega)
theorem upd_off {g g0 : Nat → Int32} {a b : Int} {k : Nat} {v : Int32} (h : ∀ j : Nat, ((j : Int) < a ∨ b ≤ (j : Int)) → g j = g0 j) (hk : a ≤ (k : Int) ∧ (k : Int) < b) : ∀ j : Nat, ((j : Int) < a ∨ b ≤ (j : Int)) → upd g k v j = g0 j := by
  intro j h1
  have e : j ≠ k := by omega
  rw [pk_un e]
  exact h j h1
abbrev b_RE_readLocals : ByteArray := prog_9_method_9_code
def y_RE_readLocals : MethodName := ⟨R_RE, "readLocals", "(I)V"⟩
abbrev w_RE_readLocals : List Cond := .code y_RE_readLocals b_RE_readLocals 8 none :: lw_g
theorem kC_RE_readLocals : Cond.code y_RE_readLocals b_RE_readLocals 8 none ∈ lw_g := in_g 1335 (by decide +kernel) rfl
theorem d_RE_readLocals_0 : decode b_RE_readLocals 0 = .ok (.iconst 0, 1) := by decide +kernel
theorem d_RE_readLocals_1 : decode b_RE_readLocals 1 = .ok (.istore_n 2, 1) := by decide +kernel
theorem d_RE_readLocals_2 : decode b_RE_readLocals 2 = .ok (.aload_n 0, 1) := by decide +kernel
theorem d_RE_readLocals_3 : decode b_RE_readLocals 3 = .ok (.ldc2_w 186, 3) := by decide +kernel
theorem d_RE_readLocals_6 : decode b_RE_readLocals 6 = .ok (.invokevirtual 64, 3) := by decide +kernel
theorem d_RE_readLocals_9 : decode b_RE_readLocals 9 = .ok (.l2i, 1) := by decide +kernel
theorem d_RE_readLocals_10 : decode b_RE_readLocals 10 = .ok (.istore_n 3, 1) := by decide +kernel
theorem d_RE_readLocals_11 : decode b_RE_readLocals 11 = .ok (.iconst 0, 1) := by decide +kernel
theorem d_RE_readLocals_12 : decode b_RE_readLocals 12 = .ok (.istore 4, 2) := by decide +kernel
theorem d_RE_readLocals_14 : decode b_RE_readLocals 14 = .ok (.iload 4, 2) := by decide +kernel
theorem d_RE_readLocals_16 : decode b_RE_readLocals 16 = .ok (.iload_n 3, 1) := by decide +kernel
theorem d_RE_readLocals_17 : decode b_RE_readLocals 17 = .ok (.if_icmp .ge 74, 3) := by decide +kernel
theorem d_RE_readLocals_20 : decode b_RE_readLocals 20 = .ok (.aload_n 0, 1) := by decide +kernel
theorem d_RE_readLocals_21 : decode b_RE_readLocals 21 = .ok (.getfield 45, 3) := by decide +kernel
theorem d_RE_readLocals_24 : decode b_RE_readLocals 24 = .ok (.ifCond .eq 67, 3) := by decide +kernel
theorem d_RE_readLocals_27 : decode b_RE_readLocals 27 = .ok (.aload_n 0, 1) := by decide +kernel
theorem d_RE_readLocals_28 : decode b_RE_readLocals 28 = .ok (.bipush 60, 2) := by decide +kernel
theorem d_RE_readLocals_30 : decode b_RE_readLocals 30 = .ok (.iload_n 2, 1) := by decide +kernel
theorem d_RE_readLocals_31 : decode b_RE_readLocals 31 = .ok (.isub, 1) := by decide +kernel
theorem d_RE_readLocals_32 : decode b_RE_readLocals 32 = .ok (.i2l, 1) := by decide +kernel
theorem d_RE_readLocals_33 : decode b_RE_readLocals 33 = .ok (.invokevirtual 64, 3) := by decide +kernel
theorem d_RE_readLocals_36 : decode b_RE_readLocals 36 = .ok (.l2i, 1) := by decide +kernel
theorem d_RE_readLocals_37 : decode b_RE_readLocals 37 = .ok (.istore 5, 2) := by decide +kernel
theorem d_RE_readLocals_39 : decode b_RE_readLocals 39 = .ok (.aload_n 0, 1) := by decide +kernel
theorem d_RE_readLocals_40 : decode b_RE_readLocals 40 = .ok (.invokevirtual 109, 3) := by decide +kernel
theorem d_RE_readLocals_43 : decode b_RE_readLocals 43 = .ok (.istore 6, 2) := by decide +kernel
theorem d_RE_readLocals_45 : decode b_RE_readLocals 45 = .ok (.iconst 0, 1) := by decide +kernel
theorem d_RE_readLocals_46 : decode b_RE_readLocals 46 = .ok (.istore 7, 2) := by decide +kernel
theorem d_RE_readLocals_48 : decode b_RE_readLocals 48 = .ok (.iload 7, 2) := by decide +kernel
theorem d_RE_readLocals_50 : decode b_RE_readLocals 50 = .ok (.iload 5, 2) := by decide +kernel
theorem d_RE_readLocals_52 : decode b_RE_readLocals 52 = .ok (.if_icmp .ge 28, 3) := by decide +kernel
theorem d_RE_readLocals_55 : decode b_RE_readLocals 55 = .ok (.aload_n 0, 1) := by decide +kernel
theorem d_RE_readLocals_56 : decode b_RE_readLocals 56 = .ok (.getfield 25, 3) := by decide +kernel
theorem d_RE_readLocals_59 : decode b_RE_readLocals 59 = .ok (.getfield 188, 3) := by decide +kernel
theorem d_RE_readLocals_62 : decode b_RE_readLocals 62 = .ok (.iload_n 1, 1) := by decide +kernel
theorem d_RE_readLocals_63 : decode b_RE_readLocals 63 = .ok (.bipush 60, 2) := by decide +kernel
theorem d_RE_readLocals_65 : decode b_RE_readLocals 65 = .ok (.imul, 1) := by decide +kernel
theorem d_RE_readLocals_66 : decode b_RE_readLocals 66 = .ok (.iload_n 2, 1) := by decide +kernel
theorem d_RE_readLocals_67 : decode b_RE_readLocals 67 = .ok (.iadd, 1) := by decide +kernel
theorem d_RE_readLocals_68 : decode b_RE_readLocals 68 = .ok (.iload 7, 2) := by decide +kernel
theorem d_RE_readLocals_70 : decode b_RE_readLocals 70 = .ok (.iadd, 1) := by decide +kernel
theorem d_RE_readLocals_71 : decode b_RE_readLocals 71 = .ok (.iload 6, 2) := by decide +kernel
theorem d_RE_readLocals_73 : decode b_RE_readLocals 73 = .ok (.iastore, 1) := by decide +kernel
theorem d_RE_readLocals_74 : decode b_RE_readLocals 74 = .ok (.iinc 7 1, 3) := by decide +kernel
theorem d_RE_readLocals_77 : decode b_RE_readLocals 77 = .ok (.goto (-29), 3) := by decide +kernel
theorem d_RE_readLocals_80 : decode b_RE_readLocals 80 = .ok (.iload_n 2, 1) := by decide +kernel
theorem d_RE_readLocals_81 : decode b_RE_readLocals 81 = .ok (.iload 5, 2) := by decide +kernel
theorem d_RE_readLocals_83 : decode b_RE_readLocals 83 = .ok (.iadd, 1) := by decide +kernel
theorem d_RE_readLocals_84 : decode b_RE_readLocals 84 = .ok (.istore_n 2, 1) := by decide +kernel
theorem d_RE_readLocals_85 : decode b_RE_readLocals 85 = .ok (.iinc 4 1, 3) := by decide +kernel
theorem d_RE_readLocals_88 : decode b_RE_readLocals 88 = .ok (.goto (-74), 3) := by decide +kernel
theorem d_RE_readLocals_91 : decode b_RE_readLocals 91 = .ok (.aload_n 0, 1) := by decide +kernel
theorem d_RE_readLocals_92 : decode b_RE_readLocals 92 = .ok (.getfield 25, 3) := by decide +kernel
theorem d_RE_readLocals_95 : decode b_RE_readLocals 95 = .ok (.getfield 191, 3) := by decide +kernel
theorem d_RE_readLocals_98 : decode b_RE_readLocals 98 = .ok (.iload_n 1, 1) := by decide +kernel
theorem d_RE_readLocals_99 : decode b_RE_readLocals 99 = .ok (.iload_n 2, 1) := by decide +kernel
theorem d_RE_readLocals_100 : decode b_RE_readLocals 100 = .ok (.iastore, 1) := by decide +kernel
theorem d_RE_readLocals_101 : decode b_RE_readLocals 101 = .ok (.return_, 1) := by decide +kernel
theorem kL_RE_186 : Cond.constantLong R_RE 186 (60) ∈ lw_g := in_g 1336 (by decide +kernel) rfl
theorem kF_RE_191 : Cond.fieldLink R_RE 191 "WaferForge$Codes" "localCounts" "[I" ∈ lw_g := in_g 89 (by decide +kernel) rfl
theorem kM_RE_109 : Cond.methodLink R_RE 109 y_RE_readType ∈ lw_g := in_g 1299 (by decide +kernel) rfl
theorem kV_RE_readType : Cond.instanceMethod y_RE_readType ∈ lw_g := in_g 1301 (by decide +kernel) rfl
theorem kS_RE_readType : Cond.selects R_RE y_RE_readType y_RE_readType ∈ lw_g := in_s 66 (by decide +kernel) rfl
theorem kF_RE_188 : Cond.fieldLink R_RE 188 "WaferForge$Codes" "localTypes" "[I" ∈ lw_g := in_g 93 (by decide +kernel) rfl
abbrev at_RE_readLocals (dC : Nat → ClassId) (dI : Nat → Nat → Nat) (h0 aw ac ao ab ax : Nat) (lim cc : Int32) (cB : ClassId) (n : Nat) (len : Int32) (f : Nat → Int32) (wf : List Value) (afi alk alt aop ava apt ael alb : Nat) (clt : ClassId) (clk : ClassId) (A : Nat → Prop) (u : Int32 × Int32 × Int32 × Int32 × Int32 × (Nat → Int32) × (Nat → Int32)) (t : State) : Prop := match u with
  | (pa, snd, oc, cl, lc, glt, glk) => va_P (dC, dI) cls [(h0, .inr (7, [.ref aw, .ref ac, .int pa, .int lim, .int snd, .int cc, .ref ao, .int oc])), (aw, .inr (10, wf)), (ab, .inr (1, [.ref ax, .int len])), (ax, .inl (cB, n, .inl f)), (ac, .inr (3, [.ref afi, .ref alk, .ref alt, .int cl, .ref aop, .ref ava, .ref apt, .ref ael, .int lc, .ref alb])), (alt, .inl (clt, 1800, .inl glt)), (alk, .inl (clk, 30, .inl glk))] t.heap ∧ va_K (dC, dI) cls [(cB, .byte), (clt, .int), (clk, .int)] t ∧ va_D A [(h0, .inr (7, [.ref aw, .ref ac, .int pa, .int lim, .int snd, .int cc, .ref ao, .int oc])), (aw, .inr (10, wf)), (ab, .inr (1, [.ref ax, .int len])), (ax, .inl (cB, n, .inl f)), (ac, .inr (3, [.ref afi, .ref alk, .ref alt, .int cl, .ref aop, .ref ava, .ref apt, .ref ael, .int lc, .ref alb])), (alt, .inl (clt, 1800, .inl glt)), (alk, .inl (clk, 30, .inl glk))]
set_option maxHeartbeats 4000000 in
set_option maxRecDepth 100000 in
theorem c_RE_readLocals (l : Launch) (dC : Nat → ClassId) (dI : Nat → Nat → Nat) (sz : Nat) (h0 aw ac ao ab ax : Nat) (lim cc : Int32) (cB : ClassId) (n : Nat) (len : Int32) (f : Nat → Int32) (wf : List Value) (pwf : wf[0]? = some (.ref ab)) (pwl : wf.length = 21) (afi alk alt aop ava apt ael alb : Nat) (clt : ClassId) (clk : ClassId) (pa : Int32) (snd : Int32) (oc : Int32) (cl : Int32) (lc : Int32) (glt : Nat → Int32) (glk : Nat → Int32) (hs : snd = 0 ∨ snd = 1) (ho : 0 ≤ oc.toInt ∧ oc.toInt ≤ 100) (ha : 0 ≤ pa.toInt ∧ pa.toInt ≤ lim.toInt ∧ lim.toInt ≤ len.toInt ∧ len.toInt ≤ n ∧ n < 2147483648) (p0 : Int32) (hp : 0 ≤ p0.toInt ∧ p0.toInt < 30) : Met l y_RE_readLocals w_RE_readLocals ({ frames := 2, cells := 0, slots := 0, locals := 46 }) (va_Pc [.ref h0, .int p0] (fun U => U.heap.size = sz ∧ va_P (dC, dI) cls [(h0, .inr (7, [.ref aw, .ref ac, .int pa, .int lim, .int snd, .int cc, .ref ao, .int oc])), (aw, .inr (10, wf)), (ab, .inr (1, [.ref ax, .int len])), (ax, .inl (cB, n, .inl f)), (ac, .inr (3, [.ref afi, .ref alk, .ref alt, .int cl, .ref aop, .ref ava, .ref apt, .ref ael, .int lc, .ref alb])), (alt, .inl (clt, 1800, .inl glt)), (alk, .inl (clk, 30, .inl glk))] U.heap ∧ va_K (dC, dI) cls [(cB, .byte), (clt, .int), (clk, .int)] U ∧ va_D (fun _ => True) [(h0, .inr (7, [.ref aw, .ref ac, .int pa, .int lim, .int snd, .int cc, .ref ao, .int oc])), (aw, .inr (10, wf)), (ab, .inr (1, [.ref ax, .int len])), (ax, .inl (cB, n, .inl f)), (ac, .inr (3, [.ref afi, .ref alk, .ref alt, .int cl, .ref aop, .ref ava, .ref apt, .ref ael, .int lc, .ref alb])), (alt, .inl (clt, 1800, .inl glt)), (alk, .inl (clk, 30, .inl glk))])) (va_Qv (fun (u : Int32 × Int32 × Int32 × Int32 × Int32 × (Nat → Int32) × (Nat → Int32)) => match u with | (pa2, snd2, oc2, cl2, lc2, glt2, glk2) => (snd2 = 0 ∨ snd2 = 1) ∧ pa.toInt ≤ pa2.toInt ∧ pa2.toInt ≤ lim.toInt ∧ oc = oc2 ∧ cl = cl2 ∧ lc = lc2 ∧ (∀ j : Nat, ((j : Int) < 60 * p0.toInt ∨ 60 * p0.toInt + 60 ≤ (j : Int)) → glt2 j = glt j) ∧ (snd2.toInt = 1 → snd.toInt = 1 ∧ pa.toInt < pa2.toInt) ∧ ∃ t : Int32, 0 ≤ t.toInt ∧ t.toInt ≤ 60 ∧ glk2 = upd glk p0.toNatClampNeg t ∧ (snd2.toInt = 1 → ∀ j : Nat, 60 * p0.toInt ≤ (j : Int) → (j : Int) < 60 * p0.toInt + t.toInt → (glt2 j).toInt = 127 ∨ (glt2 j).toInt = 126)) (at_RE_readLocals dC dI h0 aw ac ao ab ax lim cc cB n len f wf afi alk alt aop ava apt ael alb clt clk (va_A [(h0, .inr (7, [.ref aw, .ref ac, .int pa, .int lim, .int snd, .int cc, .ref ao, .int oc])), (aw, .inr (10, wf)), (ab, .inr (1, [.ref ax, .int len])), (ax, .inl (cB, n, .inl f)), (ac, .inr (3, [.ref afi, .ref alk, .ref alt, .int cl, .ref aop, .ref ava, .ref apt, .ref ael, .int lc, .ref alb])), (alt, .inl (clt, 1800, .inl glt)), (alk, .inl (clk, 30, .inl glk))] sz)) (va_A [(h0, .inr (7, [.ref aw, .ref ac, .int pa, .int lim, .int snd, .int cc, .ref ao, .int oc])), (aw, .inr (10, wf)), (ab, .inr (1, [.ref ax, .int len])), (ax, .inl (cB, n, .inl f)), (ac, .inr (3, [.ref afi, .ref alk, .ref alt, .int cl, .ref aop, .ref ava, .ref apt, .ref ael, .int lc, .ref alb])), (alt, .inl (clt, 1800, .inl glt)), (alk, .inl (clk, 30, .inl glk))] sz)) 0 0 (va_A [(h0, .inr (7, [.ref aw, .ref ac, .int pa, .int lim, .int snd, .int cc, .ref ao, .int oc])), (aw, .inr (10, wf)), (ab, .inr (1, [.ref ax, .int len])), (ax, .inl (cB, n, .inl f)), (ac, .inr (3, [.ref afi, .ref alk, .ref alt, .int cl, .ref aop, .ref ava, .ref apt, .ref ael, .int lc, .ref alb])), (alt, .inl (clt, 1800, .inl glt)), (alk, .inl (clk, 30, .inl glk))] sz) := by
  refine Met.ofW (cc := b_RE_readLocals) (maxL := 8) (ret := none) (by decide) rfl ?_
  intro p e s m args below meth c s₁ B hml hv
  obtain ⟨rfl, hsz, hP, hK, hD0⟩ := hv
  have hx := B.exec
  have hb := B.bytes
  have hr := B.returns
  have hts0 := atoms_spec (ws := w_RE_readLocals) B.pre
  have hts : ∀ w ∈ lw_g, w.before _ s = true := fun w h => hts0 w (List.mem_cons_of_mem _ h)
  have hown : s.vm.findClass R_RE = some m.cls := findClass_of_methodNamed B.named
  have hlocks := B.notSynchronized
  clear hts0
  subst hsz
  have hD := hD0.self (sz := s.heap.size)
  generalize hAe : va_A [(h0, .inr (7, [.ref aw, .ref ac, .int pa, .int lim, .int snd, .int cc, .ref ao, .int oc])), (aw, .inr (10, wf)), (ab, .inr (1, [.ref ax, .int len])), (ax, .inl (cB, n, .inl f)), (ac, .inr (3, [.ref afi, .ref alk, .ref alt, .int cl, .ref aop, .ref ava, .ref apt, .ref ael, .int lc, .ref alb])), (alt, .inl (clt, 1800, .inl glt)), (alk, .inl (clk, 30, .inl glk))] s.heap.size = A at hD ⊢
  have hA : ∀ q : Nat, s.heap.size ≤ q → A q := fun q h => by rw [← hAe]; exact Or.inr h
  clear hAe
  have hP : va_P (dC, dI) cls [(h0, .inr (7, [.ref aw, .ref ac, .int pa, .int lim, .int snd, .int cc, .ref ao, .int oc])), (aw, .inr (10, wf)), (ab, .inr (1, [.ref ax, .int len])), (ax, .inl (cB, n, .inl f)), (ac, .inr (3, [.ref afi, .ref alk, .ref alt, .int cl, .ref aop, .ref ava, .ref apt, .ref ael, .int lc, .ref alb])), (alt, .inl (clt, 1800, .inl glt)), (alk, .inl (clk, 30, .inl glk))] s.heap := hP
  have hl := lv_entry ([.ref h0, .int p0]) (n := 8) (Nat.le_of_ble_eq_true rfl)
  rw [lg_entry_eq]
  generalize (lg_sl ([.ref h0, .int p0]) ++ List.replicate (8 - (lg_sl ([.ref h0, .int p0])).length) Slot.unset).toArray = ls at hl ⊢
  have hl : lv_has ls 8 [(0, .ref h0), (1, .int p0)] := hl
  have k0 : (0 : Int32).toInt = 0 := by decide
  refine w_gen (A := A) hP (fun H locs hP hS => ?_)
  have k1 : (1 : Int32).toInt = 1 := by decide
  have k60 : (60 : Int32).toInt = 60 := by decide
  have lo_p0 := i32_lo p0
  have hi_p0 := i32_hi p0
  have hs0 := b01 hs
  refine lv_iconst (v := 0) hx hb d_RE_readLocals_0 (by decide) ?_
  refine lv_topi (fun x1 ex1 => ?_)
  have tx1 : x1.toInt = 0 := by rw [ex1]; decide
  refine lv_istore_n (lv' := [(2, .int x1), (0, .ref h0), (1, .int p0)]) hx hb d_RE_readLocals_1 rfl hl (by decide) rfl (fun ls hl => ?_)
  refine lv_aload_n hx hb d_RE_readLocals_2 rfl (lv_at hl 1 rfl) ?_
  refine lv_ldc2 hx hb hown (hts _ kL_RE_186) d_RE_readLocals_3 ?_
  refine lv_topl (fun x2 ex2 => ?_)
  have tx2 : x2.toInt = 60 := by rw [ex2]; decide
  have hPc := hP.sub (ws' := [(h0, .inr (7, [.ref aw, .ref ac, .int pa, .int lim, .int snd, .int cc, .ref ao, .int oc])), (aw, .inr (10, wf)), (ab, .inr (1, [.ref ax, .int len])), (ax, .inl (cB, n, .inl f))]) [0, 1, 2, 3] rfl
  have hDc := hD.sub (ws' := [(h0, .inr (7, [.ref aw, .ref ac, .int pa, .int lim, .int snd, .int cc, .ref ao, .int oc])), (aw, .inr (10, wf)), (ab, .inr (1, [.ref ax, .int len])), (ax, .inl (cB, n, .inl f))]) [0, 1, 2, 3] (by decide) rfl
  have hKc := hK.sub (tys' := [(cB, .byte)]) [0] rfl
  have hFc := va_free (wc := [(h0, .inr (7, [.ref aw, .ref ac, .int pa, .int lim, .int snd, .int cc, .ref ao, .int oc])), (aw, .inr (10, wf)), (ab, .inr (1, [.ref ax, .int len])), (ax, .inl (cB, n, .inl f))]) hD hS hA [0, 1, 2, 3] rfl
  refine va_calll (va_runV (As := [.long x2]) (rest := []) ⟨hx, hb, hml, hown, hts⟩ (c_RE_readUnsigned l dC dI h0 aw ac ao ab ax H.size cB n pa lim snd cc oc len f wf pwf pwl hs (by omega) x2 (by omega)) (cwV 1 hts (gV kM_RE_64 kV_RE_readUnsigned kS_RE_readUnsigned kI_RE kC_RE_readUnsigned) rfl rfl rfl (by decide +kernel) ⟨Nat.le_of_ble_eq_true rfl, Nat.le_of_ble_eq_true rfl⟩) ⟨fun a U g mk z => by obtain ⟨z0, z1, zP, zK, zD⟩ := z; exact ⟨z0, z1, zP, va_K.moved (u := U) (U := U.calling g mk a) (Vm.Alike.refl U.vm) zK, zD⟩, va_recv hKc hPc (ci := 7) (q0 := 0) rfl rfl, fun U hU hW => ⟨rfl, by rw [hU], by rw [hU]; exact hPc, va_K.moved hW.alike hKc, hDc.weaken (fun _ _ _ _ => trivial)⟩⟩ rfl rfl hl.1 rfl (lv_room (Nat.le_of_ble_eq_true rfl)) d_RE_readLocals_6 ⟨(Nat.zero_le _), (Nat.zero_le _)⟩) hS (fun q _ h => hFc q h) hFc (fun r3 u t H1 locs ht hvm hw hB hz1 hk1 hS => ?_)
  obtain ⟨n4, n5⟩ := u
  try dsimp only at hw
  obtain ⟨hsn5, tn4⟩ := hw
  have bsn5 := b01 hsn5
  obtain ⟨hP1, hK1, hD1⟩ := hB
  rw [ht] at hP1
  obtain ⟨hP, hD⟩ := va_join (wr := [(ac, .inr (3, [.ref afi, .ref alk, .ref alt, .int cl, .ref aop, .ref ava, .ref apt, .ref ael, .int lc, .ref alb])), (alt, .inl (clt, 1800, .inl glt)), (alk, .inl (clk, 30, .inl glk))]) (w1 := [(h0, .inr (7, [.ref aw, .ref ac, .int n4, .int lim, .int n5, .int cc, .ref ao, .int oc])), (aw, .inr (10, wf)), (ab, .inr (1, [.ref ax, .int len])), (ax, .inl (cB, n, .inl f))]) hP hD [0, 1, 2, 3] [4, 5, 6] rfl rfl (by decide) (by decide) hk1 hFc hP1 hD1
  clear hPc hDc hKc hFc hz1 hk1 hP1 hK1 hD1
  generalize H1 = H at hP hS ⊢
  have hP : va_P (dC, dI) cls [(ac, .inr (3, [.ref afi, .ref alk, .ref alt, .int cl, .ref aop, .ref ava, .ref apt, .ref ael, .int lc, .ref alb])), (alt, .inl (clt, 1800, .inl glt)), (alk, .inl (clk, 30, .inl glk)), (h0, .inr (7, [.ref aw, .ref ac, .int n4, .int lim, .int n5, .int cc, .ref ao, .int oc])), (aw, .inr (10, wf)), (ab, .inr (1, [.ref ax, .int len])), (ax, .inl (cB, n, .inl f))] H := hP
  have hD : va_D A [(ac, .inr (3, [.ref afi, .ref alk, .ref alt, .int cl, .ref aop, .ref ava, .ref apt, .ref ael, .int lc, .ref alb])), (alt, .inl (clt, 1800, .inl glt)), (alk, .inl (clk, 30, .inl glk)), (h0, .inr (7, [.ref aw, .ref ac, .int n4, .int lim, .int n5, .int cc, .ref ao, .int oc])), (aw, .inr (10, wf)), (ab, .inr (1, [.ref ax, .int len])), (ax, .inl (cB, n, .inl f))] := hD
  refine lv_l2i hx hb d_RE_readLocals_9 rfl ?_
  refine lv_topi (fun x6 ex6 => ?_)
  have tx6 := l2i_t ex6 (by omega) (by omega)
  refine lv_istore_n (lv' := [(3, .int x6), (2, .int x1), (0, .ref h0), (1, .int p0)]) hx hb d_RE_readLocals_10 rfl hl (by decide) rfl (fun ls hl => ?_)
  refine lv_iconst (v := 0) hx hb d_RE_readLocals_11 (by decide) ?_
  refine lv_topi (fun x7 ex7 => ?_)
  have tx7 : x7.toInt = 0 := by rw [ex7]; decide
  refine lv_istore (lv' := [(4, .int x7), (3, .int x6), (2, .int x1), (0, .ref h0), (1, .int p0)]) hx hb d_RE_readLocals_12 hl (by decide) rfl (fun ls hl => ?_)
  refine w_loop (σ := Int32 × Int32 × Int32 × Int32 × (Nat → Int32)) (fun u H locs ls => match u with | (tt, ri, a, sd, g) => (0 ≤ ri.toInt ∧ ri.toInt ≤ x6.toInt) ∧ (0 ≤ tt.toInt ∧ tt.toInt ≤ 60) ∧ (pa.toInt ≤ a.toInt ∧ a.toInt ≤ lim.toInt) ∧ (sd = 0 ∨ sd = 1) ∧ (sd.toInt = 1 → snd.toInt = 1 ∧ pa.toInt < a.toInt) ∧ (sd.toInt = 1 → ∀ j : Nat, 60 * p0.toInt ≤ (j : Int) → (j : Int) < 60 * p0.toInt + tt.toInt → (g j).toInt = 127 ∨ (g j).toInt = 126) ∧ (∀ j : Nat, ((j : Int) < 60 * p0.toInt ∨ 60 * p0.toInt + 60 ≤ (j : Int)) → g j = glt j) ∧ va_P (dC, dI) cls [(ac, .inr (3, [.ref afi, .ref alk, .ref alt, .int cl, .ref aop, .ref ava, .ref apt, .ref ael, .int lc, .ref alb])), (alt, .inl (clt, 1800, .inl g)), (alk, .inl (clk, 30, .inl glk)), (h0, .inr (7, [.ref aw, .ref ac, .int a, .int lim, .int sd, .int cc, .ref ao, .int oc])), (aw, .inr (10, wf)), (ab, .inr (1, [.ref ax, .int len])), (ax, .inl (cB, n, .inl f))] H ∧ va_D A [(ac, .inr (3, [.ref afi, .ref alk, .ref alt, .int cl, .ref aop, .ref ava, .ref apt, .ref ael, .int lc, .ref alb])), (alt, .inl (clt, 1800, .inl g)), (alk, .inl (clk, 30, .inl glk)), (h0, .inr (7, [.ref aw, .ref ac, .int a, .int lim, .int sd, .int cc, .ref ao, .int oc])), (aw, .inr (10, wf)), (ab, .inr (1, [.ref ax, .int len])), (ax, .inl (cB, n, .inl f))] ∧ va_S A s.heap H locs ∧ lv_has ls 8 [(4, .int ri), (3, .int x6), (2, .int tt), (0, .ref h0), (1, .int p0)]) (fun u => match u with | (tt, ri, a, sd, g) => (x6.toInt - ri.toInt).toNat) ?_ (x1, x7, n4, n5, glt) ⟨by omega, by omega, by omega, hsn5, by omega, fun z j h1 h2 => absurd h2 (by omega), fun j _ => rfl, hP, hD, hS, lv_sub hl [0, 1, 2, 3, 4] rfl⟩
  intro N14 ih14 u H locs ls hN14 hI
  obtain ⟨tt, ri, a, sd, g⟩ := u
  obtain ⟨v1, v2, v3, v4, v5, v6, v7, hP, hD, hS, hl⟩ := hI
  have hN14 : (x6.toInt - ri.toInt).toNat < N14 + 1 := hN14
  have bv4 := b01 v4
  refine lv_iload hx hb d_RE_readLocals_14 (lv_at hl 0 rfl) ?_
  refine lv_iload_n hx hb d_RE_readLocals_16 rfl (lv_at hl 1 rfl) ?_
  refine lv_icmp_ge (tgt := 91) hx hb d_RE_readLocals_17 (by decide) (fun c17 => ?_) (fun c17 => ?_)
  · have q17 := leI c17
    refine lv_aload_n hx hb d_RE_readLocals_91 rfl (lv_at hl 3 rfl) ?_
    refine va_get (D := (dC, dI)) (ci := 7) (v := .ref ac) (C := R_RE) (T := F_RE) (N := 8) hx hb hts i_RE hown hK hP 3 rfl rfl 1 (by decide) (hts _ kF_RE_25) (fun _ h9 => h9) rfl d_RE_readLocals_92 ?_
    refine va_get (D := (dC, dI)) (ci := 3) (v := .ref alk) (C := R_CD) (T := F_CD) (N := 10) hx hb hts i_CD hown hK hP 0 rfl rfl 1 (by decide) (hts _ kF_RE_191) (fun _ h9 => h9) rfl d_RE_readLocals_95 ?_
    refine lv_iload_n hx hb d_RE_readLocals_98 rfl (lv_at hl 4 rfl) ?_
    refine lv_iload_n hx hb d_RE_readLocals_99 rfl (lv_at hl 2 rfl) ?_
    have g100 : vp_in p0 30 := vp_in_iff.mpr ⟨by omega, by omega⟩
    refine va_iast hx hb hK hP hD hS 2 2 rfl rfl g100 d_RE_readLocals_100 (fun H locs hP hD hS => ?_)
    generalize ef8 : upd glk p0.toNatClampNeg tt = f8 at hP hD
    have hP9 := hP.sub (ws' := [(h0, .inr (7, [.ref aw, .ref ac, .int a, .int lim, .int sd, .int cc, .ref ao, .int oc])), (aw, .inr (10, wf)), (ab, .inr (1, [.ref ax, .int len])), (ax, .inl (cB, n, .inl f)), (ac, .inr (3, [.ref afi, .ref alk, .ref alt, .int cl, .ref aop, .ref ava, .ref apt, .ref ael, .int lc, .ref alb])), (alt, .inl (clt, 1800, .inl g)), (alk, .inl (clk, 30, .inl f8))]) [3, 4, 5, 6, 0, 1, 2] rfl
    have hD9 := hD.sub (ws' := [(h0, .inr (7, [.ref aw, .ref ac, .int a, .int lim, .int sd, .int cc, .ref ao, .int oc])), (aw, .inr (10, wf)), (ab, .inr (1, [.ref ax, .int len])), (ax, .inl (cB, n, .inl f)), (ac, .inr (3, [.ref afi, .ref alk, .ref alt, .int cl, .ref aop, .ref ava, .ref apt, .ref ael, .int lc, .ref alb])), (alt, .inl (clt, 1800, .inl g)), (alk, .inl (clk, 30, .inl f8))]) [3, 4, 5, 6, 0, 1, 2] (by decide) rfl
    exact W.vret hx hb hr (fun t ht hW => ⟨⟨(a, sd, oc, cl, lc, g, f8), rfl, ⟨v4, by (try dsimp only); omega, by (try dsimp only); omega, rfl, rfl, rfl, v7, fun z => ⟨by omega, by (try dsimp only); omega⟩, ⟨tt, by omega, by omega, by (try dsimp only) <;> exact ef8.symm, fun z => v6 z⟩⟩, by rw [ht]; exact hP9, va_K.moved hW.alike hK, hD9⟩, hS.F ht⟩) hS.2.2 d_RE_readLocals_101
  · have q17 := nleI c17
    refine lv_aload_n hx hb d_RE_readLocals_20 rfl (lv_at hl 3 rfl) ?_
    refine va_get (D := (dC, dI)) (ci := 7) (v := .int sd) (C := R_RE) (T := F_RE) (N := 8) hx hb hts i_RE hown hK hP 3 rfl rfl 4 (by decide) (hts _ kF_RE_45) (fun _ h9 => h9) rfl d_RE_readLocals_21 ?_
    refine lv_if_eq (tgt := 91) hx hb d_RE_readLocals_24 (by decide) (fun c24 => ?_) (fun c24 => ?_)
    · have q24 := eqI c24
      refine lv_aload_n hx hb d_RE_readLocals_91 rfl (lv_at hl 3 rfl) ?_
      refine va_get (D := (dC, dI)) (ci := 7) (v := .ref ac) (C := R_RE) (T := F_RE) (N := 8) hx hb hts i_RE hown hK hP 3 rfl rfl 1 (by decide) (hts _ kF_RE_25) (fun _ h9 => h9) rfl d_RE_readLocals_92 ?_
      refine va_get (D := (dC, dI)) (ci := 3) (v := .ref alk) (C := R_CD) (T := F_CD) (N := 10) hx hb hts i_CD hown hK hP 0 rfl rfl 1 (by decide) (hts _ kF_RE_191) (fun _ h9 => h9) rfl d_RE_readLocals_95 ?_
      refine lv_iload_n hx hb d_RE_readLocals_98 rfl (lv_at hl 4 rfl) ?_
      refine lv_iload_n hx hb d_RE_readLocals_99 rfl (lv_at hl 2 rfl) ?_
      have g100 : vp_in p0 30 := vp_in_iff.mpr ⟨by omega, by omega⟩
      refine va_iast hx hb hK hP hD hS 2 2 rfl rfl g100 d_RE_readLocals_100 (fun H locs hP hD hS => ?_)
      generalize ef9 : upd glk p0.toNatClampNeg tt = f9 at hP hD
      have hP9 := hP.sub (ws' := [(h0, .inr (7, [.ref aw, .ref ac, .int a, .int lim, .int sd, .int cc, .ref ao, .int oc])), (aw, .inr (10, wf)), (ab, .inr (1, [.ref ax, .int len])), (ax, .inl (cB, n, .inl f)), (ac, .inr (3, [.ref afi, .ref alk, .ref alt, .int cl, .ref aop, .ref ava, .ref apt, .ref ael, .int lc, .ref alb])), (alt, .inl (clt, 1800, .inl g)), (alk, .inl (clk, 30, .inl f9))]) [3, 4, 5, 6, 0, 1, 2] rfl
      have hD9 := hD.sub (ws' := [(h0, .inr (7, [.ref aw, .ref ac, .int a, .int lim, .int sd, .int cc, .ref ao, .int oc])), (aw, .inr (10, wf)), (ab, .inr (1, [.ref ax, .int len])), (ax, .inl (cB, n, .inl f)), (ac, .inr (3, [.ref afi, .ref alk, .ref alt, .int cl, .ref aop, .ref ava, .ref apt, .ref ael, .int lc, .ref alb])), (alt, .inl (clt, 1800, .inl g)), (alk, .inl (clk, 30, .inl f9))]) [3, 4, 5, 6, 0, 1, 2] (by decide) rfl
      exact W.vret hx hb hr (fun t ht hW => ⟨⟨(a, sd, oc, cl, lc, g, f9), rfl, ⟨v4, by (try dsimp only); omega, by (try dsimp only); omega, rfl, rfl, rfl, v7, fun z => ⟨by omega, by (try dsimp only); omega⟩, ⟨tt, by omega, by omega, by (try dsimp only) <;> exact ef9.symm, fun z => v6 z⟩⟩, by rw [ht]; exact hP9, va_K.moved hW.alike hK, hD9⟩, hS.F ht⟩) hS.2.2 d_RE_readLocals_101
    · have q24 := neI c24
      refine lv_aload_n hx hb d_RE_readLocals_27 rfl (lv_at hl 3 rfl) ?_
      refine lv_bipush (v := 60) hx hb d_RE_readLocals_28 (by decide) ?_
      refine lv_iload_n hx hb d_RE_readLocals_30 rfl (lv_at hl 2 rfl) ?_
      refine lv_isub hx hb d_RE_readLocals_31 ?_
      refine lv_topi (fun x10 ex10 => ?_)
      have tx10 : x10.toInt = 60 - tt.toInt := by have z := i32_sub ex10 (by omega) (by omega); omega
      refine lv_i2l hx hb d_RE_readLocals_32 rfl ?_
      refine lv_topl (fun x11 ex11 => ?_)
      have tx11 := i2l_t ex11
      have hPc := hP.sub (ws' := [(h0, .inr (7, [.ref aw, .ref ac, .int a, .int lim, .int sd, .int cc, .ref ao, .int oc])), (aw, .inr (10, wf)), (ab, .inr (1, [.ref ax, .int len])), (ax, .inl (cB, n, .inl f))]) [3, 4, 5, 6] rfl
      have hDc := hD.sub (ws' := [(h0, .inr (7, [.ref aw, .ref ac, .int a, .int lim, .int sd, .int cc, .ref ao, .int oc])), (aw, .inr (10, wf)), (ab, .inr (1, [.ref ax, .int len])), (ax, .inl (cB, n, .inl f))]) [3, 4, 5, 6] (by decide) rfl
      have hKc := hK.sub (tys' := [(cB, .byte)]) [0] rfl
      have hFc := va_free (wc := [(h0, .inr (7, [.ref aw, .ref ac, .int a, .int lim, .int sd, .int cc, .ref ao, .int oc])), (aw, .inr (10, wf)), (ab, .inr (1, [.ref ax, .int len])), (ax, .inl (cB, n, .inl f))]) hD hS hA [3, 4, 5, 6] rfl
      refine va_calll (va_runV (As := [.long x11]) (rest := []) ⟨hx, hb, hml, hown, hts⟩ (c_RE_readUnsigned l dC dI h0 aw ac ao ab ax H.size cB n a lim sd cc oc len f wf pwf pwl v4 (by omega) x11 (by omega)) (cwV 1 hts (gV kM_RE_64 kV_RE_readUnsigned kS_RE_readUnsigned kI_RE kC_RE_readUnsigned) rfl rfl rfl (by decide +kernel) ⟨Nat.le_of_ble_eq_true rfl, Nat.le_of_ble_eq_true rfl⟩) ⟨fun a U g mk z => by obtain ⟨z0, z1, zP, zK, zD⟩ := z; exact ⟨z0, z1, zP, va_K.moved (u := U) (U := U.calling g mk a) (Vm.Alike.refl U.vm) zK, zD⟩, va_recv hKc hPc (ci := 7) (q0 := 0) rfl rfl, fun U hU hW => ⟨rfl, by rw [hU], by rw [hU]; exact hPc, va_K.moved hW.alike hKc, hDc.weaken (fun _ _ _ _ => trivial)⟩⟩ rfl rfl hl.1 rfl (lv_room (Nat.le_of_ble_eq_true rfl)) d_RE_readLocals_33 ⟨(Nat.zero_le _), (Nat.zero_le _)⟩) hS (fun q _ h => hFc q h) hFc (fun r12 u t H1 locs ht hvm hw hB hz1 hk1 hS => ?_)
      obtain ⟨n13, n14⟩ := u
      try dsimp only at hw
      obtain ⟨hsn14, tn13⟩ := hw
      have bsn14 := b01 hsn14
      obtain ⟨hP1, hK1, hD1⟩ := hB
      rw [ht] at hP1
      obtain ⟨hP, hD⟩ := va_join (wr := [(ac, .inr (3, [.ref afi, .ref alk, .ref alt, .int cl, .ref aop, .ref ava, .ref apt, .ref ael, .int lc, .ref alb])), (alt, .inl (clt, 1800, .inl g)), (alk, .inl (clk, 30, .inl glk))]) (w1 := [(h0, .inr (7, [.ref aw, .ref ac, .int n13, .int lim, .int n14, .int cc, .ref ao, .int oc])), (aw, .inr (10, wf)), (ab, .inr (1, [.ref ax, .int len])), (ax, .inl (cB, n, .inl f))]) hP hD [3, 4, 5, 6] [0, 1, 2] rfl rfl (by decide) (by decide) hk1 hFc hP1 hD1
      clear hPc hDc hKc hFc hz1 hk1 hP1 hK1 hD1
      generalize H1 = H at hP hS ⊢
      have hP : va_P (dC, dI) cls [(ac, .inr (3, [.ref afi, .ref alk, .ref alt, .int cl, .ref aop, .ref ava, .ref apt, .ref ael, .int lc, .ref alb])), (alt, .inl (clt, 1800, .inl g)), (alk, .inl (clk, 30, .inl glk)), (h0, .inr (7, [.ref aw, .ref ac, .int n13, .int lim, .int n14, .int cc, .ref ao, .int oc])), (aw, .inr (10, wf)), (ab, .inr (1, [.ref ax, .int len])), (ax, .inl (cB, n, .inl f))] H := hP
      have hD : va_D A [(ac, .inr (3, [.ref afi, .ref alk, .ref alt, .int cl, .ref aop, .ref ava, .ref apt, .ref ael, .int lc, .ref alb])), (alt, .inl (clt, 1800, .inl g)), (alk, .inl (clk, 30, .inl glk)), (h0, .inr (7, [.ref aw, .ref ac, .int n13, .int lim, .int n14, .int cc, .ref ao, .int oc])), (aw, .inr (10, wf)), (ab, .inr (1, [.ref ax, .int len])), (ax, .inl (cB, n, .inl f))] := hD
      refine lv_l2i hx hb d_RE_readLocals_36 rfl ?_
      refine lv_topi (fun x15 ex15 => ?_)
      have tx15 := l2i_t ex15 (by omega) (by omega)
      refine lv_istore (lv' := [(5, .int x15), (4, .int ri), (3, .int x6), (2, .int tt), (0, .ref h0), (1, .int p0)]) hx hb d_RE_readLocals_37 hl (by decide) rfl (fun ls hl => ?_)
      refine lv_aload_n hx hb d_RE_readLocals_39 rfl (lv_at hl 4 rfl) ?_
      have hPc := hP.sub (ws' := [(h0, .inr (7, [.ref aw, .ref ac, .int n13, .int lim, .int n14, .int cc, .ref ao, .int oc])), (aw, .inr (10, wf)), (ab, .inr (1, [.ref ax, .int len])), (ax, .inl (cB, n, .inl f))]) [3, 4, 5, 6] rfl
      have hDc := hD.sub (ws' := [(h0, .inr (7, [.ref aw, .ref ac, .int n13, .int lim, .int n14, .int cc, .ref ao, .int oc])), (aw, .inr (10, wf)), (ab, .inr (1, [.ref ax, .int len])), (ax, .inl (cB, n, .inl f))]) [3, 4, 5, 6] (by decide) rfl
      have hKc := hK.sub (tys' := [(cB, .byte)]) [0] rfl
      have hFc := va_free (wc := [(h0, .inr (7, [.ref aw, .ref ac, .int n13, .int lim, .int n14, .int cc, .ref ao, .int oc])), (aw, .inr (10, wf)), (ab, .inr (1, [.ref ax, .int len])), (ax, .inl (cB, n, .inl f))]) hD hS hA [3, 4, 5, 6] rfl
      refine va_calli (va_runV (As := []) (rest := []) ⟨hx, hb, hml, hown, hts⟩ (c_RE_readType l dC dI h0 aw ac ao ab ax H.size cB n n13 lim n14 cc oc len f wf pwf pwl hsn14 (by omega) ) (cwV 0 hts (gV kM_RE_109 kV_RE_readType kS_RE_readType kI_RE kC_RE_readType) rfl rfl rfl (by decide +kernel) ⟨Nat.le_of_ble_eq_true rfl, Nat.le_of_ble_eq_true rfl⟩) ⟨fun a U g mk z => by obtain ⟨z0, z1, zP, zK, zD⟩ := z; exact ⟨z0, z1, zP, va_K.moved (u := U) (U := U.calling g mk a) (Vm.Alike.refl U.vm) zK, zD⟩, va_recv hKc hPc (ci := 7) (q0 := 0) rfl rfl, fun U hU hW => ⟨rfl, by rw [hU], by rw [hU]; exact hPc, va_K.moved hW.alike hKc, hDc.weaken (fun _ _ _ _ => trivial)⟩⟩ rfl rfl hl.1 rfl (lv_room (Nat.le_of_ble_eq_true rfl)) d_RE_readLocals_40 ⟨(Nat.zero_le _), (Nat.zero_le _)⟩) hS (fun q _ h => hFc q h) hFc (fun r16 u t H1 locs ht hvm hw hB hz1 hk1 hS => ?_)
      obtain ⟨n17, n18⟩ := u
      try dsimp only at hw
      obtain ⟨hsn18, tn17⟩ := hw
      have bsn18 := b01 hsn18
      obtain ⟨hP1, hK1, hD1⟩ := hB
      rw [ht] at hP1
      obtain ⟨hP, hD⟩ := va_join (wr := [(ac, .inr (3, [.ref afi, .ref alk, .ref alt, .int cl, .ref aop, .ref ava, .ref apt, .ref ael, .int lc, .ref alb])), (alt, .inl (clt, 1800, .inl g)), (alk, .inl (clk, 30, .inl glk))]) (w1 := [(h0, .inr (7, [.ref aw, .ref ac, .int n17, .int lim, .int n18, .int cc, .ref ao, .int oc])), (aw, .inr (10, wf)), (ab, .inr (1, [.ref ax, .int len])), (ax, .inl (cB, n, .inl f))]) hP hD [3, 4, 5, 6] [0, 1, 2] rfl rfl (by decide) (by decide) hk1 hFc hP1 hD1
      clear hPc hDc hKc hFc hz1 hk1 hP1 hK1 hD1
      generalize H1 = H at hP hS ⊢
      have hP : va_P (dC, dI) cls [(ac, .inr (3, [.ref afi, .ref alk, .ref alt, .int cl, .ref aop, .ref ava, .ref apt, .ref ael, .int lc, .ref alb])), (alt, .inl (clt, 1800, .inl g)), (alk, .inl (clk, 30, .inl glk)), (h0, .inr (7, [.ref aw, .ref ac, .int n17, .int lim, .int n18, .int cc, .ref ao, .int oc])), (aw, .inr (10, wf)), (ab, .inr (1, [.ref ax, .int len])), (ax, .inl (cB, n, .inl f))] H := hP
      have hD : va_D A [(ac, .inr (3, [.ref afi, .ref alk, .ref alt, .int cl, .ref aop, .ref ava, .ref apt, .ref ael, .int lc, .ref alb])), (alt, .inl (clt, 1800, .inl g)), (alk, .inl (clk, 30, .inl glk)), (h0, .inr (7, [.ref aw, .ref ac, .int n17, .int lim, .int n18, .int cc, .ref ao, .int oc])), (aw, .inr (10, wf)), (ab, .inr (1, [.ref ax, .int len])), (ax, .inl (cB, n, .inl f))] := hD
      refine lv_istore (lv' := [(6, .int r16), (5, .int x15), (4, .int ri), (3, .int x6), (2, .int tt), (0, .ref h0), (1, .int p0)]) hx hb d_RE_readLocals_43 hl (by decide) rfl (fun ls hl => ?_)
      refine lv_iconst (v := 0) hx hb d_RE_readLocals_45 (by decide) ?_
      refine lv_topi (fun x19 ex19 => ?_)
      have tx19 : x19.toInt = 0 := by rw [ex19]; decide
      refine lv_istore (lv' := [(7, .int x19), (6, .int r16), (5, .int x15), (4, .int ri), (3, .int x6), (2, .int tt), (0, .ref h0), (1, .int p0)]) hx hb d_RE_readLocals_46 hl (by decide) rfl (fun ls hl => ?_)
      refine w_loop (σ := Int32 × (Nat → Int32)) (fun u H locs ls => match u with | (k, g2) => (0 ≤ k.toInt ∧ k.toInt ≤ x15.toInt) ∧ (n18.toInt = 1 → ∀ j : Nat, 60 * p0.toInt ≤ (j : Int) → (j : Int) < 60 * p0.toInt + tt.toInt + k.toInt → (g2 j).toInt = 127 ∨ (g2 j).toInt = 126) ∧ (∀ j : Nat, ((j : Int) < 60 * p0.toInt ∨ 60 * p0.toInt + 60 ≤ (j : Int)) → g2 j = glt j) ∧ va_P (dC, dI) cls [(ac, .inr (3, [.ref afi, .ref alk, .ref alt, .int cl, .ref aop, .ref ava, .ref apt, .ref ael, .int lc, .ref alb])), (alt, .inl (clt, 1800, .inl g2)), (alk, .inl (clk, 30, .inl glk)), (h0, .inr (7, [.ref aw, .ref ac, .int n17, .int lim, .int n18, .int cc, .ref ao, .int oc])), (aw, .inr (10, wf)), (ab, .inr (1, [.ref ax, .int len])), (ax, .inl (cB, n, .inl f))] H ∧ va_D A [(ac, .inr (3, [.ref afi, .ref alk, .ref alt, .int cl, .ref aop, .ref ava, .ref apt, .ref ael, .int lc, .ref alb])), (alt, .inl (clt, 1800, .inl g2)), (alk, .inl (clk, 30, .inl glk)), (h0, .inr (7, [.ref aw, .ref ac, .int n17, .int lim, .int n18, .int cc, .ref ao, .int oc])), (aw, .inr (10, wf)), (ab, .inr (1, [.ref ax, .int len])), (ax, .inl (cB, n, .inl f))] ∧ va_S A s.heap H locs ∧ lv_has ls 8 [(7, .int k), (6, .int r16), (5, .int x15), (4, .int ri), (3, .int x6), (2, .int tt), (0, .ref h0), (1, .int p0)]) (fun u => match u with | (k, g2) => (x15.toInt - k.toInt).toNat) ?_ (x19, g) ⟨by omega, fun z j h1 h2 => v6 (by omega) j h1 (by omega), v7, hP, hD, hS, lv_sub hl [0, 1, 2, 3, 4, 5, 6, 7] rfl⟩
      intro N48 ih48 u H locs ls hN48 hI
      obtain ⟨k, g2⟩ := u
      obtain ⟨w1, w6, w7, hP, hD, hS, hl⟩ := hI
      have hN48 : (x15.toInt - k.toInt).toNat < N48 + 1 := hN48
      refine lv_iload hx hb d_RE_readLocals_48 (lv_at hl 0 rfl) ?_
      refine lv_iload hx hb d_RE_readLocals_50 (lv_at hl 2 rfl) ?_
      refine lv_icmp_ge (tgt := 80) hx hb d_RE_readLocals_52 (by decide) (fun c52 => ?_) (fun c52 => ?_)
      · have q52 := leI c52
        refine lv_iload_n hx hb d_RE_readLocals_80 rfl (lv_at hl 5 rfl) ?_
        refine lv_iload hx hb d_RE_readLocals_81 (lv_at hl 2 rfl) ?_
        refine lv_iadd hx hb d_RE_readLocals_83 ?_
        refine lv_topi (fun x20 ex20 => ?_)
        have tx20 : x20.toInt = tt.toInt + x15.toInt := by have z := i32_add ex20 (by omega) (by omega); omega
        refine lv_istore_n (lv' := [(2, .int x20), (7, .int k), (6, .int r16), (5, .int x15), (4, .int ri), (3, .int x6), (0, .ref h0), (1, .int p0)]) hx hb d_RE_readLocals_84 rfl hl (by decide) rfl (fun ls hl => ?_)
        obtain ⟨x21, ex21⟩ : ∃ z : Int32, z = ri + 1 := ⟨_, rfl⟩
        have tx21 : x21.toInt = ri.toInt + 1 := by have z := i32_add ex21 (by omega) (by omega); omega
        refine lv_iinc (v := x21) (lv' := [(4, .int x21), (2, .int x20), (7, .int k), (6, .int r16), (5, .int x15), (3, .int x6), (0, .ref h0), (1, .int p0)]) hx hb d_RE_readLocals_85 hl (k := 4) rfl (by rw [ex21]; rfl) (by decide) rfl (fun ls hl => ?_)
        refine lv_goto (tgt := 14) hx hb d_RE_readLocals_88 (by decide) ?_
        skip
        exact ih14 (x20, x21, n17, n18, g2) _ _ _ (by show (x6.toInt - x21.toInt).toNat < N14; omega) ⟨by omega, by omega, by omega, hsn18, by omega, fun z j h1 h2 => w6 z j h1 (by omega), w7, hP, hD, hS, lv_sub hl [0, 5, 1, 6, 7] rfl⟩
      · have q52 := nleI c52
        refine lv_aload_n hx hb d_RE_readLocals_55 rfl (lv_at hl 6 rfl) ?_
        refine va_get (D := (dC, dI)) (ci := 7) (v := .ref ac) (C := R_RE) (T := F_RE) (N := 8) hx hb hts i_RE hown hK hP 3 rfl rfl 1 (by decide) (hts _ kF_RE_25) (fun _ h9 => h9) rfl d_RE_readLocals_56 ?_
        refine va_get (D := (dC, dI)) (ci := 3) (v := .ref alt) (C := R_CD) (T := F_CD) (N := 10) hx hb hts i_CD hown hK hP 0 rfl rfl 2 (by decide) (hts _ kF_RE_188) (fun _ h9 => h9) rfl d_RE_readLocals_59 ?_
        refine lv_iload_n hx hb d_RE_readLocals_62 rfl (lv_at hl 7 rfl) ?_
        refine lv_bipush (v := 60) hx hb d_RE_readLocals_63 (by decide) ?_
        refine lv_imul hx hb d_RE_readLocals_65 ?_
        refine lv_topi (fun x22 ex22 => ?_)
        have tx22 : x22.toInt = p0.toInt * 60 := by have z := i32_mul ex22 (by rw [k60]; omega) (by rw [k60]; omega); rw [k60] at z; exact z
        refine lv_iload_n hx hb d_RE_readLocals_66 rfl (lv_at hl 5 rfl) ?_
        refine lv_iadd hx hb d_RE_readLocals_67 ?_
        refine lv_topi (fun x23 ex23 => ?_)
        have tx23 : x23.toInt = x22.toInt + tt.toInt := by have z := i32_add ex23 (by omega) (by omega); omega
        refine lv_iload hx hb d_RE_readLocals_68 (lv_at hl 0 rfl) ?_
        refine lv_iadd hx hb d_RE_readLocals_70 ?_
        refine lv_topi (fun x24 ex24 => ?_)
        have tx24 : x24.toInt = x23.toInt + k.toInt := by have z := i32_add ex24 (by omega) (by omega); omega
        refine lv_iload hx hb d_RE_readLocals_71 (lv_at hl 1 rfl) ?_
        have g73 : vp_in x24 1800 := vp_in_iff.mpr ⟨by omega, by omega⟩
        refine va_iast hx hb hK hP hD hS 1 1 rfl rfl g73 d_RE_readLocals_73 (fun H locs hP hD hS => ?_)
        generalize ef25 : upd g2 x24.toNatClampNeg r16 = f25 at hP hD
        obtain ⟨x26, ex26⟩ : ∃ z : Int32, z = k + 1 := ⟨_, rfl⟩
        have tx26 : x26.toInt = k.toInt + 1 := by have z := i32_add ex26 (by omega) (by omega); omega
        refine lv_iinc (v := x26) (lv' := [(7, .int x26), (6, .int r16), (5, .int x15), (4, .int ri), (3, .int x6), (2, .int tt), (0, .ref h0), (1, .int p0)]) hx hb d_RE_readLocals_74 hl (k := 0) rfl (by rw [ex26]; rfl) (by decide) rfl (fun ls hl => ?_)
        refine lv_goto (tgt := 48) hx hb d_RE_readLocals_77 (by decide) ?_
        have z1 := i32_clamp (x := x24) (by omega)
        skip
        exact ih48 (x26, f25) _ _ _ (by show (x15.toInt - x26.toInt).toNat < N48; omega) ⟨by omega, fun z => by rw [← ef25]; exact upd_ty (w6 z) (by omega) (by omega) (by omega), by rw [← ef25]; exact upd_off w7 (by omega), hP, hD, hS, lv_sub hl [0, 1, 2, 3, 4, 5, 6, 7] rfl⟩

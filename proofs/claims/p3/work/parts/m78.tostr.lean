/-! a text is made of a StringBuilder -/
abbrev b_JS_init0 : ByteArray := prog_33_method_150_code
def y_JS_init0 : MethodName := ⟨R_JS, "<init>", "(Ljava/lang/AbstractStringBuilder;Ljava/lang/Void;)V"⟩
abbrev w_JS_init0 : List Cond := .code y_JS_init0 b_JS_init0 5 none :: lw_g
theorem kC_JS_init0 : Cond.code y_JS_init0 b_JS_init0 5 none ∈ lw_g := in_g 2255 (by decide +kernel) rfl
theorem d_JS_init0_0 : decode b_JS_init0 0 = .ok (.aload_n 0, 1) := by decide +kernel
theorem d_JS_init0_1 : decode b_JS_init0 1 = .ok (.invokespecial 1, 3) := by decide +kernel
theorem d_JS_init0_4 : decode b_JS_init0 4 = .ok (.aload_n 1, 1) := by decide +kernel
theorem d_JS_init0_5 : decode b_JS_init0 5 = .ok (.invokevirtual 552, 3) := by decide +kernel
theorem d_JS_init0_8 : decode b_JS_init0 8 = .ok (.astore_n 3, 1) := by decide +kernel
theorem d_JS_init0_9 : decode b_JS_init0 9 = .ok (.aload_n 1, 1) := by decide +kernel
theorem d_JS_init0_10 : decode b_JS_init0 10 = .ok (.invokevirtual 549, 3) := by decide +kernel
theorem d_JS_init0_13 : decode b_JS_init0 13 = .ok (.istore 4, 2) := by decide +kernel
theorem d_JS_init0_15 : decode b_JS_init0 15 = .ok (.aload_n 1, 1) := by decide +kernel
theorem d_JS_init0_16 : decode b_JS_init0 16 = .ok (.invokevirtual 1047, 3) := by decide +kernel
theorem d_JS_init0_19 : decode b_JS_init0 19 = .ok (.ifCond .eq 22, 3) := by decide +kernel
theorem d_JS_init0_22 : decode b_JS_init0 22 = .ok (.aload_n 0, 1) := by decide +kernel
theorem d_JS_init0_23 : decode b_JS_init0 23 = .ok (.iconst 0, 1) := by decide +kernel
theorem d_JS_init0_24 : decode b_JS_init0 24 = .ok (.putfield 15, 3) := by decide +kernel
theorem d_JS_init0_27 : decode b_JS_init0 27 = .ok (.aload_n 0, 1) := by decide +kernel
theorem d_JS_init0_28 : decode b_JS_init0 28 = .ok (.aload_n 3, 1) := by decide +kernel
theorem d_JS_init0_29 : decode b_JS_init0 29 = .ok (.iconst 0, 1) := by decide +kernel
theorem d_JS_init0_30 : decode b_JS_init0 30 = .ok (.iload 4, 2) := by decide +kernel
theorem d_JS_init0_32 : decode b_JS_init0 32 = .ok (.invokestatic 54, 3) := by decide +kernel
theorem d_JS_init0_35 : decode b_JS_init0 35 = .ok (.putfield 9, 3) := by decide +kernel
theorem d_JS_init0_38 : decode b_JS_init0 38 = .ok (.goto 59, 3) := by decide +kernel
theorem d_JS_init0_41 : decode b_JS_init0 41 = .ok (.getstatic 38, 3) := by decide +kernel
theorem d_JS_init0_44 : decode b_JS_init0 44 = .ok (.ifCond .eq 35, 3) := by decide +kernel
theorem d_JS_init0_47 : decode b_JS_init0 47 = .ok (.aload_n 1, 1) := by decide +kernel
theorem d_JS_init0_48 : decode b_JS_init0 48 = .ok (.getfield 1048, 3) := by decide +kernel
theorem d_JS_init0_51 : decode b_JS_init0 51 = .ok (.ifCond .eq 28, 3) := by decide +kernel
theorem d_JS_init0_54 : decode b_JS_init0 54 = .ok (.aload_n 0, 1) := by decide +kernel
theorem d_JS_init0_55 : decode b_JS_init0 55 = .ok (.aload_n 3, 1) := by decide +kernel
theorem d_JS_init0_56 : decode b_JS_init0 56 = .ok (.iconst 0, 1) := by decide +kernel
theorem d_JS_init0_57 : decode b_JS_init0 57 = .ok (.iload 4, 2) := by decide +kernel
theorem d_JS_init0_59 : decode b_JS_init0 59 = .ok (.invokestatic 1051, 3) := by decide +kernel
theorem d_JS_init0_62 : decode b_JS_init0 62 = .ok (.putfield 9, 3) := by decide +kernel
theorem d_JS_init0_65 : decode b_JS_init0 65 = .ok (.aload_n 0, 1) := by decide +kernel
theorem d_JS_init0_66 : decode b_JS_init0 66 = .ok (.aload_n 0, 1) := by decide +kernel
theorem d_JS_init0_67 : decode b_JS_init0 67 = .ok (.getfield 9, 3) := by decide +kernel
theorem d_JS_init0_70 : decode b_JS_init0 70 = .ok (.iload 4, 2) := by decide +kernel
theorem d_JS_init0_72 : decode b_JS_init0 72 = .ok (.invokestatic 47, 3) := by decide +kernel
theorem d_JS_init0_75 : decode b_JS_init0 75 = .ok (.putfield 15, 3) := by decide +kernel
theorem d_JS_init0_78 : decode b_JS_init0 78 = .ok (.return_, 1) := by decide +kernel
theorem d_JS_init0_79 : decode b_JS_init0 79 = .ok (.aload_n 0, 1) := by decide +kernel
theorem d_JS_init0_80 : decode b_JS_init0 80 = .ok (.iconst 1, 1) := by decide +kernel
theorem d_JS_init0_81 : decode b_JS_init0 81 = .ok (.putfield 15, 3) := by decide +kernel
theorem d_JS_init0_84 : decode b_JS_init0 84 = .ok (.aload_n 0, 1) := by decide +kernel
theorem d_JS_init0_85 : decode b_JS_init0 85 = .ok (.aload_n 3, 1) := by decide +kernel
theorem d_JS_init0_86 : decode b_JS_init0 86 = .ok (.iconst 0, 1) := by decide +kernel
theorem d_JS_init0_87 : decode b_JS_init0 87 = .ok (.iload 4, 2) := by decide +kernel
theorem d_JS_init0_89 : decode b_JS_init0 89 = .ok (.iconst 1, 1) := by decide +kernel
theorem d_JS_init0_90 : decode b_JS_init0 90 = .ok (.ishl, 1) := by decide +kernel
theorem d_JS_init0_91 : decode b_JS_init0 91 = .ok (.invokestatic 54, 3) := by decide +kernel
theorem d_JS_init0_94 : decode b_JS_init0 94 = .ok (.putfield 9, 3) := by decide +kernel
theorem d_JS_init0_97 : decode b_JS_init0 97 = .ok (.return_, 1) := by decide +kernel
theorem kM_JS_552 : Cond.methodLink R_JS 552 y_JQ_getValue ∈ lw_g := in_g 2257 (by decide +kernel) rfl
theorem kV_JQ_getValue : Cond.instanceMethod y_JQ_getValue ∈ lw_g := in_g 2258 (by decide +kernel) rfl
theorem kM_JS_549 : Cond.methodLink R_JS 549 y_JQ_length ∈ lw_g := in_g 2262 (by decide +kernel) rfl
theorem kM_JS_1047 : Cond.methodLink R_JS 1047 y_JQ_isLatin1 ∈ lw_g := in_g 2270 (by decide +kernel) rfl
theorem kM_JS_54 : Cond.methodLink R_JS 54 y_JA_copyOfRange ∈ lw_g := in_g 2271 (by decide +kernel) rfl
theorem kT_JA_copyOfRange : Cond.static y_JA_copyOfRange ∈ lw_g := in_g 2272 (by decide +kernel) rfl
abbrev b_JF_compress0 : ByteArray := prog_36_method_17_code
def y_JF_compress0 : MethodName := ⟨R_JF, "compress", "([BII)[B"⟩
abbrev w_JF_compress0 : List Cond := .code y_JF_compress0 b_JF_compress0 6 (Option.some (.array .byte)) :: lw_g
theorem kC_JF_compress0 : Cond.code y_JF_compress0 b_JF_compress0 6 (Option.some (.array .byte)) ∈ lw_g := in_g 2363 (by decide +kernel) rfl
theorem kM_JS_1051 : Cond.methodLink R_JS 1051 y_JF_compress0 ∈ lw_g := in_g 2361 (by decide +kernel) rfl
theorem kT_JF_compress0 : Cond.static y_JF_compress0 ∈ lw_g := in_g 2362 (by decide +kernel) rfl
abbrev b_JF_coderFromArrayLen : ByteArray := prog_36_method_15_code
def y_JF_coderFromArrayLen : MethodName := ⟨R_JF, "coderFromArrayLen", "([BI)B"⟩
abbrev w_JF_coderFromArrayLen : List Cond := .code y_JF_coderFromArrayLen b_JF_coderFromArrayLen 2 (Option.some .byte) :: lw_g
theorem kC_JF_coderFromArrayLen : Cond.code y_JF_coderFromArrayLen b_JF_coderFromArrayLen 2 (Option.some .byte) ∈ lw_g := in_g 2370 (by decide +kernel) rfl
theorem kM_JS_47 : Cond.methodLink R_JS 47 y_JF_coderFromArrayLen ∈ lw_g := in_g 2368 (by decide +kernel) rfl
theorem kT_JF_coderFromArrayLen : Cond.static y_JF_coderFromArrayLen ∈ lw_g := in_g 2369 (by decide +kernel) rfl
theorem kM_JS_1 : Cond.methodLink R_JS 1 Lib.objectInit ∈ lw_g := in_g 2256 (by decide +kernel) rfl
theorem kSM_JQ_getValue : Cond.sameMethod R_JQ R_JQ "getValue" "()[B" ∈ lw_g := in_g 2259 (by decide +kernel) rfl
theorem kS2_JQ_getValue : Cond.selects R_JB y_JQ_getValue y_JQ_getValue ∈ lw_g := in_g 2260 (by decide +kernel) rfl
theorem kV_JB_length : Cond.instanceMethod y_JB_length ∈ lw_g := in_g 2266 (by decide +kernel) rfl
theorem kS3_len : Cond.selects R_JB y_JQ_length y_JB_length ∈ lw_g := in_g 2265 (by decide +kernel) rfl
abbrev at_JS_init0 (dC : Nat → ClassId) (dI : Nat → Nat → Nat) (sz szl : Nat) (sa : Nat → Nat) (h0 sb va : Nat) (cpb : ClassId) (h0_value : Value) (h0_coder : Int32) (h0_hash : Int32) (h0_hashIsZero : Int32) (sb_maybeLatin1 : Int32) (sb_count : Int32) (nva : Nat) (gva : Nat → Int32) (A : Nat → Prop) (u : (Nat → Int32) × Nat × Nat × Nat × Nat) (t : State) : Prop := match u with | (gnw, kcz, knz, nnw, nw) => va_P (dC, dI) cls2 [(h0, .inr (16, [.ref nw, .int 0, .int h0_hash, .int h0_hashIsZero])), (sb, .inr (17, [.ref va, .int 0, .int sb_maybeLatin1, .int sb_count])), (va, .inl (cpb, nva, .inl gva)), (nw, .inl (cpb, nnw, .inl gnw))] t.heap ∧ va_K (dC, dI) cls2 [(cpb, .byte)] t ∧ va_D A [(h0, .inr (16, [.ref nw, .int 0, .int h0_hash, .int h0_hashIsZero])), (sb, .inr (17, [.ref va, .int 0, .int sb_maybeLatin1, .int sb_count])), (va, .inl (cpb, nva, .inl gva)), (nw, .inl (cpb, nnw, .inl gnw))] ∧ t.heap.size ≤ sz + kcz ∧ hsl t.heap ≤ szl + knz
set_option maxHeartbeats 4000000 in
set_option maxRecDepth 100000 in
theorem c_JS_init0 (l : Launch) (hlt : l.stackTraces = false) (dC : Nat → ClassId) (dI : Nat → Nat → Nat) (sz : Nat) (szl : Nat) (sa : Nat → Nat) (h0 sb va : Nat) (cpb : ClassId) (h0_value : Value) (h0_coder : Int32) (h0_hash : Int32) (h0_hashIsZero : Int32) (sb_maybeLatin1 : Int32) (sb_count : Int32) (nva : Nat) (gva : Nat → Int32)  (b_sb_count : 0 ≤ sb_count.toInt ∧ sb_count.toInt ≤ 1000000) (b_gva : ∀ j : Nat, -128 ≤ (gva j).toInt ∧ (gva j).toInt ≤ 127)   (hc : sb_count.toInt ≤ (nva : Int) ∧ (nva : Int) ≤ 500000) : Met l y_JS_init0 w_JS_init0 ({ frames := 3, cells := 1, slots := sb_count.toInt.toNat, locals := 86 }) (va_Pc [.ref h0, .ref sb, .null] (fun U => U.heap.size = sz ∧ va_P (dC, dI) cls2 [(h0, .inr (16, [h0_value, .int h0_coder, .int h0_hash, .int h0_hashIsZero])), (sb, .inr (17, [.ref va, .int 0, .int sb_maybeLatin1, .int sb_count])), (va, .inl (cpb, nva, .inl gva))] U.heap ∧ va_K (dC, dI) cls2 [(cpb, .byte)] U ∧ va_D (fun _ => True) [(h0, .inr (16, [h0_value, .int h0_coder, .int h0_hash, .int h0_hashIsZero])), (sb, .inr (17, [.ref va, .int 0, .int sb_maybeLatin1, .int sb_count])), (va, .inl (cpb, nva, .inl gva))] ∧ sm sa (va_A [(h0, .inr (16, [h0_value, .int h0_coder, .int h0_hash, .int h0_hashIsZero])), (sb, .inr (17, [.ref va, .int 0, .int sb_maybeLatin1, .int sb_count])), (va, .inl (cpb, nva, .inl gva))] sz) U U.heap ∧ hsl U.heap = szl)) (va_Qv (fun (u : (Nat → Int32) × Nat × Nat × Nat × Nat) => match u with | (gnw2, kcz2, knz2, nnw2, nw2) => (∀ j : Nat, -128 ≤ (gnw2 j).toInt ∧ (gnw2 j).toInt ≤ 127) ∧ ((nnw2 : Int) = sb_count.toInt ∧ kcz2 = 1 ∧ knz2 = nnw2 ∧ sbl gnw2 nnw2 = sbl gva sb_count.toNatClampNeg)) (at_JS_init0 dC dI sz szl sa h0 sb va cpb h0_value h0_coder h0_hash h0_hashIsZero sb_maybeLatin1 sb_count nva gva (va_A [(h0, .inr (16, [h0_value, .int h0_coder, .int h0_hash, .int h0_hashIsZero])), (sb, .inr (17, [.ref va, .int 0, .int sb_maybeLatin1, .int sb_count])), (va, .inl (cpb, nva, .inl gva))] sz)) (va_A [(h0, .inr (16, [h0_value, .int h0_coder, .int h0_hash, .int h0_hashIsZero])), (sb, .inr (17, [.ref va, .int 0, .int sb_maybeLatin1, .int sb_count])), (va, .inl (cpb, nva, .inl gva))] sz)) (1) (sb_count.toInt.toNat) (va_A [(h0, .inr (16, [h0_value, .int h0_coder, .int h0_hash, .int h0_hashIsZero])), (sb, .inr (17, [.ref va, .int 0, .int sb_maybeLatin1, .int sb_count])), (va, .inl (cpb, nva, .inl gva))] sz) := by
  refine Met.ofW (cc := b_JS_init0) (maxL := 5) (ret := none) (by decide) rfl ?_
  intro p e s m args below meth c s₁ B hml hv
  obtain ⟨rfl, hsz, hP, hK, hD0, hSW, hszl⟩ := hv
  have hx := B.exec
  have hb := B.bytes
  have hr := B.returns
  have hts0 := atoms_spec (ws := w_JS_init0) B.pre
  have hts : ∀ w ∈ lw_g, w.before _ s = true := fun w h => hts0 w (List.mem_cons_of_mem _ h)
  have hown : s.vm.findClass R_JS = some m.cls := findClass_of_methodNamed B.named
  have hlocks := B.notSynchronized
  clear hts0
  subst hsz
  subst hszl
  have hD := hD0.self (sz := s.heap.size)
  generalize hAe : va_A [(h0, .inr (16, [h0_value, .int h0_coder, .int h0_hash, .int h0_hashIsZero])), (sb, .inr (17, [.ref va, .int 0, .int sb_maybeLatin1, .int sb_count])), (va, .inl (cpb, nva, .inl gva))] s.heap.size = A at hD hSW ⊢
  have hA : ∀ q : Nat, s.heap.size ≤ q → A q := fun q h => by rw [← hAe]; exact Or.inr h
  clear hAe
  have hP : va_P (dC, dI) cls2 [(h0, .inr (16, [h0_value, .int h0_coder, .int h0_hash, .int h0_hashIsZero])), (sb, .inr (17, [.ref va, .int 0, .int sb_maybeLatin1, .int sb_count])), (va, .inl (cpb, nva, .inl gva))] s.heap := hP
  have hl := lv_entry ([.ref h0, .ref sb, .null]) (n := 5) (Nat.le_of_ble_eq_true rfl)
  rw [lg_entry_eq]
  generalize (lg_sl ([.ref h0, .ref sb, .null]) ++ List.replicate (5 - (lg_sl ([.ref h0, .ref sb, .null])).length) Slot.unset).toArray = ls at hl ⊢
  have hl : lv_has ls 5 [(0, .ref h0), (1, .ref sb), (2, .null)] := hl
  have k0 : (0 : Int32).toInt = 0 := by decide
  refine w_gen (A := A) hP (fun H locs hP hS => ?_)
  have k1 : (1 : Int32).toInt = 1 := by decide
  have hin : meth.name = "<init>" := (name_of_methodNamed B.named B.method).1
  have zc := i32_clamp (x := sb_count) (by omega)
  refine lv_aload_n hx hb d_JS_init0_0 rfl (lv_at hl 0 rfl) ?_
  refine W.objInit hx hb hown (hts _ kM_JS_1) (hts _ kV_oi) (hts _ kC_oi) rfl (by rw [hml]; exact hl.1) rfl d_JS_init0_1 (Nat.le_of_ble_eq_true rfl) (Nat.le_of_ble_eq_true rfl) ?_
  refine W.eq (g2 := F0 m 4 ls []) rfl ?_
  refine lv_aload_n hx hb d_JS_init0_4 rfl (lv_at hl 1 rfl) ?_
  have hPc := hP.sub (ws' := [(sb, .inr (17, [.ref va, .int 0, .int sb_maybeLatin1, .int sb_count])), (va, .inl (cpb, nva, .inl gva))]) [1, 2] rfl
  have hDc := hD.sub (ws' := [(sb, .inr (17, [.ref va, .int 0, .int sb_maybeLatin1, .int sb_count])), (va, .inl (cpb, nva, .inl gva))]) [1, 2] (by decide) rfl
  have hKc := hK.sub (tys' := [(cpb, .byte)]) [0] rfl
  have hFc := va_free (wc := [(sb, .inr (17, [.ref va, .int 0, .int sb_maybeLatin1, .int sb_count])), (va, .inl (cpb, nva, .inl gva))]) hD hS hA [1, 2] rfl
  refine va_callr (va_runV (As := []) (rest := []) ⟨hx, hb, hml, hown, hts⟩ (c_JQ_getValue l hlt dC dI H.size sb va cpb sb_maybeLatin1 sb_count nva gva (b_gva)) ⟨callB_of 0 hts (gW kC_JQ_getValue) rfl rfl rfl (hts _ kI_JQ) (hts _ kM_JS_552) (by decide +kernel) ⟨Nat.le_of_ble_eq_true rfl, Nat.le_of_ble_eq_true rfl⟩, hts _ kV_JQ_getValue, hts _ kS2_JQ_getValue⟩ ⟨fun a U g mk z => by obtain ⟨z0, z1, zP, zK, zD⟩ := z; exact ⟨z0, z1, zP, va_K.moved (u := U) (U := U.calling g mk a) (Vm.Alike.refl U.vm) zK, zD⟩, va_recv hKc hPc (ci := 17) (q0 := 0) rfl rfl, fun U hU hW => ⟨rfl, by rw [hU], by rw [hU]; exact hPc, va_K.moved hW.alike hKc, hDc.weaken (fun _ _ _ _ => trivial)⟩⟩ rfl rfl hl.1 rfl (lv_room (Nat.le_of_ble_eq_true rfl)) d_JS_init0_5 ⟨by dsimp only [headSpec]; omega, by dsimp only [headSpec]; omega⟩) hS (fun q _ h => hFc q h) hFc (fun u ra t H1 locs ht hvm hw hB hz1 hk1 hS => ?_)
  obtain ⟨rfl, hB⟩ := hB
  try dsimp only at hw
  try clear hw
  obtain ⟨hP1, hK1, hD1⟩ := hB
  rw [ht] at hP1
  obtain ⟨hP, hD⟩ := va_join (wr := [(h0, .inr (16, [h0_value, .int h0_coder, .int h0_hash, .int h0_hashIsZero]))]) (w1 := [(sb, .inr (17, [.ref va, .int 0, .int sb_maybeLatin1, .int sb_count])), (va, .inl (cpb, nva, .inl gva))]) hP hD [1, 2] [0] rfl rfl (by decide) (by decide) hk1 hFc hP1 hD1
  clear hPc hDc hKc hFc hz1 hk1 hP1 hK1 hD1
  generalize H1 = H at hP hS ⊢
  have hP : va_P (dC, dI) cls2 [(h0, .inr (16, [h0_value, .int h0_coder, .int h0_hash, .int h0_hashIsZero])), (sb, .inr (17, [.ref va, .int 0, .int sb_maybeLatin1, .int sb_count])), (va, .inl (cpb, nva, .inl gva))] H := hP
  have hD : va_D A [(h0, .inr (16, [h0_value, .int h0_coder, .int h0_hash, .int h0_hashIsZero])), (sb, .inr (17, [.ref va, .int 0, .int sb_maybeLatin1, .int sb_count])), (va, .inl (cpb, nva, .inl gva))] := hD
  refine lv_astore_n (lv' := [(3, .ref va), (0, .ref h0), (1, .ref sb), (2, .null)]) hx hb d_JS_init0_8 rfl hl (by decide) rfl (fun ls hl => ?_)
  refine lv_aload_n hx hb d_JS_init0_9 rfl (lv_at hl 2 rfl) ?_
  have hPc := hP.sub (ws' := [(sb, .inr (17, [.ref va, .int 0, .int sb_maybeLatin1, .int sb_count]))]) [1] rfl
  have hDc := hD.sub (ws' := [(sb, .inr (17, [.ref va, .int 0, .int sb_maybeLatin1, .int sb_count]))]) [1] (by decide) rfl
  have hKc := hK.sub (tys' := []) [] rfl
  have hFc := va_free (wc := [(sb, .inr (17, [.ref va, .int 0, .int sb_maybeLatin1, .int sb_count]))]) hD hS hA [1] rfl
  refine va_calli (va_runU (As := []) (rest := []) ⟨hx, hb, hml, hown, hts⟩ (c_JB_length l hlt dC dI H.size sa sb va sb_maybeLatin1 sb_count (b_sb_count)) (va_cwO (C := R_JB) (owner := R_JQ) (x := y_JQ_length) 0 hts (gO kM_JS_549 kSM_JQ_length kV_JQ_length kS3_len kV_JB_length kI_JB kC_JB_length) rfl rfl rfl kC_JQ_length (by decide +kernel) ⟨Nat.le_of_ble_eq_true rfl, Nat.le_of_ble_eq_true rfl⟩) ⟨fun a U g mk z => by obtain ⟨z0, z1, zP, zK, zD, zS⟩ := z; exact ⟨z0, z1, zP, va_K.moved (u := U) (U := U.calling g mk a) (Vm.Alike.refl U.vm) zK, zD, sm.same (u := U) (U := U.calling g mk a) rfl zS⟩, va_recv hKc hPc (ci := 17) (q0 := 0) rfl rfl, fun U hU hW => ⟨rfl, by rw [hU], by rw [hU]; exact hPc, va_K.moved hW.alike hKc, hDc.weaken (fun _ _ _ _ => trivial), hSW.call hS hFc hW hU⟩⟩ rfl rfl hl.1 rfl (lv_room (Nat.le_of_ble_eq_true rfl)) d_JS_init0_10 ⟨by dsimp only [headSpec]; omega, by dsimp only [headSpec]; omega⟩) hS (fun q _ h => hFc q h) hFc (fun r4 u t H1 locs ht hvm hw hB hz1 hk1 hS => ?_)
  try dsimp only at hw
  have xr4 := hw
  try clear hw
  have tr4 : r4.toInt = sb_count.toInt := by rw [xr4]
  obtain ⟨hP1, hK1, hD1⟩ := hB
  rw [ht] at hP1
  obtain ⟨hP, hD⟩ := va_join (wr := [(h0, .inr (16, [h0_value, .int h0_coder, .int h0_hash, .int h0_hashIsZero])), (va, .inl (cpb, nva, .inl gva))]) (w1 := [(sb, .inr (17, [.ref va, .int 0, .int sb_maybeLatin1, .int sb_count]))]) hP hD [1] [0, 2] rfl rfl (by decide) (by decide) hk1 hFc hP1 hD1
  clear hPc hDc hKc hFc hz1 hk1 hP1 hK1 hD1
  generalize H1 = H at hP hS ⊢
  have hP : va_P (dC, dI) cls2 [(h0, .inr (16, [h0_value, .int h0_coder, .int h0_hash, .int h0_hashIsZero])), (va, .inl (cpb, nva, .inl gva)), (sb, .inr (17, [.ref va, .int 0, .int sb_maybeLatin1, .int sb_count]))] H := hP
  have hD : va_D A [(h0, .inr (16, [h0_value, .int h0_coder, .int h0_hash, .int h0_hashIsZero])), (va, .inl (cpb, nva, .inl gva)), (sb, .inr (17, [.ref va, .int 0, .int sb_maybeLatin1, .int sb_count]))] := hD
  refine lv_istore (lv' := [(4, .int r4), (3, .ref va), (0, .ref h0), (1, .ref sb), (2, .null)]) hx hb d_JS_init0_13 hl (by decide) rfl (fun ls hl => ?_)
  refine lv_aload_n hx hb d_JS_init0_15 rfl (lv_at hl 3 rfl) ?_
  have hPc := hP.sub (ws' := [(sb, .inr (17, [.ref va, .int 0, .int sb_maybeLatin1, .int sb_count]))]) [2] rfl
  have hDc := hD.sub (ws' := [(sb, .inr (17, [.ref va, .int 0, .int sb_maybeLatin1, .int sb_count]))]) [2] (by decide) rfl
  have hKc := hK.sub (tys' := []) [] rfl
  have hFc := va_free (wc := [(sb, .inr (17, [.ref va, .int 0, .int sb_maybeLatin1, .int sb_count]))]) hD hS hA [2] rfl
  refine va_calli (va_runV (As := []) (rest := []) ⟨hx, hb, hml, hown, hts⟩ (c_JQ_isLatin1 l hlt dC dI H.size sa sb va sb_maybeLatin1 sb_count) ⟨callB_of 0 hts (gW kC_JQ_isLatin1) rfl rfl rfl (hts _ kI_JQ) (hts _ kM_JS_1047) (by decide +kernel) ⟨Nat.le_of_ble_eq_true rfl, Nat.le_of_ble_eq_true rfl⟩, hts _ kV_JQ_isLatin1, hts _ kS2_JQ_isLatin1⟩ ⟨fun a U g mk z => by obtain ⟨z0, z1, zP, zK, zD, zS⟩ := z; exact ⟨z0, z1, zP, va_K.moved (u := U) (U := U.calling g mk a) (Vm.Alike.refl U.vm) zK, zD, sm.same (u := U) (U := U.calling g mk a) rfl zS⟩, va_recv hKc hPc (ci := 17) (q0 := 0) rfl rfl, fun U hU hW => ⟨rfl, by rw [hU], by rw [hU]; exact hPc, va_K.moved hW.alike hKc, hDc.weaken (fun _ _ _ _ => trivial), hSW.call hS hFc hW hU⟩⟩ rfl rfl hl.1 rfl (lv_room (Nat.le_of_ble_eq_true rfl)) d_JS_init0_16 ⟨by dsimp only [headSpec]; omega, by dsimp only [headSpec]; omega⟩) hS (fun q _ h => hFc q h) hFc (fun r7 u t H1 locs ht hvm hw hB hz1 hk1 hS => ?_)
  try dsimp only at hw
  obtain ⟨br7, xr7⟩ := hw
  try clear hw
  have tr7 := b01 br7
  obtain ⟨hP1, hK1, hD1⟩ := hB
  rw [ht] at hP1
  obtain ⟨hP, hD⟩ := va_join (wr := [(h0, .inr (16, [h0_value, .int h0_coder, .int h0_hash, .int h0_hashIsZero])), (va, .inl (cpb, nva, .inl gva))]) (w1 := [(sb, .inr (17, [.ref va, .int 0, .int sb_maybeLatin1, .int sb_count]))]) hP hD [2] [0, 1] rfl rfl (by decide) (by decide) hk1 hFc hP1 hD1
  clear hPc hDc hKc hFc hz1 hk1 hP1 hK1 hD1
  generalize H1 = H at hP hS ⊢
  have hP : va_P (dC, dI) cls2 [(h0, .inr (16, [h0_value, .int h0_coder, .int h0_hash, .int h0_hashIsZero])), (va, .inl (cpb, nva, .inl gva)), (sb, .inr (17, [.ref va, .int 0, .int sb_maybeLatin1, .int sb_count]))] H := hP
  have hD : va_D A [(h0, .inr (16, [h0_value, .int h0_coder, .int h0_hash, .int h0_hashIsZero])), (va, .inl (cpb, nva, .inl gva)), (sb, .inr (17, [.ref va, .int 0, .int sb_maybeLatin1, .int sb_count]))] := hD
  refine lv_if_eq (tgt := 41) hx hb d_JS_init0_19 (by decide) (fun c19 => absurd (eqI c19) (by omega)) (fun c19 => ?_)
  have q19 := neI c19
  refine lv_aload_n hx hb d_JS_init0_22 rfl (lv_at hl 2 rfl) ?_
  refine lv_iconst (v := 0) hx hb d_JS_init0_23 (by decide) ?_
  refine va_putF (D := (dC, dI)) (ci := 16) (v := .int 0) (ty := .byte) (C := R_JS) (T := F_JS) (N := 4) hx hb hts i_JS t_JS t_JS_ok n_JS hown hK hP hD hS 0 rfl rfl 1 (by decide) (hts _ kF_JS_15) (fun _ h9 => h9) rfl hin rfl (by decide +kernel) rfl rfl (Nat.le_of_ble_eq_true rfl) d_JS_init0_24 (fun H locs hP hD hS => ?_)
  have hP : va_P (dC, dI) cls2 [(h0, .inr (16, [h0_value, .int 0, .int h0_hash, .int h0_hashIsZero])), (va, .inl (cpb, nva, .inl gva)), (sb, .inr (17, [.ref va, .int 0, .int sb_maybeLatin1, .int sb_count]))] H := hP
  have hD : va_D A [(h0, .inr (16, [h0_value, .int 0, .int h0_hash, .int h0_hashIsZero])), (va, .inl (cpb, nva, .inl gva)), (sb, .inr (17, [.ref va, .int 0, .int sb_maybeLatin1, .int sb_count]))] := hD
  refine lv_aload_n hx hb d_JS_init0_27 rfl (lv_at hl 2 rfl) ?_
  refine lv_aload_n hx hb d_JS_init0_28 rfl (lv_at hl 1 rfl) ?_
  refine lv_iconst (v := 0) hx hb d_JS_init0_29 (by decide) ?_
  refine lv_iload hx hb d_JS_init0_30 (lv_at hl 0 rfl) ?_
  refine w_known (fun hzc hzs => ?_)
  have hPc := hP.sub (ws' := [(va, .inl (cpb, nva, .inl gva))]) [1] rfl
  have hDc := hD.sub (ws' := [(va, .inl (cpb, nva, .inl gva))]) [1] (by decide) rfl
  have hKc := hK.sub (tys' := [(cpb, .byte)]) [0] rfl
  have hFc := va_free (wc := [(va, .inl (cpb, nva, .inl gva))]) hD hS hA [1] rfl
  refine va_callr (va_runS (As := [.ref va, .int 0, .int r4]) (rest := [.ref h0]) ⟨hx, hb, hml, hown, hts⟩ (c_JA_copyOfRange l hlt dC dI H.size (hsl H) sa va cpb nva gva (b_gva) 0 r4 (by omega) (by omega) (by decide)) ⟨callB_of 3 hts (gW kC_JA_copyOfRange) rfl rfl rfl (hts _ kI_JA) (hts _ kM_JS_54) (by decide +kernel) ⟨Nat.le_of_ble_eq_true rfl, Nat.le_of_ble_eq_true rfl⟩, hts _ kT_JA_copyOfRange⟩ ⟨fun a U g mk z => by obtain ⟨z0, z1, zP, zK, zD, zS, zZ⟩ := z; exact ⟨z0, z1, zP, va_K.moved (u := U) (U := U.calling g mk a) (Vm.Alike.refl U.vm) zK, zD, sm.same (u := U) (U := U.calling g mk a) rfl zS, zZ⟩, fun U hU hW => ⟨rfl, by rw [hU], by rw [hU]; exact hPc, va_K.moved hW.alike hKc, hDc.weaken (fun _ _ _ _ => trivial), hSW.call hS hFc hW hU, by rw [hU]⟩⟩ rfl rfl hl.1 rfl (lv_room (Nat.le_of_ble_eq_true rfl)) d_JS_init0_32 ⟨by dsimp only [headSpec]; omega, by dsimp only [headSpec]; omega⟩) hS (fun q _ h => hFc q h) hFc (fun u ra t H1 locs ht hvm hw hB hz1 hk1 hS => ?_)
  obtain ⟨n11, n12, n13, n14, nq32_nw⟩ := u
  try dsimp only at hw
  obtain ⟨bn11, xr10⟩ := hw
  try clear hw
  obtain ⟨y1, y2, y3, y4⟩ := xr10
  dsimp only at hB
  obtain ⟨rfl, hB⟩ := hB
  obtain ⟨hP1, hK1, hD1, hZc, hZs⟩ := hB
  rw [ht] at hP1 hZc hZs
  obtain ⟨kc15, ekc15⟩ : ∃ z : Nat, z = 0 + 0 + 0 + 0 + n12 := ⟨_, rfl⟩
  obtain ⟨kn16, ekn16⟩ : ∃ z : Nat, z = 0 + 0 + 0 + 0 + n13 := ⟨_, rfl⟩
  refine w_refund (c2 := kc15) (n2 := kn16) (by omega) (by omega) ?_
  clear hzc hzs hZc hZs
  obtain ⟨hP, hD⟩ := va_join (wr := [(h0, .inr (16, [h0_value, .int 0, .int h0_hash, .int h0_hashIsZero])), (sb, .inr (17, [.ref va, .int 0, .int sb_maybeLatin1, .int sb_count]))]) (w1 := [(va, .inl (cpb, nva, .inl gva)), (nq32_nw, .inl (cpb, n14, .inl n11))]) hP hD [1] [0, 2] rfl rfl (by decide) (by decide) hk1 hFc hP1 hD1
  clear hPc hDc hKc hFc hz1 hk1 hP1 hK1 hD1
  generalize H1 = H at hP hS ⊢
  have hP : va_P (dC, dI) cls2 [(h0, .inr (16, [h0_value, .int 0, .int h0_hash, .int h0_hashIsZero])), (sb, .inr (17, [.ref va, .int 0, .int sb_maybeLatin1, .int sb_count])), (va, .inl (cpb, nva, .inl gva)), (nq32_nw, .inl (cpb, n14, .inl n11))] H := hP
  have hD : va_D A [(h0, .inr (16, [h0_value, .int 0, .int h0_hash, .int h0_hashIsZero])), (sb, .inr (17, [.ref va, .int 0, .int sb_maybeLatin1, .int sb_count])), (va, .inl (cpb, nva, .inl gva)), (nq32_nw, .inl (cpb, n14, .inl n11))] := hD
  refine va_putF (D := (dC, dI)) (ci := 16) (v := .ref nq32_nw) (ty := .array .byte) (C := R_JS) (T := F_JS) (N := 4) hx hb hts i_JS t_JS t_JS_ok n_JS hown hK hP hD hS 0 rfl rfl 0 (by decide) (hts _ kF_JS_9) (fun _ h9 => h9) rfl hin rfl (by decide +kernel) rfl rfl (Nat.le_of_ble_eq_true rfl) d_JS_init0_35 (fun H locs hP hD hS => ?_)
  have hP : va_P (dC, dI) cls2 [(h0, .inr (16, [.ref nq32_nw, .int 0, .int h0_hash, .int h0_hashIsZero])), (sb, .inr (17, [.ref va, .int 0, .int sb_maybeLatin1, .int sb_count])), (va, .inl (cpb, nva, .inl gva)), (nq32_nw, .inl (cpb, n14, .inl n11))] H := hP
  have hD : va_D A [(h0, .inr (16, [.ref nq32_nw, .int 0, .int h0_hash, .int h0_hashIsZero])), (sb, .inr (17, [.ref va, .int 0, .int sb_maybeLatin1, .int sb_count])), (va, .inl (cpb, nva, .inl gva)), (nq32_nw, .inl (cpb, n14, .inl n11))] := hD
  refine lv_goto (tgt := 97) hx hb d_JS_init0_38 (by decide) ?_
  have hP9 := hP.sub (ws' := [(h0, .inr (16, [.ref nq32_nw, .int 0, .int h0_hash, .int h0_hashIsZero])), (sb, .inr (17, [.ref va, .int 0, .int sb_maybeLatin1, .int sb_count])), (va, .inl (cpb, nva, .inl gva)), (nq32_nw, .inl (cpb, n14, .inl n11))]) [0, 1, 2, 3] rfl
  have hD9 := hD.sub (ws' := [(h0, .inr (16, [.ref nq32_nw, .int 0, .int h0_hash, .int h0_hashIsZero])), (sb, .inr (17, [.ref va, .int 0, .int sb_maybeLatin1, .int sb_count])), (va, .inl (cpb, nva, .inl gva)), (nq32_nw, .inl (cpb, n14, .inl n11))]) [0, 1, 2, 3] (by decide) rfl
  refine w_known (fun hzc hzs => ?_)
  refine W.widen (k := 1) (n := sb_count.toInt.toNat) (by omega) (by omega) ?_
  exact W.vret hx hb hr (fun t ht hW => ⟨⟨(n11, kc15, kn16, n14, nq32_nw), rfl, ⟨bn11, ⟨by omega, by omega, by omega, by rw [show sb_count.toNatClampNeg = n14 from by omega]; exact sbl_cg y4⟩⟩, by rw [ht]; exact hP9, va_K.moved hW.alike hK, hD9, by rw [ht]; exact hzc, by rw [ht]; exact hzs⟩, hS.F ht⟩) hS.2.2 d_JS_init0_97
abbrev b_JS_init1 : ByteArray := prog_33_method_53_code
def y_JS_init1 : MethodName := ⟨R_JS, "<init>", "(Ljava/lang/StringBuilder;)V"⟩
abbrev w_JS_init1 : List Cond := .code y_JS_init1 b_JS_init1 2 none :: lw_g
theorem kC_JS_init1 : Cond.code y_JS_init1 b_JS_init1 2 none ∈ lw_g := in_g 2252 (by decide +kernel) rfl
theorem d_JS_init1_0 : decode b_JS_init1 0 = .ok (.aload_n 0, 1) := by decide +kernel
theorem d_JS_init1_1 : decode b_JS_init1 1 = .ok (.aload_n 1, 1) := by decide +kernel
theorem d_JS_init1_2 : decode b_JS_init1 2 = .ok (.aconst_null, 1) := by decide +kernel
theorem d_JS_init1_3 : decode b_JS_init1 3 = .ok (.invokespecial 489, 3) := by decide +kernel
theorem d_JS_init1_6 : decode b_JS_init1 6 = .ok (.return_, 1) := by decide +kernel
theorem kM_JS_489 : Cond.methodLink R_JS 489 y_JS_init0 ∈ lw_g := in_g 2253 (by decide +kernel) rfl
theorem kV_JS_init0 : Cond.instanceMethod y_JS_init0 ∈ lw_g := in_g 2254 (by decide +kernel) rfl
abbrev at_JS_init1 (dC : Nat → ClassId) (dI : Nat → Nat → Nat) (sz szl : Nat) (sa : Nat → Nat) (h0 sb va : Nat) (cpb : ClassId) (h0_value : Value) (h0_coder : Int32) (h0_hash : Int32) (h0_hashIsZero : Int32) (sb_maybeLatin1 : Int32) (sb_count : Int32) (nva : Nat) (gva : Nat → Int32) (A : Nat → Prop) (u : (Nat → Int32) × Nat × Nat × Nat × Nat) (t : State) : Prop := match u with | (gnw, kcz, knz, nnw, nw) => va_P (dC, dI) cls2 [(h0, .inr (16, [.ref nw, .int 0, .int h0_hash, .int h0_hashIsZero])), (sb, .inr (17, [.ref va, .int 0, .int sb_maybeLatin1, .int sb_count])), (va, .inl (cpb, nva, .inl gva)), (nw, .inl (cpb, nnw, .inl gnw))] t.heap ∧ va_K (dC, dI) cls2 [(cpb, .byte)] t ∧ va_D A [(h0, .inr (16, [.ref nw, .int 0, .int h0_hash, .int h0_hashIsZero])), (sb, .inr (17, [.ref va, .int 0, .int sb_maybeLatin1, .int sb_count])), (va, .inl (cpb, nva, .inl gva)), (nw, .inl (cpb, nnw, .inl gnw))] ∧ t.heap.size ≤ sz + kcz ∧ hsl t.heap ≤ szl + knz
set_option maxHeartbeats 4000000 in
set_option maxRecDepth 100000 in
theorem c_JS_init1 (l : Launch) (hlt : l.stackTraces = false) (dC : Nat → ClassId) (dI : Nat → Nat → Nat) (sz : Nat) (szl : Nat) (sa : Nat → Nat) (h0 sb va : Nat) (cpb : ClassId) (h0_value : Value) (h0_coder : Int32) (h0_hash : Int32) (h0_hashIsZero : Int32) (sb_maybeLatin1 : Int32) (sb_count : Int32) (nva : Nat) (gva : Nat → Int32)  (b_sb_count : 0 ≤ sb_count.toInt ∧ sb_count.toInt ≤ 1000000) (b_gva : ∀ j : Nat, -128 ≤ (gva j).toInt ∧ (gva j).toInt ≤ 127)   (hc : sb_count.toInt ≤ (nva : Int) ∧ (nva : Int) ≤ 500000) : Met l y_JS_init1 w_JS_init1 ({ frames := 4, cells := 1, slots := sb_count.toInt.toNat, locals := 110 }) (va_Pc [.ref h0, .ref sb] (fun U => U.heap.size = sz ∧ va_P (dC, dI) cls2 [(h0, .inr (16, [h0_value, .int h0_coder, .int h0_hash, .int h0_hashIsZero])), (sb, .inr (17, [.ref va, .int 0, .int sb_maybeLatin1, .int sb_count])), (va, .inl (cpb, nva, .inl gva))] U.heap ∧ va_K (dC, dI) cls2 [(cpb, .byte)] U ∧ va_D (fun _ => True) [(h0, .inr (16, [h0_value, .int h0_coder, .int h0_hash, .int h0_hashIsZero])), (sb, .inr (17, [.ref va, .int 0, .int sb_maybeLatin1, .int sb_count])), (va, .inl (cpb, nva, .inl gva))] ∧ sm sa (va_A [(h0, .inr (16, [h0_value, .int h0_coder, .int h0_hash, .int h0_hashIsZero])), (sb, .inr (17, [.ref va, .int 0, .int sb_maybeLatin1, .int sb_count])), (va, .inl (cpb, nva, .inl gva))] sz) U U.heap ∧ hsl U.heap = szl)) (va_Qv (fun (u : (Nat → Int32) × Nat × Nat × Nat × Nat) => match u with | (gnw2, kcz2, knz2, nnw2, nw2) => (∀ j : Nat, -128 ≤ (gnw2 j).toInt ∧ (gnw2 j).toInt ≤ 127) ∧ ((nnw2 : Int) = sb_count.toInt ∧ kcz2 = 1 ∧ knz2 = nnw2 ∧ sbl gnw2 nnw2 = sbl gva sb_count.toNatClampNeg)) (at_JS_init1 dC dI sz szl sa h0 sb va cpb h0_value h0_coder h0_hash h0_hashIsZero sb_maybeLatin1 sb_count nva gva (va_A [(h0, .inr (16, [h0_value, .int h0_coder, .int h0_hash, .int h0_hashIsZero])), (sb, .inr (17, [.ref va, .int 0, .int sb_maybeLatin1, .int sb_count])), (va, .inl (cpb, nva, .inl gva))] sz)) (va_A [(h0, .inr (16, [h0_value, .int h0_coder, .int h0_hash, .int h0_hashIsZero])), (sb, .inr (17, [.ref va, .int 0, .int sb_maybeLatin1, .int sb_count])), (va, .inl (cpb, nva, .inl gva))] sz)) (1) (sb_count.toInt.toNat) (va_A [(h0, .inr (16, [h0_value, .int h0_coder, .int h0_hash, .int h0_hashIsZero])), (sb, .inr (17, [.ref va, .int 0, .int sb_maybeLatin1, .int sb_count])), (va, .inl (cpb, nva, .inl gva))] sz) := by
  refine Met.ofW (cc := b_JS_init1) (maxL := 2) (ret := none) (by decide) rfl ?_
  intro p e s m args below meth c s₁ B hml hv
  obtain ⟨rfl, hsz, hP, hK, hD0, hSW, hszl⟩ := hv
  have hx := B.exec
  have hb := B.bytes
  have hr := B.returns
  have hts0 := atoms_spec (ws := w_JS_init1) B.pre
  have hts : ∀ w ∈ lw_g, w.before _ s = true := fun w h => hts0 w (List.mem_cons_of_mem _ h)
  have hown : s.vm.findClass R_JS = some m.cls := findClass_of_methodNamed B.named
  have hlocks := B.notSynchronized
  clear hts0
  subst hsz
  subst hszl
  have hD := hD0.self (sz := s.heap.size)
  generalize hAe : va_A [(h0, .inr (16, [h0_value, .int h0_coder, .int h0_hash, .int h0_hashIsZero])), (sb, .inr (17, [.ref va, .int 0, .int sb_maybeLatin1, .int sb_count])), (va, .inl (cpb, nva, .inl gva))] s.heap.size = A at hD hSW ⊢
  have hA : ∀ q : Nat, s.heap.size ≤ q → A q := fun q h => by rw [← hAe]; exact Or.inr h
  clear hAe
  have hP : va_P (dC, dI) cls2 [(h0, .inr (16, [h0_value, .int h0_coder, .int h0_hash, .int h0_hashIsZero])), (sb, .inr (17, [.ref va, .int 0, .int sb_maybeLatin1, .int sb_count])), (va, .inl (cpb, nva, .inl gva))] s.heap := hP
  have hl := lv_entry ([.ref h0, .ref sb]) (n := 2) (Nat.le_of_ble_eq_true rfl)
  rw [lg_entry_eq]
  generalize (lg_sl ([.ref h0, .ref sb]) ++ List.replicate (2 - (lg_sl ([.ref h0, .ref sb])).length) Slot.unset).toArray = ls at hl ⊢
  have hl : lv_has ls 2 [(0, .ref h0), (1, .ref sb)] := hl
  have k0 : (0 : Int32).toInt = 0 := by decide
  refine w_gen (A := A) hP (fun H locs hP hS => ?_)
  have hin : meth.name = "<init>" := (name_of_methodNamed B.named B.method).1
  refine lv_aload_n hx hb d_JS_init1_0 rfl (lv_at hl 0 rfl) ?_
  refine lv_aload_n hx hb d_JS_init1_1 rfl (lv_at hl 1 rfl) ?_
  refine lv_null hx hb d_JS_init1_2 ?_
  refine w_known (fun hzc hzs => ?_)
  have hPc := hP.sub (ws' := [(h0, .inr (16, [h0_value, .int h0_coder, .int h0_hash, .int h0_hashIsZero])), (sb, .inr (17, [.ref va, .int 0, .int sb_maybeLatin1, .int sb_count])), (va, .inl (cpb, nva, .inl gva))]) [0, 1, 2] rfl
  have hDc := hD.sub (ws' := [(h0, .inr (16, [h0_value, .int h0_coder, .int h0_hash, .int h0_hashIsZero])), (sb, .inr (17, [.ref va, .int 0, .int sb_maybeLatin1, .int sb_count])), (va, .inl (cpb, nva, .inl gva))]) [0, 1, 2] (by decide) rfl
  have hKc := hK.sub (tys' := [(cpb, .byte)]) [0] rfl
  have hFc := va_free (wc := [(h0, .inr (16, [h0_value, .int h0_coder, .int h0_hash, .int h0_hashIsZero])), (sb, .inr (17, [.ref va, .int 0, .int sb_maybeLatin1, .int sb_count])), (va, .inl (cpb, nva, .inl gva))]) hD hS hA [0, 1, 2] rfl
  refine va_callv (va_runI (As := [.ref sb, .null]) (rest := []) ⟨hx, hb, hml, hown, hts⟩ (c_JS_init0 l hlt dC dI H.size (hsl H) sa h0 sb va cpb h0_value h0_coder h0_hash h0_hashIsZero sb_maybeLatin1 sb_count nva gva (b_sb_count) (b_gva) (hc)) ⟨callB_of 2 hts (gW kC_JS_init0) rfl rfl rfl (hts _ kI_JS) (hts _ kM_JS_489) (by decide +kernel) ⟨Nat.le_of_ble_eq_true rfl, Nat.le_of_ble_eq_true rfl⟩, rfl, hts _ kV_JS_init0⟩ ⟨fun a U g mk z => by obtain ⟨z0, z1, zP, zK, zD, zS, zZ⟩ := z; exact ⟨z0, z1, zP, va_K.moved (u := U) (U := U.calling g mk a) (Vm.Alike.refl U.vm) zK, zD, sm.same (u := U) (U := U.calling g mk a) rfl zS, zZ⟩, fun U hU hW => ⟨rfl, by rw [hU], by rw [hU]; exact hPc, va_K.moved hW.alike hKc, hDc.weaken (fun _ _ _ _ => trivial), hSW.call hS hFc hW hU, by rw [hU]⟩⟩ rfl rfl hl.1 rfl (lv_room (Nat.le_of_ble_eq_true rfl)) d_JS_init1_3 ⟨by dsimp only [headSpec]; omega, by dsimp only [headSpec]; omega⟩) hS (fun q _ h => hFc q h) hFc (fun u t H1 locs ht hvm hw hB hz1 hk1 hS => ?_)
  obtain ⟨n2, n3, n4, n5, nq3_nw⟩ := u
  try dsimp only at hw
  obtain ⟨bn2, xr1⟩ := hw
  try clear hw
  obtain ⟨hP1, hK1, hD1, hZc, hZs⟩ := hB
  rw [ht] at hP1 hZc hZs
  obtain ⟨kc6, ekc6⟩ : ∃ z : Nat, z = 0 + n3 := ⟨_, rfl⟩
  obtain ⟨kn7, ekn7⟩ : ∃ z : Nat, z = 0 + n4 := ⟨_, rfl⟩
  refine w_refund (c2 := kc6) (n2 := kn7) (by omega) (by omega) ?_
  clear hzc hzs hZc hZs
  obtain ⟨hP, hD⟩ := va_join (wr := []) (w1 := [(h0, .inr (16, [.ref nq3_nw, .int 0, .int h0_hash, .int h0_hashIsZero])), (sb, .inr (17, [.ref va, .int 0, .int sb_maybeLatin1, .int sb_count])), (va, .inl (cpb, nva, .inl gva)), (nq3_nw, .inl (cpb, n5, .inl n2))]) hP hD [0, 1, 2] [] rfl rfl (by decide) (by decide) hk1 hFc hP1 hD1
  clear hPc hDc hKc hFc hz1 hk1 hP1 hK1 hD1
  generalize H1 = H at hP hS ⊢
  have hP : va_P (dC, dI) cls2 [(h0, .inr (16, [.ref nq3_nw, .int 0, .int h0_hash, .int h0_hashIsZero])), (sb, .inr (17, [.ref va, .int 0, .int sb_maybeLatin1, .int sb_count])), (va, .inl (cpb, nva, .inl gva)), (nq3_nw, .inl (cpb, n5, .inl n2))] H := hP
  have hD : va_D A [(h0, .inr (16, [.ref nq3_nw, .int 0, .int h0_hash, .int h0_hashIsZero])), (sb, .inr (17, [.ref va, .int 0, .int sb_maybeLatin1, .int sb_count])), (va, .inl (cpb, nva, .inl gva)), (nq3_nw, .inl (cpb, n5, .inl n2))] := hD
  have hP9 := hP.sub (ws' := [(h0, .inr (16, [.ref nq3_nw, .int 0, .int h0_hash, .int h0_hashIsZero])), (sb, .inr (17, [.ref va, .int 0, .int sb_maybeLatin1, .int sb_count])), (va, .inl (cpb, nva, .inl gva)), (nq3_nw, .inl (cpb, n5, .inl n2))]) [0, 1, 2, 3] rfl
  have hD9 := hD.sub (ws' := [(h0, .inr (16, [.ref nq3_nw, .int 0, .int h0_hash, .int h0_hashIsZero])), (sb, .inr (17, [.ref va, .int 0, .int sb_maybeLatin1, .int sb_count])), (va, .inl (cpb, nva, .inl gva)), (nq3_nw, .inl (cpb, n5, .inl n2))]) [0, 1, 2, 3] (by decide) rfl
  refine w_known (fun hzc hzs => ?_)
  refine W.widen (k := 1) (n := sb_count.toInt.toNat) (by omega) (by omega) ?_
  exact W.vret hx hb hr (fun t ht hW => ⟨⟨(n2, kc6, kn7, n5, nq3_nw), rfl, ⟨bn2, ⟨xr1.1, by have := xr1.2.1; omega, by have := xr1.2.2.1; omega, xr1.2.2.2⟩⟩, by rw [ht]; exact hP9, va_K.moved hW.alike hK, hD9, by rw [ht]; exact hzc, by rw [ht]; exact hzs⟩, hS.F ht⟩) hS.2.2 d_JS_init1_6
theorem d_JB_toString_0 : decode b_JB_toString 0 = .ok (.new 18, 3) := by decide +kernel
theorem d_JB_toString_3 : decode b_JB_toString 3 = .ok (.dup, 1) := by decide +kernel
theorem d_JB_toString_4 : decode b_JB_toString 4 = .ok (.aload_n 0, 1) := by decide +kernel
theorem d_JB_toString_5 : decode b_JB_toString 5 = .ok (.invokespecial 137, 3) := by decide +kernel
theorem d_JB_toString_8 : decode b_JB_toString 8 = .ok (.areturn, 1) := by decide +kernel
theorem kM_JB_137 : Cond.methodLink R_JB 137 y_JS_init1 ∈ lw_g := in_g 2250 (by decide +kernel) rfl
theorem kV_JS_init1 : Cond.instanceMethod y_JS_init1 ∈ lw_g := in_g 2251 (by decide +kernel) rfl
theorem kK_JB_18 : Cond.classLink R_JB 18 "java/lang/String" ∈ lw_g := in_g 2248 (by decide +kernel) rfl
theorem kN_JS : Cond.instantiable R_JS 4 ∈ lw_g := in_g 2249 (by decide +kernel) rfl
abbrev at_JB_toString (dC : Nat → ClassId) (dI : Nat → Nat → Nat) (sz szl : Nat) (sa : Nat → Nat) (h0 va : Nat) (cpb : ClassId) (h0_maybeLatin1 : Int32) (h0_count : Int32) (nva : Nat) (gva : Nat → Int32) (A : Nat → Prop) (u : (Nat → Int32) × Nat × Nat × Nat × Nat × Nat) (t : State) : Prop := match u with | (gnw, kcz, knz, nnw, ns, nw) => va_P (dC, dI) cls2 [(h0, .inr (17, [.ref va, .int 0, .int h0_maybeLatin1, .int h0_count])), (va, .inl (cpb, nva, .inl gva)), (ns, .inr (16, [.ref nw, .int 0, .int 0, .int 0])), (nw, .inl (cpb, nnw, .inl gnw))] t.heap ∧ va_K (dC, dI) cls2 [(cpb, .byte)] t ∧ va_D A [(h0, .inr (17, [.ref va, .int 0, .int h0_maybeLatin1, .int h0_count])), (va, .inl (cpb, nva, .inl gva)), (ns, .inr (16, [.ref nw, .int 0, .int 0, .int 0])), (nw, .inl (cpb, nnw, .inl gnw))] ∧ t.heap.size ≤ sz + kcz ∧ hsl t.heap ≤ szl + knz
set_option maxHeartbeats 4000000 in
set_option maxRecDepth 100000 in
theorem c_JB_toString (l : Launch) (hlt : l.stackTraces = false) (dC : Nat → ClassId) (dI : Nat → Nat → Nat) (sz : Nat) (szl : Nat) (sa : Nat → Nat) (h0 va : Nat) (cpb : ClassId) (h0_maybeLatin1 : Int32) (h0_count : Int32) (nva : Nat) (gva : Nat → Int32)  (b_h0_count : 0 ≤ h0_count.toInt ∧ h0_count.toInt ≤ 1000000) (b_gva : ∀ j : Nat, -128 ≤ (gva j).toInt ∧ (gva j).toInt ≤ 127)   (hc : h0_count.toInt ≤ (nva : Int) ∧ (nva : Int) ≤ 500000) : Met l y_JB_toString w_JB_toString ({ frames := 5, cells := 2, slots := 4 + h0_count.toInt.toNat, locals := 131 }) (va_Pc [.ref h0] (fun U => U.heap.size = sz ∧ va_P (dC, dI) cls2 [(h0, .inr (17, [.ref va, .int 0, .int h0_maybeLatin1, .int h0_count])), (va, .inl (cpb, nva, .inl gva))] U.heap ∧ va_K (dC, dI) cls2 [(cpb, .byte)] U ∧ va_D (fun _ => True) [(h0, .inr (17, [.ref va, .int 0, .int h0_maybeLatin1, .int h0_count])), (va, .inl (cpb, nva, .inl gva))] ∧ sm sa (va_A [(h0, .inr (17, [.ref va, .int 0, .int h0_maybeLatin1, .int h0_count])), (va, .inl (cpb, nva, .inl gva))] sz) U U.heap ∧ hsl U.heap = szl)) (va_Qr (fun (u : (Nat → Int32) × Nat × Nat × Nat × Nat × Nat) => match u with | (gnw2, kcz2, knz2, nnw2, ns2, nw2) => (∀ j : Nat, -128 ≤ (gnw2 j).toInt ∧ (gnw2 j).toInt ≤ 127) ∧ ((nnw2 : Int) = h0_count.toInt ∧ kcz2 = 2 ∧ knz2 = 4 + nnw2 ∧ sbl gnw2 nnw2 = sbl gva h0_count.toNatClampNeg)) (fun (u : (Nat → Int32) × Nat × Nat × Nat × Nat × Nat) (ra : Nat) (t : State) => (match u with | (gnw, kcz, knz, nnw, ns, nw) => ns) = ra ∧ (at_JB_toString dC dI sz szl sa h0 va cpb h0_maybeLatin1 h0_count nva gva (va_A [(h0, .inr (17, [.ref va, .int 0, .int h0_maybeLatin1, .int h0_count])), (va, .inl (cpb, nva, .inl gva))] sz)) u t) (va_A [(h0, .inr (17, [.ref va, .int 0, .int h0_maybeLatin1, .int h0_count])), (va, .inl (cpb, nva, .inl gva))] sz)) (2) (4 + h0_count.toInt.toNat) (va_A [(h0, .inr (17, [.ref va, .int 0, .int h0_maybeLatin1, .int h0_count])), (va, .inl (cpb, nva, .inl gva))] sz) := by
  refine Met.ofW (cc := b_JB_toString) (maxL := 1) (ret := (Option.some (.object "java/lang/String"))) (by decide) rfl ?_
  intro p e s m args below meth c s₁ B hml hv
  obtain ⟨rfl, hsz, hP, hK, hD0, hSW, hszl⟩ := hv
  have hx := B.exec
  have hb := B.bytes
  have hr := B.returns
  have hts0 := atoms_spec (ws := w_JB_toString) B.pre
  have hts : ∀ w ∈ lw_g, w.before _ s = true := fun w h => hts0 w (List.mem_cons_of_mem _ h)
  have hown : s.vm.findClass R_JB = some m.cls := findClass_of_methodNamed B.named
  have hlocks := B.notSynchronized
  clear hts0
  subst hsz
  subst hszl
  have hD := hD0.self (sz := s.heap.size)
  generalize hAe : va_A [(h0, .inr (17, [.ref va, .int 0, .int h0_maybeLatin1, .int h0_count])), (va, .inl (cpb, nva, .inl gva))] s.heap.size = A at hD hSW ⊢
  have hA : ∀ q : Nat, s.heap.size ≤ q → A q := fun q h => by rw [← hAe]; exact Or.inr h
  clear hAe
  have hP : va_P (dC, dI) cls2 [(h0, .inr (17, [.ref va, .int 0, .int h0_maybeLatin1, .int h0_count])), (va, .inl (cpb, nva, .inl gva))] s.heap := hP
  have hl := lv_entry ([.ref h0]) (n := 1) (Nat.le_of_ble_eq_true rfl)
  rw [lg_entry_eq]
  generalize (lg_sl ([.ref h0]) ++ List.replicate (1 - (lg_sl ([.ref h0])).length) Slot.unset).toArray = ls at hl ⊢
  have hl : lv_has ls 1 [(0, .ref h0)] := hl
  have k0 : (0 : Int32).toInt = 0 := by decide
  refine w_gen (A := A) hP (fun H locs hP hS => ?_)
  refine va_new (ci := 16) (fs := [.null, .int 0, .int 0, .int 0]) (C := R_JS) (T := F_JS) (N := 4) hx hb hts i_JS t_JS t_JS_ok hown (hts _ kK_JB_18) (hts _ kN_JS) (hts _ kI_JS) hK hP hD hS hA rfl (lt_all (by decide)) (by dsimp only [headSpec]; omega) (by dsimp only [headSpec]; omega) d_JB_toString_0 (fun nq0 H hP hD hS => ?_)
  have hP : va_P (dC, dI) cls2 [(h0, .inr (17, [.ref va, .int 0, .int h0_maybeLatin1, .int h0_count])), (va, .inl (cpb, nva, .inl gva)), (nq0, .inr (16, [.null, .int 0, .int 0, .int 0]))] H := hP
  have hD : va_D A [(h0, .inr (17, [.ref va, .int 0, .int h0_maybeLatin1, .int h0_count])), (va, .inl (cpb, nva, .inl gva)), (nq0, .inr (16, [.null, .int 0, .int 0, .int 0]))] := hD
  refine lv_dup hx hb d_JB_toString_3 rfl ?_
  refine lv_aload_n hx hb d_JB_toString_4 rfl (lv_at hl 0 rfl) ?_
  refine w_known (fun hzc hzs => ?_)
  have hPc := hP.sub (ws' := [(nq0, .inr (16, [.null, .int 0, .int 0, .int 0])), (h0, .inr (17, [.ref va, .int 0, .int h0_maybeLatin1, .int h0_count])), (va, .inl (cpb, nva, .inl gva))]) [2, 0, 1] rfl
  have hDc := hD.sub (ws' := [(nq0, .inr (16, [.null, .int 0, .int 0, .int 0])), (h0, .inr (17, [.ref va, .int 0, .int h0_maybeLatin1, .int h0_count])), (va, .inl (cpb, nva, .inl gva))]) [2, 0, 1] (by decide) rfl
  have hKc := hK.sub (tys' := [(cpb, .byte)]) [0] rfl
  have hFc := va_free (wc := [(nq0, .inr (16, [.null, .int 0, .int 0, .int 0])), (h0, .inr (17, [.ref va, .int 0, .int h0_maybeLatin1, .int h0_count])), (va, .inl (cpb, nva, .inl gva))]) hD hS hA [2, 0, 1] rfl
  refine va_callv (va_runI (As := [.ref h0]) (rest := [.ref nq0]) ⟨hx, hb, hml, hown, hts⟩ (c_JS_init1 l hlt dC dI H.size (hsl H) sa nq0 h0 va cpb .null 0 0 0 h0_maybeLatin1 h0_count nva gva (b_h0_count) (b_gva) (hc)) ⟨callB_of 1 hts (gW kC_JS_init1) rfl rfl rfl (hts _ kI_JS) (hts _ kM_JB_137) (by decide +kernel) ⟨Nat.le_of_ble_eq_true rfl, Nat.le_of_ble_eq_true rfl⟩, rfl, hts _ kV_JS_init1⟩ ⟨fun a U g mk z => by obtain ⟨z0, z1, zP, zK, zD, zS, zZ⟩ := z; exact ⟨z0, z1, zP, va_K.moved (u := U) (U := U.calling g mk a) (Vm.Alike.refl U.vm) zK, zD, sm.same (u := U) (U := U.calling g mk a) rfl zS, zZ⟩, fun U hU hW => ⟨rfl, by rw [hU], by rw [hU]; exact hPc, va_K.moved hW.alike hKc, hDc.weaken (fun _ _ _ _ => trivial), hSW.call hS hFc hW hU, by rw [hU]⟩⟩ rfl rfl hl.1 rfl (lv_room (Nat.le_of_ble_eq_true rfl)) d_JB_toString_5 ⟨by dsimp only [headSpec]; omega, by dsimp only [headSpec]; omega⟩) hS (fun q _ h => hFc q h) hFc (fun u t H1 locs ht hvm hw hB hz1 hk1 hS => ?_)
  obtain ⟨n2, n3, n4, n5, nq5_nw⟩ := u
  try dsimp only at hw
  obtain ⟨bn2, xr1⟩ := hw
  try clear hw
  obtain ⟨y1, y2, y3, y4⟩ := xr1
  obtain ⟨hP1, hK1, hD1, hZc, hZs⟩ := hB
  rw [ht] at hP1 hZc hZs
  obtain ⟨kc6, ekc6⟩ : ∃ z : Nat, z = 0 + 1 + n3 := ⟨_, rfl⟩
  obtain ⟨kn7, ekn7⟩ : ∃ z : Nat, z = 0 + 4 + n4 := ⟨_, rfl⟩
  refine w_refund (c2 := kc6) (n2 := kn7) (by omega) (by omega) ?_
  clear hzc hzs hZc hZs
  obtain ⟨hP, hD⟩ := va_join (wr := []) (w1 := [(nq0, .inr (16, [.ref nq5_nw, .int 0, .int 0, .int 0])), (h0, .inr (17, [.ref va, .int 0, .int h0_maybeLatin1, .int h0_count])), (va, .inl (cpb, nva, .inl gva)), (nq5_nw, .inl (cpb, n5, .inl n2))]) hP hD [2, 0, 1] [] rfl rfl (by decide) (by decide) hk1 hFc hP1 hD1
  clear hPc hDc hKc hFc hz1 hk1 hP1 hK1 hD1
  generalize H1 = H at hP hS ⊢
  have hP : va_P (dC, dI) cls2 [(nq0, .inr (16, [.ref nq5_nw, .int 0, .int 0, .int 0])), (h0, .inr (17, [.ref va, .int 0, .int h0_maybeLatin1, .int h0_count])), (va, .inl (cpb, nva, .inl gva)), (nq5_nw, .inl (cpb, n5, .inl n2))] H := hP
  have hD : va_D A [(nq0, .inr (16, [.ref nq5_nw, .int 0, .int 0, .int 0])), (h0, .inr (17, [.ref va, .int 0, .int h0_maybeLatin1, .int h0_count])), (va, .inl (cpb, nva, .inl gva)), (nq5_nw, .inl (cpb, n5, .inl n2))] := hD
  have hP9 := hP.sub (ws' := [(h0, .inr (17, [.ref va, .int 0, .int h0_maybeLatin1, .int h0_count])), (va, .inl (cpb, nva, .inl gva)), (nq0, .inr (16, [.ref nq5_nw, .int 0, .int 0, .int 0])), (nq5_nw, .inl (cpb, n5, .inl n2))]) [1, 2, 0, 3] rfl
  have hD9 := hD.sub (ws' := [(h0, .inr (17, [.ref va, .int 0, .int h0_maybeLatin1, .int h0_count])), (va, .inl (cpb, nva, .inl gva)), (nq0, .inr (16, [.ref nq5_nw, .int 0, .int 0, .int 0])), (nq5_nw, .inl (cpb, n5, .inl n2))]) [1, 2, 0, 3] (by decide) rfl
  refine w_known (fun hzc hzs => ?_)
  refine W.widen (k := 2) (n := 4 + h0_count.toInt.toNat) (by omega) (by omega) ?_
  exact W.aret (v := .ref nq0) hx hb hr (Or.inl ⟨_, rfl⟩) (Or.inr ⟨_, rfl⟩) (fun t ht hW => ⟨⟨(n2, kc6, kn7, n5, nq0, nq5_nw), nq0, rfl, ⟨bn2, ⟨by omega, by omega, by omega, y4⟩⟩, rfl, by rw [ht]; exact hP9, va_K.moved hW.alike hK, hD9, by rw [ht]; exact hzc, by rw [ht]; exact hzs⟩, hS.F ht⟩) hS.2.2 d_JB_toString_8

section q_m78
/-! a text is made of a StringBuilder -/
abbrev b_JS_init0 : ByteArray := prog_33_method_150_code
def y_JS_init0 : MethodName := ⟨R_JS, "<init>", "(Ljava/lang/AbstractStringBuilder;Ljava/lang/Void;)V"⟩
abbrev w_JS_init0 : List Cond := .code y_JS_init0 b_JS_init0 5 none :: lw_g
theorem kC_JS_init0 : Cond.code y_JS_init0 b_JS_init0 5 none ∈ lw_g := in_c10 95 rfl rfl
theorem d_JS_init0_0 : decode b_JS_init0 0 = .ok (.aload_n 0, 1) := bz_c42 (by decide +kernel)
theorem d_JS_init0_1 : decode b_JS_init0 1 = .ok (.invokespecial 1, 3) := bz_c183 (by decide +kernel)
theorem d_JS_init0_4 : decode b_JS_init0 4 = .ok (.aload_n 1, 1) := bz_c43 (by decide +kernel)
theorem d_JS_init0_5 : decode b_JS_init0 5 = .ok (.invokevirtual 552, 3) := bz_c182 (by decide +kernel)
theorem d_JS_init0_8 : decode b_JS_init0 8 = .ok (.astore_n 3, 1) := bz_c78 (by decide +kernel)
theorem d_JS_init0_9 : decode b_JS_init0 9 = .ok (.aload_n 1, 1) := bz_c43 (by decide +kernel)
theorem d_JS_init0_10 : decode b_JS_init0 10 = .ok (.invokevirtual 549, 3) := bz_c182 (by decide +kernel)
theorem d_JS_init0_13 : decode b_JS_init0 13 = .ok (.istore 4, 2) := bz_c54 (by decide +kernel)
theorem d_JS_init0_15 : decode b_JS_init0 15 = .ok (.aload_n 1, 1) := bz_c43 (by decide +kernel)
theorem d_JS_init0_16 : decode b_JS_init0 16 = .ok (.invokevirtual 1047, 3) := bz_c182 (by decide +kernel)
theorem d_JS_init0_19 : decode b_JS_init0 19 = .ok (.ifCond .eq 22, 3) := bz_c153 (by decide +kernel)
theorem d_JS_init0_22 : decode b_JS_init0 22 = .ok (.aload_n 0, 1) := bz_c42 (by decide +kernel)
theorem d_JS_init0_23 : decode b_JS_init0 23 = .ok (.iconst 0, 1) := bz_c3 (by decide +kernel)
theorem d_JS_init0_24 : decode b_JS_init0 24 = .ok (.putfield 15, 3) := bz_c181 (by decide +kernel)
theorem d_JS_init0_27 : decode b_JS_init0 27 = .ok (.aload_n 0, 1) := bz_c42 (by decide +kernel)
theorem d_JS_init0_28 : decode b_JS_init0 28 = .ok (.aload_n 3, 1) := bz_c45 (by decide +kernel)
theorem d_JS_init0_29 : decode b_JS_init0 29 = .ok (.iconst 0, 1) := bz_c3 (by decide +kernel)
theorem d_JS_init0_30 : decode b_JS_init0 30 = .ok (.iload 4, 2) := bz_c21 (by decide +kernel)
theorem d_JS_init0_32 : decode b_JS_init0 32 = .ok (.invokestatic 54, 3) := bz_c184 (by decide +kernel)
theorem d_JS_init0_35 : decode b_JS_init0 35 = .ok (.putfield 9, 3) := bz_c181 (by decide +kernel)
theorem d_JS_init0_38 : decode b_JS_init0 38 = .ok (.goto 59, 3) := bz_c167 (by decide +kernel)
theorem d_JS_init0_41 : decode b_JS_init0 41 = .ok (.getstatic 38, 3) := bz_c178 (by decide +kernel)
theorem d_JS_init0_44 : decode b_JS_init0 44 = .ok (.ifCond .eq 35, 3) := bz_c153 (by decide +kernel)
theorem d_JS_init0_47 : decode b_JS_init0 47 = .ok (.aload_n 1, 1) := bz_c43 (by decide +kernel)
theorem d_JS_init0_48 : decode b_JS_init0 48 = .ok (.getfield 1048, 3) := bz_c180 (by decide +kernel)
theorem d_JS_init0_51 : decode b_JS_init0 51 = .ok (.ifCond .eq 28, 3) := bz_c153 (by decide +kernel)
theorem d_JS_init0_54 : decode b_JS_init0 54 = .ok (.aload_n 0, 1) := bz_c42 (by decide +kernel)
theorem d_JS_init0_55 : decode b_JS_init0 55 = .ok (.aload_n 3, 1) := bz_c45 (by decide +kernel)
theorem d_JS_init0_56 : decode b_JS_init0 56 = .ok (.iconst 0, 1) := bz_c3 (by decide +kernel)
theorem d_JS_init0_57 : decode b_JS_init0 57 = .ok (.iload 4, 2) := bz_c21 (by decide +kernel)
theorem d_JS_init0_59 : decode b_JS_init0 59 = .ok (.invokestatic 1051, 3) := bz_c184 (by decide +kernel)
theorem d_JS_init0_62 : decode b_JS_init0 62 = .ok (.putfield 9, 3) := bz_c181 (by decide +kernel)
theorem d_JS_init0_65 : decode b_JS_init0 65 = .ok (.aload_n 0, 1) := bz_c42 (by decide +kernel)
theorem d_JS_init0_66 : decode b_JS_init0 66 = .ok (.aload_n 0, 1) := bz_c42 (by decide +kernel)
theorem d_JS_init0_67 : decode b_JS_init0 67 = .ok (.getfield 9, 3) := bz_c180 (by decide +kernel)
theorem d_JS_init0_70 : decode b_JS_init0 70 = .ok (.iload 4, 2) := bz_c21 (by decide +kernel)
theorem d_JS_init0_72 : decode b_JS_init0 72 = .ok (.invokestatic 47, 3) := bz_c184 (by decide +kernel)
theorem d_JS_init0_75 : decode b_JS_init0 75 = .ok (.putfield 15, 3) := bz_c181 (by decide +kernel)
theorem d_JS_init0_78 : decode b_JS_init0 78 = .ok (.return_, 1) := bz_c177 (by decide +kernel)
theorem d_JS_init0_79 : decode b_JS_init0 79 = .ok (.aload_n 0, 1) := bz_c42 (by decide +kernel)
theorem d_JS_init0_80 : decode b_JS_init0 80 = .ok (.iconst 1, 1) := bz_c4 (by decide +kernel)
theorem d_JS_init0_81 : decode b_JS_init0 81 = .ok (.putfield 15, 3) := bz_c181 (by decide +kernel)
theorem d_JS_init0_84 : decode b_JS_init0 84 = .ok (.aload_n 0, 1) := bz_c42 (by decide +kernel)
theorem d_JS_init0_85 : decode b_JS_init0 85 = .ok (.aload_n 3, 1) := bz_c45 (by decide +kernel)
theorem d_JS_init0_86 : decode b_JS_init0 86 = .ok (.iconst 0, 1) := bz_c3 (by decide +kernel)
theorem d_JS_init0_87 : decode b_JS_init0 87 = .ok (.iload 4, 2) := bz_c21 (by decide +kernel)
theorem d_JS_init0_89 : decode b_JS_init0 89 = .ok (.iconst 1, 1) := bz_c4 (by decide +kernel)
theorem d_JS_init0_90 : decode b_JS_init0 90 = .ok (.ishl, 1) := by decide +kernel
theorem d_JS_init0_91 : decode b_JS_init0 91 = .ok (.invokestatic 54, 3) := bz_c184 (by decide +kernel)
theorem d_JS_init0_94 : decode b_JS_init0 94 = .ok (.putfield 9, 3) := bz_c181 (by decide +kernel)
theorem d_JS_init0_97 : decode b_JS_init0 97 = .ok (.return_, 1) := bz_c177 (by decide +kernel)
theorem kM_JS_552 : Cond.methodLink R_JS 552 y_JQ_getValue ∈ lw_g := in_c10 97 rfl rfl
theorem kV_JQ_getValue : Cond.instanceMethod y_JQ_getValue ∈ lw_g := in_c10 98 rfl rfl
theorem kM_JS_549 : Cond.methodLink R_JS 549 y_JQ_length ∈ lw_g := in_c10 102 rfl rfl
theorem kM_JS_1047 : Cond.methodLink R_JS 1047 y_JQ_isLatin1 ∈ lw_g := in_c10 110 rfl rfl
theorem kM_JS_54 : Cond.methodLink R_JS 54 y_JA_copyOfRange ∈ lw_g := in_c10 111 rfl rfl
theorem kT_JA_copyOfRange : Cond.static y_JA_copyOfRange ∈ lw_g := in_c10 112 rfl rfl
abbrev b_JF_compress0 : ByteArray := prog_36_method_17_code
def y_JF_compress0 : MethodName := ⟨R_JF, "compress", "([BII)[B"⟩
abbrev w_JF_compress0 : List Cond := .code y_JF_compress0 b_JF_compress0 6 (Option.some (.array .byte)) :: lw_g
theorem kC_JF_compress0 : Cond.code y_JF_compress0 b_JF_compress0 6 (Option.some (.array .byte)) ∈ lw_g := in_c10 203 rfl rfl
theorem kM_JS_1051 : Cond.methodLink R_JS 1051 y_JF_compress0 ∈ lw_g := in_c10 201 rfl rfl
theorem kT_JF_compress0 : Cond.static y_JF_compress0 ∈ lw_g := in_c10 202 rfl rfl
abbrev b_JF_coderFromArrayLen : ByteArray := prog_36_method_15_code
def y_JF_coderFromArrayLen : MethodName := ⟨R_JF, "coderFromArrayLen", "([BI)B"⟩
abbrev w_JF_coderFromArrayLen : List Cond := .code y_JF_coderFromArrayLen b_JF_coderFromArrayLen 2 (Option.some .byte) :: lw_g
theorem kC_JF_coderFromArrayLen : Cond.code y_JF_coderFromArrayLen b_JF_coderFromArrayLen 2 (Option.some .byte) ∈ lw_g := in_c10 210 rfl rfl
theorem kM_JS_47 : Cond.methodLink R_JS 47 y_JF_coderFromArrayLen ∈ lw_g := in_c10 208 rfl rfl
theorem kT_JF_coderFromArrayLen : Cond.static y_JF_coderFromArrayLen ∈ lw_g := in_c10 209 rfl rfl
theorem kM_JS_1 : Cond.methodLink R_JS 1 Lib.objectInit ∈ lw_g := in_c10 96 rfl rfl
theorem kSM_JQ_getValue : Cond.sameMethod R_JQ R_JQ "getValue" "()[B" ∈ lw_g := in_c10 99 rfl rfl
theorem kS2_JQ_getValue : Cond.selects R_JB y_JQ_getValue y_JQ_getValue ∈ lw_g := in_c10 100 rfl rfl
theorem kV_JB_length : Cond.instanceMethod y_JB_length ∈ lw_g := in_c10 106 rfl rfl
theorem kS3_len : Cond.selects R_JB y_JQ_length y_JB_length ∈ lw_g := in_c10 105 rfl rfl
abbrev at_JS_init0 (dC : Nat → ClassId) (dI : Nat → Nat → Nat) (sz szl : Nat) (sa : Nat → Nat) (h0 sb va : Nat) (cpb : ClassId) (h0_value : Value) (h0_coder : Int32) (h0_hash : Int32) (h0_hashIsZero : Int32) (sb_maybeLatin1 : Int32) (sb_count : Int32) (nva : Nat) (gva : Nat → Int32) (A : Nat → Prop) (u : (Nat → Int32) × Nat × Nat × Nat × Nat) (t : State) : Prop := match u with | (gnw, kcz, knz, nnw, nw) => va_P (dC, dI) cls2 (wz_489 h0 nw 0 h0_hash h0_hashIsZero sb va 0 sb_maybeLatin1 sb_count va cpb nva gva nw cpb nnw gnw) t.heap ∧ va_K (dC, dI) cls2 [(cpb, .byte)] t ∧ va_D A (wz_489 h0 nw 0 h0_hash h0_hashIsZero sb va 0 sb_maybeLatin1 sb_count va cpb nva gva nw cpb nnw gnw) ∧ t.heap.size ≤ sz + kcz ∧ hsl t.heap ≤ szl + knz
set_option maxHeartbeats 4000000 in
set_option maxRecDepth 100000 in
theorem c_JS_init0 (l : Launch) (hlt : l.stackTraces = false) (dC : Nat → ClassId) (dI : Nat → Nat → Nat) (sz : Nat) (szl : Nat) (sa : Nat → Nat) (h0 sb va : Nat) (cpb : ClassId) (h0_value : Value) (h0_coder : Int32) (h0_hash : Int32) (h0_hashIsZero : Int32) (sb_maybeLatin1 : Int32) (sb_count : Int32) (nva : Nat) (gva : Nat → Int32)  (b_sb_count : 0 ≤ sb_count.toInt ∧ sb_count.toInt ≤ 1000000) (b_gva : ∀ j : Nat, -128 ≤ (gva j).toInt ∧ (gva j).toInt ≤ 127)   (hc : sb_count.toInt ≤ (nva : Int) ∧ (nva : Int) ≤ 500000) : Met l y_JS_init0 w_JS_init0 ({ frames := 3, cells := 1, slots := sb_count.toInt.toNat, locals := 86 }) (va_Pc [.ref h0, .ref sb, .null] (fun U => U.heap.size = sz ∧ va_P (dC, dI) cls2 (wz_490 h0 h0_value h0_coder h0_hash h0_hashIsZero sb va 0 sb_maybeLatin1 sb_count va cpb nva gva) U.heap ∧ va_K (dC, dI) cls2 [(cpb, .byte)] U ∧ va_D (fun _ => True) (wz_490 h0 h0_value h0_coder h0_hash h0_hashIsZero sb va 0 sb_maybeLatin1 sb_count va cpb nva gva) ∧ sm sa (va_A (wz_490 h0 h0_value h0_coder h0_hash h0_hashIsZero sb va 0 sb_maybeLatin1 sb_count va cpb nva gva) sz) U U.heap ∧ hsl U.heap = szl)) (va_Qv (fun (u : (Nat → Int32) × Nat × Nat × Nat × Nat) => match u with | (gnw2, kcz2, knz2, nnw2, nw2) => (∀ j : Nat, -128 ≤ (gnw2 j).toInt ∧ (gnw2 j).toInt ≤ 127) ∧ ((nnw2 : Int) = sb_count.toInt ∧ kcz2 = 1 ∧ knz2 = nnw2 ∧ sbl gnw2 nnw2 = sbl gva sb_count.toNatClampNeg)) (at_JS_init0 dC dI sz szl sa h0 sb va cpb h0_value h0_coder h0_hash h0_hashIsZero sb_maybeLatin1 sb_count nva gva (va_A (wz_490 h0 h0_value h0_coder h0_hash h0_hashIsZero sb va 0 sb_maybeLatin1 sb_count va cpb nva gva) sz)) (va_A (wz_490 h0 h0_value h0_coder h0_hash h0_hashIsZero sb va 0 sb_maybeLatin1 sb_count va cpb nva gva) sz)) (1) (sb_count.toInt.toNat) (va_A (wz_490 h0 h0_value h0_coder h0_hash h0_hashIsZero sb va 0 sb_maybeLatin1 sb_count va cpb nva gva) sz) := by
  refine Met.ofW (cc := b_JS_init0) (maxL := 5) (ret := none) (by decide) rfl ?_
  intro p e s m args below meth c s₁ B hml hv
  obtain ⟨rfl, hsz, hP, hK, hD0, hSW, hszl⟩ := hv
  have hx := B.exec
  have hb := B.bytes
  have hr := B.returns
  have hts0 := atoms_spec (ws := w_JS_init0) B.pre
  have hts : ∀ w ∈ lw_g, w.before _ s = true := fun w h => hts0 w (List.mem_cons_of_mem _ h)
  have hown : s.vm.findClass R_JS = some m.cls := findClass_of_methodNamed B.named
  have hlocks := B.notSynchronized
  clear hts0
  subst hsz
  subst hszl
  have hD := hD0.self (sz := s.heap.size)
  generalize hAe : va_A (wz_490 h0 h0_value h0_coder h0_hash h0_hashIsZero sb va 0 sb_maybeLatin1 sb_count va cpb nva gva) s.heap.size = A at hD hSW ⊢
  have hA : ∀ q : Nat, s.heap.size ≤ q → A q := fun q h => by rw [← hAe]; exact Or.inr h
  clear hAe
  have hP : va_P (dC, dI) cls2 (wz_490 h0 h0_value h0_coder h0_hash h0_hashIsZero sb va 0 sb_maybeLatin1 sb_count va cpb nva gva) s.heap := hP
  have hl := lv_entry ([.ref h0, .ref sb, .null]) (n := 5) (Nat.le_of_ble_eq_true rfl)
  rw [lg_entry_eq]
  generalize (lg_sl ([.ref h0, .ref sb, .null]) ++ List.replicate (5 - (lg_sl ([.ref h0, .ref sb, .null])).length) Slot.unset).toArray = ls at hl ⊢
  have hl : lv_has ls 5 [(0, .ref h0), (1, .ref sb), (2, .null)] := hl
  have k0 : (0 : Int32).toInt = 0 := by decide
  refine w_gen (A := A) hP (fun H locs hP hS => ?_)
  have k1 : (1 : Int32).toInt = 1 := by decide
  have hin : meth.name = "<init>" := (name_of_methodNamed B.named B.method).1
  have zc := i32_clamp (x := sb_count) (by (first | (apply Int.le_antisymm <;> omega) | omega))
  refine lv_aload_n hx hb d_JS_init0_0 rfl (lv_at hl 0 rfl) ?_
  refine W.objInit hx hb hown (hts _ kM_JS_1) (hts _ kV_oi) (hts _ kC_oi) rfl (by rw [hml]; exact hl.1) rfl d_JS_init0_1 (Nat.le_of_ble_eq_true rfl) (Nat.le_of_ble_eq_true rfl) ?_
  refine W.eq (g2 := F0 m 4 ls []) rfl ?_
  refine lv_aload_n hx hb d_JS_init0_4 rfl (lv_at hl 1 rfl) ?_
  have hPc := hP.sb (wq := (wz_487 sb va 0 sb_maybeLatin1 sb_count va cpb nva gva)) [1, 2] rfl
  have hDc := hD.sb (wq := (wz_487 sb va 0 sb_maybeLatin1 sb_count va cpb nva gva)) [1, 2] (by decide) rfl
  have hKc := hK.sb (tyq := [(cpb, .byte)]) [0] rfl
  have hFc := va_free (wc := (wz_487 sb va 0 sb_maybeLatin1 sb_count va cpb nva gva)) hD hS hA [1, 2] rfl
  refine va_callr (va_runV (As := []) (rest := []) ⟨hx, hb, hml, hown, hts⟩ (c_JQ_getValue l hlt dC dI H.size sb va cpb sb_maybeLatin1 sb_count nva gva (b_gva)) ⟨callB_of 0 hts (gW kC_JQ_getValue) rfl rfl rfl (hts _ kI_JQ) (hts _ kM_JS_552) (by decide +kernel) ⟨Nat.le_of_ble_eq_true rfl, Nat.le_of_ble_eq_true rfl⟩, hts _ kV_JQ_getValue, hts _ kS2_JQ_getValue⟩ ⟨fun a U g mk z => by obtain ⟨z0, z1, zP, zK, zD⟩ := z; exact ⟨z0, z1, zP, va_K.moved (u := U) (U := U.calling g mk a) (Vm.Alike.refl U.vm) zK, zD⟩, va_recv hKc hPc (ci := 17) (q0 := 0) rfl rfl, fun U hU hW => ⟨rfl, by rw [hU], va_P.he hU.symm hPc, va_K.moved hW.alike hKc, hDc.weaken (fun _ _ _ _ => trivial)⟩⟩ rfl rfl hl.1 rfl (lv_room (Nat.le_of_ble_eq_true rfl)) d_JS_init0_5 ⟨by dsimp only [headSpec]; (first | (apply Int.le_antisymm <;> omega) | omega), by dsimp only [headSpec]; (first | (apply Int.le_antisymm <;> omega) | omega)⟩) hS (fun q _ h => hFc q h) hFc (fun u ra t H1 locs ht hvm hw hB hz1 hk1 hS => ?_)
  obtain ⟨rfl, hB⟩ := hB
  try dsimp only at hw
  try clear hw
  obtain ⟨hP1, hK1, hD1⟩ := hB
  replace hP1 := va_P.he ht hP1
  obtain ⟨hP, hD⟩ := va_join (wr := [(h0, .inr (16, [h0_value, .int h0_coder, .int h0_hash, .int h0_hashIsZero]))]) (w1 := (wz_487 sb va 0 sb_maybeLatin1 sb_count va cpb nva gva)) hP hD [1, 2] [0] rfl rfl (by decide) (by decide) hk1 hFc hP1 hD1
  clear hPc hDc hKc hFc hz1 hk1 hP1 hK1 hD1
  rename Heap => H
  have hP : va_P (dC, dI) cls2 (wz_490 h0 h0_value h0_coder h0_hash h0_hashIsZero sb va 0 sb_maybeLatin1 sb_count va cpb nva gva) H := hP
  have hD : va_D A (wz_490 h0 h0_value h0_coder h0_hash h0_hashIsZero sb va 0 sb_maybeLatin1 sb_count va cpb nva gva) := hD
  refine lv_astore_n (lv' := [(3, .ref va), (0, .ref h0), (1, .ref sb), (2, .null)]) hx hb d_JS_init0_8 rfl hl (by decide) rfl (fun ls hl => ?_)
  refine lv_aload_n hx hb d_JS_init0_9 rfl (lv_at hl 2 rfl) ?_
  have hPc := hP.sb (wq := [(sb, .inr (17, [.ref va, .int 0, .int sb_maybeLatin1, .int sb_count]))]) [1] rfl
  have hDc := hD.sb (wq := [(sb, .inr (17, [.ref va, .int 0, .int sb_maybeLatin1, .int sb_count]))]) [1] (by decide) rfl
  have hKc := hK.sb (tyq := []) [] rfl
  have hFc := va_free (wc := [(sb, .inr (17, [.ref va, .int 0, .int sb_maybeLatin1, .int sb_count]))]) hD hS hA [1] rfl
  refine va_calli (va_runU (As := []) (rest := []) ⟨hx, hb, hml, hown, hts⟩ (c_JB_length l hlt dC dI H.size sa sb va sb_maybeLatin1 sb_count (b_sb_count)) (va_cwO (C := R_JB) (owner := R_JQ) (x := y_JQ_length) 0 hts (gO kM_JS_549 kSM_JQ_length kV_JQ_length kS3_len kV_JB_length kI_JB kC_JB_length) rfl rfl rfl kC_JQ_length (by decide +kernel) ⟨Nat.le_of_ble_eq_true rfl, Nat.le_of_ble_eq_true rfl⟩) ⟨fun a U g mk z => by obtain ⟨z0, z1, zP, zK, zD, zS⟩ := z; exact ⟨z0, z1, zP, va_K.moved (u := U) (U := U.calling g mk a) (Vm.Alike.refl U.vm) zK, zD, sm.same (u := U) (U := U.calling g mk a) rfl zS⟩, va_recv hKc hPc (ci := 17) (q0 := 0) rfl rfl, fun U hU hW => ⟨rfl, by rw [hU], va_P.he hU.symm hPc, va_K.moved hW.alike hKc, hDc.weaken (fun _ _ _ _ => trivial), hSW.call hS hFc hW hU⟩⟩ rfl rfl hl.1 rfl (lv_room (Nat.le_of_ble_eq_true rfl)) d_JS_init0_10 ⟨by dsimp only [headSpec]; (first | (apply Int.le_antisymm <;> omega) | omega), by dsimp only [headSpec]; (first | (apply Int.le_antisymm <;> omega) | omega)⟩) hS (fun q _ h => hFc q h) hFc (fun r4 u t H1 locs ht hvm hw hB hz1 hk1 hS => ?_)
  try dsimp only at hw
  have xr4 := hw
  try clear hw
  have tr4 : r4.toInt = sb_count.toInt := by rw [xr4]
  obtain ⟨hP1, hK1, hD1⟩ := hB
  replace hP1 := va_P.he ht hP1
  obtain ⟨hP, hD⟩ := va_join (wr := [(h0, .inr (16, [h0_value, .int h0_coder, .int h0_hash, .int h0_hashIsZero])), (va, .inl (cpb, nva, .inl gva))]) (w1 := [(sb, .inr (17, [.ref va, .int 0, .int sb_maybeLatin1, .int sb_count]))]) hP hD [1] [0, 2] rfl rfl (by decide) (by decide) hk1 hFc hP1 hD1
  clear hPc hDc hKc hFc hz1 hk1 hP1 hK1 hD1
  rename Heap => H
  have hP : va_P (dC, dI) cls2 (wz_491 h0 h0_value h0_coder h0_hash h0_hashIsZero va cpb nva gva sb va 0 sb_maybeLatin1 sb_count) H := hP
  have hD : va_D A (wz_491 h0 h0_value h0_coder h0_hash h0_hashIsZero va cpb nva gva sb va 0 sb_maybeLatin1 sb_count) := hD
  refine lv_istore (lv' := [(4, .int r4), (3, .ref va), (0, .ref h0), (1, .ref sb), (2, .null)]) hx hb d_JS_init0_13 hl (by decide) rfl (fun ls hl => ?_)
  refine lv_aload_n hx hb d_JS_init0_15 rfl (lv_at hl 3 rfl) ?_
  have hPc := hP.sb (wq := [(sb, .inr (17, [.ref va, .int 0, .int sb_maybeLatin1, .int sb_count]))]) [2] rfl
  have hDc := hD.sb (wq := [(sb, .inr (17, [.ref va, .int 0, .int sb_maybeLatin1, .int sb_count]))]) [2] (by decide) rfl
  have hKc := hK.sb (tyq := []) [] rfl
  have hFc := va_free (wc := [(sb, .inr (17, [.ref va, .int 0, .int sb_maybeLatin1, .int sb_count]))]) hD hS hA [2] rfl
  refine va_calli (va_runV (As := []) (rest := []) ⟨hx, hb, hml, hown, hts⟩ (c_JQ_isLatin1 l hlt dC dI H.size sa sb va sb_maybeLatin1 sb_count) ⟨callB_of 0 hts (gW kC_JQ_isLatin1) rfl rfl rfl (hts _ kI_JQ) (hts _ kM_JS_1047) (by decide +kernel) ⟨Nat.le_of_ble_eq_true rfl, Nat.le_of_ble_eq_true rfl⟩, hts _ kV_JQ_isLatin1, hts _ kS2_JQ_isLatin1⟩ ⟨fun a U g mk z => by obtain ⟨z0, z1, zP, zK, zD, zS⟩ := z; exact ⟨z0, z1, zP, va_K.moved (u := U) (U := U.calling g mk a) (Vm.Alike.refl U.vm) zK, zD, sm.same (u := U) (U := U.calling g mk a) rfl zS⟩, va_recv hKc hPc (ci := 17) (q0 := 0) rfl rfl, fun U hU hW => ⟨rfl, by rw [hU], va_P.he hU.symm hPc, va_K.moved hW.alike hKc, hDc.weaken (fun _ _ _ _ => trivial), hSW.call hS hFc hW hU⟩⟩ rfl rfl hl.1 rfl (lv_room (Nat.le_of_ble_eq_true rfl)) d_JS_init0_16 ⟨by dsimp only [headSpec]; (first | (apply Int.le_antisymm <;> omega) | omega), by dsimp only [headSpec]; (first | (apply Int.le_antisymm <;> omega) | omega)⟩) hS (fun q _ h => hFc q h) hFc (fun r7 u t H1 locs ht hvm hw hB hz1 hk1 hS => ?_)
  try dsimp only at hw
  obtain ⟨br7, xr7⟩ := hw
  try clear hw
  have tr7 := b01 br7
  obtain ⟨hP1, hK1, hD1⟩ := hB
  replace hP1 := va_P.he ht hP1
  obtain ⟨hP, hD⟩ := va_join (wr := [(h0, .inr (16, [h0_value, .int h0_coder, .int h0_hash, .int h0_hashIsZero])), (va, .inl (cpb, nva, .inl gva))]) (w1 := [(sb, .inr (17, [.ref va, .int 0, .int sb_maybeLatin1, .int sb_count]))]) hP hD [2] [0, 1] rfl rfl (by decide) (by decide) hk1 hFc hP1 hD1
  clear hPc hDc hKc hFc hz1 hk1 hP1 hK1 hD1
  rename Heap => H
  have hP : va_P (dC, dI) cls2 (wz_491 h0 h0_value h0_coder h0_hash h0_hashIsZero va cpb nva gva sb va 0 sb_maybeLatin1 sb_count) H := hP
  have hD : va_D A (wz_491 h0 h0_value h0_coder h0_hash h0_hashIsZero va cpb nva gva sb va 0 sb_maybeLatin1 sb_count) := hD
  refine lv_if_eq (tgt := 41) hx hb d_JS_init0_19 (by decide) (fun c19 => absurd (eqI c19) (by (first | (apply Int.le_antisymm <;> omega) | omega))) (fun c19 => ?_)
  have q19 := neI c19
  refine lv_aload_n hx hb d_JS_init0_22 rfl (lv_at hl 2 rfl) ?_
  refine lv_iconst (v := 0) hx hb d_JS_init0_23 (by decide) ?_
  refine va_putF (D := (dC, dI)) (ci := 16) (v := .int 0) (ty := .byte) (C := R_JS) (T := F_JS) (N := 4) hx hb hts i_JS t_JS t_JS_ok n_JS hown hK hP hD hS 0 rfl rfl 1 (by decide) (hts _ kF_JS_15) (fun _ h9 => h9) rfl hin rfl (by decide +kernel) rfl rfl (Nat.le_of_ble_eq_true rfl) d_JS_init0_24 (fun H locs hP hD hS => ?_)
  have hP : va_P (dC, dI) cls2 (wz_491 h0 h0_value 0 h0_hash h0_hashIsZero va cpb nva gva sb va 0 sb_maybeLatin1 sb_count) H := hP
  have hD : va_D A (wz_491 h0 h0_value 0 h0_hash h0_hashIsZero va cpb nva gva sb va 0 sb_maybeLatin1 sb_count) := hD
  refine lv_aload_n hx hb d_JS_init0_27 rfl (lv_at hl 2 rfl) ?_
  refine lv_aload_n hx hb d_JS_init0_28 rfl (lv_at hl 1 rfl) ?_
  refine lv_iconst (v := 0) hx hb d_JS_init0_29 (by decide) ?_
  refine lv_iload hx hb d_JS_init0_30 (lv_at hl 0 rfl) ?_
  refine w_known (fun hzc hzs => ?_)
  have hPc := hP.sb (wq := [(va, .inl (cpb, nva, .inl gva))]) [1] rfl
  have hDc := hD.sb (wq := [(va, .inl (cpb, nva, .inl gva))]) [1] (by decide) rfl
  have hKc := hK.sb (tyq := [(cpb, .byte)]) [0] rfl
  have hFc := va_free (wc := [(va, .inl (cpb, nva, .inl gva))]) hD hS hA [1] rfl
  refine va_callr (va_runS (As := [.ref va, .int 0, .int r4]) (rest := [.ref h0]) ⟨hx, hb, hml, hown, hts⟩ (c_JA_copyOfRange l hlt dC dI H.size (hsl H) sa va cpb nva gva (b_gva) 0 r4 (by (first | (apply Int.le_antisymm <;> omega) | omega)) (by (first | (apply Int.le_antisymm <;> omega) | omega)) (by decide)) ⟨callB_of 3 hts (gW kC_JA_copyOfRange) rfl rfl rfl (hts _ kI_JA) (hts _ kM_JS_54) (by decide +kernel) ⟨Nat.le_of_ble_eq_true rfl, Nat.le_of_ble_eq_true rfl⟩, hts _ kT_JA_copyOfRange⟩ ⟨fun a U g mk z => by obtain ⟨z0, z1, zP, zK, zD, zS, zZ⟩ := z; exact ⟨z0, z1, zP, va_K.moved (u := U) (U := U.calling g mk a) (Vm.Alike.refl U.vm) zK, zD, sm.same (u := U) (U := U.calling g mk a) rfl zS, zZ⟩, fun U hU hW => ⟨rfl, by rw [hU], va_P.he hU.symm hPc, va_K.moved hW.alike hKc, hDc.weaken (fun _ _ _ _ => trivial), hSW.call hS hFc hW hU, by rw [hU]⟩⟩ rfl rfl hl.1 rfl (lv_room (Nat.le_of_ble_eq_true rfl)) d_JS_init0_32 ⟨by dsimp only [headSpec]; (first | (apply Int.le_antisymm <;> omega) | omega), by dsimp only [headSpec]; (first | (apply Int.le_antisymm <;> omega) | omega)⟩) hS (fun q _ h => hFc q h) hFc (fun u ra t H1 locs ht hvm hw hB hz1 hk1 hS => ?_)
  obtain ⟨n11, n12, n13, n14, nq32_nw⟩ := u
  try dsimp only at hw
  obtain ⟨bn11, xr10⟩ := hw
  try clear hw
  obtain ⟨y1, y2, y3, y4⟩ := xr10
  dsimp only at hB
  obtain ⟨rfl, hB⟩ := hB
  obtain ⟨hP1, hK1, hD1, hZc, hZs⟩ := hB
  rw [ht] at hP1 hZc hZs
  obtain ⟨kc15, ekc15⟩ : ∃ z : Nat, z = 0 + 0 + 0 + 0 + n12 := ⟨_, rfl⟩
  obtain ⟨kn16, ekn16⟩ : ∃ z : Nat, z = 0 + 0 + 0 + 0 + n13 := ⟨_, rfl⟩
  refine w_refund (c2 := kc15) (n2 := kn16) (by (first | (apply Int.le_antisymm <;> omega) | omega)) (by (first | (apply Int.le_antisymm <;> omega) | omega)) ?_
  clear hzc hzs hZc hZs
  obtain ⟨hP, hD⟩ := va_join (wr := [(h0, .inr (16, [h0_value, .int 0, .int h0_hash, .int h0_hashIsZero])), (sb, .inr (17, [.ref va, .int 0, .int sb_maybeLatin1, .int sb_count]))]) (w1 := [(va, .inl (cpb, nva, .inl gva)), (nq32_nw, .inl (cpb, n14, .inl n11))]) hP hD [1] [0, 2] rfl rfl (by decide) (by decide) hk1 hFc hP1 hD1
  clear hPc hDc hKc hFc hz1 hk1 hP1 hK1 hD1
  rename Heap => H
  have hP : va_P (dC, dI) cls2 [(h0, .inr (16, [h0_value, .int 0, .int h0_hash, .int h0_hashIsZero])), (sb, .inr (17, [.ref va, .int 0, .int sb_maybeLatin1, .int sb_count])), (va, .inl (cpb, nva, .inl gva)), (nq32_nw, .inl (cpb, n14, .inl n11))] H := hP
  have hD : va_D A [(h0, .inr (16, [h0_value, .int 0, .int h0_hash, .int h0_hashIsZero])), (sb, .inr (17, [.ref va, .int 0, .int sb_maybeLatin1, .int sb_count])), (va, .inl (cpb, nva, .inl gva)), (nq32_nw, .inl (cpb, n14, .inl n11))] := hD
  refine va_putF (D := (dC, dI)) (ci := 16) (v := .ref nq32_nw) (ty := .array .byte) (C := R_JS) (T := F_JS) (N := 4) hx hb hts i_JS t_JS t_JS_ok n_JS hown hK hP hD hS 0 rfl rfl 0 (by decide) (hts _ kF_JS_9) (fun _ h9 => h9) rfl hin rfl (by decide +kernel) rfl rfl (Nat.le_of_ble_eq_true rfl) d_JS_init0_35 (fun H locs hP hD hS => ?_)
  have hP : va_P (dC, dI) cls2 (wz_489 h0 nq32_nw 0 h0_hash h0_hashIsZero sb va 0 sb_maybeLatin1 sb_count va cpb nva gva nq32_nw cpb n14 n11) H := hP
  have hD : va_D A (wz_489 h0 nq32_nw 0 h0_hash h0_hashIsZero sb va 0 sb_maybeLatin1 sb_count va cpb nva gva nq32_nw cpb n14 n11) := hD
  refine lv_goto (tgt := 97) hx hb d_JS_init0_38 (by decide) ?_
  have hP9 := hP.sb (wq := (wz_489 h0 nq32_nw 0 h0_hash h0_hashIsZero sb va 0 sb_maybeLatin1 sb_count va cpb nva gva nq32_nw cpb n14 n11)) [0, 1, 2, 3] rfl
  have hD9 := hD.sb (wq := (wz_489 h0 nq32_nw 0 h0_hash h0_hashIsZero sb va 0 sb_maybeLatin1 sb_count va cpb nva gva nq32_nw cpb n14 n11)) [0, 1, 2, 3] (by decide) rfl
  refine w_known (fun hzc hzs => ?_)
  refine W.widen (k := 1) (n := sb_count.toInt.toNat) (by (first | (apply Int.le_antisymm <;> omega) | omega)) (by (first | (apply Int.le_antisymm <;> omega) | omega)) ?_
  exact W.vret hx hb hr (fun t ht hW => ⟨⟨(n11, kc15, kn16, n14, nq32_nw), rfl, ⟨bn11, ⟨by (first | (apply Int.le_antisymm <;> omega) | omega), by (first | (apply Int.le_antisymm <;> omega) | omega), by (first | (apply Int.le_antisymm <;> omega) | omega), by rw [show sb_count.toNatClampNeg = n14 from by (first | (apply Int.le_antisymm <;> omega) | omega)]; exact sbl_cg y4⟩⟩, va_P.he ht.symm hP9, va_K.moved hW.alike hK, hD9, by rw [ht]; exact hzc, by rw [ht]; exact hzs⟩, hS.F ht⟩) hS.2.2 d_JS_init0_97
abbrev b_JS_init1 : ByteArray := prog_33_method_53_code
def y_JS_init1 : MethodName := ⟨R_JS, "<init>", "(Ljava/lang/StringBuilder;)V"⟩
abbrev w_JS_init1 : List Cond := .code y_JS_init1 b_JS_init1 2 none :: lw_g
theorem kC_JS_init1 : Cond.code y_JS_init1 b_JS_init1 2 none ∈ lw_g := in_c10 92 rfl rfl
theorem d_JS_init1_0 : decode b_JS_init1 0 = .ok (.aload_n 0, 1) := bz_c42 (by decide +kernel)
theorem d_JS_init1_1 : decode b_JS_init1 1 = .ok (.aload_n 1, 1) := bz_c43 (by decide +kernel)
theorem d_JS_init1_2 : decode b_JS_init1 2 = .ok (.aconst_null, 1) := bz_c1 (by decide +kernel)
theorem d_JS_init1_3 : decode b_JS_init1 3 = .ok (.invokespecial 489, 3) := bz_c183 (by decide +kernel)
theorem d_JS_init1_6 : decode b_JS_init1 6 = .ok (.return_, 1) := bz_c177 (by decide +kernel)
theorem kM_JS_489 : Cond.methodLink R_JS 489 y_JS_init0 ∈ lw_g := in_c10 93 rfl rfl
theorem kV_JS_init0 : Cond.instanceMethod y_JS_init0 ∈ lw_g := in_c10 94 rfl rfl
abbrev at_JS_init1 (dC : Nat → ClassId) (dI : Nat → Nat → Nat) (sz szl : Nat) (sa : Nat → Nat) (h0 sb va : Nat) (cpb : ClassId) (h0_value : Value) (h0_coder : Int32) (h0_hash : Int32) (h0_hashIsZero : Int32) (sb_maybeLatin1 : Int32) (sb_count : Int32) (nva : Nat) (gva : Nat → Int32) (A : Nat → Prop) (u : (Nat → Int32) × Nat × Nat × Nat × Nat) (t : State) : Prop := match u with | (gnw, kcz, knz, nnw, nw) => va_P (dC, dI) cls2 (wz_489 h0 nw 0 h0_hash h0_hashIsZero sb va 0 sb_maybeLatin1 sb_count va cpb nva gva nw cpb nnw gnw) t.heap ∧ va_K (dC, dI) cls2 [(cpb, .byte)] t ∧ va_D A (wz_489 h0 nw 0 h0_hash h0_hashIsZero sb va 0 sb_maybeLatin1 sb_count va cpb nva gva nw cpb nnw gnw) ∧ t.heap.size ≤ sz + kcz ∧ hsl t.heap ≤ szl + knz
set_option maxHeartbeats 4000000 in
set_option maxRecDepth 100000 in
theorem c_JS_init1 (l : Launch) (hlt : l.stackTraces = false) (dC : Nat → ClassId) (dI : Nat → Nat → Nat) (sz : Nat) (szl : Nat) (sa : Nat → Nat) (h0 sb va : Nat) (cpb : ClassId) (h0_value : Value) (h0_coder : Int32) (h0_hash : Int32) (h0_hashIsZero : Int32) (sb_maybeLatin1 : Int32) (sb_count : Int32) (nva : Nat) (gva : Nat → Int32)  (b_sb_count : 0 ≤ sb_count.toInt ∧ sb_count.toInt ≤ 1000000) (b_gva : ∀ j : Nat, -128 ≤ (gva j).toInt ∧ (gva j).toInt ≤ 127)   (hc : sb_count.toInt ≤ (nva : Int) ∧ (nva : Int) ≤ 500000) : Met l y_JS_init1 w_JS_init1 ({ frames := 4, cells := 1, slots := sb_count.toInt.toNat, locals := 110 }) (va_Pc [.ref h0, .ref sb] (fun U => U.heap.size = sz ∧ va_P (dC, dI) cls2 (wz_490 h0 h0_value h0_coder h0_hash h0_hashIsZero sb va 0 sb_maybeLatin1 sb_count va cpb nva gva) U.heap ∧ va_K (dC, dI) cls2 [(cpb, .byte)] U ∧ va_D (fun _ => True) (wz_490 h0 h0_value h0_coder h0_hash h0_hashIsZero sb va 0 sb_maybeLatin1 sb_count va cpb nva gva) ∧ sm sa (va_A (wz_490 h0 h0_value h0_coder h0_hash h0_hashIsZero sb va 0 sb_maybeLatin1 sb_count va cpb nva gva) sz) U U.heap ∧ hsl U.heap = szl)) (va_Qv (fun (u : (Nat → Int32) × Nat × Nat × Nat × Nat) => match u with | (gnw2, kcz2, knz2, nnw2, nw2) => (∀ j : Nat, -128 ≤ (gnw2 j).toInt ∧ (gnw2 j).toInt ≤ 127) ∧ ((nnw2 : Int) = sb_count.toInt ∧ kcz2 = 1 ∧ knz2 = nnw2 ∧ sbl gnw2 nnw2 = sbl gva sb_count.toNatClampNeg)) (at_JS_init1 dC dI sz szl sa h0 sb va cpb h0_value h0_coder h0_hash h0_hashIsZero sb_maybeLatin1 sb_count nva gva (va_A (wz_490 h0 h0_value h0_coder h0_hash h0_hashIsZero sb va 0 sb_maybeLatin1 sb_count va cpb nva gva) sz)) (va_A (wz_490 h0 h0_value h0_coder h0_hash h0_hashIsZero sb va 0 sb_maybeLatin1 sb_count va cpb nva gva) sz)) (1) (sb_count.toInt.toNat) (va_A (wz_490 h0 h0_value h0_coder h0_hash h0_hashIsZero sb va 0 sb_maybeLatin1 sb_count va cpb nva gva) sz) := by
  refine Met.ofW (cc := b_JS_init1) (maxL := 2) (ret := none) (by decide) rfl ?_
  intro p e s m args below meth c s₁ B hml hv
  obtain ⟨rfl, hsz, hP, hK, hD0, hSW, hszl⟩ := hv
  have hx := B.exec
  have hb := B.bytes
  have hr := B.returns
  have hts0 := atoms_spec (ws := w_JS_init1) B.pre
  have hts : ∀ w ∈ lw_g, w.before _ s = true := fun w h => hts0 w (List.mem_cons_of_mem _ h)
  have hown : s.vm.findClass R_JS = some m.cls := findClass_of_methodNamed B.named
  have hlocks := B.notSynchronized
  clear hts0
  subst hsz
  subst hszl
  have hD := hD0.self (sz := s.heap.size)
  generalize hAe : va_A (wz_490 h0 h0_value h0_coder h0_hash h0_hashIsZero sb va 0 sb_maybeLatin1 sb_count va cpb nva gva) s.heap.size = A at hD hSW ⊢
  have hA : ∀ q : Nat, s.heap.size ≤ q → A q := fun q h => by rw [← hAe]; exact Or.inr h
  clear hAe
  have hP : va_P (dC, dI) cls2 (wz_490 h0 h0_value h0_coder h0_hash h0_hashIsZero sb va 0 sb_maybeLatin1 sb_count va cpb nva gva) s.heap := hP
  have hl := lv_entry ([.ref h0, .ref sb]) (n := 2) (Nat.le_of_ble_eq_true rfl)
  rw [lg_entry_eq]
  generalize (lg_sl ([.ref h0, .ref sb]) ++ List.replicate (2 - (lg_sl ([.ref h0, .ref sb])).length) Slot.unset).toArray = ls at hl ⊢
  have hl : lv_has ls 2 [(0, .ref h0), (1, .ref sb)] := hl
  have k0 : (0 : Int32).toInt = 0 := by decide
  refine w_gen (A := A) hP (fun H locs hP hS => ?_)
  have hin : meth.name = "<init>" := (name_of_methodNamed B.named B.method).1
  refine lv_aload_n hx hb d_JS_init1_0 rfl (lv_at hl 0 rfl) ?_
  refine lv_aload_n hx hb d_JS_init1_1 rfl (lv_at hl 1 rfl) ?_
  refine lv_null hx hb d_JS_init1_2 ?_
  refine w_known (fun hzc hzs => ?_)
  have hPc := hP.sb (wq := (wz_490 h0 h0_value h0_coder h0_hash h0_hashIsZero sb va 0 sb_maybeLatin1 sb_count va cpb nva gva)) [0, 1, 2] rfl
  have hDc := hD.sb (wq := (wz_490 h0 h0_value h0_coder h0_hash h0_hashIsZero sb va 0 sb_maybeLatin1 sb_count va cpb nva gva)) [0, 1, 2] (by decide) rfl
  have hKc := hK.sb (tyq := [(cpb, .byte)]) [0] rfl
  have hFc := va_free (wc := (wz_490 h0 h0_value h0_coder h0_hash h0_hashIsZero sb va 0 sb_maybeLatin1 sb_count va cpb nva gva)) hD hS hA [0, 1, 2] rfl
  refine va_callv (va_runI (As := [.ref sb, .null]) (rest := []) ⟨hx, hb, hml, hown, hts⟩ (c_JS_init0 l hlt dC dI H.size (hsl H) sa h0 sb va cpb h0_value h0_coder h0_hash h0_hashIsZero sb_maybeLatin1 sb_count nva gva (b_sb_count) (b_gva) (hc)) ⟨callB_of 2 hts (gW kC_JS_init0) rfl rfl rfl (hts _ kI_JS) (hts _ kM_JS_489) (by decide +kernel) ⟨Nat.le_of_ble_eq_true rfl, Nat.le_of_ble_eq_true rfl⟩, rfl, hts _ kV_JS_init0⟩ ⟨fun a U g mk z => by obtain ⟨z0, z1, zP, zK, zD, zS, zZ⟩ := z; exact ⟨z0, z1, zP, va_K.moved (u := U) (U := U.calling g mk a) (Vm.Alike.refl U.vm) zK, zD, sm.same (u := U) (U := U.calling g mk a) rfl zS, zZ⟩, fun U hU hW => ⟨rfl, by rw [hU], va_P.he hU.symm hPc, va_K.moved hW.alike hKc, hDc.weaken (fun _ _ _ _ => trivial), hSW.call hS hFc hW hU, by rw [hU]⟩⟩ rfl rfl hl.1 rfl (lv_room (Nat.le_of_ble_eq_true rfl)) d_JS_init1_3 ⟨by dsimp only [headSpec]; (first | (apply Int.le_antisymm <;> omega) | omega), by dsimp only [headSpec]; (first | (apply Int.le_antisymm <;> omega) | omega)⟩) hS (fun q _ h => hFc q h) hFc (fun u t H1 locs ht hvm hw hB hz1 hk1 hS => ?_)
  obtain ⟨n2, n3, n4, n5, nq3_nw⟩ := u
  try dsimp only at hw
  obtain ⟨bn2, xr1⟩ := hw
  try clear hw
  obtain ⟨hP1, hK1, hD1, hZc, hZs⟩ := hB
  rw [ht] at hP1 hZc hZs
  obtain ⟨kc6, ekc6⟩ : ∃ z : Nat, z = 0 + n3 := ⟨_, rfl⟩
  obtain ⟨kn7, ekn7⟩ : ∃ z : Nat, z = 0 + n4 := ⟨_, rfl⟩
  refine w_refund (c2 := kc6) (n2 := kn7) (by (first | (apply Int.le_antisymm <;> omega) | omega)) (by (first | (apply Int.le_antisymm <;> omega) | omega)) ?_
  clear hzc hzs hZc hZs
  obtain ⟨hP, hD⟩ := va_join (wr := []) (w1 := (wz_489 h0 nq3_nw 0 h0_hash h0_hashIsZero sb va 0 sb_maybeLatin1 sb_count va cpb nva gva nq3_nw cpb n5 n2)) hP hD [0, 1, 2] [] rfl rfl (by decide) (by decide) hk1 hFc hP1 hD1
  clear hPc hDc hKc hFc hz1 hk1 hP1 hK1 hD1
  rename Heap => H
  have hP : va_P (dC, dI) cls2 (wz_489 h0 nq3_nw 0 h0_hash h0_hashIsZero sb va 0 sb_maybeLatin1 sb_count va cpb nva gva nq3_nw cpb n5 n2) H := hP
  have hD : va_D A (wz_489 h0 nq3_nw 0 h0_hash h0_hashIsZero sb va 0 sb_maybeLatin1 sb_count va cpb nva gva nq3_nw cpb n5 n2) := hD
  have hP9 := hP.sb (wq := (wz_489 h0 nq3_nw 0 h0_hash h0_hashIsZero sb va 0 sb_maybeLatin1 sb_count va cpb nva gva nq3_nw cpb n5 n2)) [0, 1, 2, 3] rfl
  have hD9 := hD.sb (wq := (wz_489 h0 nq3_nw 0 h0_hash h0_hashIsZero sb va 0 sb_maybeLatin1 sb_count va cpb nva gva nq3_nw cpb n5 n2)) [0, 1, 2, 3] (by decide) rfl
  refine w_known (fun hzc hzs => ?_)
  refine W.widen (k := 1) (n := sb_count.toInt.toNat) (by (first | (apply Int.le_antisymm <;> omega) | omega)) (by (first | (apply Int.le_antisymm <;> omega) | omega)) ?_
  exact W.vret hx hb hr (fun t ht hW => ⟨⟨(n2, kc6, kn7, n5, nq3_nw), rfl, ⟨bn2, ⟨xr1.1, by have := xr1.2.1; (first | (apply Int.le_antisymm <;> omega) | omega), by have := xr1.2.2.1; (first | (apply Int.le_antisymm <;> omega) | omega), xr1.2.2.2⟩⟩, va_P.he ht.symm hP9, va_K.moved hW.alike hK, hD9, by rw [ht]; exact hzc, by rw [ht]; exact hzs⟩, hS.F ht⟩) hS.2.2 d_JS_init1_6
theorem d_JB_toString_0 : decode b_JB_toString 0 = .ok (.new 18, 3) := bz_c187 (by decide +kernel)
theorem d_JB_toString_3 : decode b_JB_toString 3 = .ok (.dup, 1) := bz_c89 (by decide +kernel)
theorem d_JB_toString_4 : decode b_JB_toString 4 = .ok (.aload_n 0, 1) := bz_c42 (by decide +kernel)
theorem d_JB_toString_5 : decode b_JB_toString 5 = .ok (.invokespecial 137, 3) := bz_c183 (by decide +kernel)
theorem d_JB_toString_8 : decode b_JB_toString 8 = .ok (.areturn, 1) := bz_c176 (by decide +kernel)
theorem kM_JB_137 : Cond.methodLink R_JB 137 y_JS_init1 ∈ lw_g := in_c10 90 rfl rfl
theorem kV_JS_init1 : Cond.instanceMethod y_JS_init1 ∈ lw_g := in_c10 91 rfl rfl
theorem kK_JB_18 : Cond.classLink R_JB 18 "java/lang/String" ∈ lw_g := in_c10 88 rfl rfl
theorem kN_JS : Cond.instantiable R_JS 4 ∈ lw_g := in_c10 89 rfl rfl
abbrev at_JB_toString (dC : Nat → ClassId) (dI : Nat → Nat → Nat) (sz szl : Nat) (sa : Nat → Nat) (h0 va : Nat) (cpb : ClassId) (h0_maybeLatin1 : Int32) (h0_count : Int32) (nva : Nat) (gva : Nat → Int32) (A : Nat → Prop) (u : (Nat → Int32) × Nat × Nat × Nat × Nat × Nat) (t : State) : Prop := match u with | (gnw, kcz, knz, nnw, ns, nw) => va_P (dC, dI) cls2 (wz_492 h0 va 0 h0_maybeLatin1 h0_count va cpb nva gva ns nw 0 0 0 nw cpb nnw gnw) t.heap ∧ va_K (dC, dI) cls2 [(cpb, .byte)] t ∧ va_D A (wz_492 h0 va 0 h0_maybeLatin1 h0_count va cpb nva gva ns nw 0 0 0 nw cpb nnw gnw) ∧ t.heap.size ≤ sz + kcz ∧ hsl t.heap ≤ szl + knz
set_option maxHeartbeats 4000000 in
set_option maxRecDepth 100000 in
theorem c_JB_toString (l : Launch) (hlt : l.stackTraces = false) (dC : Nat → ClassId) (dI : Nat → Nat → Nat) (sz : Nat) (szl : Nat) (sa : Nat → Nat) (h0 va : Nat) (cpb : ClassId) (h0_maybeLatin1 : Int32) (h0_count : Int32) (nva : Nat) (gva : Nat → Int32)  (b_h0_count : 0 ≤ h0_count.toInt ∧ h0_count.toInt ≤ 1000000) (b_gva : ∀ j : Nat, -128 ≤ (gva j).toInt ∧ (gva j).toInt ≤ 127)   (hc : h0_count.toInt ≤ (nva : Int) ∧ (nva : Int) ≤ 500000) : Met l y_JB_toString w_JB_toString ({ frames := 5, cells := 2, slots := 4 + h0_count.toInt.toNat, locals := 131 }) (va_Pc [.ref h0] (fun U => U.heap.size = sz ∧ va_P (dC, dI) cls2 (wz_487 h0 va 0 h0_maybeLatin1 h0_count va cpb nva gva) U.heap ∧ va_K (dC, dI) cls2 [(cpb, .byte)] U ∧ va_D (fun _ => True) (wz_487 h0 va 0 h0_maybeLatin1 h0_count va cpb nva gva) ∧ sm sa (va_A (wz_487 h0 va 0 h0_maybeLatin1 h0_count va cpb nva gva) sz) U U.heap ∧ hsl U.heap = szl)) (va_Qr (fun (u : (Nat → Int32) × Nat × Nat × Nat × Nat × Nat) => match u with | (gnw2, kcz2, knz2, nnw2, ns2, nw2) => (∀ j : Nat, -128 ≤ (gnw2 j).toInt ∧ (gnw2 j).toInt ≤ 127) ∧ ((nnw2 : Int) = h0_count.toInt ∧ kcz2 = 2 ∧ knz2 = 4 + nnw2 ∧ sbl gnw2 nnw2 = sbl gva h0_count.toNatClampNeg)) (fun (u : (Nat → Int32) × Nat × Nat × Nat × Nat × Nat) (ra : Nat) (t : State) => (match u with | (gnw, kcz, knz, nnw, ns, nw) => ns) = ra ∧ (at_JB_toString dC dI sz szl sa h0 va cpb h0_maybeLatin1 h0_count nva gva (va_A (wz_487 h0 va 0 h0_maybeLatin1 h0_count va cpb nva gva) sz)) u t) (va_A (wz_487 h0 va 0 h0_maybeLatin1 h0_count va cpb nva gva) sz)) (2) (4 + h0_count.toInt.toNat) (va_A (wz_487 h0 va 0 h0_maybeLatin1 h0_count va cpb nva gva) sz) := by
  refine Met.ofW (cc := b_JB_toString) (maxL := 1) (ret := (Option.some (.object "java/lang/String"))) (by decide) rfl ?_
  intro p e s m args below meth c s₁ B hml hv
  obtain ⟨rfl, hsz, hP, hK, hD0, hSW, hszl⟩ := hv
  have hx := B.exec
  have hb := B.bytes
  have hr := B.returns
  have hts0 := atoms_spec (ws := w_JB_toString) B.pre
  have hts : ∀ w ∈ lw_g, w.before _ s = true := fun w h => hts0 w (List.mem_cons_of_mem _ h)
  have hown : s.vm.findClass R_JB = some m.cls := findClass_of_methodNamed B.named
  have hlocks := B.notSynchronized
  clear hts0
  subst hsz
  subst hszl
  have hD := hD0.self (sz := s.heap.size)
  generalize hAe : va_A (wz_487 h0 va 0 h0_maybeLatin1 h0_count va cpb nva gva) s.heap.size = A at hD hSW ⊢
  have hA : ∀ q : Nat, s.heap.size ≤ q → A q := fun q h => by rw [← hAe]; exact Or.inr h
  clear hAe
  have hP : va_P (dC, dI) cls2 (wz_487 h0 va 0 h0_maybeLatin1 h0_count va cpb nva gva) s.heap := hP
  have hl := lv_entry ([.ref h0]) (n := 1) (Nat.le_of_ble_eq_true rfl)
  rw [lg_entry_eq]
  generalize (lg_sl ([.ref h0]) ++ List.replicate (1 - (lg_sl ([.ref h0])).length) Slot.unset).toArray = ls at hl ⊢
  have hl : lv_has ls 1 [(0, .ref h0)] := hl
  have k0 : (0 : Int32).toInt = 0 := by decide
  refine w_gen (A := A) hP (fun H locs hP hS => ?_)
  refine va_new (ci := 16) (fs := [.null, .int 0, .int 0, .int 0]) (C := R_JS) (T := F_JS) (N := 4) hx hb hts i_JS t_JS t_JS_ok hown (hts _ kK_JB_18) (hts _ kN_JS) (hts _ kI_JS) hK hP hD hS hA rfl (lt_all (by decide)) (by dsimp only [headSpec]; (first | (apply Int.le_antisymm <;> omega) | omega)) (by dsimp only [headSpec]; (first | (apply Int.le_antisymm <;> omega) | omega)) d_JB_toString_0 (fun nq0 H hP hD hS => ?_)
  have hP : va_P (dC, dI) cls2 [(h0, .inr (17, [.ref va, .int 0, .int h0_maybeLatin1, .int h0_count])), (va, .inl (cpb, nva, .inl gva)), (nq0, .inr (16, [.null, .int 0, .int 0, .int 0]))] H := hP
  have hD : va_D A [(h0, .inr (17, [.ref va, .int 0, .int h0_maybeLatin1, .int h0_count])), (va, .inl (cpb, nva, .inl gva)), (nq0, .inr (16, [.null, .int 0, .int 0, .int 0]))] := hD
  refine lv_dup hx hb d_JB_toString_3 rfl ?_
  refine lv_aload_n hx hb d_JB_toString_4 rfl (lv_at hl 0 rfl) ?_
  refine w_known (fun hzc hzs => ?_)
  have hPc := hP.sb (wq := (wz_493 nq0 0 0 0 h0 va 0 h0_maybeLatin1 h0_count va cpb nva gva)) [2, 0, 1] rfl
  have hDc := hD.sb (wq := (wz_493 nq0 0 0 0 h0 va 0 h0_maybeLatin1 h0_count va cpb nva gva)) [2, 0, 1] (by decide) rfl
  have hKc := hK.sb (tyq := [(cpb, .byte)]) [0] rfl
  have hFc := va_free (wc := (wz_493 nq0 0 0 0 h0 va 0 h0_maybeLatin1 h0_count va cpb nva gva)) hD hS hA [2, 0, 1] rfl
  refine va_callv (va_runI (As := [.ref h0]) (rest := [.ref nq0]) ⟨hx, hb, hml, hown, hts⟩ (c_JS_init1 l hlt dC dI H.size (hsl H) sa nq0 h0 va cpb .null 0 0 0 h0_maybeLatin1 h0_count nva gva (b_h0_count) (b_gva) (hc)) ⟨callB_of 1 hts (gW kC_JS_init1) rfl rfl rfl (hts _ kI_JS) (hts _ kM_JB_137) (by decide +kernel) ⟨Nat.le_of_ble_eq_true rfl, Nat.le_of_ble_eq_true rfl⟩, rfl, hts _ kV_JS_init1⟩ ⟨fun a U g mk z => by obtain ⟨z0, z1, zP, zK, zD, zS, zZ⟩ := z; exact ⟨z0, z1, zP, va_K.moved (u := U) (U := U.calling g mk a) (Vm.Alike.refl U.vm) zK, zD, sm.same (u := U) (U := U.calling g mk a) rfl zS, zZ⟩, fun U hU hW => ⟨rfl, by rw [hU], va_P.he hU.symm hPc, va_K.moved hW.alike hKc, hDc.weaken (fun _ _ _ _ => trivial), hSW.call hS hFc hW hU, by rw [hU]⟩⟩ rfl rfl hl.1 rfl (lv_room (Nat.le_of_ble_eq_true rfl)) d_JB_toString_5 ⟨by dsimp only [headSpec]; (first | (apply Int.le_antisymm <;> omega) | omega), by dsimp only [headSpec]; (first | (apply Int.le_antisymm <;> omega) | omega)⟩) hS (fun q _ h => hFc q h) hFc (fun u t H1 locs ht hvm hw hB hz1 hk1 hS => ?_)
  obtain ⟨n2, n3, n4, n5, nq5_nw⟩ := u
  try dsimp only at hw
  obtain ⟨bn2, xr1⟩ := hw
  try clear hw
  obtain ⟨y1, y2, y3, y4⟩ := xr1
  obtain ⟨hP1, hK1, hD1, hZc, hZs⟩ := hB
  rw [ht] at hP1 hZc hZs
  obtain ⟨kc6, ekc6⟩ : ∃ z : Nat, z = 0 + 1 + n3 := ⟨_, rfl⟩
  obtain ⟨kn7, ekn7⟩ : ∃ z : Nat, z = 0 + 4 + n4 := ⟨_, rfl⟩
  refine w_refund (c2 := kc6) (n2 := kn7) (by (first | (apply Int.le_antisymm <;> omega) | omega)) (by (first | (apply Int.le_antisymm <;> omega) | omega)) ?_
  clear hzc hzs hZc hZs
  obtain ⟨hP, hD⟩ := va_join (wr := []) (w1 := (wz_489 nq0 nq5_nw 0 0 0 h0 va 0 h0_maybeLatin1 h0_count va cpb nva gva nq5_nw cpb n5 n2)) hP hD [2, 0, 1] [] rfl rfl (by decide) (by decide) hk1 hFc hP1 hD1
  clear hPc hDc hKc hFc hz1 hk1 hP1 hK1 hD1
  rename Heap => H
  have hP : va_P (dC, dI) cls2 (wz_489 nq0 nq5_nw 0 0 0 h0 va 0 h0_maybeLatin1 h0_count va cpb nva gva nq5_nw cpb n5 n2) H := hP
  have hD : va_D A (wz_489 nq0 nq5_nw 0 0 0 h0 va 0 h0_maybeLatin1 h0_count va cpb nva gva nq5_nw cpb n5 n2) := hD
  have hP9 := hP.sb (wq := (wz_492 h0 va 0 h0_maybeLatin1 h0_count va cpb nva gva nq0 nq5_nw 0 0 0 nq5_nw cpb n5 n2)) [1, 2, 0, 3] rfl
  have hD9 := hD.sb (wq := (wz_492 h0 va 0 h0_maybeLatin1 h0_count va cpb nva gva nq0 nq5_nw 0 0 0 nq5_nw cpb n5 n2)) [1, 2, 0, 3] (by decide) rfl
  refine w_known (fun hzc hzs => ?_)
  refine W.widen (k := 2) (n := 4 + h0_count.toInt.toNat) (by (first | (apply Int.le_antisymm <;> omega) | omega)) (by (first | (apply Int.le_antisymm <;> omega) | omega)) ?_
  exact W.aret (v := .ref nq0) hx hb hr (Or.inl ⟨_, rfl⟩) (Or.inr ⟨_, rfl⟩) (fun t ht hW => ⟨⟨(n2, kc6, kn7, n5, nq0, nq5_nw), nq0, rfl, ⟨bn2, ⟨by (first | (apply Int.le_antisymm <;> omega) | omega), by (first | (apply Int.le_antisymm <;> omega) | omega), by (first | (apply Int.le_antisymm <;> omega) | omega), y4⟩⟩, rfl, va_P.he ht.symm hP9, va_K.moved hW.alike hK, hD9, by rw [ht]; exact hzc, by rw [ht]; exact hzs⟩, hS.F ht⟩) hS.2.2 d_JB_toString_8
end q_m78
section q_m79
/-! texts: equals, indexOf, startsWith -/
theorem sw_inj {t v v2 : Nat} {b b2 : List Int32} {A : Nat → Prop} {U : State} {H : Heap} (h : sw_str t v b A U H) (h2 : sw_str t v2 b2 A U H) (l1 : (b.length : Int) < 2147483648) (l2 : (b2.length : Int) < 2147483648) : b = b2 := by
  obtain ⟨-, -, ⟨cf, k, i, f, cell, g1, g2, g3, g4, g5, g6⟩, ⟨c1, a1, a2, a3, a4, a5, a6, a7⟩⟩ := h
  obtain ⟨-, -, ⟨cf', k', i', f', cell', g1', g2', g3', g4', g5', g6'⟩, ⟨c2, b1, b2_, b3, b4, b5, b6, b7⟩⟩ := h2
  rw [g1] at g1'
  have e1 := Option.some.inj g1'
  injection e1 with _ e1
  injection e1 with _ e1
  injection e1 with _ e1
  subst e1
  rw [g3] at g3'
  have e2 := Option.some.inj g3'
  subst e2
  rw [g5] at g5'
  have e3 := Option.some.inj g5'
  injection e3 with e3
  subst e3
  rw [a1] at b1
  have e4 := Option.some.inj b1
  subst e4
  have e5 : b.length = b2.length := by
    rw [a5] at b5
    have q := congrArg Int32.toInt b5
    rw [ofNat_t (by (first | (apply Int.le_antisymm <;> omega) | omega)), ofNat_t (by (first | (apply Int.le_antisymm <;> omega) | omega))] at q
    (first | (apply Int.le_antisymm <;> omega) | omega)
  refine lst_eq9 (n := b.length) rfl (by (first | (apply Int.le_antisymm <;> omega) | omega)) (fun j hj => ?_)
  have q1 := a6 j (by (first | (apply Int.le_antisymm <;> omega) | omega))
  rw [b6 j (by (first | (apply Int.le_antisymm <;> omega) | omega))] at q1
  have q2 := Option.some.inj q1
  injection q2 with q2
  exact q2.symm
abbrev b_JS_equals : ByteArray := prog_33_method_66_code
def y_JS_equals : MethodName := ⟨R_JS, "equals", "(Ljava/lang/Object;)Z"⟩
abbrev w_JS_equals : List Cond := .code y_JS_equals b_JS_equals 3 (Option.some .boolean) :: lw_g
theorem kC_JS_equals : Cond.code y_JS_equals b_JS_equals 3 (Option.some .boolean) ∈ lw_g := in_c11 79 rfl rfl
theorem d_JS_equals_0 : decode b_JS_equals 0 = .ok (.aload_n 0, 1) := bz_c42 (by decide +kernel)
theorem d_JS_equals_1 : decode b_JS_equals 1 = .ok (.aload_n 1, 1) := bz_c43 (by decide +kernel)
theorem d_JS_equals_2 : decode b_JS_equals 2 = .ok (.if_acmp .ne 5, 3) := bz_c166 (by decide +kernel)
theorem d_JS_equals_5 : decode b_JS_equals 5 = .ok (.iconst 1, 1) := bz_c4 (by decide +kernel)
theorem d_JS_equals_6 : decode b_JS_equals 6 = .ok (.ireturn, 1) := bz_c172 (by decide +kernel)
theorem d_JS_equals_7 : decode b_JS_equals 7 = .ok (.aload_n 1, 1) := bz_c43 (by decide +kernel)
theorem d_JS_equals_8 : decode b_JS_equals 8 = .ok (.instanceof 10, 3) := bz_c193 (by decide +kernel)
theorem d_JS_equals_11 : decode b_JS_equals 11 = .ok (.ifCond .eq 43, 3) := bz_c153 (by decide +kernel)
theorem d_JS_equals_14 : decode b_JS_equals 14 = .ok (.aload_n 1, 1) := bz_c43 (by decide +kernel)
theorem d_JS_equals_15 : decode b_JS_equals 15 = .ok (.checkcast 10, 3) := bz_c192 (by decide +kernel)
theorem d_JS_equals_18 : decode b_JS_equals 18 = .ok (.astore_n 2, 1) := bz_c77 (by decide +kernel)
theorem d_JS_equals_19 : decode b_JS_equals 19 = .ok (.getstatic 38, 3) := bz_c178 (by decide +kernel)
theorem d_JS_equals_22 : decode b_JS_equals 22 = .ok (.ifCond .eq 14, 3) := bz_c153 (by decide +kernel)
theorem d_JS_equals_25 : decode b_JS_equals 25 = .ok (.aload_n 0, 1) := bz_c42 (by decide +kernel)
theorem d_JS_equals_26 : decode b_JS_equals 26 = .ok (.getfield 15, 3) := bz_c180 (by decide +kernel)
theorem d_JS_equals_29 : decode b_JS_equals 29 = .ok (.aload_n 2, 1) := bz_c44 (by decide +kernel)
theorem d_JS_equals_30 : decode b_JS_equals 30 = .ok (.getfield 15, 3) := bz_c180 (by decide +kernel)
theorem d_JS_equals_33 : decode b_JS_equals 33 = .ok (.if_icmp .ne 21, 3) := bz_c160 (by decide +kernel)
theorem d_JS_equals_36 : decode b_JS_equals 36 = .ok (.aload_n 0, 1) := bz_c42 (by decide +kernel)
theorem d_JS_equals_37 : decode b_JS_equals 37 = .ok (.getfield 9, 3) := bz_c180 (by decide +kernel)
theorem d_JS_equals_40 : decode b_JS_equals 40 = .ok (.aload_n 2, 1) := bz_c44 (by decide +kernel)
theorem d_JS_equals_41 : decode b_JS_equals 41 = .ok (.getfield 9, 3) := bz_c180 (by decide +kernel)
theorem d_JS_equals_44 : decode b_JS_equals 44 = .ok (.invokestatic 541, 3) := bz_c184 (by decide +kernel)
theorem d_JS_equals_47 : decode b_JS_equals 47 = .ok (.ifCond .eq 7, 3) := bz_c153 (by decide +kernel)
theorem d_JS_equals_50 : decode b_JS_equals 50 = .ok (.iconst 1, 1) := bz_c4 (by decide +kernel)
theorem d_JS_equals_51 : decode b_JS_equals 51 = .ok (.goto 4, 3) := bz_c167 (by decide +kernel)
theorem d_JS_equals_54 : decode b_JS_equals 54 = .ok (.iconst 0, 1) := bz_c3 (by decide +kernel)
theorem d_JS_equals_55 : decode b_JS_equals 55 = .ok (.ireturn, 1) := bz_c172 (by decide +kernel)
theorem kM_JS_541 : Cond.methodLink R_JS 541 y_JT_equals ∈ lw_g := in_c11 81 rfl rfl
theorem kT_JT_equals : Cond.static y_JT_equals ∈ lw_g := in_c11 82 rfl rfl
theorem kK_JS_10 : Cond.classLink R_JS 10 "java/lang/String" ∈ lw_g := in_c11 80 rfl rfl
abbrev at_JS_equals (dC : Nat → ClassId) (dI : Nat → Nat → Nat) (sa : Nat → Nat)  (A : Nat → Prop) (u : Unit) (t : State) : Prop := match u with | _ => va_P (dC, dI) cls2 [] t.heap ∧ va_K (dC, dI) cls2 [] t ∧ va_D A []
set_option maxHeartbeats 4000000 in
set_option maxRecDepth 100000 in
theorem c_JS_equals (l : Launch) (hlt : l.stackTraces = false) (dC : Nat → ClassId) (dI : Nat → Nat → Nat) (sz : Nat) (sa : Nat → Nat) (tx tv : Nat) (b : List Int32) (ty tw : Nat) (b2 : List Int32)      (hbl : (b.length : Int) < 1000000) (hbl2 : (b2.length : Int) < 1000000) : Met l y_JS_equals w_JS_equals ({ frames := 1, cells := 0, slots := 0, locals := 22 }) (va_Pc [.ref tx, .ref ty] (fun U => U.heap.size = sz ∧ va_P (dC, dI) cls2 [] U.heap ∧ va_K (dC, dI) cls2 [] U ∧ va_D (fun _ => True) [] ∧ sm sa (va_A [] sz) U U.heap ∧ sw_str tx tv b (va_A [] sz) U U.heap ∧ sw_str ty tw b2 (va_A [] sz) U U.heap)) (va_Qi (fun (r : Int32) (u : Unit) => match u with | _ => (r = 0 ∨ r = 1) ∧ ((r.toInt = 1 ∧ b = b2) ∨ (r.toInt = 0 ∧ b ≠ b2))) (at_JS_equals dC dI sa  (va_A [] sz)) (va_A [] sz)) 0 0 (va_A [] sz) := by
  refine Met.ofW (cc := b_JS_equals) (maxL := 3) (ret := (Option.some .boolean)) (by decide) rfl ?_
  intro p e s m args below meth c s₁ B hml hv
  obtain ⟨rfl, hsz, hP, hK, hD0, hSW, hR0, hR1⟩ := hv
  have hx := B.exec
  have hb := B.bytes
  have hr := B.returns
  have hts0 := atoms_spec (ws := w_JS_equals) B.pre
  have hts : ∀ w ∈ lw_g, w.before _ s = true := fun w h => hts0 w (List.mem_cons_of_mem _ h)
  have hown : s.vm.findClass R_JS = some m.cls := findClass_of_methodNamed B.named
  have hlocks := B.notSynchronized
  clear hts0
  subst hsz
  have hD := hD0.self (sz := s.heap.size)
  generalize hAe : va_A [] s.heap.size = A at hD hSW hR0 hR1 ⊢
  have hA : ∀ q : Nat, s.heap.size ≤ q → A q := fun q h => by rw [← hAe]; exact Or.inr h
  clear hAe
  have hP : va_P (dC, dI) cls2 [] s.heap := hP
  have hl := lv_entry ([.ref tx, .ref ty]) (n := 3) (Nat.le_of_ble_eq_true rfl)
  rw [lg_entry_eq]
  generalize (lg_sl ([.ref tx, .ref ty]) ++ List.replicate (3 - (lg_sl ([.ref tx, .ref ty])).length) Slot.unset).toArray = ls at hl ⊢
  have hl : lv_has ls 3 [(0, .ref tx), (1, .ref ty)] := hl
  have k0 : (0 : Int32).toInt = 0 := by decide
  refine w_gen (A := A) hP (fun H locs hP hS => ?_)
  have k1 : (1 : Int32).toInt = 1 := by decide
  refine lv_aload_n hx hb d_JS_equals_0 rfl (lv_at hl 0 rfl) ?_
  refine lv_aload_n hx hb d_JS_equals_1 rfl (lv_at hl 1 rfl) ?_
  refine lv_acmp_ne (rx := some tx) (ry := some ty) (tgt := 7) hx hb d_JS_equals_2 (by decide) (fun c2 => ?_) (fun c2 => ?_)
  · have q2 : tx ≠ ty := fun z => c2 (by rw [z])
    refine lv_aload_n hx hb d_JS_equals_7 rfl (lv_at hl 1 rfl) ?_
    refine va_instE (nm := "java/lang/String") hx hb hown (hts _ kK_JS_10) (so_recv (hR1.1) hS) d_JS_equals_8 ?_
    have k19 : (1 : Int32).toInt = 1 := by decide
    refine lv_if_eq (tgt := 54) hx hb d_JS_equals_11 (by decide) (fun c11 => absurd (eqI c11) (by (first | (apply Int.le_antisymm <;> omega) | omega))) (fun c11 => ?_)
    have q11 := neI c11
    refine lv_aload_n hx hb d_JS_equals_14 rfl (lv_at hl 1 rfl) ?_
    refine va_castE (nm := "java/lang/String") hx hb hown (hts _ kK_JS_10) (so_recv (hR1.1) hS) d_JS_equals_15 ?_
    refine lv_astore_n (lv' := [(2, .ref ty), (0, .ref tx), (1, .ref ty)]) hx hb d_JS_equals_18 rfl hl (by decide) rfl (fun ls hl => ?_)
    refine va_gets (C := "java/lang/String") (n := "COMPACT_STRINGS") (d := "Z") (v := .int 1) hx hb hSW.1.2.2.2.2.2.2.2.2.2.2.2.1 hS hown (hts _ kF_JS_38) (fun _ h9 => h9) d_JS_equals_19 ?_
    have k19 : (1 : Int32).toInt = 1 := by decide
    refine lv_if_eq (tgt := 36) hx hb d_JS_equals_22 (by decide) (fun c22 => absurd (eqI c22) (by (first | (apply Int.le_antisymm <;> omega) | omega))) (fun c22 => ?_)
    have q22 := neI c22
    refine lv_aload_n hx hb d_JS_equals_25 rfl (lv_at hl 1 rfl) ?_
    refine vk_getf (v := .int 0) hx hb (hR0.2.1) hS hown (hts _ kF_JS_15) (fun _ h9 => h9) d_JS_equals_26 ?_
    refine lv_aload_n hx hb d_JS_equals_29 rfl (lv_at hl 0 rfl) ?_
    refine vk_getf (v := .int 0) hx hb (hR1.2.1) hS hown (hts _ kF_JS_15) (fun _ h9 => h9) d_JS_equals_30 ?_
    refine lv_icmp_ne (tgt := 54) hx hb d_JS_equals_33 (by decide) (fun c33 => absurd (neI c33) (by (first | (apply Int.le_antisymm <;> omega) | omega))) (fun c33 => ?_)
    have q33 := eqI c33
    refine lv_aload_n hx hb d_JS_equals_36 rfl (lv_at hl 1 rfl) ?_
    refine vk_getf (v := .ref tv) hx hb (hR0.2.2.1) hS hown (hts _ kF_JS_9) (fun _ h9 => h9) d_JS_equals_37 ?_
    refine lv_aload_n hx hb d_JS_equals_40 rfl (lv_at hl 0 rfl) ?_
    refine vk_getf (v := .ref tw) hx hb (hR1.2.2.1) hS hown (hts _ kF_JS_9) (fun _ h9 => h9) d_JS_equals_41 ?_
    have hPc := @vp_nil
    have hDc := hD.sb (wq := []) [] (by decide) rfl
    have hKc := (k2_of hK).sb (tyq := []) [] rfl
    have hFc := va_free (wc := []) hD hS hA [] rfl
    refine va_calli (va_runS (As := [.ref tv, .ref tw]) (rest := []) ⟨hx, hb, hml, hown, hts⟩ (c_JT_equals l dC dI H.size tv b tw b2 (by (first | (apply Int.le_antisymm <;> omega) | omega)) (by (first | (apply Int.le_antisymm <;> omega) | omega))) ⟨callB_of 2 hts (gW kC_JT_equals) rfl rfl rfl (hts _ kI_JT) (hts _ kM_JS_541) (by decide +kernel) ⟨Nat.le_of_ble_eq_true rfl, Nat.le_of_ble_eq_true rfl⟩, hts _ kT_JT_equals⟩ ⟨fun a U g mk z => by obtain ⟨z0, z1, zP, zK, zD, zV0, zV1⟩ := z; exact ⟨z0, z1, zP, va_K.moved (u := U) (U := U.calling g mk a) (Vm.Alike.refl U.vm) zK, zD, va_T.moved (u := U) (U := U.calling g mk a) (Vm.Alike.refl U.vm) zV0, va_T.moved (u := U) (U := U.calling g mk a) (Vm.Alike.refl U.vm) zV1⟩, fun U hU hW => ⟨rfl, by rw [hU], va_P.he hU.symm hPc, va_K.moved hW.alike hKc, hDc.weaken (fun _ _ _ _ => trivial), vt_call (hR0.2.2.2) hS hFc hW hU, vt_call (hR1.2.2.2) hS hFc hW hU⟩⟩ rfl rfl hl.1 rfl (lv_room (Nat.le_of_ble_eq_true rfl)) d_JS_equals_44 ⟨(Nat.zero_le _), (Nat.zero_le _)⟩) hS (fun q _ h => hFc q h) hFc (fun r1 u t H1 locs ht hvm hw hB hz1 hk1 hS => ?_)
    try dsimp only at hw
    obtain ⟨br1, xr1⟩ := hw
    try clear hw
    have tr1 := b01 br1
    obtain ⟨hP1, hK1, hD1⟩ := hB
    replace hP1 := va_P.he ht hP1
    replace hP1 := @vp_nil (dC, dI) cls2 H1
    obtain ⟨hP, hD⟩ := va_join (wr := []) (w1 := []) hP hD [] [] rfl rfl (by decide) (by decide) hk1 hFc hP1 hD1
    clear hPc hDc hKc hFc hz1 hk1 hP1 hK1 hD1
    rename Heap => H
    have hP : va_P (dC, dI) cls2 [] H := hP
    have hD : va_D A [] := hD
    refine lv_if_eq (tgt := 54) hx hb d_JS_equals_47 (by decide) (fun c47 => ?_) (fun c47 => ?_)
    · have q47 := eqI c47
      refine lv_iconst (v := 0) hx hb d_JS_equals_54 (by decide) ?_
      have hP9 := hP.sb (wq := []) [] rfl
      have hD9 := hD.sb (wq := []) [] (by decide) rfl
      exact W.zret (v := 0) hx hb hr (zn01 (Or.inl rfl)) (fun t ht hW => ⟨⟨0, (), rfl, ⟨Or.inl rfl, Or.inr ⟨by decide, by rcases xr1 with q | q; (first | (apply Int.le_antisymm <;> omega) | omega); exact q.2⟩⟩, va_P.he ht.symm hP9, va_K.moved hW.alike hK, hD9⟩, hS.F ht⟩) hS.2.2 d_JS_equals_55
    · have q47 := neI c47
      refine lv_iconst (v := 1) hx hb d_JS_equals_50 (by decide) ?_
      refine lv_goto (tgt := 55) hx hb d_JS_equals_51 (by decide) ?_
      have hP9 := hP.sb (wq := []) [] rfl
      have hD9 := hD.sb (wq := []) [] (by decide) rfl
      exact W.zret (v := 1) hx hb hr (zn01 (Or.inr rfl)) (fun t ht hW => ⟨⟨1, (), rfl, ⟨Or.inr rfl, Or.inl ⟨by decide, by rcases xr1 with q | q; exact q.2; (first | (apply Int.le_antisymm <;> omega) | omega)⟩⟩, va_P.he ht.symm hP9, va_K.moved hW.alike hK, hD9⟩, hS.F ht⟩) hS.2.2 d_JS_equals_55
  · have q2 : tx = ty := Option.some.inj c2
    refine lv_iconst (v := 1) hx hb d_JS_equals_5 (by decide) ?_
    have hP9 := hP.sb (wq := []) [] rfl
    have hD9 := hD.sb (wq := []) [] (by decide) rfl
    exact W.zret (v := 1) hx hb hr (zn01 (Or.inr rfl)) (fun t ht hW => ⟨⟨1, (), rfl, ⟨Or.inr rfl, Or.inl ⟨by decide, sw_inj hR0 (q2 ▸ hR1) (by (first | (apply Int.le_antisymm <;> omega) | omega)) (by (first | (apply Int.le_antisymm <;> omega) | omega))⟩⟩, va_P.he ht.symm hP9, va_K.moved hW.alike hK, hD9⟩, hS.F ht⟩) hS.2.2 d_JS_equals_6
abbrev b_JS_indexOf2 : ByteArray := prog_33_method_84_code
def y_JS_indexOf2 : MethodName := ⟨R_JS, "indexOf", "(Ljava/lang/String;)I"⟩
abbrev w_JS_indexOf2 : List Cond := .code y_JS_indexOf2 b_JS_indexOf2 3 (Option.some .int) :: lw_g
theorem kC_JS_indexOf2 : Cond.code y_JS_indexOf2 b_JS_indexOf2 3 (Option.some .int) ∈ lw_g := in_c10 229 rfl rfl
theorem d_JS_indexOf2_0 : decode b_JS_indexOf2 0 = .ok (.aload_n 0, 1) := bz_c42 (by decide +kernel)
theorem d_JS_indexOf2_1 : decode b_JS_indexOf2 1 = .ok (.invokevirtual 335, 3) := bz_c182 (by decide +kernel)
theorem d_JS_indexOf2_4 : decode b_JS_indexOf2 4 = .ok (.istore_n 2, 1) := bz_c61 (by decide +kernel)
theorem d_JS_indexOf2_5 : decode b_JS_indexOf2 5 = .ok (.iload_n 2, 1) := bz_c28 (by decide +kernel)
theorem d_JS_indexOf2_6 : decode b_JS_indexOf2 6 = .ok (.aload_n 1, 1) := bz_c43 (by decide +kernel)
theorem d_JS_indexOf2_7 : decode b_JS_indexOf2 7 = .ok (.invokevirtual 335, 3) := bz_c182 (by decide +kernel)
theorem d_JS_indexOf2_10 : decode b_JS_indexOf2 10 = .ok (.if_icmp .ne 36, 3) := bz_c160 (by decide +kernel)
theorem d_JS_indexOf2_13 : decode b_JS_indexOf2 13 = .ok (.aload_n 0, 1) := bz_c42 (by decide +kernel)
theorem d_JS_indexOf2_14 : decode b_JS_indexOf2 14 = .ok (.invokevirtual 492, 3) := bz_c182 (by decide +kernel)
theorem d_JS_indexOf2_17 : decode b_JS_indexOf2 17 = .ok (.ifCond .eq 17, 3) := bz_c153 (by decide +kernel)
theorem d_JS_indexOf2_20 : decode b_JS_indexOf2 20 = .ok (.aload_n 0, 1) := bz_c42 (by decide +kernel)
theorem d_JS_indexOf2_21 : decode b_JS_indexOf2 21 = .ok (.getfield 9, 3) := bz_c180 (by decide +kernel)
theorem d_JS_indexOf2_24 : decode b_JS_indexOf2 24 = .ok (.aload_n 1, 1) := bz_c43 (by decide +kernel)
theorem d_JS_indexOf2_25 : decode b_JS_indexOf2 25 = .ok (.getfield 9, 3) := bz_c180 (by decide +kernel)
theorem d_JS_indexOf2_28 : decode b_JS_indexOf2 28 = .ok (.invokestatic 647, 3) := bz_c184 (by decide +kernel)
theorem d_JS_indexOf2_31 : decode b_JS_indexOf2 31 = .ok (.goto 14, 3) := bz_c167 (by decide +kernel)
theorem d_JS_indexOf2_34 : decode b_JS_indexOf2 34 = .ok (.aload_n 0, 1) := bz_c42 (by decide +kernel)
theorem d_JS_indexOf2_35 : decode b_JS_indexOf2 35 = .ok (.getfield 9, 3) := bz_c180 (by decide +kernel)
theorem d_JS_indexOf2_38 : decode b_JS_indexOf2 38 = .ok (.aload_n 1, 1) := bz_c43 (by decide +kernel)
theorem d_JS_indexOf2_39 : decode b_JS_indexOf2 39 = .ok (.getfield 9, 3) := bz_c180 (by decide +kernel)
theorem d_JS_indexOf2_42 : decode b_JS_indexOf2 42 = .ok (.invokestatic 649, 3) := bz_c184 (by decide +kernel)
theorem d_JS_indexOf2_45 : decode b_JS_indexOf2 45 = .ok (.ireturn, 1) := bz_c172 (by decide +kernel)
theorem d_JS_indexOf2_46 : decode b_JS_indexOf2 46 = .ok (.iload_n 2, 1) := bz_c28 (by decide +kernel)
theorem d_JS_indexOf2_47 : decode b_JS_indexOf2 47 = .ok (.ifCond .ne 5, 3) := bz_c154 (by decide +kernel)
theorem d_JS_indexOf2_50 : decode b_JS_indexOf2 50 = .ok (.iconst (-1), 1) := bz_c2 (by decide +kernel)
theorem d_JS_indexOf2_51 : decode b_JS_indexOf2 51 = .ok (.ireturn, 1) := bz_c172 (by decide +kernel)
theorem d_JS_indexOf2_52 : decode b_JS_indexOf2 52 = .ok (.aload_n 0, 1) := bz_c42 (by decide +kernel)
theorem d_JS_indexOf2_53 : decode b_JS_indexOf2 53 = .ok (.getfield 9, 3) := bz_c180 (by decide +kernel)
theorem d_JS_indexOf2_56 : decode b_JS_indexOf2 56 = .ok (.aload_n 1, 1) := bz_c43 (by decide +kernel)
theorem d_JS_indexOf2_57 : decode b_JS_indexOf2 57 = .ok (.getfield 9, 3) := bz_c180 (by decide +kernel)
theorem d_JS_indexOf2_60 : decode b_JS_indexOf2 60 = .ok (.invokestatic 650, 3) := bz_c184 (by decide +kernel)
theorem d_JS_indexOf2_63 : decode b_JS_indexOf2 63 = .ok (.ireturn, 1) := bz_c172 (by decide +kernel)
theorem kM_JS_647 : Cond.methodLink R_JS 647 y_JT_indexOf2 ∈ lw_g := in_c10 230 rfl rfl
theorem kT_JT_indexOf2 : Cond.static y_JT_indexOf2 ∈ lw_g := in_c10 231 rfl rfl
abbrev b_JF_indexOf1 : ByteArray := prog_36_method_41_code
def y_JF_indexOf1 : MethodName := ⟨R_JF, "indexOf", "([B[B)I"⟩
abbrev w_JF_indexOf1 : List Cond := .code y_JF_indexOf1 b_JF_indexOf1 2 (Option.some .int) :: lw_g
theorem kC_JF_indexOf1 : Cond.code y_JF_indexOf1 b_JF_indexOf1 2 (Option.some .int) ∈ lw_g := in_c10 238 rfl rfl
theorem kM_JS_649 : Cond.methodLink R_JS 649 y_JF_indexOf1 ∈ lw_g := in_c10 236 rfl rfl
theorem kT_JF_indexOf1 : Cond.static y_JF_indexOf1 ∈ lw_g := in_c10 237 rfl rfl
abbrev b_JF_indexOfLatin1 : ByteArray := prog_36_method_44_code
def y_JF_indexOfLatin1 : MethodName := ⟨R_JF, "indexOfLatin1", "([B[B)I"⟩
abbrev w_JF_indexOfLatin1 : List Cond := .code y_JF_indexOfLatin1 b_JF_indexOfLatin1 2 (Option.some .int) :: lw_g
theorem kC_JF_indexOfLatin1 : Cond.code y_JF_indexOfLatin1 b_JF_indexOfLatin1 2 (Option.some .int) ∈ lw_g := in_c11 4 rfl rfl
theorem kM_JS_650 : Cond.methodLink R_JS 650 y_JF_indexOfLatin1 ∈ lw_g := in_c11 2 rfl rfl
theorem kT_JF_indexOfLatin1 : Cond.static y_JF_indexOfLatin1 ∈ lw_g := in_c11 3 rfl rfl
abbrev at_JS_indexOf2 (dC : Nat → ClassId) (dI : Nat → Nat → Nat) (sa : Nat → Nat)  (A : Nat → Prop) (u : Unit) (t : State) : Prop := match u with | _ => va_P (dC, dI) cls2 [] t.heap ∧ va_K (dC, dI) cls2 [] t ∧ va_D A []
set_option maxHeartbeats 4000000 in
set_option maxRecDepth 100000 in
theorem c_JS_indexOf2 (l : Launch) (hlt : l.stackTraces = false) (dC : Nat → ClassId) (dI : Nat → Nat → Nat) (sz : Nat) (sa : Nat → Nat) (tx tv : Nat) (b : List Int32) (ty tw : Nat) (b2 : List Int32)      (hbl : (b.length : Int) < 1000000) (hbl2 : (b2.length : Int) < 1000000) : Met l y_JS_indexOf2 w_JS_indexOf2 ({ frames := 2, cells := 0, slots := 0, locals := 51 }) (va_Pc [.ref tx, .ref ty] (fun U => U.heap.size = sz ∧ va_P (dC, dI) cls2 [] U.heap ∧ va_K (dC, dI) cls2 [] U ∧ va_D (fun _ => True) [] ∧ sm sa (va_A [] sz) U U.heap ∧ sw_str tx tv b (va_A [] sz) U U.heap ∧ sw_str ty tw b2 (va_A [] sz) U U.heap)) (va_Qi (fun (r : Int32) (u : Unit) => match u with | _ => (r.toInt = -1 ∨ sub9 b b2 r.toInt)) (at_JS_indexOf2 dC dI sa  (va_A [] sz)) (va_A [] sz)) 0 0 (va_A [] sz) := by
  refine Met.ofW (cc := b_JS_indexOf2) (maxL := 3) (ret := (Option.some .int)) (by decide) rfl ?_
  intro p e s m args below meth c s₁ B hml hv
  obtain ⟨rfl, hsz, hP, hK, hD0, hSW, hR0, hR1⟩ := hv
  have hx := B.exec
  have hb := B.bytes
  have hr := B.returns
  have hts0 := atoms_spec (ws := w_JS_indexOf2) B.pre
  have hts : ∀ w ∈ lw_g, w.before _ s = true := fun w h => hts0 w (List.mem_cons_of_mem _ h)
  have hown : s.vm.findClass R_JS = some m.cls := findClass_of_methodNamed B.named
  have hlocks := B.notSynchronized
  clear hts0
  subst hsz
  have hD := hD0.self (sz := s.heap.size)
  generalize hAe : va_A [] s.heap.size = A at hD hSW hR0 hR1 ⊢
  have hA : ∀ q : Nat, s.heap.size ≤ q → A q := fun q h => by rw [← hAe]; exact Or.inr h
  clear hAe
  have hP : va_P (dC, dI) cls2 [] s.heap := hP
  have hl := lv_entry ([.ref tx, .ref ty]) (n := 3) (Nat.le_of_ble_eq_true rfl)
  rw [lg_entry_eq]
  generalize (lg_sl ([.ref tx, .ref ty]) ++ List.replicate (3 - (lg_sl ([.ref tx, .ref ty])).length) Slot.unset).toArray = ls at hl ⊢
  have hl : lv_has ls 3 [(0, .ref tx), (1, .ref ty)] := hl
  have k0 : (0 : Int32).toInt = 0 := by decide
  refine w_gen (A := A) hP (fun H locs hP hS => ?_)
  have km1 : (-1 : Int32).toInt = -1 := by decide
  refine lv_aload_n hx hb d_JS_indexOf2_0 rfl (lv_at hl 0 rfl) ?_
  have hPc := @vp_nil
  have hDc := hD.sb (wq := []) [] (by decide) rfl
  have hKc := (k2_of hK).sb (tyq := []) [] rfl
  have hFc := va_free (wc := []) hD hS hA [] rfl
  refine va_calli (va_runV (As := []) (rest := []) ⟨hx, hb, hml, hown, hts⟩ (c_JS_coder l dC dI H.size sa tx tv b ) (cwV 0 hts (gV kM_JS_335 kV_JS_coder kS_JS_coder kI_JS kC_JS_coder) rfl rfl rfl (by decide +kernel) ⟨Nat.le_of_ble_eq_true rfl, Nat.le_of_ble_eq_true rfl⟩) ⟨fun a U g mk z => by obtain ⟨z0, z1, zP, zK, zD, zS, zR0⟩ := z; exact ⟨z0, z1, zP, va_K.moved (u := U) (U := U.calling g mk a) (Vm.Alike.refl U.vm) zK, zD, sw.same (u := U) (U := U.calling g mk a) rfl zS, zR0.moved (u := U) (U := U.calling g mk a) (Vm.Alike.refl U.vm)⟩, so_recv (hR0.1) hS, fun U hU hW => ⟨rfl, by rw [hU], va_P.he hU.symm hPc, va_K.moved hW.alike hKc, hDc.weaken (fun _ _ _ _ => trivial), hSW.1.call hS hFc hW hU, (hR0).call hS hFc hW hU⟩⟩ rfl rfl hl.1 rfl (lv_room (Nat.le_of_ble_eq_true rfl)) d_JS_indexOf2_1 ⟨(Nat.zero_le _), (Nat.zero_le _)⟩) hS (fun q _ h => hFc q h) hFc (fun r1 u t H1 locs ht hvm hw hB hz1 hk1 hS => ?_)
  try dsimp only at hw
  have xr1 := hw
  try clear hw
  have tr1 : r1.toInt = 0 := by rw [xr1]; decide
  obtain ⟨hP1, hK1, hD1⟩ := hB
  replace hP1 := va_P.he ht hP1
  replace hP1 := @vp_nil (dC, dI) cls2 H1
  obtain ⟨hP, hD⟩ := va_join (wr := []) (w1 := []) hP hD [] [] rfl rfl (by decide) (by decide) hk1 hFc hP1 hD1
  clear hPc hDc hKc hFc hz1 hk1 hP1 hK1 hD1
  rename Heap => H
  have hP : va_P (dC, dI) cls2 [] H := hP
  have hD : va_D A [] := hD
  refine lv_istore_n (lv' := [(2, .int r1), (0, .ref tx), (1, .ref ty)]) hx hb d_JS_indexOf2_4 rfl hl (by decide) rfl (fun ls hl => ?_)
  refine lv_iload_n hx hb d_JS_indexOf2_5 rfl (lv_at hl 0 rfl) ?_
  refine lv_aload_n hx hb d_JS_indexOf2_6 rfl (lv_at hl 2 rfl) ?_
  have hPc := @vp_nil
  have hDc := hD.sb (wq := []) [] (by decide) rfl
  have hKc := (k2_of hK).sb (tyq := []) [] rfl
  have hFc := va_free (wc := []) hD hS hA [] rfl
  refine va_calli (va_runV (As := []) (rest := [.int r1]) ⟨hx, hb, hml, hown, hts⟩ (c_JS_coder l dC dI H.size sa ty tw b2 ) (cwV 0 hts (gV kM_JS_335 kV_JS_coder kS_JS_coder kI_JS kC_JS_coder) rfl rfl rfl (by decide +kernel) ⟨Nat.le_of_ble_eq_true rfl, Nat.le_of_ble_eq_true rfl⟩) ⟨fun a U g mk z => by obtain ⟨z0, z1, zP, zK, zD, zS, zR0⟩ := z; exact ⟨z0, z1, zP, va_K.moved (u := U) (U := U.calling g mk a) (Vm.Alike.refl U.vm) zK, zD, sw.same (u := U) (U := U.calling g mk a) rfl zS, zR0.moved (u := U) (U := U.calling g mk a) (Vm.Alike.refl U.vm)⟩, so_recv (hR1.1) hS, fun U hU hW => ⟨rfl, by rw [hU], va_P.he hU.symm hPc, va_K.moved hW.alike hKc, hDc.weaken (fun _ _ _ _ => trivial), hSW.1.call hS hFc hW hU, (hR1).call hS hFc hW hU⟩⟩ rfl rfl hl.1 rfl (lv_room (Nat.le_of_ble_eq_true rfl)) d_JS_indexOf2_7 ⟨(Nat.zero_le _), (Nat.zero_le _)⟩) hS (fun q _ h => hFc q h) hFc (fun r2 u t H1 locs ht hvm hw hB hz1 hk1 hS => ?_)
  try dsimp only at hw
  have xr2 := hw
  try clear hw
  have tr2 : r2.toInt = 0 := by rw [xr2]; decide
  obtain ⟨hP1, hK1, hD1⟩ := hB
  replace hP1 := va_P.he ht hP1
  replace hP1 := @vp_nil (dC, dI) cls2 H1
  obtain ⟨hP, hD⟩ := va_join (wr := []) (w1 := []) hP hD [] [] rfl rfl (by decide) (by decide) hk1 hFc hP1 hD1
  clear hPc hDc hKc hFc hz1 hk1 hP1 hK1 hD1
  rename Heap => H
  have hP : va_P (dC, dI) cls2 [] H := hP
  have hD : va_D A [] := hD
  refine lv_icmp_ne (tgt := 46) hx hb d_JS_indexOf2_10 (by decide) (fun c10 => absurd (neI c10) (by (first | (apply Int.le_antisymm <;> omega) | omega))) (fun c10 => ?_)
  have q10 := eqI c10
  refine lv_aload_n hx hb d_JS_indexOf2_13 rfl (lv_at hl 1 rfl) ?_
  have hPc := @vp_nil
  have hDc := hD.sb (wq := []) [] (by decide) rfl
  have hKc := (k2_of hK).sb (tyq := []) [] rfl
  have hFc := va_free (wc := []) hD hS hA [] rfl
  refine va_calli (va_runV (As := []) (rest := []) ⟨hx, hb, hml, hown, hts⟩ (c_JS_isLatin1 l dC dI H.size sa tx tv b ) (cwV 0 hts (gV kM_JS_492 kV_JS_isLatin1 kS_JS_isLatin1 kI_JS kC_JS_isLatin1) rfl rfl rfl (by decide +kernel) ⟨Nat.le_of_ble_eq_true rfl, Nat.le_of_ble_eq_true rfl⟩) ⟨fun a U g mk z => by obtain ⟨z0, z1, zP, zK, zD, zS, zR0⟩ := z; exact ⟨z0, z1, zP, va_K.moved (u := U) (U := U.calling g mk a) (Vm.Alike.refl U.vm) zK, zD, sw.same (u := U) (U := U.calling g mk a) rfl zS, zR0.moved (u := U) (U := U.calling g mk a) (Vm.Alike.refl U.vm)⟩, so_recv (hR0.1) hS, fun U hU hW => ⟨rfl, by rw [hU], va_P.he hU.symm hPc, va_K.moved hW.alike hKc, hDc.weaken (fun _ _ _ _ => trivial), hSW.1.call hS hFc hW hU, (hR0).call hS hFc hW hU⟩⟩ rfl rfl hl.1 rfl (lv_room (Nat.le_of_ble_eq_true rfl)) d_JS_indexOf2_14 ⟨(Nat.zero_le _), (Nat.zero_le _)⟩) hS (fun q _ h => hFc q h) hFc (fun r3 u t H1 locs ht hvm hw hB hz1 hk1 hS => ?_)
  try dsimp only at hw
  obtain ⟨br3, xr3⟩ := hw
  try clear hw
  have tr3 := b01 br3
  have tr3 : r3.toInt = 1 := by rw [xr3]; decide
  obtain ⟨hP1, hK1, hD1⟩ := hB
  replace hP1 := va_P.he ht hP1
  replace hP1 := @vp_nil (dC, dI) cls2 H1
  obtain ⟨hP, hD⟩ := va_join (wr := []) (w1 := []) hP hD [] [] rfl rfl (by decide) (by decide) hk1 hFc hP1 hD1
  clear hPc hDc hKc hFc hz1 hk1 hP1 hK1 hD1
  rename Heap => H
  have hP : va_P (dC, dI) cls2 [] H := hP
  have hD : va_D A [] := hD
  refine lv_if_eq (tgt := 34) hx hb d_JS_indexOf2_17 (by decide) (fun c17 => absurd (eqI c17) (by (first | (apply Int.le_antisymm <;> omega) | omega))) (fun c17 => ?_)
  have q17 := neI c17
  refine lv_aload_n hx hb d_JS_indexOf2_20 rfl (lv_at hl 1 rfl) ?_
  refine vk_getf (v := .ref tv) hx hb (hR0.2.2.1) hS hown (hts _ kF_JS_9) (fun _ h9 => h9) d_JS_indexOf2_21 ?_
  refine lv_aload_n hx hb d_JS_indexOf2_24 rfl (lv_at hl 2 rfl) ?_
  refine vk_getf (v := .ref tw) hx hb (hR1.2.2.1) hS hown (hts _ kF_JS_9) (fun _ h9 => h9) d_JS_indexOf2_25 ?_
  have hPc := @vp_nil
  have hDc := hD.sb (wq := []) [] (by decide) rfl
  have hKc := (k2_of hK).sb (tyq := []) [] rfl
  have hFc := va_free (wc := []) hD hS hA [] rfl
  refine va_calli (va_runS (As := [.ref tv, .ref tw]) (rest := []) ⟨hx, hb, hml, hown, hts⟩ (c_JT_indexOf2 l dC dI H.size tv b tw b2 (by (first | (apply Int.le_antisymm <;> omega) | omega)) (by (first | (apply Int.le_antisymm <;> omega) | omega)) (by (first | (apply Int.le_antisymm <;> omega) | omega))) ⟨callB_of 2 hts (gW kC_JT_indexOf2) rfl rfl rfl (hts _ kI_JT) (hts _ kM_JS_647) (by decide +kernel) ⟨Nat.le_of_ble_eq_true rfl, Nat.le_of_ble_eq_true rfl⟩, hts _ kT_JT_indexOf2⟩ ⟨fun a U g mk z => by obtain ⟨z0, z1, zP, zK, zD, zV0, zV1⟩ := z; exact ⟨z0, z1, zP, va_K.moved (u := U) (U := U.calling g mk a) (Vm.Alike.refl U.vm) zK, zD, va_T.moved (u := U) (U := U.calling g mk a) (Vm.Alike.refl U.vm) zV0, va_T.moved (u := U) (U := U.calling g mk a) (Vm.Alike.refl U.vm) zV1⟩, fun U hU hW => ⟨rfl, by rw [hU], va_P.he hU.symm hPc, va_K.moved hW.alike hKc, hDc.weaken (fun _ _ _ _ => trivial), vt_call (hR0.2.2.2) hS hFc hW hU, vt_call (hR1.2.2.2) hS hFc hW hU⟩⟩ rfl rfl hl.1 rfl (lv_room (Nat.le_of_ble_eq_true rfl)) d_JS_indexOf2_28 ⟨(Nat.zero_le _), (Nat.zero_le _)⟩) hS (fun q _ h => hFc q h) hFc (fun r4 u t H1 locs ht hvm hw hB hz1 hk1 hS => ?_)
  try dsimp only at hw
  have xr4 := hw
  try clear hw
  obtain ⟨hP1, hK1, hD1⟩ := hB
  replace hP1 := va_P.he ht hP1
  replace hP1 := @vp_nil (dC, dI) cls2 H1
  obtain ⟨hP, hD⟩ := va_join (wr := []) (w1 := []) hP hD [] [] rfl rfl (by decide) (by decide) hk1 hFc hP1 hD1
  clear hPc hDc hKc hFc hz1 hk1 hP1 hK1 hD1
  rename Heap => H
  have hP : va_P (dC, dI) cls2 [] H := hP
  have hD : va_D A [] := hD
  refine lv_goto (tgt := 45) hx hb d_JS_indexOf2_31 (by decide) ?_
  have hP9 := hP.sb (wq := []) [] rfl
  have hD9 := hD.sb (wq := []) [] (by decide) rfl
  exact W.iret (v := r4) hx hb hr (fun t ht hW => ⟨⟨r4, (), rfl, (xr4), va_P.he ht.symm hP9, va_K.moved hW.alike hK, hD9⟩, hS.F ht⟩) hS.2.2 d_JS_indexOf2_45
abbrev b_JT_canEncode1 : ByteArray := prog_35_method_4_code
def y_JT_canEncode1 : MethodName := ⟨R_JT, "canEncode", "(I)Z"⟩
abbrev w_JT_canEncode1 : List Cond := .code y_JT_canEncode1 b_JT_canEncode1 1 (Option.some .boolean) :: lw_g
theorem kC_JT_canEncode1 : Cond.code y_JT_canEncode1 b_JT_canEncode1 1 (Option.some .boolean) ∈ lw_g := in_c11 35 rfl rfl
theorem d_JT_canEncode1_0 : decode b_JT_canEncode1 0 = .ok (.iload_n 0, 1) := bz_c26 (by decide +kernel)
theorem d_JT_canEncode1_1 : decode b_JT_canEncode1 1 = .ok (.ifCond .lt 14, 3) := bz_c155 (by decide +kernel)
theorem d_JT_canEncode1_4 : decode b_JT_canEncode1 4 = .ok (.iload_n 0, 1) := bz_c26 (by decide +kernel)
theorem d_JT_canEncode1_5 : decode b_JT_canEncode1 5 = .ok (.sipush 255, 3) := bz_c17 (by decide +kernel)
theorem d_JT_canEncode1_8 : decode b_JT_canEncode1 8 = .ok (.if_icmp .gt 7, 3) := bz_c163 (by decide +kernel)
theorem d_JT_canEncode1_11 : decode b_JT_canEncode1 11 = .ok (.iconst 1, 1) := bz_c4 (by decide +kernel)
theorem d_JT_canEncode1_12 : decode b_JT_canEncode1 12 = .ok (.goto 4, 3) := bz_c167 (by decide +kernel)
theorem d_JT_canEncode1_15 : decode b_JT_canEncode1 15 = .ok (.iconst 0, 1) := bz_c3 (by decide +kernel)
theorem d_JT_canEncode1_16 : decode b_JT_canEncode1 16 = .ok (.ireturn, 1) := bz_c172 (by decide +kernel)
abbrev at_JT_canEncode1 (dC : Nat → ClassId) (dI : Nat → Nat → Nat)  (A : Nat → Prop) (u : Unit) (t : State) : Prop := match u with | _ => va_P (dC, dI) cls2 [] t.heap ∧ va_K (dC, dI) cls2 [] t ∧ va_D A []
set_option maxHeartbeats 4000000 in
set_option maxRecDepth 100000 in
theorem c_JT_canEncode1 (l : Launch) (hlt : l.stackTraces = false) (dC : Nat → ClassId) (dI : Nat → Nat → Nat) (sz : Nat)    (p0 : Int32)   : Met l y_JT_canEncode1 w_JT_canEncode1 ({ frames := 0, cells := 0, slots := 0, locals := 0 }) (va_Pc [.int p0] (fun U => U.heap.size = sz ∧ va_P (dC, dI) cls2 [] U.heap ∧ va_K (dC, dI) cls2 [] U ∧ va_D (fun _ => True) [])) (va_Qi (fun (r : Int32) (u : Unit) => match u with | _ => (r = 0 ∨ r = 1) ∧ (True)) (at_JT_canEncode1 dC dI  (va_A [] sz)) (va_A [] sz)) 0 0 (va_A [] sz) := by
  refine Met.ofW (cc := b_JT_canEncode1) (maxL := 1) (ret := (Option.some .boolean)) (by decide) rfl ?_
  intro p e s m args below meth c s₁ B hml hv
  obtain ⟨rfl, hsz, hP, hK, hD0⟩ := hv
  have hx := B.exec
  have hb := B.bytes
  have hr := B.returns
  have hts0 := atoms_spec (ws := w_JT_canEncode1) B.pre
  have hts : ∀ w ∈ lw_g, w.before _ s = true := fun w h => hts0 w (List.mem_cons_of_mem _ h)
  have hown : s.vm.findClass R_JT = some m.cls := findClass_of_methodNamed B.named
  have hlocks := B.notSynchronized
  clear hts0
  subst hsz
  have hD := hD0.self (sz := s.heap.size)
  generalize hAe : va_A [] s.heap.size = A at hD ⊢
  have hA : ∀ q : Nat, s.heap.size ≤ q → A q := fun q h => by rw [← hAe]; exact Or.inr h
  clear hAe
  have hP : va_P (dC, dI) cls2 [] s.heap := hP
  have hl := lv_entry ([.int p0]) (n := 1) (Nat.le_of_ble_eq_true rfl)
  rw [lg_entry_eq]
  generalize (lg_sl ([.int p0]) ++ List.replicate (1 - (lg_sl ([.int p0])).length) Slot.unset).toArray = ls at hl ⊢
  have hl : lv_has ls 1 [(0, .int p0)] := hl
  have k0 : (0 : Int32).toInt = 0 := by decide
  refine w_gen (A := A) hP (fun H locs hP hS => ?_)
  have k1 : (1 : Int32).toInt = 1 := by decide
  have k255 : (255 : Int32).toInt = 255 := by decide
  have lo_p0 := i32_lo p0
  have hi_p0 := i32_hi p0
  refine lv_iload_n hx hb d_JT_canEncode1_0 rfl (lv_at hl 0 rfl) ?_
  refine lv_if_lt (tgt := 15) hx hb d_JT_canEncode1_1 (by decide) (fun c1 => ?_) (fun c1 => ?_)
  · have q1 := ltI c1
    refine lv_iconst (v := 0) hx hb d_JT_canEncode1_15 (by decide) ?_
    have hP9 := hP.sb (wq := []) [] rfl
    have hD9 := hD.sb (wq := []) [] (by decide) rfl
    exact W.zret (v := 0) hx hb hr (zn01 (Or.inl rfl)) (fun t ht hW => ⟨⟨0, (), rfl, ⟨Or.inl rfl, trivial⟩, va_P.he ht.symm hP9, va_K.moved hW.alike hK, hD9⟩, hS.F ht⟩) hS.2.2 d_JT_canEncode1_16
  · have q1 := nltI c1
    refine lv_iload_n hx hb d_JT_canEncode1_4 rfl (lv_at hl 0 rfl) ?_
    refine lv_sipush (v := 255) hx hb d_JT_canEncode1_5 (by decide) ?_
    refine lv_icmp_gt (tgt := 15) hx hb d_JT_canEncode1_8 (by decide) (fun c8 => ?_) (fun c8 => ?_)
    · have q8 := ltI c8
      refine lv_iconst (v := 0) hx hb d_JT_canEncode1_15 (by decide) ?_
      have hP9 := hP.sb (wq := []) [] rfl
      have hD9 := hD.sb (wq := []) [] (by decide) rfl
      exact W.zret (v := 0) hx hb hr (zn01 (Or.inl rfl)) (fun t ht hW => ⟨⟨0, (), rfl, ⟨Or.inl rfl, trivial⟩, va_P.he ht.symm hP9, va_K.moved hW.alike hK, hD9⟩, hS.F ht⟩) hS.2.2 d_JT_canEncode1_16
    · have q8 := nltI c8
      refine lv_iconst (v := 1) hx hb d_JT_canEncode1_11 (by decide) ?_
      refine lv_goto (tgt := 16) hx hb d_JT_canEncode1_12 (by decide) ?_
      have hP9 := hP.sb (wq := []) [] rfl
      have hD9 := hD.sb (wq := []) [] (by decide) rfl
      exact W.zret (v := 1) hx hb hr (zn01 (Or.inr rfl)) (fun t ht hW => ⟨⟨1, (), rfl, ⟨Or.inr rfl, trivial⟩, va_P.he ht.symm hP9, va_K.moved hW.alike hK, hD9⟩, hS.F ht⟩) hS.2.2 d_JT_canEncode1_16
abbrev b_JT_indexOfChar : ByteArray := prog_35_method_23_code
def y_JT_indexOfChar : MethodName := ⟨R_JT, "indexOfChar", "([BIII)I"⟩
abbrev w_JT_indexOfChar : List Cond := .code y_JT_indexOfChar b_JT_indexOfChar 6 (Option.some .int) :: lw_g
theorem kC_JT_indexOfChar : Cond.code y_JT_indexOfChar b_JT_indexOfChar 6 (Option.some .int) ∈ lw_g := in_c11 40 rfl rfl
theorem d_JT_indexOfChar_0 : decode b_JT_indexOfChar 0 = .ok (.iload_n 1, 1) := bz_c27 (by decide +kernel)
theorem d_JT_indexOfChar_1 : decode b_JT_indexOfChar 1 = .ok (.i2b, 1) := by decide +kernel
theorem d_JT_indexOfChar_2 : decode b_JT_indexOfChar 2 = .ok (.istore 4, 2) := bz_c54 (by decide +kernel)
theorem d_JT_indexOfChar_4 : decode b_JT_indexOfChar 4 = .ok (.iload_n 2, 1) := bz_c28 (by decide +kernel)
theorem d_JT_indexOfChar_5 : decode b_JT_indexOfChar 5 = .ok (.istore 5, 2) := bz_c54 (by decide +kernel)
theorem d_JT_indexOfChar_7 : decode b_JT_indexOfChar 7 = .ok (.iload 5, 2) := bz_c21 (by decide +kernel)
theorem d_JT_indexOfChar_9 : decode b_JT_indexOfChar 9 = .ok (.iload_n 3, 1) := bz_c29 (by decide +kernel)
theorem d_JT_indexOfChar_10 : decode b_JT_indexOfChar 10 = .ok (.if_icmp .ge 21, 3) := bz_c162 (by decide +kernel)
theorem d_JT_indexOfChar_13 : decode b_JT_indexOfChar 13 = .ok (.aload_n 0, 1) := bz_c42 (by decide +kernel)
theorem d_JT_indexOfChar_14 : decode b_JT_indexOfChar 14 = .ok (.iload 5, 2) := bz_c21 (by decide +kernel)
theorem d_JT_indexOfChar_16 : decode b_JT_indexOfChar 16 = .ok (.baload, 1) := bz_c51 (by decide +kernel)
theorem d_JT_indexOfChar_17 : decode b_JT_indexOfChar 17 = .ok (.iload 4, 2) := bz_c21 (by decide +kernel)
theorem d_JT_indexOfChar_19 : decode b_JT_indexOfChar 19 = .ok (.if_icmp .ne 6, 3) := bz_c160 (by decide +kernel)
theorem d_JT_indexOfChar_22 : decode b_JT_indexOfChar 22 = .ok (.iload 5, 2) := bz_c21 (by decide +kernel)
theorem d_JT_indexOfChar_24 : decode b_JT_indexOfChar 24 = .ok (.ireturn, 1) := bz_c172 (by decide +kernel)
theorem d_JT_indexOfChar_25 : decode b_JT_indexOfChar 25 = .ok (.iinc 5 1, 3) := by decide +kernel
theorem d_JT_indexOfChar_28 : decode b_JT_indexOfChar 28 = .ok (.goto (-21), 3) := bz_c167 (by decide +kernel)
theorem d_JT_indexOfChar_31 : decode b_JT_indexOfChar 31 = .ok (.iconst (-1), 1) := bz_c2 (by decide +kernel)
theorem d_JT_indexOfChar_32 : decode b_JT_indexOfChar 32 = .ok (.ireturn, 1) := bz_c172 (by decide +kernel)
abbrev at_JT_indexOfChar (dC : Nat → ClassId) (dI : Nat → Nat → Nat)  (A : Nat → Prop) (u : Unit) (t : State) : Prop := match u with | _ => va_P (dC, dI) cls2 [] t.heap ∧ va_K (dC, dI) cls2 [] t ∧ va_D A []
set_option maxHeartbeats 4000000 in
set_option maxRecDepth 100000 in
theorem c_JT_indexOfChar (l : Launch) (hlt : l.stackTraces = false) (dC : Nat → ClassId) (dI : Nat → Nat → Nat) (sz : Nat) (v : Nat) (b : List Int32)    (p1 : Int32) (p2 : Int32) (p3 : Int32)  (hbl : (b.length : Int) < 1000000) (hp : 0 ≤ p2.toInt ∧ p2.toInt ≤ p3.toInt ∧ p3.toInt ≤ (b.length : Int)) : Met l y_JT_indexOfChar w_JT_indexOfChar ({ frames := 0, cells := 0, slots := 0, locals := 0 }) (va_Pc [.ref v, .int p1, .int p2, .int p3] (fun U => U.heap.size = sz ∧ va_P (dC, dI) cls2 [] U.heap ∧ va_K (dC, dI) cls2 [] U ∧ va_D (fun _ => True) [] ∧ va_T .byte v b.length (fun j => .int (b.getD j 0)) (va_A [] sz) U U.heap)) (va_Qi (fun (r : Int32) (u : Unit) => match u with | _ => (True)) (at_JT_indexOfChar dC dI  (va_A [] sz)) (va_A [] sz)) 0 0 (va_A [] sz) := by
  refine Met.ofW (cc := b_JT_indexOfChar) (maxL := 6) (ret := (Option.some .int)) (by decide) rfl ?_
  intro p e s m args below meth c s₁ B hml hv
  obtain ⟨rfl, hsz, hP, hK, hD0, hV0⟩ := hv
  have hx := B.exec
  have hb := B.bytes
  have hr := B.returns
  have hts0 := atoms_spec (ws := w_JT_indexOfChar) B.pre
  have hts : ∀ w ∈ lw_g, w.before _ s = true := fun w h => hts0 w (List.mem_cons_of_mem _ h)
  have hown : s.vm.findClass R_JT = some m.cls := findClass_of_methodNamed B.named
  have hlocks := B.notSynchronized
  clear hts0
  subst hsz
  have hD := hD0.self (sz := s.heap.size)
  generalize hAe : va_A [] s.heap.size = A at hD hV0 ⊢
  have hA : ∀ q : Nat, s.heap.size ≤ q → A q := fun q h => by rw [← hAe]; exact Or.inr h
  clear hAe
  have hP : va_P (dC, dI) cls2 [] s.heap := hP
  have hl := lv_entry ([.ref v, .int p1, .int p2, .int p3]) (n := 6) (Nat.le_of_ble_eq_true rfl)
  rw [lg_entry_eq]
  generalize (lg_sl ([.ref v, .int p1, .int p2, .int p3]) ++ List.replicate (6 - (lg_sl ([.ref v, .int p1, .int p2, .int p3])).length) Slot.unset).toArray = ls at hl ⊢
  have hl : lv_has ls 6 [(0, .ref v), (1, .int p1), (2, .int p2), (3, .int p3)] := hl
  have k0 : (0 : Int32).toInt = 0 := by decide
  refine w_gen (A := A) hP (fun H locs hP hS => ?_)
  have km1 : (-1 : Int32).toInt = -1 := by decide
  have k1 : (1 : Int32).toInt = 1 := by decide
  have lo_p1 := i32_lo p1
  have hi_p1 := i32_hi p1
  have lo_p2 := i32_lo p2
  have hi_p2 := i32_hi p2
  have lo_p3 := i32_lo p3
  have hi_p3 := i32_hi p3
  refine lv_iload_n hx hb d_JT_indexOfChar_0 rfl (lv_at hl 1 rfl) ?_
  refine lv_i2b hx hb d_JT_indexOfChar_1 rfl ?_
  refine lv_topi (fun x1 ex1 => ?_)
  refine lv_istore (lv' := [(4, .int x1), (0, .ref v), (1, .int p1), (2, .int p2), (3, .int p3)]) hx hb d_JT_indexOfChar_2 hl (by decide) rfl (fun ls hl => ?_)
  refine lv_iload_n hx hb d_JT_indexOfChar_4 rfl (lv_at hl 3 rfl) ?_
  refine lv_istore (lv' := [(5, .int p2), (4, .int x1), (0, .ref v), (1, .int p1), (2, .int p2), (3, .int p3)]) hx hb d_JT_indexOfChar_5 hl (by decide) rfl (fun ls hl => ?_)
  refine w_loop (σ := Int32) (fun u H locs ls => match u with | j7_l5 => (0 ≤ j7_l5.toInt ∧ j7_l5.toInt ≤ 1000000) ∧ (j7_l5.toInt ≤ p3.toInt) ∧ va_P (dC, dI) cls2 [] H ∧ va_D A [] ∧ va_S A s.heap H locs ∧ lv_has ls 6 [(0, .ref v), (3, .int p3), (4, .int x1), (5, .int j7_l5)]) (fun u => match u with | j7_l5 => (p3.toInt - j7_l5.toInt).toNat) ?_ p2 ⟨by (try dsimp only) <;> (first | (apply Int.le_antisymm <;> omega) | omega), by (try dsimp only) <;> (first | (apply Int.le_antisymm <;> omega) | omega), hP, hD, hS, lv_sub hl [2, 5, 1, 0] rfl⟩
  intro N7 ih7 u H locs ls hN7 hI
  obtain ⟨j7_l5, rfl⟩ : ∃ z, z = u := ⟨_, rfl⟩
  obtain ⟨b_j7_l5, u1, hP, hD, hS, hl⟩ := hI
  have hN7 : (p3.toInt - j7_l5.toInt).toNat < N7 + 1 := hN7
  refine lv_iload hx hb d_JT_indexOfChar_7 (lv_at hl 3 rfl) ?_
  refine lv_iload_n hx hb d_JT_indexOfChar_9 rfl (lv_at hl 1 rfl) ?_
  refine lv_icmp_ge (tgt := 31) hx hb d_JT_indexOfChar_10 (by decide) (fun c10 => ?_) (fun c10 => ?_)
  · have q10 := leI c10
    refine lv_iconst (v := (-1)) hx hb d_JT_indexOfChar_31 (by decide) ?_
    have hP9 := hP.sb (wq := []) [] rfl
    have hD9 := hD.sb (wq := []) [] (by decide) rfl
    exact W.iret (v := ((-1))) hx hb hr (fun t ht hW => ⟨⟨(-1), (), rfl, (trivial), va_P.he ht.symm hP9, va_K.moved hW.alike hK, hD9⟩, hS.F ht⟩) hS.2.2 d_JT_indexOfChar_32
  · have q10 := nleI c10
    refine lv_aload_n hx hb d_JT_indexOfChar_13 rfl (lv_at hl 0 rfl) ?_
    refine lv_iload hx hb d_JT_indexOfChar_14 (lv_at hl 3 rfl) ?_
    have g16 : vp_in j7_l5 b.length := vp_in_iff.mpr ⟨by (first | (apply Int.le_antisymm <;> omega) | omega), by (first | (apply Int.le_antisymm <;> omega) | omega)⟩
    refine va_tb hx hb (hV0) hS g16 rfl d_JT_indexOfChar_16 ?_
    refine lv_topi (fun x2 ex2 => ?_)
    refine lv_iload hx hb d_JT_indexOfChar_17 (lv_at hl 2 rfl) ?_
    refine lv_icmp_ne (tgt := 25) hx hb d_JT_indexOfChar_19 (by decide) (fun c19 => ?_) (fun c19 => ?_)
    · have q19 := neI c19
      obtain ⟨x3, ex3⟩ : ∃ z : Int32, z = j7_l5 + 1 := ⟨_, rfl⟩
      have tx3 : x3.toInt = j7_l5.toInt + 1 := by have z := i32_add ex3 (by (first | (apply Int.le_antisymm <;> omega) | omega)) (by (first | (apply Int.le_antisymm <;> omega) | omega)); first | exact z | (first | (apply Int.le_antisymm <;> omega) | omega)
      refine lv_iinc (v := x3) (lv' := [(5, .int x3), (0, .ref v), (3, .int p3), (4, .int x1)]) hx hb d_JT_indexOfChar_25 hl (k := 3) rfl (by rw [ex3]; rfl) (by decide) rfl (fun ls hl => ?_)
      refine lv_goto (tgt := 7) hx hb d_JT_indexOfChar_28 (by decide) ?_
      exact ih7 x3 _ _ _ (by show (p3.toInt - x3.toInt).toNat < N7; (first | (apply Int.le_antisymm <;> omega) | omega)) ⟨by (try dsimp only) <;> (first | (apply Int.le_antisymm <;> omega) | omega), by (try dsimp only) <;> (first | (apply Int.le_antisymm <;> omega) | omega), hP, hD, hS, lv_sub hl [1, 2, 3, 0] rfl⟩
    · have q19 := eqI c19
      refine lv_iload hx hb d_JT_indexOfChar_22 (lv_at hl 3 rfl) ?_
      have hP9 := hP.sb (wq := []) [] rfl
      have hD9 := hD.sb (wq := []) [] (by decide) rfl
      exact W.iret (v := j7_l5) hx hb hr (fun t ht hW => ⟨⟨j7_l5, (), rfl, (trivial), va_P.he ht.symm hP9, va_K.moved hW.alike hK, hD9⟩, hS.F ht⟩) hS.2.2 d_JT_indexOfChar_24
abbrev b_JT_indexOf0 : ByteArray := prog_35_method_22_code
def y_JT_indexOf0 : MethodName := ⟨R_JT, "indexOf", "([BIII)I"⟩
abbrev w_JT_indexOf0 : List Cond := .code y_JT_indexOf0 b_JT_indexOf0 4 (Option.some .int) :: lw_g
theorem kC_JT_indexOf0 : Cond.code y_JT_indexOf0 b_JT_indexOf0 4 (Option.some .int) ∈ lw_g := in_c11 32 rfl rfl
theorem d_JT_indexOf0_0 : decode b_JT_indexOf0 0 = .ok (.iload_n 1, 1) := bz_c27 (by decide +kernel)
theorem d_JT_indexOf0_1 : decode b_JT_indexOf0 1 = .ok (.invokestatic 88, 3) := bz_c184 (by decide +kernel)
theorem d_JT_indexOf0_4 : decode b_JT_indexOf0 4 = .ok (.ifCond .ne 5, 3) := bz_c154 (by decide +kernel)
theorem d_JT_indexOf0_7 : decode b_JT_indexOf0 7 = .ok (.iconst (-1), 1) := bz_c2 (by decide +kernel)
theorem d_JT_indexOf0_8 : decode b_JT_indexOf0 8 = .ok (.ireturn, 1) := bz_c172 (by decide +kernel)
theorem d_JT_indexOf0_9 : decode b_JT_indexOf0 9 = .ok (.iload_n 2, 1) := bz_c28 (by decide +kernel)
theorem d_JT_indexOf0_10 : decode b_JT_indexOf0 10 = .ok (.iconst 0, 1) := bz_c3 (by decide +kernel)
theorem d_JT_indexOf0_11 : decode b_JT_indexOf0 11 = .ok (.invokestatic 92, 3) := bz_c184 (by decide +kernel)
theorem d_JT_indexOf0_14 : decode b_JT_indexOf0 14 = .ok (.istore_n 2, 1) := bz_c61 (by decide +kernel)
theorem d_JT_indexOf0_15 : decode b_JT_indexOf0 15 = .ok (.iload_n 3, 1) := bz_c29 (by decide +kernel)
theorem d_JT_indexOf0_16 : decode b_JT_indexOf0 16 = .ok (.aload_n 0, 1) := bz_c42 (by decide +kernel)
theorem d_JT_indexOf0_17 : decode b_JT_indexOf0 17 = .ok (.arraylength, 1) := bz_c190 (by decide +kernel)
theorem d_JT_indexOf0_18 : decode b_JT_indexOf0 18 = .ok (.invokestatic 38, 3) := bz_c184 (by decide +kernel)
theorem d_JT_indexOf0_21 : decode b_JT_indexOf0 21 = .ok (.istore_n 3, 1) := bz_c62 (by decide +kernel)
theorem d_JT_indexOf0_22 : decode b_JT_indexOf0 22 = .ok (.iload_n 2, 1) := bz_c28 (by decide +kernel)
theorem d_JT_indexOf0_23 : decode b_JT_indexOf0 23 = .ok (.iload_n 3, 1) := bz_c29 (by decide +kernel)
theorem d_JT_indexOf0_24 : decode b_JT_indexOf0 24 = .ok (.if_icmp .lt 5, 3) := bz_c161 (by decide +kernel)
theorem d_JT_indexOf0_27 : decode b_JT_indexOf0 27 = .ok (.iconst (-1), 1) := bz_c2 (by decide +kernel)
theorem d_JT_indexOf0_28 : decode b_JT_indexOf0 28 = .ok (.ireturn, 1) := bz_c172 (by decide +kernel)
theorem d_JT_indexOf0_29 : decode b_JT_indexOf0 29 = .ok (.aload_n 0, 1) := bz_c42 (by decide +kernel)
theorem d_JT_indexOf0_30 : decode b_JT_indexOf0 30 = .ok (.iload_n 1, 1) := bz_c27 (by decide +kernel)
theorem d_JT_indexOf0_31 : decode b_JT_indexOf0 31 = .ok (.iload_n 2, 1) := bz_c28 (by decide +kernel)
theorem d_JT_indexOf0_32 : decode b_JT_indexOf0 32 = .ok (.iload_n 3, 1) := bz_c29 (by decide +kernel)
theorem d_JT_indexOf0_33 : decode b_JT_indexOf0 33 = .ok (.invokestatic 95, 3) := bz_c184 (by decide +kernel)
theorem d_JT_indexOf0_36 : decode b_JT_indexOf0 36 = .ok (.ireturn, 1) := bz_c172 (by decide +kernel)
theorem kM_JT_88 : Cond.methodLink R_JT 88 y_JT_canEncode1 ∈ lw_g := in_c11 33 rfl rfl
theorem kT_JT_canEncode1 : Cond.static y_JT_canEncode1 ∈ lw_g := in_c11 34 rfl rfl
theorem kM_JT_92 : Cond.methodLink R_JT 92 y_JM_max ∈ lw_g := in_c11 36 rfl rfl
theorem kM_JT_38 : Cond.methodLink R_JT 38 y_JM_min0 ∈ lw_g := in_c11 37 rfl rfl
theorem kM_JT_95 : Cond.methodLink R_JT 95 y_JT_indexOfChar ∈ lw_g := in_c11 38 rfl rfl
theorem kT_JT_indexOfChar : Cond.static y_JT_indexOfChar ∈ lw_g := in_c11 39 rfl rfl
abbrev at_JT_indexOf0 (dC : Nat → ClassId) (dI : Nat → Nat → Nat)  (A : Nat → Prop) (u : Unit) (t : State) : Prop := match u with | _ => va_P (dC, dI) cls2 [] t.heap ∧ va_K (dC, dI) cls2 [] t ∧ va_D A []
set_option maxHeartbeats 4000000 in
set_option maxRecDepth 100000 in
theorem c_JT_indexOf0 (l : Launch) (hlt : l.stackTraces = false) (dC : Nat → ClassId) (dI : Nat → Nat → Nat) (sz : Nat) (v : Nat) (b : List Int32)    (p1 : Int32) (p2 : Int32) (p3 : Int32)  (hbl : (b.length : Int) < 1000000) (hp : p2.toInt = 0 ∧ p3.toInt = (b.length : Int)) : Met l y_JT_indexOf0 w_JT_indexOf0 ({ frames := 1, cells := 0, slots := 0, locals := 25 }) (va_Pc [.ref v, .int p1, .int p2, .int p3] (fun U => U.heap.size = sz ∧ va_P (dC, dI) cls2 [] U.heap ∧ va_K (dC, dI) cls2 [] U ∧ va_D (fun _ => True) [] ∧ va_T .byte v b.length (fun j => .int (b.getD j 0)) (va_A [] sz) U U.heap)) (va_Qi (fun (r : Int32) (u : Unit) => match u with | _ => (True)) (at_JT_indexOf0 dC dI  (va_A [] sz)) (va_A [] sz)) 0 0 (va_A [] sz) := by
  refine Met.ofW (cc := b_JT_indexOf0) (maxL := 4) (ret := (Option.some .int)) (by decide) rfl ?_
  intro p e s m args below meth c s₁ B hml hv
  obtain ⟨rfl, hsz, hP, hK, hD0, hV0⟩ := hv
  have hx := B.exec
  have hb := B.bytes
  have hr := B.returns
  have hts0 := atoms_spec (ws := w_JT_indexOf0) B.pre
  have hts : ∀ w ∈ lw_g, w.before _ s = true := fun w h => hts0 w (List.mem_cons_of_mem _ h)
  have hown : s.vm.findClass R_JT = some m.cls := findClass_of_methodNamed B.named
  have hlocks := B.notSynchronized
  clear hts0
  subst hsz
  have hD := hD0.self (sz := s.heap.size)
  generalize hAe : va_A [] s.heap.size = A at hD hV0 ⊢
  have hA : ∀ q : Nat, s.heap.size ≤ q → A q := fun q h => by rw [← hAe]; exact Or.inr h
  clear hAe
  have hP : va_P (dC, dI) cls2 [] s.heap := hP
  have hl := lv_entry ([.ref v, .int p1, .int p2, .int p3]) (n := 4) (Nat.le_of_ble_eq_true rfl)
  rw [lg_entry_eq]
  generalize (lg_sl ([.ref v, .int p1, .int p2, .int p3]) ++ List.replicate (4 - (lg_sl ([.ref v, .int p1, .int p2, .int p3])).length) Slot.unset).toArray = ls at hl ⊢
  have hl : lv_has ls 4 [(0, .ref v), (1, .int p1), (2, .int p2), (3, .int p3)] := hl
  have k0 : (0 : Int32).toInt = 0 := by decide
  refine w_gen (A := A) hP (fun H locs hP hS => ?_)
  have km1 : (-1 : Int32).toInt = -1 := by decide
  have lo_p1 := i32_lo p1
  have hi_p1 := i32_hi p1
  have lo_p2 := i32_lo p2
  have hi_p2 := i32_hi p2
  have lo_p3 := i32_lo p3
  have hi_p3 := i32_hi p3
  refine lv_iload_n hx hb d_JT_indexOf0_0 rfl (lv_at hl 1 rfl) ?_
  have hPc := @vp_nil
  have hDc := hD.sb (wq := []) [] (by decide) rfl
  have hKc := hK.sb (tyq := []) [] rfl
  have hFc := va_free (wc := []) hD hS hA [] rfl
  refine va_calli (va_runS (As := [.int p1]) (rest := []) ⟨hx, hb, hml, hown, hts⟩ (c_JT_canEncode1 l hlt dC dI H.size p1) ⟨callB_of 1 hts (gW kC_JT_canEncode1) rfl rfl rfl (hts _ kI_JT) (hts _ kM_JT_88) (by decide +kernel) ⟨Nat.le_of_ble_eq_true rfl, Nat.le_of_ble_eq_true rfl⟩, hts _ kT_JT_canEncode1⟩ ⟨fun a U g mk z => by obtain ⟨z0, z1, zP, zK, zD⟩ := z; exact ⟨z0, z1, zP, va_K.moved (u := U) (U := U.calling g mk a) (Vm.Alike.refl U.vm) zK, zD⟩, fun U hU hW => ⟨rfl, by rw [hU], va_P.he hU.symm hPc, va_K.moved hW.alike hKc, hDc.weaken (fun _ _ _ _ => trivial)⟩⟩ rfl rfl hl.1 rfl (lv_room (Nat.le_of_ble_eq_true rfl)) d_JT_indexOf0_1 ⟨(Nat.zero_le _), (Nat.zero_le _)⟩) hS (fun q _ h => hFc q h) hFc (fun r1 u t H1 locs ht hvm hw hB hz1 hk1 hS => ?_)
  try dsimp only at hw
  obtain ⟨br1, xr1⟩ := hw
  try clear hw
  have tr1 := b01 br1
  obtain ⟨hP1, hK1, hD1⟩ := hB
  replace hP1 := va_P.he ht hP1
  replace hP1 := @vp_nil (dC, dI) cls2 H1
  obtain ⟨hP, hD⟩ := va_join (wr := []) (w1 := []) hP hD [] [] rfl rfl (by decide) (by decide) hk1 hFc hP1 hD1
  clear hPc hDc hKc hFc hz1 hk1 hP1 hK1 hD1
  rename Heap => H
  have hP : va_P (dC, dI) cls2 [] H := hP
  have hD : va_D A [] := hD
  refine lv_if_ne (tgt := 9) hx hb d_JT_indexOf0_4 (by decide) (fun c4 => ?_) (fun c4 => ?_)
  · have q4 := neI c4
    refine lv_iload_n hx hb d_JT_indexOf0_9 rfl (lv_at hl 2 rfl) ?_
    refine lv_iconst (v := 0) hx hb d_JT_indexOf0_10 (by decide) ?_
    refine va_mmax hx hb (hml.trans hl.1.symm) hown (hts _ kM_JT_92) (hts _ kT_JM_max) (hts _ kI_JM) (hts _ kC_JM_max) (Nat.le_of_ble_eq_true rfl) (Nat.le_of_ble_eq_true rfl) (Nat.zero_le _) (Nat.zero_le _) d_JT_indexOf0_11 ?_
    refine lv_topi (fun x2 ex2 => ?_)
    have tx2 := max32 ex2
    refine lv_istore_n (lv' := [(2, .int x2), (0, .ref v), (1, .int p1), (3, .int p3)]) hx hb d_JT_indexOf0_14 rfl hl (by decide) rfl (fun ls hl => ?_)
    refine lv_iload_n hx hb d_JT_indexOf0_15 rfl (lv_at hl 3 rfl) ?_
    refine lv_aload_n hx hb d_JT_indexOf0_16 rfl (lv_at hl 1 rfl) ?_
    refine va_tlen hx hb (hV0) hS rfl d_JT_indexOf0_17 ?_
    refine lv_topi (fun x3 ex3 => ?_)
    have tx3 : x3.toInt = b.length := by rw [ex3]; exact i32_len (by (first | (apply Int.le_antisymm <;> omega) | omega))
    refine va_mmin hx hb (hml.trans hl.1.symm) hown (hts _ kM_JT_38) (hts _ kT_JM_min0) (hts _ kI_JM) (hts _ kC_JM_min0) (Nat.le_of_ble_eq_true rfl) (Nat.le_of_ble_eq_true rfl) (Nat.zero_le _) (Nat.zero_le _) d_JT_indexOf0_18 ?_
    refine lv_topi (fun x4 ex4 => ?_)
    have tx4 := min32 ex4
    refine lv_istore_n (lv' := [(3, .int x4), (2, .int x2), (0, .ref v), (1, .int p1)]) hx hb d_JT_indexOf0_21 rfl hl (by decide) rfl (fun ls hl => ?_)
    refine lv_iload_n hx hb d_JT_indexOf0_22 rfl (lv_at hl 1 rfl) ?_
    refine lv_iload_n hx hb d_JT_indexOf0_23 rfl (lv_at hl 0 rfl) ?_
    refine lv_icmp_lt (tgt := 29) hx hb d_JT_indexOf0_24 (by decide) (fun c24 => ?_) (fun c24 => ?_)
    · have q24 := ltI c24
      refine lv_aload_n hx hb d_JT_indexOf0_29 rfl (lv_at hl 2 rfl) ?_
      refine lv_iload_n hx hb d_JT_indexOf0_30 rfl (lv_at hl 3 rfl) ?_
      refine lv_iload_n hx hb d_JT_indexOf0_31 rfl (lv_at hl 1 rfl) ?_
      refine lv_iload_n hx hb d_JT_indexOf0_32 rfl (lv_at hl 0 rfl) ?_
      have hPc := @vp_nil
      have hDc := hD.sb (wq := []) [] (by decide) rfl
      have hKc := hK.sb (tyq := []) [] rfl
      have hFc := va_free (wc := []) hD hS hA [] rfl
      refine va_calli (va_runS (As := [.ref v, .int p1, .int x2, .int x4]) (rest := []) ⟨hx, hb, hml, hown, hts⟩ (c_JT_indexOfChar l hlt dC dI H.size v b p1 x2 x4 (hbl) (by (first | (apply Int.le_antisymm <;> omega) | omega))) ⟨callB_of 4 hts (gW kC_JT_indexOfChar) rfl rfl rfl (hts _ kI_JT) (hts _ kM_JT_95) (by decide +kernel) ⟨Nat.le_of_ble_eq_true rfl, Nat.le_of_ble_eq_true rfl⟩, hts _ kT_JT_indexOfChar⟩ ⟨fun a U g mk z => by obtain ⟨z0, z1, zP, zK, zD, zV0⟩ := z; exact ⟨z0, z1, zP, va_K.moved (u := U) (U := U.calling g mk a) (Vm.Alike.refl U.vm) zK, zD, va_T.moved (u := U) (U := U.calling g mk a) (Vm.Alike.refl U.vm) zV0⟩, fun U hU hW => ⟨rfl, by rw [hU], va_P.he hU.symm hPc, va_K.moved hW.alike hKc, hDc.weaken (fun _ _ _ _ => trivial), vt_call (hV0) hS hFc hW hU⟩⟩ rfl rfl hl.1 rfl (lv_room (Nat.le_of_ble_eq_true rfl)) d_JT_indexOf0_33 ⟨(Nat.zero_le _), (Nat.zero_le _)⟩) hS (fun q _ h => hFc q h) hFc (fun r5 u t H1 locs ht hvm hw hB hz1 hk1 hS => ?_)
      try dsimp only at hw
      have xr5 := hw
      try clear hw
      obtain ⟨hP1, hK1, hD1⟩ := hB
      replace hP1 := va_P.he ht hP1
      replace hP1 := @vp_nil (dC, dI) cls2 H1
      obtain ⟨hP, hD⟩ := va_join (wr := []) (w1 := []) hP hD [] [] rfl rfl (by decide) (by decide) hk1 hFc hP1 hD1
      clear hPc hDc hKc hFc hz1 hk1 hP1 hK1 hD1
      rename Heap => H
      have hP : va_P (dC, dI) cls2 [] H := hP
      have hD : va_D A [] := hD
      have hP9 := hP.sb (wq := []) [] rfl
      have hD9 := hD.sb (wq := []) [] (by decide) rfl
      exact W.iret (v := r5) hx hb hr (fun t ht hW => ⟨⟨r5, (), rfl, (trivial), va_P.he ht.symm hP9, va_K.moved hW.alike hK, hD9⟩, hS.F ht⟩) hS.2.2 d_JT_indexOf0_36
    · have q24 := nltI c24
      refine lv_iconst (v := (-1)) hx hb d_JT_indexOf0_27 (by decide) ?_
      have hP9 := hP.sb (wq := []) [] rfl
      have hD9 := hD.sb (wq := []) [] (by decide) rfl
      exact W.iret (v := ((-1))) hx hb hr (fun t ht hW => ⟨⟨(-1), (), rfl, (trivial), va_P.he ht.symm hP9, va_K.moved hW.alike hK, hD9⟩, hS.F ht⟩) hS.2.2 d_JT_indexOf0_28
  · have q4 := eqI c4
    refine lv_iconst (v := (-1)) hx hb d_JT_indexOf0_7 (by decide) ?_
    have hP9 := hP.sb (wq := []) [] rfl
    have hD9 := hD.sb (wq := []) [] (by decide) rfl
    exact W.iret (v := ((-1))) hx hb hr (fun t ht hW => ⟨⟨(-1), (), rfl, (trivial), va_P.he ht.symm hP9, va_K.moved hW.alike hK, hD9⟩, hS.F ht⟩) hS.2.2 d_JT_indexOf0_8
abbrev b_JS_indexOf1 : ByteArray := prog_33_method_80_code
def y_JS_indexOf1 : MethodName := ⟨R_JS, "indexOf", "(II)I"⟩
abbrev w_JS_indexOf1 : List Cond := .code y_JS_indexOf1 b_JS_indexOf1 3 (Option.some .int) :: lw_g
theorem kC_JS_indexOf1 : Cond.code y_JS_indexOf1 b_JS_indexOf1 3 (Option.some .int) ∈ lw_g := in_c11 28 rfl rfl
theorem d_JS_indexOf1_0 : decode b_JS_indexOf1 0 = .ok (.aload_n 0, 1) := bz_c42 (by decide +kernel)
theorem d_JS_indexOf1_1 : decode b_JS_indexOf1 1 = .ok (.invokevirtual 492, 3) := bz_c182 (by decide +kernel)
theorem d_JS_indexOf1_4 : decode b_JS_indexOf1 4 = .ok (.ifCond .eq 19, 3) := bz_c153 (by decide +kernel)
theorem d_JS_indexOf1_7 : decode b_JS_indexOf1 7 = .ok (.aload_n 0, 1) := bz_c42 (by decide +kernel)
theorem d_JS_indexOf1_8 : decode b_JS_indexOf1 8 = .ok (.getfield 9, 3) := bz_c180 (by decide +kernel)
theorem d_JS_indexOf1_11 : decode b_JS_indexOf1 11 = .ok (.iload_n 1, 1) := bz_c27 (by decide +kernel)
theorem d_JS_indexOf1_12 : decode b_JS_indexOf1 12 = .ok (.iload_n 2, 1) := bz_c28 (by decide +kernel)
theorem d_JS_indexOf1_13 : decode b_JS_indexOf1 13 = .ok (.aload_n 0, 1) := bz_c42 (by decide +kernel)
theorem d_JS_indexOf1_14 : decode b_JS_indexOf1 14 = .ok (.invokevirtual 505, 3) := bz_c182 (by decide +kernel)
theorem d_JS_indexOf1_17 : decode b_JS_indexOf1 17 = .ok (.invokestatic 637, 3) := bz_c184 (by decide +kernel)
theorem d_JS_indexOf1_20 : decode b_JS_indexOf1 20 = .ok (.goto 16, 3) := bz_c167 (by decide +kernel)
theorem d_JS_indexOf1_23 : decode b_JS_indexOf1 23 = .ok (.aload_n 0, 1) := bz_c42 (by decide +kernel)
theorem d_JS_indexOf1_24 : decode b_JS_indexOf1 24 = .ok (.getfield 9, 3) := bz_c180 (by decide +kernel)
theorem d_JS_indexOf1_27 : decode b_JS_indexOf1 27 = .ok (.iload_n 1, 1) := bz_c27 (by decide +kernel)
theorem d_JS_indexOf1_28 : decode b_JS_indexOf1 28 = .ok (.iload_n 2, 1) := bz_c28 (by decide +kernel)
theorem d_JS_indexOf1_29 : decode b_JS_indexOf1 29 = .ok (.aload_n 0, 1) := bz_c42 (by decide +kernel)
theorem d_JS_indexOf1_30 : decode b_JS_indexOf1 30 = .ok (.invokevirtual 505, 3) := bz_c182 (by decide +kernel)
theorem d_JS_indexOf1_33 : decode b_JS_indexOf1 33 = .ok (.invokestatic 640, 3) := bz_c184 (by decide +kernel)
theorem d_JS_indexOf1_36 : decode b_JS_indexOf1 36 = .ok (.ireturn, 1) := bz_c172 (by decide +kernel)
theorem kM_JS_505 : Cond.methodLink R_JS 505 y_JS_length ∈ lw_g := in_c11 29 rfl rfl
theorem kM_JS_637 : Cond.methodLink R_JS 637 y_JT_indexOf0 ∈ lw_g := in_c11 30 rfl rfl
theorem kT_JT_indexOf0 : Cond.static y_JT_indexOf0 ∈ lw_g := in_c11 31 rfl rfl
abbrev b_JF_indexOf0 : ByteArray := prog_36_method_40_code
def y_JF_indexOf0 : MethodName := ⟨R_JF, "indexOf", "([BIII)I"⟩
abbrev w_JF_indexOf0 : List Cond := .code y_JF_indexOf0 b_JF_indexOf0 4 (Option.some .int) :: lw_g
theorem kC_JF_indexOf0 : Cond.code y_JF_indexOf0 b_JF_indexOf0 4 (Option.some .int) ∈ lw_g := in_c11 43 rfl rfl
theorem kM_JS_640 : Cond.methodLink R_JS 640 y_JF_indexOf0 ∈ lw_g := in_c11 41 rfl rfl
theorem kT_JF_indexOf0 : Cond.static y_JF_indexOf0 ∈ lw_g := in_c11 42 rfl rfl
abbrev at_JS_indexOf1 (dC : Nat → ClassId) (dI : Nat → Nat → Nat) (sa : Nat → Nat)  (A : Nat → Prop) (u : Unit) (t : State) : Prop := match u with | _ => va_P (dC, dI) cls2 [] t.heap ∧ va_K (dC, dI) cls2 [] t ∧ va_D A []
set_option maxHeartbeats 4000000 in
set_option maxRecDepth 100000 in
theorem c_JS_indexOf1 (l : Launch) (hlt : l.stackTraces = false) (dC : Nat → ClassId) (dI : Nat → Nat → Nat) (sz : Nat) (sa : Nat → Nat) (tx tv : Nat) (b : List Int32)    (p1 : Int32) (p2 : Int32)  (hbl : (b.length : Int) < 1000000) (hp : p2.toInt = 0) : Met l y_JS_indexOf1 w_JS_indexOf1 ({ frames := 2, cells := 0, slots := 0, locals := 48 }) (va_Pc [.ref tx, .int p1, .int p2] (fun U => U.heap.size = sz ∧ va_P (dC, dI) cls2 [] U.heap ∧ va_K (dC, dI) cls2 [] U ∧ va_D (fun _ => True) [] ∧ sm sa (va_A [] sz) U U.heap ∧ sw_str tx tv b (va_A [] sz) U U.heap)) (va_Qi (fun (r : Int32) (u : Unit) => match u with | _ => (True)) (at_JS_indexOf1 dC dI sa  (va_A [] sz)) (va_A [] sz)) 0 0 (va_A [] sz) := by
  refine Met.ofW (cc := b_JS_indexOf1) (maxL := 3) (ret := (Option.some .int)) (by decide) rfl ?_
  intro p e s m args below meth c s₁ B hml hv
  obtain ⟨rfl, hsz, hP, hK, hD0, hSW, hR0⟩ := hv
  have hx := B.exec
  have hb := B.bytes
  have hr := B.returns
  have hts0 := atoms_spec (ws := w_JS_indexOf1) B.pre
  have hts : ∀ w ∈ lw_g, w.before _ s = true := fun w h => hts0 w (List.mem_cons_of_mem _ h)
  have hown : s.vm.findClass R_JS = some m.cls := findClass_of_methodNamed B.named
  have hlocks := B.notSynchronized
  clear hts0
  subst hsz
  have hD := hD0.self (sz := s.heap.size)
  generalize hAe : va_A [] s.heap.size = A at hD hSW hR0 ⊢
  have hA : ∀ q : Nat, s.heap.size ≤ q → A q := fun q h => by rw [← hAe]; exact Or.inr h
  clear hAe
  have hP : va_P (dC, dI) cls2 [] s.heap := hP
  have hl := lv_entry ([.ref tx, .int p1, .int p2]) (n := 3) (Nat.le_of_ble_eq_true rfl)
  rw [lg_entry_eq]
  generalize (lg_sl ([.ref tx, .int p1, .int p2]) ++ List.replicate (3 - (lg_sl ([.ref tx, .int p1, .int p2])).length) Slot.unset).toArray = ls at hl ⊢
  have hl : lv_has ls 3 [(0, .ref tx), (1, .int p1), (2, .int p2)] := hl
  have k0 : (0 : Int32).toInt = 0 := by decide
  refine w_gen (A := A) hP (fun H locs hP hS => ?_)
  have lo_p1 := i32_lo p1
  have hi_p1 := i32_hi p1
  have lo_p2 := i32_lo p2
  have hi_p2 := i32_hi p2
  refine lv_aload_n hx hb d_JS_indexOf1_0 rfl (lv_at hl 0 rfl) ?_
  have hPc := @vp_nil
  have hDc := hD.sb (wq := []) [] (by decide) rfl
  have hKc := (k2_of hK).sb (tyq := []) [] rfl
  have hFc := va_free (wc := []) hD hS hA [] rfl
  refine va_calli (va_runV (As := []) (rest := []) ⟨hx, hb, hml, hown, hts⟩ (c_JS_isLatin1 l dC dI H.size sa tx tv b ) (cwV 0 hts (gV kM_JS_492 kV_JS_isLatin1 kS_JS_isLatin1 kI_JS kC_JS_isLatin1) rfl rfl rfl (by decide +kernel) ⟨Nat.le_of_ble_eq_true rfl, Nat.le_of_ble_eq_true rfl⟩) ⟨fun a U g mk z => by obtain ⟨z0, z1, zP, zK, zD, zS, zR0⟩ := z; exact ⟨z0, z1, zP, va_K.moved (u := U) (U := U.calling g mk a) (Vm.Alike.refl U.vm) zK, zD, sw.same (u := U) (U := U.calling g mk a) rfl zS, zR0.moved (u := U) (U := U.calling g mk a) (Vm.Alike.refl U.vm)⟩, so_recv (hR0.1) hS, fun U hU hW => ⟨rfl, by rw [hU], va_P.he hU.symm hPc, va_K.moved hW.alike hKc, hDc.weaken (fun _ _ _ _ => trivial), hSW.1.call hS hFc hW hU, (hR0).call hS hFc hW hU⟩⟩ rfl rfl hl.1 rfl (lv_room (Nat.le_of_ble_eq_true rfl)) d_JS_indexOf1_1 ⟨(Nat.zero_le _), (Nat.zero_le _)⟩) hS (fun q _ h => hFc q h) hFc (fun r1 u t H1 locs ht hvm hw hB hz1 hk1 hS => ?_)
  try dsimp only at hw
  obtain ⟨br1, xr1⟩ := hw
  try clear hw
  have tr1 := b01 br1
  have tr1 : r1.toInt = 1 := by rw [xr1]; decide
  obtain ⟨hP1, hK1, hD1⟩ := hB
  replace hP1 := va_P.he ht hP1
  replace hP1 := @vp_nil (dC, dI) cls2 H1
  obtain ⟨hP, hD⟩ := va_join (wr := []) (w1 := []) hP hD [] [] rfl rfl (by decide) (by decide) hk1 hFc hP1 hD1
  clear hPc hDc hKc hFc hz1 hk1 hP1 hK1 hD1
  rename Heap => H
  have hP : va_P (dC, dI) cls2 [] H := hP
  have hD : va_D A [] := hD
  refine lv_if_eq (tgt := 23) hx hb d_JS_indexOf1_4 (by decide) (fun c4 => absurd (eqI c4) (by (first | (apply Int.le_antisymm <;> omega) | omega))) (fun c4 => ?_)
  have q4 := neI c4
  refine lv_aload_n hx hb d_JS_indexOf1_7 rfl (lv_at hl 0 rfl) ?_
  refine vk_getf (v := .ref tv) hx hb (hR0.2.2.1) hS hown (hts _ kF_JS_9) (fun _ h9 => h9) d_JS_indexOf1_8 ?_
  refine lv_iload_n hx hb d_JS_indexOf1_11 rfl (lv_at hl 1 rfl) ?_
  refine lv_iload_n hx hb d_JS_indexOf1_12 rfl (lv_at hl 2 rfl) ?_
  refine lv_aload_n hx hb d_JS_indexOf1_13 rfl (lv_at hl 0 rfl) ?_
  have hPc := @vp_nil
  have hDc := hD.sb (wq := []) [] (by decide) rfl
  have hKc := (k2_of hK).sb (tyq := []) [] rfl
  have hFc := va_free (wc := []) hD hS hA [] rfl
  refine va_calli (va_runV (As := []) (rest := [.int p2, .int p1, .ref tv]) ⟨hx, hb, hml, hown, hts⟩ (c_JS_length l dC dI H.size sa tx tv b (by (first | (apply Int.le_antisymm <;> omega) | omega))) (cwV 0 hts (gV kM_JS_505 kV_JS_length kS_JS_length kI_JS kC_JS_length) rfl rfl rfl (by decide +kernel) ⟨Nat.le_of_ble_eq_true rfl, Nat.le_of_ble_eq_true rfl⟩) ⟨fun a U g mk z => by obtain ⟨z0, z1, zP, zK, zD, zS, zR0⟩ := z; exact ⟨z0, z1, zP, va_K.moved (u := U) (U := U.calling g mk a) (Vm.Alike.refl U.vm) zK, zD, sw.same (u := U) (U := U.calling g mk a) rfl zS, zR0.moved (u := U) (U := U.calling g mk a) (Vm.Alike.refl U.vm)⟩, so_recv (hR0.1) hS, fun U hU hW => ⟨rfl, by rw [hU], va_P.he hU.symm hPc, va_K.moved hW.alike hKc, hDc.weaken (fun _ _ _ _ => trivial), hSW.1.call hS hFc hW hU, (hR0).call hS hFc hW hU⟩⟩ rfl rfl hl.1 rfl (lv_room (Nat.le_of_ble_eq_true rfl)) d_JS_indexOf1_14 ⟨(Nat.zero_le _), (Nat.zero_le _)⟩) hS (fun q _ h => hFc q h) hFc (fun r2 u t H1 locs ht hvm hw hB hz1 hk1 hS => ?_)
  try dsimp only at hw
  have xr2 := hw
  try clear hw
  have tr2 := xr2
  obtain ⟨hP1, hK1, hD1⟩ := hB
  replace hP1 := va_P.he ht hP1
  replace hP1 := @vp_nil (dC, dI) cls2 H1
  obtain ⟨hP, hD⟩ := va_join (wr := []) (w1 := []) hP hD [] [] rfl rfl (by decide) (by decide) hk1 hFc hP1 hD1
  clear hPc hDc hKc hFc hz1 hk1 hP1 hK1 hD1
  rename Heap => H
  have hP : va_P (dC, dI) cls2 [] H := hP
  have hD : va_D A [] := hD
  have hPc := @vp_nil
  have hDc := hD.sb (wq := []) [] (by decide) rfl
  have hKc := hK.sb (tyq := []) [] rfl
  have hFc := va_free (wc := []) hD hS hA [] rfl
  refine va_calli (va_runS (As := [.ref tv, .int p1, .int p2, .int r2]) (rest := []) ⟨hx, hb, hml, hown, hts⟩ (c_JT_indexOf0 l hlt dC dI H.size tv b p1 p2 r2 (hbl) (by (first | (apply Int.le_antisymm <;> omega) | omega))) ⟨callB_of 4 hts (gW kC_JT_indexOf0) rfl rfl rfl (hts _ kI_JT) (hts _ kM_JS_637) (by decide +kernel) ⟨Nat.le_of_ble_eq_true rfl, Nat.le_of_ble_eq_true rfl⟩, hts _ kT_JT_indexOf0⟩ ⟨fun a U g mk z => by obtain ⟨z0, z1, zP, zK, zD, zV0⟩ := z; exact ⟨z0, z1, zP, va_K.moved (u := U) (U := U.calling g mk a) (Vm.Alike.refl U.vm) zK, zD, va_T.moved (u := U) (U := U.calling g mk a) (Vm.Alike.refl U.vm) zV0⟩, fun U hU hW => ⟨rfl, by rw [hU], va_P.he hU.symm hPc, va_K.moved hW.alike hKc, hDc.weaken (fun _ _ _ _ => trivial), vt_call (hR0.2.2.2) hS hFc hW hU⟩⟩ rfl rfl hl.1 rfl (lv_room (Nat.le_of_ble_eq_true rfl)) d_JS_indexOf1_17 ⟨(Nat.zero_le _), (Nat.zero_le _)⟩) hS (fun q _ h => hFc q h) hFc (fun r3 u t H1 locs ht hvm hw hB hz1 hk1 hS => ?_)
  try dsimp only at hw
  have xr3 := hw
  try clear hw
  obtain ⟨hP1, hK1, hD1⟩ := hB
  replace hP1 := va_P.he ht hP1
  replace hP1 := @vp_nil (dC, dI) cls2 H1
  obtain ⟨hP, hD⟩ := va_join (wr := []) (w1 := []) hP hD [] [] rfl rfl (by decide) (by decide) hk1 hFc hP1 hD1
  clear hPc hDc hKc hFc hz1 hk1 hP1 hK1 hD1
  rename Heap => H
  have hP : va_P (dC, dI) cls2 [] H := hP
  have hD : va_D A [] := hD
  refine lv_goto (tgt := 36) hx hb d_JS_indexOf1_20 (by decide) ?_
  have hP9 := hP.sb (wq := []) [] rfl
  have hD9 := hD.sb (wq := []) [] (by decide) rfl
  exact W.iret (v := r3) hx hb hr (fun t ht hW => ⟨⟨r3, (), rfl, (trivial), va_P.he ht.symm hP9, va_K.moved hW.alike hK, hD9⟩, hS.F ht⟩) hS.2.2 d_JS_indexOf1_36
abbrev b_JS_indexOf0 : ByteArray := prog_33_method_79_code
def y_JS_indexOf0 : MethodName := ⟨R_JS, "indexOf", "(I)I"⟩
abbrev w_JS_indexOf0 : List Cond := .code y_JS_indexOf0 b_JS_indexOf0 2 (Option.some .int) :: lw_g
theorem kC_JS_indexOf0 : Cond.code y_JS_indexOf0 b_JS_indexOf0 2 (Option.some .int) ∈ lw_g := in_c11 24 rfl rfl
theorem d_JS_indexOf0_0 : decode b_JS_indexOf0 0 = .ok (.aload_n 0, 1) := bz_c42 (by decide +kernel)
theorem d_JS_indexOf0_1 : decode b_JS_indexOf0 1 = .ok (.iload_n 1, 1) := bz_c27 (by decide +kernel)
theorem d_JS_indexOf0_2 : decode b_JS_indexOf0 2 = .ok (.iconst 0, 1) := bz_c3 (by decide +kernel)
theorem d_JS_indexOf0_3 : decode b_JS_indexOf0 3 = .ok (.invokevirtual 633, 3) := bz_c182 (by decide +kernel)
theorem d_JS_indexOf0_6 : decode b_JS_indexOf0 6 = .ok (.ireturn, 1) := bz_c172 (by decide +kernel)
theorem kM_JS_633 : Cond.methodLink R_JS 633 y_JS_indexOf1 ∈ lw_g := in_c11 25 rfl rfl
theorem kV_JS_indexOf1 : Cond.instanceMethod y_JS_indexOf1 ∈ lw_g := in_c11 26 rfl rfl
theorem kS_JS_indexOf1 : Cond.selects R_JS y_JS_indexOf1 y_JS_indexOf1 ∈ lw_g := in_c11 27 rfl rfl
abbrev at_JS_indexOf0 (dC : Nat → ClassId) (dI : Nat → Nat → Nat) (sa : Nat → Nat)  (A : Nat → Prop) (u : Unit) (t : State) : Prop := match u with | _ => va_P (dC, dI) cls2 [] t.heap ∧ va_K (dC, dI) cls2 [] t ∧ va_D A []
set_option maxHeartbeats 4000000 in
set_option maxRecDepth 100000 in
theorem c_JS_indexOf0 (l : Launch) (hlt : l.stackTraces = false) (dC : Nat → ClassId) (dI : Nat → Nat → Nat) (sz : Nat) (sa : Nat → Nat) (tx tv : Nat) (b : List Int32)    (p1 : Int32)  (hbl : (b.length : Int) < 1000000) : Met l y_JS_indexOf0 w_JS_indexOf0 ({ frames := 3, cells := 0, slots := 0, locals := 70 }) (va_Pc [.ref tx, .int p1] (fun U => U.heap.size = sz ∧ va_P (dC, dI) cls2 [] U.heap ∧ va_K (dC, dI) cls2 [] U ∧ va_D (fun _ => True) [] ∧ sm sa (va_A [] sz) U U.heap ∧ sw_str tx tv b (va_A [] sz) U U.heap)) (va_Qi (fun (r : Int32) (u : Unit) => match u with | _ => (True)) (at_JS_indexOf0 dC dI sa  (va_A [] sz)) (va_A [] sz)) 0 0 (va_A [] sz) := by
  refine Met.ofW (cc := b_JS_indexOf0) (maxL := 2) (ret := (Option.some .int)) (by decide) rfl ?_
  intro p e s m args below meth c s₁ B hml hv
  obtain ⟨rfl, hsz, hP, hK, hD0, hSW, hR0⟩ := hv
  have hx := B.exec
  have hb := B.bytes
  have hr := B.returns
  have hts0 := atoms_spec (ws := w_JS_indexOf0) B.pre
  have hts : ∀ w ∈ lw_g, w.before _ s = true := fun w h => hts0 w (List.mem_cons_of_mem _ h)
  have hown : s.vm.findClass R_JS = some m.cls := findClass_of_methodNamed B.named
  have hlocks := B.notSynchronized
  clear hts0
  subst hsz
  have hD := hD0.self (sz := s.heap.size)
  generalize hAe : va_A [] s.heap.size = A at hD hSW hR0 ⊢
  have hA : ∀ q : Nat, s.heap.size ≤ q → A q := fun q h => by rw [← hAe]; exact Or.inr h
  clear hAe
  have hP : va_P (dC, dI) cls2 [] s.heap := hP
  have hl := lv_entry ([.ref tx, .int p1]) (n := 2) (Nat.le_of_ble_eq_true rfl)
  rw [lg_entry_eq]
  generalize (lg_sl ([.ref tx, .int p1]) ++ List.replicate (2 - (lg_sl ([.ref tx, .int p1])).length) Slot.unset).toArray = ls at hl ⊢
  have hl : lv_has ls 2 [(0, .ref tx), (1, .int p1)] := hl
  have k0 : (0 : Int32).toInt = 0 := by decide
  refine w_gen (A := A) hP (fun H locs hP hS => ?_)
  have lo_p1 := i32_lo p1
  have hi_p1 := i32_hi p1
  refine lv_aload_n hx hb d_JS_indexOf0_0 rfl (lv_at hl 0 rfl) ?_
  refine lv_iload_n hx hb d_JS_indexOf0_1 rfl (lv_at hl 1 rfl) ?_
  refine lv_iconst (v := 0) hx hb d_JS_indexOf0_2 (by decide) ?_
  have hPc := @vp_nil
  have hDc := hD.sb (wq := []) [] (by decide) rfl
  have hKc := hK.sb (tyq := []) [] rfl
  have hFc := va_free (wc := []) hD hS hA [] rfl
  refine va_calli (va_runV (As := [.int p1, .int 0]) (rest := []) ⟨hx, hb, hml, hown, hts⟩ (c_JS_indexOf1 l hlt dC dI H.size sa tx tv b p1 0 (hbl) (by decide)) (cwV 2 hts (gV kM_JS_633 kV_JS_indexOf1 kS_JS_indexOf1 kI_JS kC_JS_indexOf1) rfl rfl rfl (by decide +kernel) ⟨Nat.le_of_ble_eq_true rfl, Nat.le_of_ble_eq_true rfl⟩) ⟨fun a U g mk z => by obtain ⟨z0, z1, zP, zK, zD, zS, zR0⟩ := z; exact ⟨z0, z1, zP, va_K.moved (u := U) (U := U.calling g mk a) (Vm.Alike.refl U.vm) zK, zD, sm.same (u := U) (U := U.calling g mk a) rfl zS, zR0.moved (u := U) (U := U.calling g mk a) (Vm.Alike.refl U.vm)⟩, so_recv (hR0.1) hS, fun U hU hW => ⟨rfl, by rw [hU], va_P.he hU.symm hPc, va_K.moved hW.alike hKc, hDc.weaken (fun _ _ _ _ => trivial), hSW.call hS hFc hW hU, (hR0).call hS hFc hW hU⟩⟩ rfl rfl hl.1 rfl (lv_room (Nat.le_of_ble_eq_true rfl)) d_JS_indexOf0_3 ⟨(Nat.zero_le _), (Nat.zero_le _)⟩) hS (fun q _ h => hFc q h) hFc (fun r1 u t H1 locs ht hvm hw hB hz1 hk1 hS => ?_)
  try dsimp only at hw
  have xr1 := hw
  try clear hw
  obtain ⟨hP1, hK1, hD1⟩ := hB
  replace hP1 := va_P.he ht hP1
  replace hP1 := @vp_nil (dC, dI) cls2 H1
  obtain ⟨hP, hD⟩ := va_join (wr := []) (w1 := []) hP hD [] [] rfl rfl (by decide) (by decide) hk1 hFc hP1 hD1
  clear hPc hDc hKc hFc hz1 hk1 hP1 hK1 hD1
  rename Heap => H
  have hP : va_P (dC, dI) cls2 [] H := hP
  have hD : va_D A [] := hD
  have hP9 := hP.sb (wq := []) [] rfl
  have hD9 := hD.sb (wq := []) [] (by decide) rfl
  exact W.iret (v := r1) hx hb hr (fun t ht hW => ⟨⟨r1, (), rfl, (trivial), va_P.he ht.symm hP9, va_K.moved hW.alike hK, hD9⟩, hS.F ht⟩) hS.2.2 d_JS_indexOf0_6
end q_m79

section q_n36
/-! the law: its helpers with one handler -/
def R_LW : String := "WaferForgeLaw"
theorem if_pos_L9 {f : Nat → Int64} {k : Nat} {x : Int64} : vp_updL f k x k = x := if_pos rfl
section TQL
variable {p : Program} {l : Launch} {e : Env} {R : Room} {s : State} {m : MethodId} {args : Array Value} {below : List Frame} {meth : Method} {c : Code} {H : Heap} {locs : List Loc} {cells slots mr sr mt st : Nat}
variable {A0 A1 : Nat → Prop} {H0 : Heap} {pc : Nat} {ls : Array Slot} {st0 rest : List Value} {a : Array Value} {Q : State → Prop} {free : Addr → Prop} {C : String}
variable {S : Type} {B : S → State → Prop} {pt : S → Prop}
theorem tq_calll {pr : Int64 → S → Prop} (hr : tz_Run p l e R s m args below meth c H locs cells slots (tz_k mr sr mt st) (F0 m pc ls st0) rest (tq_Q (tq_l pr C pt) B A1 a) free) (hS : va_S A0 H0 H locs) (hA : ∀ q, q < H.size → A1 q → A0 q) (hf : ∀ q, free q → A0 q)
    (kr : ∀ (r : Int64) (u : S) (t : State) (H1 : Heap) (locs1 : List Loc), t.heap = H1 → s.vm.Alike t.vm → pr r u → B u t → H.size ≤ H1.size → (∀ q : Nat, q < H.size → ¬ A1 q → H1[q]? = H[q]?) → va_S A0 H0 H1 locs1 → W p l e R s m args below meth c H1 locs1 (cells + mr) (slots + sr) Q (F0 m (pc + 3) ls (.long r :: rest)))
    (kt : ∀ (x : Addr) (u : S) (t : State) (H1 : Heap) (locs1 : List Loc), t.heap = H1 → s.vm.Alike t.vm → pt u → xo C x s H1 → B u t → H.size ≤ H1.size → (∀ q : Nat, q < H.size → ¬ A1 q → H1[q]? = H[q]?) → va_S A0 H0 H1 locs1 → tx_T p l e R s m args below meth c H1 locs1 (cells + mt) (slots + st) Q (F0 m pc ls rest) x) :
    W p l e R s m args below meth c H locs cells slots Q (F0 m pc ls st0) :=
  tq_core hr hS hA hf (fun v u t H1 locs1 h1 h2 h3 h4 h5 h6 h7 => by obtain ⟨r, rfl, h3⟩ := h3; exact kr r u t H1 locs1 h1 h2 h3 h4 h5 h6 h7)
    (fun x u t H1 locs1 h1 h2 h3 h4 h5 h6 h7 => kt x u t H1 locs1 h1 h2 h3.1 (by rw [← h1]; exact h3.2.back h2) h4 h5 h6 h7)
end TQL
abbrev b_LW_feed : ByteArray := method_3_code
def y_LW_feed : MethodName := ⟨R_LW, "feed", "(LWaferForge;IIIII[J)I"⟩
abbrev w_LW_feed : List Cond := .codeWith y_LW_feed b_LW_feed 8 (Option.some .int) [(0, 16, 19, 13)] :: lw_g
theorem kC_LW_feed : Cond.codeWith y_LW_feed b_LW_feed 8 (Option.some .int) [(0, 16, 19, 13)] ∈ lw_g := in_c3 173 rfl rfl
theorem d_LW_feed_0 : decode b_LW_feed 0 = .ok (.aload 6, 2) := bz_c25 (by decide +kernel)
theorem d_LW_feed_2 : decode b_LW_feed 2 = .ok (.iconst 0, 1) := bz_c3 (by decide +kernel)
theorem d_LW_feed_3 : decode b_LW_feed 3 = .ok (.aload_n 0, 1) := bz_c42 (by decide +kernel)
theorem d_LW_feed_4 : decode b_LW_feed 4 = .ok (.iload_n 1, 1) := bz_c27 (by decide +kernel)
theorem d_LW_feed_5 : decode b_LW_feed 5 = .ok (.iload_n 2, 1) := bz_c28 (by decide +kernel)
theorem d_LW_feed_6 : decode b_LW_feed 6 = .ok (.iload_n 3, 1) := bz_c29 (by decide +kernel)
theorem d_LW_feed_7 : decode b_LW_feed 7 = .ok (.iload 4, 2) := bz_c21 (by decide +kernel)
theorem d_LW_feed_9 : decode b_LW_feed 9 = .ok (.iload 5, 2) := bz_c21 (by decide +kernel)
theorem d_LW_feed_11 : decode b_LW_feed 11 = .ok (.invokevirtual 7, 3) := bz_c182 (by decide +kernel)
theorem d_LW_feed_14 : decode b_LW_feed 14 = .ok (.i2l, 1) := bz_c133 (by decide +kernel)
theorem d_LW_feed_15 : decode b_LW_feed 15 = .ok (.lastore, 1) := bz_c80 (by decide +kernel)
theorem d_LW_feed_16 : decode b_LW_feed 16 = .ok (.goto 7, 3) := bz_c167 (by decide +kernel)
theorem d_LW_feed_19 : decode b_LW_feed 19 = .ok (.astore 7, 2) := bz_c58 (by decide +kernel)
theorem d_LW_feed_21 : decode b_LW_feed 21 = .ok (.iconst 1, 1) := bz_c4 (by decide +kernel)
theorem d_LW_feed_22 : decode b_LW_feed 22 = .ok (.ireturn, 1) := bz_c172 (by decide +kernel)
theorem d_LW_feed_23 : decode b_LW_feed 23 = .ok (.iconst 0, 1) := bz_c3 (by decide +kernel)
theorem d_LW_feed_24 : decode b_LW_feed 24 = .ok (.ireturn, 1) := bz_c172 (by decide +kernel)
theorem kM_LW_7 : Cond.methodLink R_LW 7 y_WF_feed ∈ lw_g := in_c3 175 rfl rfl
theorem kV_WF_feed : Cond.instanceMethod y_WF_feed ∈ lw_g := in_c3 176 rfl rfl
theorem kS_WF_feed : Cond.selects R_WF y_WF_feed y_WF_feed ∈ lw_g := in_c3 177 rfl rfl
theorem kK_LW_13 : Cond.classLink R_LW 13 "java/lang/IndexOutOfBoundsException" ∈ lw_g := in_c3 174 rfl rfl
abbrev at_LW_feed (dC : Nat → ClassId) (dI : Nat → Nat → Nat) (sa : Nat → Nat) (h0 ta rw ag h0_wafer_r h0_spare_r h0_program_r h0_coder_r h0_reader_r h0_validator_r h0_machine_r tab ou : Nat) (ctab cou : ClassId) (h0_argumentCount : Int32) (h0_reason : Int32) (h0_place : Int32) (h0_loaded : Int32) (A : Nat → Prop) (u : (Nat → Int64) × (Nat → Int32) × Int32) (t : State) : Prop := match u with | (gou, gtab, ta_length) => va_P (dC, dI) cls (wz_616 h0 ta rw ag h0_argumentCount h0_reason h0_place h0_loaded h0_wafer_r h0_spare_r h0_program_r h0_coder_r h0_reader_r h0_validator_r h0_machine_r ta tab ta_length tab ctab gtab ou cou gou) t.heap ∧ va_K (dC, dI) cls [(ctab, .byte), (cou, .long)] t ∧ va_D A (wz_616 h0 ta rw ag h0_argumentCount h0_reason h0_place h0_loaded h0_wafer_r h0_spare_r h0_program_r h0_coder_r h0_reader_r h0_validator_r h0_machine_r ta tab ta_length tab ctab gtab ou cou gou)
set_option maxHeartbeats 4000000 in
set_option maxRecDepth 100000 in
theorem c_LW_feed (l : Launch) (hlt : l.stackTraces = false) (dC : Nat → ClassId) (dI : Nat → Nat → Nat) (sz : Nat) (sa : Nat → Nat) (h0 ta rw ag h0_wafer_r h0_spare_r h0_program_r h0_coder_r h0_reader_r h0_validator_r h0_machine_r tab ou : Nat) (ctab cou : ClassId) (h0_argumentCount : Int32) (h0_reason : Int32) (h0_place : Int32) (h0_loaded : Int32) (ta_length : Int32) (gtab : Nat → Int32) (gou : Nat → Int64)  (b_ta_length : 0 ≤ ta_length.toInt ∧ ta_length.toInt ≤ 2000) (p0 : Int32) (p1 : Int32) (p2 : Int32) (p3 : Int32) (p4 : Int32)   : Met l y_LW_feed w_LW_feed ({ frames := 7, cells := 1, slots := 6, locals := 115 }) (va_Pc [.ref h0, .int p0, .int p1, .int p2, .int p3, .int p4, .ref ou] (fun U => U.heap.size = sz ∧ va_P (dC, dI) cls (wz_616 h0 ta rw ag h0_argumentCount h0_reason h0_place h0_loaded h0_wafer_r h0_spare_r h0_program_r h0_coder_r h0_reader_r h0_validator_r h0_machine_r ta tab ta_length tab ctab gtab ou cou gou) U.heap ∧ va_K (dC, dI) cls [(ctab, .byte), (cou, .long)] U ∧ va_D (fun _ => True) (wz_616 h0 ta rw ag h0_argumentCount h0_reason h0_place h0_loaded h0_wafer_r h0_spare_r h0_program_r h0_coder_r h0_reader_r h0_validator_r h0_machine_r ta tab ta_length tab ctab gtab ou cou gou) ∧ sw sa (va_A (wz_616 h0 ta rw ag h0_argumentCount h0_reason h0_place h0_loaded h0_wafer_r h0_spare_r h0_program_r h0_coder_r h0_reader_r h0_validator_r h0_machine_r ta tab ta_length tab ctab gtab ou cou gou) sz) U U.heap)) (va_Qi (fun (r : Int32) (u : (Nat → Int64) × (Nat → Int32) × Int32) => match u with | (gou2, gtab2, ta_length2) => (0 ≤ ta_length2.toInt ∧ ta_length2.toInt ≤ 2000) ∧ ((r.toInt = 0 ∧ ta_length2.toInt = ta_length.toInt + 20) ∨ (r.toInt = 1 ∧ ta_length2 = ta_length ∧ 1980 < ta_length.toInt))) (at_LW_feed dC dI sa h0 ta rw ag h0_wafer_r h0_spare_r h0_program_r h0_coder_r h0_reader_r h0_validator_r h0_machine_r tab ou ctab cou h0_argumentCount h0_reason h0_place h0_loaded (va_A (wz_616 h0 ta rw ag h0_argumentCount h0_reason h0_place h0_loaded h0_wafer_r h0_spare_r h0_program_r h0_coder_r h0_reader_r h0_validator_r h0_machine_r ta tab ta_length tab ctab gtab ou cou gou) sz)) (va_A (wz_616 h0 ta rw ag h0_argumentCount h0_reason h0_place h0_loaded h0_wafer_r h0_spare_r h0_program_r h0_coder_r h0_reader_r h0_validator_r h0_machine_r ta tab ta_length tab ctab gtab ou cou gou) sz)) 1 6 (va_A (wz_616 h0 ta rw ag h0_argumentCount h0_reason h0_place h0_loaded h0_wafer_r h0_spare_r h0_program_r h0_coder_r h0_reader_r h0_validator_r h0_machine_r ta tab ta_length tab ctab gtab ou cou gou) sz) := by
  refine va_MetW (cc := b_LW_feed) (maxL := 8) (ret := (Option.some .int)) (hh := [(0, 16, 19, 13)]) (by decide) rfl ?_
  intro p e s m args below meth c s₁ B hml hv
  obtain ⟨rfl, hsz, hP, hK, hD0, hSW⟩ := hv
  have hx := B.exec
  have hb := B.bytes
  have hr := B.returns
  have hts0 := atoms_spec (ws := w_LW_feed) B.pre
  have hts : ∀ w ∈ lw_g, w.before _ s = true := fun w h => hts0 w (List.mem_cons_of_mem _ h)
  have hown : s.vm.findClass R_LW = some m.cls := findClass_of_methodNamed B.named
  have hlocks := B.notSynchronized
  have hE := uw_table B (hts0 _ List.mem_cons_self)
  clear hts0
  subst hsz
  have hD := hD0.self (sz := s.heap.size)
  generalize hAe : va_A (wz_616 h0 ta rw ag h0_argumentCount h0_reason h0_place h0_loaded h0_wafer_r h0_spare_r h0_program_r h0_coder_r h0_reader_r h0_validator_r h0_machine_r ta tab ta_length tab ctab gtab ou cou gou) s.heap.size = A at hD hSW ⊢
  have hA : ∀ q : Nat, s.heap.size ≤ q → A q := fun q h => by rw [← hAe]; exact Or.inr h
  clear hAe
  have hP : va_P (dC, dI) cls (wz_616 h0 ta rw ag h0_argumentCount h0_reason h0_place h0_loaded h0_wafer_r h0_spare_r h0_program_r h0_coder_r h0_reader_r h0_validator_r h0_machine_r ta tab ta_length tab ctab gtab ou cou gou) s.heap := hP
  have hl := lv_entry ([.ref h0, .int p0, .int p1, .int p2, .int p3, .int p4, .ref ou]) (n := 8) (Nat.le_of_ble_eq_true rfl)
  rw [lg_entry_eq]
  generalize (lg_sl ([.ref h0, .int p0, .int p1, .int p2, .int p3, .int p4, .ref ou]) ++ List.replicate (8 - (lg_sl ([.ref h0, .int p0, .int p1, .int p2, .int p3, .int p4, .ref ou])).length) Slot.unset).toArray = ls at hl ⊢
  have hl : lv_has ls 8 [(0, .ref h0), (1, .int p0), (2, .int p1), (3, .int p2), (4, .int p3), (5, .int p4), (6, .ref ou)] := hl
  have k0 : (0 : Int32).toInt = 0 := by decide
  refine w_gen (A := A) hP (fun H locs hP hS => ?_)
  have k1 : (1 : Int32).toInt = 1 := by decide
  have lo_p0 := i32_lo p0
  have hi_p0 := i32_hi p0
  have lo_p1 := i32_lo p1
  have hi_p1 := i32_hi p1
  have lo_p2 := i32_lo p2
  have hi_p2 := i32_hi p2
  have lo_p3 := i32_lo p3
  have hi_p3 := i32_hi p3
  have lo_p4 := i32_lo p4
  have hi_p4 := i32_hi p4
  refine lv_aload hx hb d_LW_feed_0 (lv_at hl 6 rfl) ?_
  refine lv_iconst (v := 0) hx hb d_LW_feed_2 (by decide) ?_
  refine lv_aload_n hx hb d_LW_feed_3 rfl (lv_at hl 0 rfl) ?_
  refine lv_iload_n hx hb d_LW_feed_4 rfl (lv_at hl 1 rfl) ?_
  refine lv_iload_n hx hb d_LW_feed_5 rfl (lv_at hl 2 rfl) ?_
  refine lv_iload_n hx hb d_LW_feed_6 rfl (lv_at hl 3 rfl) ?_
  refine lv_iload hx hb d_LW_feed_7 (lv_at hl 4 rfl) ?_
  refine lv_iload hx hb d_LW_feed_9 (lv_at hl 5 rfl) ?_
  have hPc := hP.sb (wq := (wz_254 h0 ta rw ag h0_argumentCount h0_reason h0_place h0_loaded h0_wafer_r h0_spare_r h0_program_r h0_coder_r h0_reader_r h0_validator_r h0_machine_r ta tab ta_length tab ctab gtab)) [0, 1, 2] rfl
  have hDc := hD.sb (wq := (wz_254 h0 ta rw ag h0_argumentCount h0_reason h0_place h0_loaded h0_wafer_r h0_spare_r h0_program_r h0_coder_r h0_reader_r h0_validator_r h0_machine_r ta tab ta_length tab ctab gtab)) [0, 1, 2] (by decide) rfl
  have hKc := hK.sb (tyq := [(ctab, .byte)]) [0] rfl
  have hFc := va_free (wc := (wz_254 h0 ta rw ag h0_argumentCount h0_reason h0_place h0_loaded h0_wafer_r h0_spare_r h0_program_r h0_coder_r h0_reader_r h0_validator_r h0_machine_r ta tab ta_length tab ctab gtab)) hD hS hA [0, 1, 2] rfl
  refine tq_calli (tz_runV (As := [.int p0, .int p1, .int p2, .int p3, .int p4]) (rest := [.int 0, .ref ou]) ⟨hx, hb, hml, hown, hts⟩ (c_WF_feed l hlt dC dI H.size sa h0 ta rw ag h0_wafer_r h0_spare_r h0_program_r h0_coder_r h0_reader_r h0_validator_r h0_machine_r tab ctab h0_argumentCount h0_reason h0_place h0_loaded ta_length gtab (b_ta_length) p0 p1 p2 p3 p4) (cwV 5 hts (gV kM_LW_7 kV_WF_feed kS_WF_feed kI_WF kC_WF_feed) rfl rfl rfl (by decide +kernel) ⟨Nat.le_of_ble_eq_true rfl, Nat.le_of_ble_eq_true rfl⟩) ⟨fun a U g mk z => by obtain ⟨z0, z1, zP, zK, zD, zS⟩ := z; exact ⟨z0, z1, zP, va_K.moved (u := U) (U := U.calling g mk a) (Vm.Alike.refl U.vm) zK, zD, sw.same (u := U) (U := U.calling g mk a) rfl zS⟩, va_recv hKc hPc (ci := 0) (q0 := 0) rfl rfl, fun U hU hW => ⟨rfl, by rw [hU], va_P.he hU.symm hPc, va_K.moved hW.alike hKc, hDc.weaken (fun _ _ _ _ => trivial), hSW.call hS hFc hW hU⟩⟩ rfl rfl hl.1 rfl (lv_room (Nat.le_of_ble_eq_true rfl)) d_LW_feed_11 ⟨Nat.le_of_ble_eq_true rfl, Nat.le_of_ble_eq_true rfl⟩) hS (fun q _ h => hFc q h) hFc (fun r1 u t H1 locs ht hvm hw hB hz1 hk1 hS => ?_) (fun xx u t H1 locs ht hvm hw hXX hB hz1 hk1 hS => ?_)
  rotate_left
  · skip
    obtain ⟨n2, n3⟩ := u
    try dsimp only at hw
    obtain ⟨bn3, tq9⟩ := hw
    obtain ⟨hP1, hK1, hD1⟩ := hB
    replace hP1 := va_P.he ht hP1
    obtain ⟨hP, hD⟩ := va_join (wr := [(ou, .inl (cou, 1, .inr (.inl gou)))]) (w1 := (wz_254 h0 ta rw ag h0_argumentCount h0_reason h0_place h0_loaded h0_wafer_r h0_spare_r h0_program_r h0_coder_r h0_reader_r h0_validator_r h0_machine_r ta tab n3 tab ctab n2)) hP hD [0, 1, 2] [3] rfl rfl (by decide) (by decide) hk1 hFc hP1 hD1
    have hP : va_P (dC, dI) cls (wz_617 ou cou gou h0 ta rw ag h0_argumentCount h0_reason h0_place h0_loaded h0_wafer_r h0_spare_r h0_program_r h0_coder_r h0_reader_r h0_validator_r h0_machine_r ta tab n3 tab ctab n2) H1 := hP
    have hD : va_D A (wz_617 ou cou gou h0 ta rw ag h0_argumentCount h0_reason h0_place h0_loaded h0_wafer_r h0_spare_r h0_program_r h0_coder_r h0_reader_r h0_validator_r h0_machine_r ta tab n3 tab ctab n2) := hD
    refine tc_caught hE (by decide) (by decide) (by decide) hown (hts _ kK_LW_13) hXX ?_
    clear hPc hDc hKc hFc hz1 hk1 hP1 hK1 hD1 hXX
    refine lv_astore (lv' := [(7, .ref xx), (0, .ref h0), (1, .int p0), (2, .int p1), (3, .int p2), (4, .int p3), (5, .int p4), (6, .ref ou)]) hx hb d_LW_feed_19 hl (by decide) rfl (fun ls hl => ?_)
    refine lv_iconst (v := 1) hx hb d_LW_feed_21 (by decide) ?_
    have hP9 := hP.sb (wq := (wz_616 h0 ta rw ag h0_argumentCount h0_reason h0_place h0_loaded h0_wafer_r h0_spare_r h0_program_r h0_coder_r h0_reader_r h0_validator_r h0_machine_r ta tab n3 tab ctab n2 ou cou gou)) [1, 2, 3, 0] rfl
    have hD9 := hD.sb (wq := (wz_616 h0 ta rw ag h0_argumentCount h0_reason h0_place h0_loaded h0_wafer_r h0_spare_r h0_program_r h0_coder_r h0_reader_r h0_validator_r h0_machine_r ta tab n3 tab ctab n2 ou cou gou)) [1, 2, 3, 0] (by decide) rfl
    refine W.widen (k := 1) (n := 6) (Nat.le_of_ble_eq_true rfl) (Nat.le_of_ble_eq_true rfl) ?_
    exact W.iret (v := 1) hx hb hr (fun t ht hW => ⟨⟨1, (gou, n2, n3), rfl, ⟨bn3, Or.inr ⟨by decide, tq9.1, tq9.2⟩⟩, va_P.he ht.symm hP9, va_K.moved hW.alike hK, hD9⟩, hS.F ht⟩) hS.2.2 d_LW_feed_22
  obtain ⟨n4, n5⟩ := u
  try dsimp only at hw
  obtain ⟨bn5, xr1⟩ := hw
  try clear hw
  obtain ⟨hP1, hK1, hD1⟩ := hB
  replace hP1 := va_P.he ht hP1
  obtain ⟨hP, hD⟩ := va_join (wr := [(ou, .inl (cou, 1, .inr (.inl gou)))]) (w1 := (wz_254 h0 ta rw ag h0_argumentCount h0_reason h0_place h0_loaded h0_wafer_r h0_spare_r h0_program_r h0_coder_r h0_reader_r h0_validator_r h0_machine_r ta tab n5 tab ctab n4)) hP hD [0, 1, 2] [3] rfl rfl (by decide) (by decide) hk1 hFc hP1 hD1
  clear hPc hDc hKc hFc hz1 hk1 hP1 hK1 hD1
  rename Heap => H
  have hP : va_P (dC, dI) cls (wz_617 ou cou gou h0 ta rw ag h0_argumentCount h0_reason h0_place h0_loaded h0_wafer_r h0_spare_r h0_program_r h0_coder_r h0_reader_r h0_validator_r h0_machine_r ta tab n5 tab ctab n4) H := hP
  have hD : va_D A (wz_617 ou cou gou h0 ta rw ag h0_argumentCount h0_reason h0_place h0_loaded h0_wafer_r h0_spare_r h0_program_r h0_coder_r h0_reader_r h0_validator_r h0_machine_r ta tab n5 tab ctab n4) := hD
  refine lv_i2l hx hb d_LW_feed_14 rfl ?_
  refine lv_topl (fun x6 ex6 => ?_)
  have tx6 := i2l_t ex6
  have g15 : vp_in 0 1 := vp_in_iff.mpr ⟨by (first | (apply Int.le_antisymm <;> omega) | omega), by (first | (apply Int.le_antisymm <;> omega) | omega)⟩
  refine va_last hx hb hK hP hD hS 0 1 rfl rfl g15 d_LW_feed_15 (fun H locs hP hD hS => ?_)
  generalize ef7 : vp_updL gou (0 : Int32).toNatClampNeg x6 = f7 at hP hD
  refine lv_goto (tgt := 23) hx hb d_LW_feed_16 (by decide) ?_
  refine lv_iconst (v := 0) hx hb d_LW_feed_23 (by decide) ?_
  have hP9 := hP.sb (wq := (wz_616 h0 ta rw ag h0_argumentCount h0_reason h0_place h0_loaded h0_wafer_r h0_spare_r h0_program_r h0_coder_r h0_reader_r h0_validator_r h0_machine_r ta tab n5 tab ctab n4 ou cou f7)) [1, 2, 3, 0] rfl
  have hD9 := hD.sb (wq := (wz_616 h0 ta rw ag h0_argumentCount h0_reason h0_place h0_loaded h0_wafer_r h0_spare_r h0_program_r h0_coder_r h0_reader_r h0_validator_r h0_machine_r ta tab n5 tab ctab n4 ou cou f7)) [1, 2, 3, 0] (by decide) rfl
  refine W.widen (k := 1) (n := 6) (Nat.le_of_ble_eq_true rfl) (Nat.le_of_ble_eq_true rfl) ?_
  exact W.iret (v := 0) hx hb hr (fun t ht hW => ⟨⟨0, (f7, n4, n5), rfl, ⟨bn5, Or.inl ⟨by decide, by (try dsimp only) <;> (first | (apply Int.le_antisymm <;> omega) | omega)⟩⟩, va_P.he ht.symm hP9, va_K.moved hW.alike hK, hD9⟩, hS.F ht⟩) hS.2.2 d_LW_feed_24
abbrev b_LW_end : ByteArray := method_4_code
def y_LW_end : MethodName := ⟨R_LW, "end", "(LWaferForge;I[J)I"⟩
abbrev w_LW_end : List Cond := .codeWith y_LW_end b_LW_end 4 (Option.some .int) [(0, 9, 12, 19)] :: lw_g
theorem kC_LW_end : Cond.codeWith y_LW_end b_LW_end 4 (Option.some .int) [(0, 9, 12, 19)] ∈ lw_g := in_c4 16 rfl rfl
theorem d_LW_end_0 : decode b_LW_end 0 = .ok (.aload_n 2, 1) := bz_c44 (by decide +kernel)
theorem d_LW_end_1 : decode b_LW_end 1 = .ok (.iconst 0, 1) := bz_c3 (by decide +kernel)
theorem d_LW_end_2 : decode b_LW_end 2 = .ok (.aload_n 0, 1) := bz_c42 (by decide +kernel)
theorem d_LW_end_3 : decode b_LW_end 3 = .ok (.iload_n 1, 1) := bz_c27 (by decide +kernel)
theorem d_LW_end_4 : decode b_LW_end 4 = .ok (.invokevirtual 15, 3) := bz_c182 (by decide +kernel)
theorem d_LW_end_7 : decode b_LW_end 7 = .ok (.i2l, 1) := bz_c133 (by decide +kernel)
theorem d_LW_end_8 : decode b_LW_end 8 = .ok (.lastore, 1) := bz_c80 (by decide +kernel)
theorem d_LW_end_9 : decode b_LW_end 9 = .ok (.goto 6, 3) := bz_c167 (by decide +kernel)
theorem d_LW_end_12 : decode b_LW_end 12 = .ok (.astore_n 3, 1) := bz_c78 (by decide +kernel)
theorem d_LW_end_13 : decode b_LW_end 13 = .ok (.iconst 1, 1) := bz_c4 (by decide +kernel)
theorem d_LW_end_14 : decode b_LW_end 14 = .ok (.ireturn, 1) := bz_c172 (by decide +kernel)
theorem d_LW_end_15 : decode b_LW_end 15 = .ok (.iconst 0, 1) := bz_c3 (by decide +kernel)
theorem d_LW_end_16 : decode b_LW_end 16 = .ok (.ireturn, 1) := bz_c172 (by decide +kernel)
theorem kM_LW_15 : Cond.methodLink R_LW 15 y_WF_end ∈ lw_g := in_c4 18 rfl rfl
theorem kV_WF_end : Cond.instanceMethod y_WF_end ∈ lw_g := in_c4 19 rfl rfl
theorem kS_WF_end : Cond.selects R_WF y_WF_end y_WF_end ∈ lw_g := in_c4 20 rfl rfl
theorem kK_LW_19 : Cond.classLink R_LW 19 "java/lang/IllegalArgumentException" ∈ lw_g := in_c4 17 rfl rfl
abbrev at_LW_end (dC : Nat → ClassId) (dI : Nat → Nat → Nat) (sa : Nat → Nat) (h0 ta rw ag h0_wafer_r h0_spare_r h0_program_r h0_coder_r h0_reader_r h0_validator_r h0_machine_r tab ou : Nat) (cou : ClassId) (h0_argumentCount : Int32) (h0_reason : Int32) (h0_place : Int32) (h0_loaded : Int32) (A : Nat → Prop) (u : (Nat → Int64) × Int32) (t : State) : Prop := match u with | (gou, ta_length) => va_P (dC, dI) cls (wz_618 h0 ta rw ag h0_argumentCount h0_reason h0_place h0_loaded h0_wafer_r h0_spare_r h0_program_r h0_coder_r h0_reader_r h0_validator_r h0_machine_r ta tab ta_length ou cou gou) t.heap ∧ va_K (dC, dI) cls [(cou, .long)] t ∧ va_D A (wz_618 h0 ta rw ag h0_argumentCount h0_reason h0_place h0_loaded h0_wafer_r h0_spare_r h0_program_r h0_coder_r h0_reader_r h0_validator_r h0_machine_r ta tab ta_length ou cou gou)
set_option maxHeartbeats 4000000 in
set_option maxRecDepth 100000 in
theorem c_LW_end (l : Launch) (hlt : l.stackTraces = false) (dC : Nat → ClassId) (dI : Nat → Nat → Nat) (sz : Nat) (sa : Nat → Nat) (h0 ta rw ag h0_wafer_r h0_spare_r h0_program_r h0_coder_r h0_reader_r h0_validator_r h0_machine_r tab ou : Nat) (cou : ClassId) (h0_argumentCount : Int32) (h0_reason : Int32) (h0_place : Int32) (h0_loaded : Int32) (ta_length : Int32) (gou : Nat → Int64)  (b_ta_length : 0 ≤ ta_length.toInt ∧ ta_length.toInt ≤ 2000) (p0 : Int32)   : Met l y_LW_end w_LW_end ({ frames := 7, cells := 1, slots := 6, locals := 111 }) (va_Pc [.ref h0, .int p0, .ref ou] (fun U => U.heap.size = sz ∧ va_P (dC, dI) cls (wz_618 h0 ta rw ag h0_argumentCount h0_reason h0_place h0_loaded h0_wafer_r h0_spare_r h0_program_r h0_coder_r h0_reader_r h0_validator_r h0_machine_r ta tab ta_length ou cou gou) U.heap ∧ va_K (dC, dI) cls [(cou, .long)] U ∧ va_D (fun _ => True) (wz_618 h0 ta rw ag h0_argumentCount h0_reason h0_place h0_loaded h0_wafer_r h0_spare_r h0_program_r h0_coder_r h0_reader_r h0_validator_r h0_machine_r ta tab ta_length ou cou gou) ∧ sw sa (va_A (wz_618 h0 ta rw ag h0_argumentCount h0_reason h0_place h0_loaded h0_wafer_r h0_spare_r h0_program_r h0_coder_r h0_reader_r h0_validator_r h0_machine_r ta tab ta_length ou cou gou) sz) U U.heap)) (va_Qi (fun (r : Int32) (u : (Nat → Int64) × Int32) => match u with | (gou2, ta_length2) => (0 ≤ ta_length2.toInt ∧ ta_length2.toInt ≤ 2000) ∧ ((r.toInt = 0 ∧ ta_length2 = p0 ∧ (gou2 0).toInt = p0.toInt ∧ 0 ≤ p0.toInt ∧ p0.toInt ≤ ta_length.toInt) ∨ (r.toInt = 1 ∧ ta_length2 = ta_length ∧ (p0.toInt < 0 ∨ ta_length.toInt < p0.toInt)))) (at_LW_end dC dI sa h0 ta rw ag h0_wafer_r h0_spare_r h0_program_r h0_coder_r h0_reader_r h0_validator_r h0_machine_r tab ou cou h0_argumentCount h0_reason h0_place h0_loaded (va_A (wz_618 h0 ta rw ag h0_argumentCount h0_reason h0_place h0_loaded h0_wafer_r h0_spare_r h0_program_r h0_coder_r h0_reader_r h0_validator_r h0_machine_r ta tab ta_length ou cou gou) sz)) (va_A (wz_618 h0 ta rw ag h0_argumentCount h0_reason h0_place h0_loaded h0_wafer_r h0_spare_r h0_program_r h0_coder_r h0_reader_r h0_validator_r h0_machine_r ta tab ta_length ou cou gou) sz)) 1 6 (va_A (wz_618 h0 ta rw ag h0_argumentCount h0_reason h0_place h0_loaded h0_wafer_r h0_spare_r h0_program_r h0_coder_r h0_reader_r h0_validator_r h0_machine_r ta tab ta_length ou cou gou) sz) := by
  refine va_MetW (cc := b_LW_end) (maxL := 4) (ret := (Option.some .int)) (hh := [(0, 9, 12, 19)]) (by decide) rfl ?_
  intro p e s m args below meth c s₁ B hml hv
  obtain ⟨rfl, hsz, hP, hK, hD0, hSW⟩ := hv
  have hx := B.exec
  have hb := B.bytes
  have hr := B.returns
  have hts0 := atoms_spec (ws := w_LW_end) B.pre
  have hts : ∀ w ∈ lw_g, w.before _ s = true := fun w h => hts0 w (List.mem_cons_of_mem _ h)
  have hown : s.vm.findClass R_LW = some m.cls := findClass_of_methodNamed B.named
  have hlocks := B.notSynchronized
  have hE := uw_table B (hts0 _ List.mem_cons_self)
  clear hts0
  subst hsz
  have hD := hD0.self (sz := s.heap.size)
  generalize hAe : va_A (wz_618 h0 ta rw ag h0_argumentCount h0_reason h0_place h0_loaded h0_wafer_r h0_spare_r h0_program_r h0_coder_r h0_reader_r h0_validator_r h0_machine_r ta tab ta_length ou cou gou) s.heap.size = A at hD hSW ⊢
  have hA : ∀ q : Nat, s.heap.size ≤ q → A q := fun q h => by rw [← hAe]; exact Or.inr h
  clear hAe
  have hP : va_P (dC, dI) cls (wz_618 h0 ta rw ag h0_argumentCount h0_reason h0_place h0_loaded h0_wafer_r h0_spare_r h0_program_r h0_coder_r h0_reader_r h0_validator_r h0_machine_r ta tab ta_length ou cou gou) s.heap := hP
  have hl := lv_entry ([.ref h0, .int p0, .ref ou]) (n := 4) (Nat.le_of_ble_eq_true rfl)
  rw [lg_entry_eq]
  generalize (lg_sl ([.ref h0, .int p0, .ref ou]) ++ List.replicate (4 - (lg_sl ([.ref h0, .int p0, .ref ou])).length) Slot.unset).toArray = ls at hl ⊢
  have hl : lv_has ls 4 [(0, .ref h0), (1, .int p0), (2, .ref ou)] := hl
  have k0 : (0 : Int32).toInt = 0 := by decide
  refine w_gen (A := A) hP (fun H locs hP hS => ?_)
  have k1 : (1 : Int32).toInt = 1 := by decide
  have lo_p0 := i32_lo p0
  have hi_p0 := i32_hi p0
  refine lv_aload_n hx hb d_LW_end_0 rfl (lv_at hl 2 rfl) ?_
  refine lv_iconst (v := 0) hx hb d_LW_end_1 (by decide) ?_
  refine lv_aload_n hx hb d_LW_end_2 rfl (lv_at hl 0 rfl) ?_
  refine lv_iload_n hx hb d_LW_end_3 rfl (lv_at hl 1 rfl) ?_
  have hPc := hP.sb (wq := (wz_253 h0 ta rw ag h0_argumentCount h0_reason h0_place h0_loaded h0_wafer_r h0_spare_r h0_program_r h0_coder_r h0_reader_r h0_validator_r h0_machine_r ta tab ta_length)) [0, 1] rfl
  have hDc := hD.sb (wq := (wz_253 h0 ta rw ag h0_argumentCount h0_reason h0_place h0_loaded h0_wafer_r h0_spare_r h0_program_r h0_coder_r h0_reader_r h0_validator_r h0_machine_r ta tab ta_length)) [0, 1] (by decide) rfl
  have hKc := hK.sb (tyq := []) [] rfl
  have hFc := va_free (wc := (wz_253 h0 ta rw ag h0_argumentCount h0_reason h0_place h0_loaded h0_wafer_r h0_spare_r h0_program_r h0_coder_r h0_reader_r h0_validator_r h0_machine_r ta tab ta_length)) hD hS hA [0, 1] rfl
  refine tq_calli (tz_runV (As := [.int p0]) (rest := [.int 0, .ref ou]) ⟨hx, hb, hml, hown, hts⟩ (c_WF_end l hlt dC dI H.size sa h0 ta rw ag h0_wafer_r h0_spare_r h0_program_r h0_coder_r h0_reader_r h0_validator_r h0_machine_r tab h0_argumentCount h0_reason h0_place h0_loaded ta_length (b_ta_length) p0) (cwV 1 hts (gV kM_LW_15 kV_WF_end kS_WF_end kI_WF kC_WF_end) rfl rfl rfl (by decide +kernel) ⟨Nat.le_of_ble_eq_true rfl, Nat.le_of_ble_eq_true rfl⟩) ⟨fun a U g mk z => by obtain ⟨z0, z1, zP, zK, zD, zS⟩ := z; exact ⟨z0, z1, zP, va_K.moved (u := U) (U := U.calling g mk a) (Vm.Alike.refl U.vm) zK, zD, sw.same (u := U) (U := U.calling g mk a) rfl zS⟩, va_recv hKc hPc (ci := 0) (q0 := 0) rfl rfl, fun U hU hW => ⟨rfl, by rw [hU], va_P.he hU.symm hPc, va_K.moved hW.alike hKc, hDc.weaken (fun _ _ _ _ => trivial), hSW.call hS hFc hW hU⟩⟩ rfl rfl hl.1 rfl (lv_room (Nat.le_of_ble_eq_true rfl)) d_LW_end_4 ⟨Nat.le_of_ble_eq_true rfl, Nat.le_of_ble_eq_true rfl⟩) hS (fun q _ h => hFc q h) hFc (fun r1 u t H1 locs ht hvm hw hB hz1 hk1 hS => ?_) (fun xx u t H1 locs ht hvm hw hXX hB hz1 hk1 hS => ?_)
  rotate_left
  · skip
    obtain ⟨n2, rfl⟩ : ∃ z, z = u := ⟨_, rfl⟩
    try dsimp only at hw
    obtain ⟨bn2, tq9⟩ := hw
    obtain ⟨hP1, hK1, hD1⟩ := hB
    replace hP1 := va_P.he ht hP1
    obtain ⟨hP, hD⟩ := va_join (wr := [(ou, .inl (cou, 1, .inr (.inl gou)))]) (w1 := (wz_253 h0 ta rw ag h0_argumentCount h0_reason h0_place h0_loaded h0_wafer_r h0_spare_r h0_program_r h0_coder_r h0_reader_r h0_validator_r h0_machine_r ta tab n2)) hP hD [0, 1] [2] rfl rfl (by decide) (by decide) hk1 hFc hP1 hD1
    have hP : va_P (dC, dI) cls (wz_619 ou cou gou h0 ta rw ag h0_argumentCount h0_reason h0_place h0_loaded h0_wafer_r h0_spare_r h0_program_r h0_coder_r h0_reader_r h0_validator_r h0_machine_r ta tab n2) H1 := hP
    have hD : va_D A (wz_619 ou cou gou h0 ta rw ag h0_argumentCount h0_reason h0_place h0_loaded h0_wafer_r h0_spare_r h0_program_r h0_coder_r h0_reader_r h0_validator_r h0_machine_r ta tab n2) := hD
    refine tc_caught hE (by decide) (by decide) (by decide) hown (hts _ kK_LW_19) hXX ?_
    clear hPc hDc hKc hFc hz1 hk1 hP1 hK1 hD1 hXX
    refine lv_astore_n (lv' := [(3, .ref xx), (0, .ref h0), (1, .int p0), (2, .ref ou)]) hx hb d_LW_end_12 rfl hl (by decide) rfl (fun ls hl => ?_)
    refine lv_iconst (v := 1) hx hb d_LW_end_13 (by decide) ?_
    have hP9 := hP.sb (wq := (wz_618 h0 ta rw ag h0_argumentCount h0_reason h0_place h0_loaded h0_wafer_r h0_spare_r h0_program_r h0_coder_r h0_reader_r h0_validator_r h0_machine_r ta tab n2 ou cou gou)) [1, 2, 0] rfl
    have hD9 := hD.sb (wq := (wz_618 h0 ta rw ag h0_argumentCount h0_reason h0_place h0_loaded h0_wafer_r h0_spare_r h0_program_r h0_coder_r h0_reader_r h0_validator_r h0_machine_r ta tab n2 ou cou gou)) [1, 2, 0] (by decide) rfl
    refine W.widen (k := 1) (n := 6) (Nat.le_of_ble_eq_true rfl) (Nat.le_of_ble_eq_true rfl) ?_
    exact W.iret (v := 1) hx hb hr (fun t ht hW => ⟨⟨1, (gou, n2), rfl, ⟨bn2, Or.inr ⟨by decide, tq9.1, tq9.2⟩⟩, va_P.he ht.symm hP9, va_K.moved hW.alike hK, hD9⟩, hS.F ht⟩) hS.2.2 d_LW_end_14
  obtain ⟨n3, rfl⟩ : ∃ z, z = u := ⟨_, rfl⟩
  try dsimp only at hw
  obtain ⟨bn3, xr1⟩ := hw
  try clear hw
  obtain ⟨hP1, hK1, hD1⟩ := hB
  replace hP1 := va_P.he ht hP1
  obtain ⟨hP, hD⟩ := va_join (wr := [(ou, .inl (cou, 1, .inr (.inl gou)))]) (w1 := (wz_253 h0 ta rw ag h0_argumentCount h0_reason h0_place h0_loaded h0_wafer_r h0_spare_r h0_program_r h0_coder_r h0_reader_r h0_validator_r h0_machine_r ta tab n3)) hP hD [0, 1] [2] rfl rfl (by decide) (by decide) hk1 hFc hP1 hD1
  clear hPc hDc hKc hFc hz1 hk1 hP1 hK1 hD1
  rename Heap => H
  have hP : va_P (dC, dI) cls (wz_619 ou cou gou h0 ta rw ag h0_argumentCount h0_reason h0_place h0_loaded h0_wafer_r h0_spare_r h0_program_r h0_coder_r h0_reader_r h0_validator_r h0_machine_r ta tab n3) H := hP
  have hD : va_D A (wz_619 ou cou gou h0 ta rw ag h0_argumentCount h0_reason h0_place h0_loaded h0_wafer_r h0_spare_r h0_program_r h0_coder_r h0_reader_r h0_validator_r h0_machine_r ta tab n3) := hD
  refine lv_i2l hx hb d_LW_end_7 rfl ?_
  refine lv_topl (fun x4 ex4 => ?_)
  have tx4 := i2l_t ex4
  have g8 : vp_in 0 1 := vp_in_iff.mpr ⟨by (first | (apply Int.le_antisymm <;> omega) | omega), by (first | (apply Int.le_antisymm <;> omega) | omega)⟩
  refine va_last hx hb hK hP hD hS 0 0 rfl rfl g8 d_LW_end_8 (fun H locs hP hD hS => ?_)
  generalize ef5 : vp_updL gou (0 : Int32).toNatClampNeg x4 = f5 at hP hD
  refine lv_goto (tgt := 15) hx hb d_LW_end_9 (by decide) ?_
  refine lv_iconst (v := 0) hx hb d_LW_end_15 (by decide) ?_
  have hP9 := hP.sb (wq := (wz_618 h0 ta rw ag h0_argumentCount h0_reason h0_place h0_loaded h0_wafer_r h0_spare_r h0_program_r h0_coder_r h0_reader_r h0_validator_r h0_machine_r ta tab n3 ou cou f5)) [1, 2, 0] rfl
  have hD9 := hD.sb (wq := (wz_618 h0 ta rw ag h0_argumentCount h0_reason h0_place h0_loaded h0_wafer_r h0_spare_r h0_program_r h0_coder_r h0_reader_r h0_validator_r h0_machine_r ta tab n3 ou cou f5)) [1, 2, 0] (by decide) rfl
  refine W.widen (k := 1) (n := 6) (Nat.le_of_ble_eq_true rfl) (Nat.le_of_ble_eq_true rfl) ?_
  exact W.iret (v := 0) hx hb hr (fun t ht hW => ⟨⟨0, (f5, n3), rfl, ⟨bn3, Or.inl ⟨by decide, xr1.1, (by rw [← ef5, show (0 : Int32).toNatClampNeg = 0 from by decide, if_pos_L9]; rw [tx4, xr1.2.1]), xr1.2.2.1, xr1.2.2.2⟩⟩, va_P.he ht.symm hP9, va_K.moved hW.alike hK, hD9⟩, hS.F ht⟩) hS.2.2 d_LW_end_16
abbrev b_LW_word : ByteArray := method_12_code
def y_LW_word : MethodName := ⟨R_LW, "word", "(LWaferForge;I[J)I"⟩
abbrev w_LW_word : List Cond := .codeWith y_LW_word b_LW_word 4 (Option.some .int) [(0, 8, 11, 13)] :: lw_g
theorem kC_LW_word : Cond.codeWith y_LW_word b_LW_word 4 (Option.some .int) [(0, 8, 11, 13)] ∈ lw_g := in_c8 44 rfl rfl
theorem d_LW_word_0 : decode b_LW_word 0 = .ok (.aload_n 2, 1) := bz_c44 (by decide +kernel)
theorem d_LW_word_1 : decode b_LW_word 1 = .ok (.iconst 0, 1) := bz_c3 (by decide +kernel)
theorem d_LW_word_2 : decode b_LW_word 2 = .ok (.aload_n 0, 1) := bz_c42 (by decide +kernel)
theorem d_LW_word_3 : decode b_LW_word 3 = .ok (.iload_n 1, 1) := bz_c27 (by decide +kernel)
theorem d_LW_word_4 : decode b_LW_word 4 = .ok (.invokevirtual 51, 3) := bz_c182 (by decide +kernel)
theorem d_LW_word_7 : decode b_LW_word 7 = .ok (.lastore, 1) := bz_c80 (by decide +kernel)
theorem d_LW_word_8 : decode b_LW_word 8 = .ok (.goto 6, 3) := bz_c167 (by decide +kernel)
theorem d_LW_word_11 : decode b_LW_word 11 = .ok (.astore_n 3, 1) := bz_c78 (by decide +kernel)
theorem d_LW_word_12 : decode b_LW_word 12 = .ok (.iconst 1, 1) := bz_c4 (by decide +kernel)
theorem d_LW_word_13 : decode b_LW_word 13 = .ok (.ireturn, 1) := bz_c172 (by decide +kernel)
theorem d_LW_word_14 : decode b_LW_word 14 = .ok (.iconst 0, 1) := bz_c3 (by decide +kernel)
theorem d_LW_word_15 : decode b_LW_word 15 = .ok (.ireturn, 1) := bz_c172 (by decide +kernel)
theorem kM_LW_51 : Cond.methodLink R_LW 51 y_WF_word ∈ lw_g := in_c8 45 rfl rfl
theorem kV_WF_word : Cond.instanceMethod y_WF_word ∈ lw_g := in_c8 46 rfl rfl
theorem kS_WF_word : Cond.selects R_WF y_WF_word y_WF_word ∈ lw_g := in_c8 47 rfl rfl
abbrev at_LW_word (dC : Nat → ClassId) (dI : Nat → Nat → Nat) (sa : Nat → Nat) (h0 ta rw ag h0_wafer_r h0_spare_r h0_program_r h0_coder_r h0_reader_r h0_validator_r h0_machine_r rwb ou : Nat) (crwb cou : ClassId) (h0_argumentCount : Int32) (h0_reason : Int32) (h0_place : Int32) (h0_loaded : Int32) (rw_length : Int32) (grwb : Nat → Int32) (A : Nat → Prop) (u : (Nat → Int64)) (t : State) : Prop := match u with | gou => va_P (dC, dI) cls (wz_620 h0 ta rw ag h0_argumentCount h0_reason h0_place h0_loaded h0_wafer_r h0_spare_r h0_program_r h0_coder_r h0_reader_r h0_validator_r h0_machine_r rw rwb rw_length rwb crwb grwb ou cou gou) t.heap ∧ va_K (dC, dI) cls [(crwb, .byte), (cou, .long)] t ∧ va_D A (wz_620 h0 ta rw ag h0_argumentCount h0_reason h0_place h0_loaded h0_wafer_r h0_spare_r h0_program_r h0_coder_r h0_reader_r h0_validator_r h0_machine_r rw rwb rw_length rwb crwb grwb ou cou gou)
set_option maxHeartbeats 4000000 in
set_option maxRecDepth 100000 in
theorem c_LW_word (l : Launch) (hlt : l.stackTraces = false) (dC : Nat → ClassId) (dI : Nat → Nat → Nat) (sz : Nat) (sa : Nat → Nat) (h0 ta rw ag h0_wafer_r h0_spare_r h0_program_r h0_coder_r h0_reader_r h0_validator_r h0_machine_r rwb ou : Nat) (crwb cou : ClassId) (h0_argumentCount : Int32) (h0_reason : Int32) (h0_place : Int32) (h0_loaded : Int32) (rw_length : Int32) (grwb : Nat → Int32) (gou : Nat → Int64)  (b_rw_length : 0 ≤ rw_length.toInt ∧ rw_length.toInt ≤ 8192) (p0 : Int32)   : Met l y_LW_word w_LW_word ({ frames := 7, cells := 1, slots := 6, locals := 115 }) (va_Pc [.ref h0, .int p0, .ref ou] (fun U => U.heap.size = sz ∧ va_P (dC, dI) cls (wz_620 h0 ta rw ag h0_argumentCount h0_reason h0_place h0_loaded h0_wafer_r h0_spare_r h0_program_r h0_coder_r h0_reader_r h0_validator_r h0_machine_r rw rwb rw_length rwb crwb grwb ou cou gou) U.heap ∧ va_K (dC, dI) cls [(crwb, .byte), (cou, .long)] U ∧ va_D (fun _ => True) (wz_620 h0 ta rw ag h0_argumentCount h0_reason h0_place h0_loaded h0_wafer_r h0_spare_r h0_program_r h0_coder_r h0_reader_r h0_validator_r h0_machine_r rw rwb rw_length rwb crwb grwb ou cou gou) ∧ sw sa (va_A (wz_620 h0 ta rw ag h0_argumentCount h0_reason h0_place h0_loaded h0_wafer_r h0_spare_r h0_program_r h0_coder_r h0_reader_r h0_validator_r h0_machine_r rw rwb rw_length rwb crwb grwb ou cou gou) sz) U U.heap)) (va_Qi (fun (r : Int32) (u : (Nat → Int64)) => match u with | gou2 => (True)) (at_LW_word dC dI sa h0 ta rw ag h0_wafer_r h0_spare_r h0_program_r h0_coder_r h0_reader_r h0_validator_r h0_machine_r rwb ou crwb cou h0_argumentCount h0_reason h0_place h0_loaded rw_length grwb (va_A (wz_620 h0 ta rw ag h0_argumentCount h0_reason h0_place h0_loaded h0_wafer_r h0_spare_r h0_program_r h0_coder_r h0_reader_r h0_validator_r h0_machine_r rw rwb rw_length rwb crwb grwb ou cou gou) sz)) (va_A (wz_620 h0 ta rw ag h0_argumentCount h0_reason h0_place h0_loaded h0_wafer_r h0_spare_r h0_program_r h0_coder_r h0_reader_r h0_validator_r h0_machine_r rw rwb rw_length rwb crwb grwb ou cou gou) sz)) 1 6 (va_A (wz_620 h0 ta rw ag h0_argumentCount h0_reason h0_place h0_loaded h0_wafer_r h0_spare_r h0_program_r h0_coder_r h0_reader_r h0_validator_r h0_machine_r rw rwb rw_length rwb crwb grwb ou cou gou) sz) := by
  refine va_MetW (cc := b_LW_word) (maxL := 4) (ret := (Option.some .int)) (hh := [(0, 8, 11, 13)]) (by decide) rfl ?_
  intro p e s m args below meth c s₁ B hml hv
  obtain ⟨rfl, hsz, hP, hK, hD0, hSW⟩ := hv
  have hx := B.exec
  have hb := B.bytes
  have hr := B.returns
  have hts0 := atoms_spec (ws := w_LW_word) B.pre
  have hts : ∀ w ∈ lw_g, w.before _ s = true := fun w h => hts0 w (List.mem_cons_of_mem _ h)
  have hown : s.vm.findClass R_LW = some m.cls := findClass_of_methodNamed B.named
  have hlocks := B.notSynchronized
  have hE := uw_table B (hts0 _ List.mem_cons_self)
  clear hts0
  subst hsz
  have hD := hD0.self (sz := s.heap.size)
  generalize hAe : va_A (wz_620 h0 ta rw ag h0_argumentCount h0_reason h0_place h0_loaded h0_wafer_r h0_spare_r h0_program_r h0_coder_r h0_reader_r h0_validator_r h0_machine_r rw rwb rw_length rwb crwb grwb ou cou gou) s.heap.size = A at hD hSW ⊢
  have hA : ∀ q : Nat, s.heap.size ≤ q → A q := fun q h => by rw [← hAe]; exact Or.inr h
  clear hAe
  have hP : va_P (dC, dI) cls (wz_620 h0 ta rw ag h0_argumentCount h0_reason h0_place h0_loaded h0_wafer_r h0_spare_r h0_program_r h0_coder_r h0_reader_r h0_validator_r h0_machine_r rw rwb rw_length rwb crwb grwb ou cou gou) s.heap := hP
  have hl := lv_entry ([.ref h0, .int p0, .ref ou]) (n := 4) (Nat.le_of_ble_eq_true rfl)
  rw [lg_entry_eq]
  generalize (lg_sl ([.ref h0, .int p0, .ref ou]) ++ List.replicate (4 - (lg_sl ([.ref h0, .int p0, .ref ou])).length) Slot.unset).toArray = ls at hl ⊢
  have hl : lv_has ls 4 [(0, .ref h0), (1, .int p0), (2, .ref ou)] := hl
  have k0 : (0 : Int32).toInt = 0 := by decide
  refine w_gen (A := A) hP (fun H locs hP hS => ?_)
  have k1 : (1 : Int32).toInt = 1 := by decide
  have lo_p0 := i32_lo p0
  have hi_p0 := i32_hi p0
  refine lv_aload_n hx hb d_LW_word_0 rfl (lv_at hl 2 rfl) ?_
  refine lv_iconst (v := 0) hx hb d_LW_word_1 (by decide) ?_
  refine lv_aload_n hx hb d_LW_word_2 rfl (lv_at hl 0 rfl) ?_
  refine lv_iload_n hx hb d_LW_word_3 rfl (lv_at hl 1 rfl) ?_
  have hPc := hP.sb (wq := (wz_257 h0 ta rw ag h0_argumentCount h0_reason h0_place h0_loaded h0_wafer_r h0_spare_r h0_program_r h0_coder_r h0_reader_r h0_validator_r h0_machine_r rw rwb rw_length rwb crwb grwb)) [0, 1, 2] rfl
  have hDc := hD.sb (wq := (wz_257 h0 ta rw ag h0_argumentCount h0_reason h0_place h0_loaded h0_wafer_r h0_spare_r h0_program_r h0_coder_r h0_reader_r h0_validator_r h0_machine_r rw rwb rw_length rwb crwb grwb)) [0, 1, 2] (by decide) rfl
  have hKc := hK.sb (tyq := [(crwb, .byte)]) [0] rfl
  have hFc := va_free (wc := (wz_257 h0 ta rw ag h0_argumentCount h0_reason h0_place h0_loaded h0_wafer_r h0_spare_r h0_program_r h0_coder_r h0_reader_r h0_validator_r h0_machine_r rw rwb rw_length rwb crwb grwb)) hD hS hA [0, 1, 2] rfl
  refine tq_calll (tz_runV (As := [.int p0]) (rest := [.int 0, .ref ou]) ⟨hx, hb, hml, hown, hts⟩ (c_WF_word l hlt dC dI H.size sa h0 ta rw ag h0_wafer_r h0_spare_r h0_program_r h0_coder_r h0_reader_r h0_validator_r h0_machine_r rwb crwb h0_argumentCount h0_reason h0_place h0_loaded rw_length grwb (b_rw_length) p0) (cwV 1 hts (gV kM_LW_51 kV_WF_word kS_WF_word kI_WF kC_WF_word) rfl rfl rfl (by decide +kernel) ⟨Nat.le_of_ble_eq_true rfl, Nat.le_of_ble_eq_true rfl⟩) ⟨fun a U g mk z => by obtain ⟨z0, z1, zP, zK, zD, zS⟩ := z; exact ⟨z0, z1, zP, va_K.moved (u := U) (U := U.calling g mk a) (Vm.Alike.refl U.vm) zK, zD, sw.same (u := U) (U := U.calling g mk a) rfl zS⟩, va_recv hKc hPc (ci := 0) (q0 := 0) rfl rfl, fun U hU hW => ⟨rfl, by rw [hU], va_P.he hU.symm hPc, va_K.moved hW.alike hKc, hDc.weaken (fun _ _ _ _ => trivial), hSW.call hS hFc hW hU⟩⟩ rfl rfl hl.1 rfl (lv_room (Nat.le_of_ble_eq_true rfl)) d_LW_word_4 ⟨Nat.le_of_ble_eq_true rfl, Nat.le_of_ble_eq_true rfl⟩) hS (fun q _ h => hFc q h) hFc (fun r1 u t H1 locs ht hvm hw hB hz1 hk1 hS => ?_) (fun xx u t H1 locs ht hvm hw hXX hB hz1 hk1 hS => ?_)
  rotate_left
  · skip
    try dsimp only at hw
    obtain ⟨hP1, hK1, hD1⟩ := hB
    replace hP1 := va_P.he ht hP1
    obtain ⟨hP, hD⟩ := va_join (wr := [(ou, .inl (cou, 1, .inr (.inl gou)))]) (w1 := (wz_257 h0 ta rw ag h0_argumentCount h0_reason h0_place h0_loaded h0_wafer_r h0_spare_r h0_program_r h0_coder_r h0_reader_r h0_validator_r h0_machine_r rw rwb rw_length rwb crwb grwb)) hP hD [0, 1, 2] [3] rfl rfl (by decide) (by decide) hk1 hFc hP1 hD1
    have hP : va_P (dC, dI) cls (wz_621 ou cou gou h0 ta rw ag h0_argumentCount h0_reason h0_place h0_loaded h0_wafer_r h0_spare_r h0_program_r h0_coder_r h0_reader_r h0_validator_r h0_machine_r rw rwb rw_length rwb crwb grwb) H1 := hP
    have hD : va_D A (wz_621 ou cou gou h0 ta rw ag h0_argumentCount h0_reason h0_place h0_loaded h0_wafer_r h0_spare_r h0_program_r h0_coder_r h0_reader_r h0_validator_r h0_machine_r rw rwb rw_length rwb crwb grwb) := hD
    refine tc_caught hE (by decide) (by decide) (by decide) hown (hts _ kK_LW_13) hXX ?_
    clear hPc hDc hKc hFc hz1 hk1 hP1 hK1 hD1 hXX
    refine lv_astore_n (lv' := [(3, .ref xx), (0, .ref h0), (1, .int p0), (2, .ref ou)]) hx hb d_LW_word_11 rfl hl (by decide) rfl (fun ls hl => ?_)
    refine lv_iconst (v := 1) hx hb d_LW_word_12 (by decide) ?_
    have hP9 := hP.sb (wq := (wz_620 h0 ta rw ag h0_argumentCount h0_reason h0_place h0_loaded h0_wafer_r h0_spare_r h0_program_r h0_coder_r h0_reader_r h0_validator_r h0_machine_r rw rwb rw_length rwb crwb grwb ou cou gou)) [1, 2, 3, 0] rfl
    have hD9 := hD.sb (wq := (wz_620 h0 ta rw ag h0_argumentCount h0_reason h0_place h0_loaded h0_wafer_r h0_spare_r h0_program_r h0_coder_r h0_reader_r h0_validator_r h0_machine_r rw rwb rw_length rwb crwb grwb ou cou gou)) [1, 2, 3, 0] (by decide) rfl
    refine W.widen (k := 1) (n := 6) (Nat.le_of_ble_eq_true rfl) (Nat.le_of_ble_eq_true rfl) ?_
    exact W.iret (v := 1) hx hb hr (fun t ht hW => ⟨⟨1, gou, rfl, (trivial), va_P.he ht.symm hP9, va_K.moved hW.alike hK, hD9⟩, hS.F ht⟩) hS.2.2 d_LW_word_13
  try dsimp only at hw
  have xr1 := hw
  try clear hw
  obtain ⟨hP1, hK1, hD1⟩ := hB
  replace hP1 := va_P.he ht hP1
  obtain ⟨hP, hD⟩ := va_join (wr := [(ou, .inl (cou, 1, .inr (.inl gou)))]) (w1 := (wz_257 h0 ta rw ag h0_argumentCount h0_reason h0_place h0_loaded h0_wafer_r h0_spare_r h0_program_r h0_coder_r h0_reader_r h0_validator_r h0_machine_r rw rwb rw_length rwb crwb grwb)) hP hD [0, 1, 2] [3] rfl rfl (by decide) (by decide) hk1 hFc hP1 hD1
  clear hPc hDc hKc hFc hz1 hk1 hP1 hK1 hD1
  rename Heap => H
  have hP : va_P (dC, dI) cls (wz_621 ou cou gou h0 ta rw ag h0_argumentCount h0_reason h0_place h0_loaded h0_wafer_r h0_spare_r h0_program_r h0_coder_r h0_reader_r h0_validator_r h0_machine_r rw rwb rw_length rwb crwb grwb) H := hP
  have hD : va_D A (wz_621 ou cou gou h0 ta rw ag h0_argumentCount h0_reason h0_place h0_loaded h0_wafer_r h0_spare_r h0_program_r h0_coder_r h0_reader_r h0_validator_r h0_machine_r rw rwb rw_length rwb crwb grwb) := hD
  have g7 : vp_in 0 1 := vp_in_iff.mpr ⟨by (first | (apply Int.le_antisymm <;> omega) | omega), by (first | (apply Int.le_antisymm <;> omega) | omega)⟩
  refine va_last hx hb hK hP hD hS 0 1 rfl rfl g7 d_LW_word_7 (fun H locs hP hD hS => ?_)
  generalize ef2 : vp_updL gou (0 : Int32).toNatClampNeg r1 = f2 at hP hD
  refine lv_goto (tgt := 14) hx hb d_LW_word_8 (by decide) ?_
  refine lv_iconst (v := 0) hx hb d_LW_word_14 (by decide) ?_
  have hP9 := hP.sb (wq := (wz_620 h0 ta rw ag h0_argumentCount h0_reason h0_place h0_loaded h0_wafer_r h0_spare_r h0_program_r h0_coder_r h0_reader_r h0_validator_r h0_machine_r rw rwb rw_length rwb crwb grwb ou cou f2)) [1, 2, 3, 0] rfl
  have hD9 := hD.sb (wq := (wz_620 h0 ta rw ag h0_argumentCount h0_reason h0_place h0_loaded h0_wafer_r h0_spare_r h0_program_r h0_coder_r h0_reader_r h0_validator_r h0_machine_r rw rwb rw_length rwb crwb grwb ou cou f2)) [1, 2, 3, 0] (by decide) rfl
  refine W.widen (k := 1) (n := 6) (Nat.le_of_ble_eq_true rfl) (Nat.le_of_ble_eq_true rfl) ?_
  exact W.iret (v := 0) hx hb hr (fun t ht hW => ⟨⟨0, f2, rfl, (trivial), va_P.he ht.symm hP9, va_K.moved hW.alike hK, hD9⟩, hS.F ht⟩) hS.2.2 d_LW_word_15
abbrev b_LW_argument : ByteArray := method_8_code
def y_LW_argument : MethodName := ⟨R_LW, "argument", "(LWaferForge;J[J)I"⟩
abbrev w_LW_argument : List Cond := .codeWith y_LW_argument b_LW_argument 5 (Option.some .int) [(0, 9, 12, 13)] :: lw_g
theorem kC_LW_argument : Cond.codeWith y_LW_argument b_LW_argument 5 (Option.some .int) [(0, 9, 12, 13)] ∈ lw_g := in_c7 80 rfl rfl
theorem d_LW_argument_0 : decode b_LW_argument 0 = .ok (.aload_n 3, 1) := bz_c45 (by decide +kernel)
theorem d_LW_argument_1 : decode b_LW_argument 1 = .ok (.iconst 0, 1) := bz_c3 (by decide +kernel)
theorem d_LW_argument_2 : decode b_LW_argument 2 = .ok (.aload_n 0, 1) := bz_c42 (by decide +kernel)
theorem d_LW_argument_3 : decode b_LW_argument 3 = .ok (.lload_n 1, 1) := bz_c31 (by decide +kernel)
theorem d_LW_argument_4 : decode b_LW_argument 4 = .ok (.invokevirtual 35, 3) := bz_c182 (by decide +kernel)
theorem d_LW_argument_7 : decode b_LW_argument 7 = .ok (.i2l, 1) := bz_c133 (by decide +kernel)
theorem d_LW_argument_8 : decode b_LW_argument 8 = .ok (.lastore, 1) := bz_c80 (by decide +kernel)
theorem d_LW_argument_9 : decode b_LW_argument 9 = .ok (.goto 7, 3) := bz_c167 (by decide +kernel)
theorem d_LW_argument_12 : decode b_LW_argument 12 = .ok (.astore 4, 2) := bz_c58 (by decide +kernel)
theorem d_LW_argument_14 : decode b_LW_argument 14 = .ok (.iconst 1, 1) := bz_c4 (by decide +kernel)
theorem d_LW_argument_15 : decode b_LW_argument 15 = .ok (.ireturn, 1) := bz_c172 (by decide +kernel)
theorem d_LW_argument_16 : decode b_LW_argument 16 = .ok (.iconst 0, 1) := bz_c3 (by decide +kernel)
theorem d_LW_argument_17 : decode b_LW_argument 17 = .ok (.ireturn, 1) := bz_c172 (by decide +kernel)
theorem kM_LW_35 : Cond.methodLink R_LW 35 y_WF_argument ∈ lw_g := in_c7 81 rfl rfl
theorem kV_WF_argument : Cond.instanceMethod y_WF_argument ∈ lw_g := in_c7 82 rfl rfl
theorem kS_WF_argument : Cond.selects R_WF y_WF_argument y_WF_argument ∈ lw_g := in_c7 83 rfl rfl
abbrev at_LW_argument (dC : Nat → ClassId) (dI : Nat → Nat → Nat) (sa : Nat → Nat) (h0 ta rw ag h0_wafer_r h0_spare_r h0_program_r h0_coder_r h0_reader_r h0_validator_r h0_machine_r ou : Nat) (cag cou : ClassId) (h0_reason : Int32) (h0_place : Int32) (h0_loaded : Int32) (A : Nat → Prop) (u : (Nat → Int64) × (Nat → Int64) × Int32) (t : State) : Prop := match u with | (gag, gou, h0_argumentCount) => va_P (dC, dI) cls (wz_622 h0 ta rw ag h0_argumentCount h0_reason h0_place h0_loaded h0_wafer_r h0_spare_r h0_program_r h0_coder_r h0_reader_r h0_validator_r h0_machine_r ag cag gag ou cou gou) t.heap ∧ va_K (dC, dI) cls [(cag, .long), (cou, .long)] t ∧ va_D A (wz_622 h0 ta rw ag h0_argumentCount h0_reason h0_place h0_loaded h0_wafer_r h0_spare_r h0_program_r h0_coder_r h0_reader_r h0_validator_r h0_machine_r ag cag gag ou cou gou)
set_option maxHeartbeats 4000000 in
set_option maxRecDepth 100000 in
theorem c_LW_argument (l : Launch) (hlt : l.stackTraces = false) (dC : Nat → ClassId) (dI : Nat → Nat → Nat) (sz : Nat) (sa : Nat → Nat) (h0 ta rw ag h0_wafer_r h0_spare_r h0_program_r h0_coder_r h0_reader_r h0_validator_r h0_machine_r ou : Nat) (cag cou : ClassId) (h0_argumentCount : Int32) (h0_reason : Int32) (h0_place : Int32) (h0_loaded : Int32) (gag : Nat → Int64) (gou : Nat → Int64)  (b_h0_argumentCount : 0 ≤ h0_argumentCount.toInt ∧ h0_argumentCount.toInt ≤ 8) (p0 : Int64)   : Met l y_LW_argument w_LW_argument ({ frames := 7, cells := 1, slots := 6, locals := 112 }) (va_Pc [.ref h0, .long p0, .ref ou] (fun U => U.heap.size = sz ∧ va_P (dC, dI) cls (wz_622 h0 ta rw ag h0_argumentCount h0_reason h0_place h0_loaded h0_wafer_r h0_spare_r h0_program_r h0_coder_r h0_reader_r h0_validator_r h0_machine_r ag cag gag ou cou gou) U.heap ∧ va_K (dC, dI) cls [(cag, .long), (cou, .long)] U ∧ va_D (fun _ => True) (wz_622 h0 ta rw ag h0_argumentCount h0_reason h0_place h0_loaded h0_wafer_r h0_spare_r h0_program_r h0_coder_r h0_reader_r h0_validator_r h0_machine_r ag cag gag ou cou gou) ∧ sw sa (va_A (wz_622 h0 ta rw ag h0_argumentCount h0_reason h0_place h0_loaded h0_wafer_r h0_spare_r h0_program_r h0_coder_r h0_reader_r h0_validator_r h0_machine_r ag cag gag ou cou gou) sz) U U.heap)) (va_Qi (fun (r : Int32) (u : (Nat → Int64) × (Nat → Int64) × Int32) => match u with | (gag2, gou2, h0_argumentCount2) => (0 ≤ h0_argumentCount2.toInt ∧ h0_argumentCount2.toInt ≤ 8) ∧ (True)) (at_LW_argument dC dI sa h0 ta rw ag h0_wafer_r h0_spare_r h0_program_r h0_coder_r h0_reader_r h0_validator_r h0_machine_r ou cag cou h0_reason h0_place h0_loaded (va_A (wz_622 h0 ta rw ag h0_argumentCount h0_reason h0_place h0_loaded h0_wafer_r h0_spare_r h0_program_r h0_coder_r h0_reader_r h0_validator_r h0_machine_r ag cag gag ou cou gou) sz)) (va_A (wz_622 h0 ta rw ag h0_argumentCount h0_reason h0_place h0_loaded h0_wafer_r h0_spare_r h0_program_r h0_coder_r h0_reader_r h0_validator_r h0_machine_r ag cag gag ou cou gou) sz)) 1 6 (va_A (wz_622 h0 ta rw ag h0_argumentCount h0_reason h0_place h0_loaded h0_wafer_r h0_spare_r h0_program_r h0_coder_r h0_reader_r h0_validator_r h0_machine_r ag cag gag ou cou gou) sz) := by
  refine va_MetW (cc := b_LW_argument) (maxL := 5) (ret := (Option.some .int)) (hh := [(0, 9, 12, 13)]) (by decide) rfl ?_
  intro p e s m args below meth c s₁ B hml hv
  obtain ⟨rfl, hsz, hP, hK, hD0, hSW⟩ := hv
  have hx := B.exec
  have hb := B.bytes
  have hr := B.returns
  have hts0 := atoms_spec (ws := w_LW_argument) B.pre
  have hts : ∀ w ∈ lw_g, w.before _ s = true := fun w h => hts0 w (List.mem_cons_of_mem _ h)
  have hown : s.vm.findClass R_LW = some m.cls := findClass_of_methodNamed B.named
  have hlocks := B.notSynchronized
  have hE := uw_table B (hts0 _ List.mem_cons_self)
  clear hts0
  subst hsz
  have hD := hD0.self (sz := s.heap.size)
  generalize hAe : va_A (wz_622 h0 ta rw ag h0_argumentCount h0_reason h0_place h0_loaded h0_wafer_r h0_spare_r h0_program_r h0_coder_r h0_reader_r h0_validator_r h0_machine_r ag cag gag ou cou gou) s.heap.size = A at hD hSW ⊢
  have hA : ∀ q : Nat, s.heap.size ≤ q → A q := fun q h => by rw [← hAe]; exact Or.inr h
  clear hAe
  have hP : va_P (dC, dI) cls (wz_622 h0 ta rw ag h0_argumentCount h0_reason h0_place h0_loaded h0_wafer_r h0_spare_r h0_program_r h0_coder_r h0_reader_r h0_validator_r h0_machine_r ag cag gag ou cou gou) s.heap := hP
  have hl := lv_entry ([.ref h0, .long p0, .ref ou]) (n := 5) (Nat.le_of_ble_eq_true rfl)
  rw [lg_entry_eq]
  generalize (lg_sl ([.ref h0, .long p0, .ref ou]) ++ List.replicate (5 - (lg_sl ([.ref h0, .long p0, .ref ou])).length) Slot.unset).toArray = ls at hl ⊢
  have hl : lv_has ls 5 [(0, .ref h0), (1, .long p0), (3, .ref ou)] := hl
  have k0 : (0 : Int32).toInt = 0 := by decide
  refine w_gen (A := A) hP (fun H locs hP hS => ?_)
  have k1 : (1 : Int32).toInt = 1 := by decide
  refine lv_aload_n hx hb d_LW_argument_0 rfl (lv_at hl 2 rfl) ?_
  refine lv_iconst (v := 0) hx hb d_LW_argument_1 (by decide) ?_
  refine lv_aload_n hx hb d_LW_argument_2 rfl (lv_at hl 0 rfl) ?_
  refine lv_lload_n hx hb d_LW_argument_3 rfl (lv_at hl 1 rfl) ?_
  have hPc := hP.sb (wq := (wz_256 h0 ta rw ag h0_argumentCount h0_reason h0_place h0_loaded h0_wafer_r h0_spare_r h0_program_r h0_coder_r h0_reader_r h0_validator_r h0_machine_r ag cag gag)) [0, 1] rfl
  have hDc := hD.sb (wq := (wz_256 h0 ta rw ag h0_argumentCount h0_reason h0_place h0_loaded h0_wafer_r h0_spare_r h0_program_r h0_coder_r h0_reader_r h0_validator_r h0_machine_r ag cag gag)) [0, 1] (by decide) rfl
  have hKc := hK.sb (tyq := [(cag, .long)]) [0] rfl
  have hFc := va_free (wc := (wz_256 h0 ta rw ag h0_argumentCount h0_reason h0_place h0_loaded h0_wafer_r h0_spare_r h0_program_r h0_coder_r h0_reader_r h0_validator_r h0_machine_r ag cag gag)) hD hS hA [0, 1] rfl
  refine tq_calli (tz_runV (As := [.long p0]) (rest := [.int 0, .ref ou]) ⟨hx, hb, hml, hown, hts⟩ (c_WF_argument l hlt dC dI H.size sa h0 ta rw ag h0_wafer_r h0_spare_r h0_program_r h0_coder_r h0_reader_r h0_validator_r h0_machine_r cag h0_argumentCount h0_reason h0_place h0_loaded gag (b_h0_argumentCount) p0) (cwV 1 hts (gV kM_LW_35 kV_WF_argument kS_WF_argument kI_WF kC_WF_argument) rfl rfl rfl (by decide +kernel) ⟨Nat.le_of_ble_eq_true rfl, Nat.le_of_ble_eq_true rfl⟩) ⟨fun a U g mk z => by obtain ⟨z0, z1, zP, zK, zD, zS⟩ := z; exact ⟨z0, z1, zP, va_K.moved (u := U) (U := U.calling g mk a) (Vm.Alike.refl U.vm) zK, zD, sw.same (u := U) (U := U.calling g mk a) rfl zS⟩, va_recv hKc hPc (ci := 0) (q0 := 0) rfl rfl, fun U hU hW => ⟨rfl, by rw [hU], va_P.he hU.symm hPc, va_K.moved hW.alike hKc, hDc.weaken (fun _ _ _ _ => trivial), hSW.call hS hFc hW hU⟩⟩ rfl rfl hl.1 rfl (lv_room (Nat.le_of_ble_eq_true rfl)) d_LW_argument_4 ⟨Nat.le_of_ble_eq_true rfl, Nat.le_of_ble_eq_true rfl⟩) hS (fun q _ h => hFc q h) hFc (fun r1 u t H1 locs ht hvm hw hB hz1 hk1 hS => ?_) (fun xx u t H1 locs ht hvm hw hXX hB hz1 hk1 hS => ?_)
  rotate_left
  · skip
    obtain ⟨n2, n3⟩ := u
    try dsimp only at hw
    have bn3 := hw
    obtain ⟨hP1, hK1, hD1⟩ := hB
    replace hP1 := va_P.he ht hP1
    obtain ⟨hP, hD⟩ := va_join (wr := [(ou, .inl (cou, 1, .inr (.inl gou)))]) (w1 := (wz_256 h0 ta rw ag n3 h0_reason h0_place h0_loaded h0_wafer_r h0_spare_r h0_program_r h0_coder_r h0_reader_r h0_validator_r h0_machine_r ag cag n2)) hP hD [0, 1] [2] rfl rfl (by decide) (by decide) hk1 hFc hP1 hD1
    have hP : va_P (dC, dI) cls (wz_623 ou cou gou h0 ta rw ag n3 h0_reason h0_place h0_loaded h0_wafer_r h0_spare_r h0_program_r h0_coder_r h0_reader_r h0_validator_r h0_machine_r ag cag n2) H1 := hP
    have hD : va_D A (wz_623 ou cou gou h0 ta rw ag n3 h0_reason h0_place h0_loaded h0_wafer_r h0_spare_r h0_program_r h0_coder_r h0_reader_r h0_validator_r h0_machine_r ag cag n2) := hD
    refine tc_caught hE (by decide) (by decide) (by decide) hown (hts _ kK_LW_13) hXX ?_
    clear hPc hDc hKc hFc hz1 hk1 hP1 hK1 hD1 hXX
    refine lv_astore (lv' := [(4, .ref xx), (0, .ref h0), (1, .long p0), (3, .ref ou)]) hx hb d_LW_argument_12 hl (by decide) rfl (fun ls hl => ?_)
    refine lv_iconst (v := 1) hx hb d_LW_argument_14 (by decide) ?_
    have hP9 := hP.sb (wq := (wz_622 h0 ta rw ag n3 h0_reason h0_place h0_loaded h0_wafer_r h0_spare_r h0_program_r h0_coder_r h0_reader_r h0_validator_r h0_machine_r ag cag n2 ou cou gou)) [1, 2, 0] rfl
    have hD9 := hD.sb (wq := (wz_622 h0 ta rw ag n3 h0_reason h0_place h0_loaded h0_wafer_r h0_spare_r h0_program_r h0_coder_r h0_reader_r h0_validator_r h0_machine_r ag cag n2 ou cou gou)) [1, 2, 0] (by decide) rfl
    refine W.widen (k := 1) (n := 6) (Nat.le_of_ble_eq_true rfl) (Nat.le_of_ble_eq_true rfl) ?_
    exact W.iret (v := 1) hx hb hr (fun t ht hW => ⟨⟨1, (n2, gou, n3), rfl, ⟨bn3, trivial⟩, va_P.he ht.symm hP9, va_K.moved hW.alike hK, hD9⟩, hS.F ht⟩) hS.2.2 d_LW_argument_15
  obtain ⟨n4, n5⟩ := u
  try dsimp only at hw
  obtain ⟨bn5, xr1⟩ := hw
  try clear hw
  obtain ⟨hP1, hK1, hD1⟩ := hB
  replace hP1 := va_P.he ht hP1
  obtain ⟨hP, hD⟩ := va_join (wr := [(ou, .inl (cou, 1, .inr (.inl gou)))]) (w1 := (wz_256 h0 ta rw ag n5 h0_reason h0_place h0_loaded h0_wafer_r h0_spare_r h0_program_r h0_coder_r h0_reader_r h0_validator_r h0_machine_r ag cag n4)) hP hD [0, 1] [2] rfl rfl (by decide) (by decide) hk1 hFc hP1 hD1
  clear hPc hDc hKc hFc hz1 hk1 hP1 hK1 hD1
  rename Heap => H
  have hP : va_P (dC, dI) cls (wz_623 ou cou gou h0 ta rw ag n5 h0_reason h0_place h0_loaded h0_wafer_r h0_spare_r h0_program_r h0_coder_r h0_reader_r h0_validator_r h0_machine_r ag cag n4) H := hP
  have hD : va_D A (wz_623 ou cou gou h0 ta rw ag n5 h0_reason h0_place h0_loaded h0_wafer_r h0_spare_r h0_program_r h0_coder_r h0_reader_r h0_validator_r h0_machine_r ag cag n4) := hD
  refine lv_i2l hx hb d_LW_argument_7 rfl ?_
  refine lv_topl (fun x6 ex6 => ?_)
  have tx6 := i2l_t ex6
  have g8 : vp_in 0 1 := vp_in_iff.mpr ⟨by (first | (apply Int.le_antisymm <;> omega) | omega), by (first | (apply Int.le_antisymm <;> omega) | omega)⟩
  refine va_last hx hb hK hP hD hS 0 1 rfl rfl g8 d_LW_argument_8 (fun H locs hP hD hS => ?_)
  generalize ef7 : vp_updL gou (0 : Int32).toNatClampNeg x6 = f7 at hP hD
  refine lv_goto (tgt := 16) hx hb d_LW_argument_9 (by decide) ?_
  refine lv_iconst (v := 0) hx hb d_LW_argument_16 (by decide) ?_
  have hP9 := hP.sb (wq := (wz_622 h0 ta rw ag n5 h0_reason h0_place h0_loaded h0_wafer_r h0_spare_r h0_program_r h0_coder_r h0_reader_r h0_validator_r h0_machine_r ag cag n4 ou cou f7)) [1, 2, 0] rfl
  have hD9 := hD.sb (wq := (wz_622 h0 ta rw ag n5 h0_reason h0_place h0_loaded h0_wafer_r h0_spare_r h0_program_r h0_coder_r h0_reader_r h0_validator_r h0_machine_r ag cag n4 ou cou f7)) [1, 2, 0] (by decide) rfl
  refine W.widen (k := 1) (n := 6) (Nat.le_of_ble_eq_true rfl) (Nat.le_of_ble_eq_true rfl) ?_
  exact W.iret (v := 0) hx hb hr (fun t ht hW => ⟨⟨0, (n4, f7, n5), rfl, ⟨bn5, trivial⟩, va_P.he ht.symm hP9, va_K.moved hW.alike hK, hD9⟩, hS.F ht⟩) hS.2.2 d_LW_argument_17
end q_n36
section q_n37
/-! the law: its helpers with one handler -/
abbrev b_LW_count : ByteArray := method_13_code
def y_LW_count : MethodName := ⟨R_LW, "count", "(LWaferForge;I[J)I"⟩
abbrev w_LW_count : List Cond := .codeWith y_LW_count b_LW_count 4 (Option.some .int) [(0, 9, 12, 19)] :: lw_g
theorem kC_LW_count : Cond.codeWith y_LW_count b_LW_count 4 (Option.some .int) [(0, 9, 12, 19)] ∈ lw_g := in_c8 52 rfl rfl
theorem d_LW_count_0 : decode b_LW_count 0 = .ok (.aload_n 2, 1) := bz_c44 (by decide +kernel)
theorem d_LW_count_1 : decode b_LW_count 1 = .ok (.iconst 0, 1) := bz_c3 (by decide +kernel)
theorem d_LW_count_2 : decode b_LW_count 2 = .ok (.aload_n 0, 1) := bz_c42 (by decide +kernel)
theorem d_LW_count_3 : decode b_LW_count 3 = .ok (.iload_n 1, 1) := bz_c27 (by decide +kernel)
theorem d_LW_count_4 : decode b_LW_count 4 = .ok (.invokevirtual 54, 3) := bz_c182 (by decide +kernel)
theorem d_LW_count_7 : decode b_LW_count 7 = .ok (.i2l, 1) := bz_c133 (by decide +kernel)
theorem d_LW_count_8 : decode b_LW_count 8 = .ok (.lastore, 1) := bz_c80 (by decide +kernel)
theorem d_LW_count_9 : decode b_LW_count 9 = .ok (.goto 6, 3) := bz_c167 (by decide +kernel)
theorem d_LW_count_12 : decode b_LW_count 12 = .ok (.astore_n 3, 1) := bz_c78 (by decide +kernel)
theorem d_LW_count_13 : decode b_LW_count 13 = .ok (.iconst 1, 1) := bz_c4 (by decide +kernel)
theorem d_LW_count_14 : decode b_LW_count 14 = .ok (.ireturn, 1) := bz_c172 (by decide +kernel)
theorem d_LW_count_15 : decode b_LW_count 15 = .ok (.iconst 0, 1) := bz_c3 (by decide +kernel)
theorem d_LW_count_16 : decode b_LW_count 16 = .ok (.ireturn, 1) := bz_c172 (by decide +kernel)
theorem kM_LW_54 : Cond.methodLink R_LW 54 y_WF_count ∈ lw_g := in_c8 53 rfl rfl
theorem kV_WF_count : Cond.instanceMethod y_WF_count ∈ lw_g := in_c8 54 rfl rfl
theorem kS_WF_count : Cond.selects R_WF y_WF_count y_WF_count ∈ lw_g := in_c8 55 rfl rfl
abbrev at_LW_count (dC : Nat → ClassId) (dI : Nat → Nat → Nat) (sa : Nat → Nat) (h0 ta rw ag wa ws h0_program_r h0_coder_r h0_reader_r h0_validator_r ma tab rwb wab wac watt watp watg waft wagt wafy wafv wagc waek waei waes waez magl mace mask mafb mafs maff mafl malb malh ou : Nat) (cou : ClassId) (h0_argumentCount : Int32) (h0_reason : Int32) (h0_place : Int32) (h0_loaded : Int32) (ta_length : Int32) (rw_length : Int32) (wa_typeCount : Int32) (wa_functionCount : Int32) (wa_hasMemory : Int32) (wa_pagesLeast : Int64) (wa_pagesMost : Int64) (wa_globalCount : Int32) (wa_exportCount : Int32) (ma_pages : Int32) (ma_steps : Int32) (ma_reason : Int32) (ma_wafer : Value) (ma_codes : Value) (ma_height : Int32) (ma_frameCount : Int32) (ma_labelCount : Int32) (ma_at : Int32) (A : Nat → Prop) (u : (Nat → Int64)) (t : State) : Prop := match u with | gou => va_P (dC, dI) cls (wz_624 h0 ta rw ag h0_argumentCount h0_reason h0_place h0_loaded wa ws h0_program_r h0_coder_r h0_reader_r h0_validator_r ma ta tab ta_length rw rwb rw_length wa wab wac wa_typeCount watt watp watg wa_functionCount waft wa_hasMemory wa_pagesLeast wa_pagesMost wa_globalCount wagt wafy wafv wagc wa_exportCount waek waei waes waez ma ma_pages ma_steps ma_reason magl ma_wafer ma_codes mace mask ma_height mafb mafs maff mafl ma_frameCount malb malh ma_labelCount ma_at ou cou gou) t.heap ∧ va_K (dC, dI) cls [(cou, .long)] t ∧ va_D A (wz_624 h0 ta rw ag h0_argumentCount h0_reason h0_place h0_loaded wa ws h0_program_r h0_coder_r h0_reader_r h0_validator_r ma ta tab ta_length rw rwb rw_length wa wab wac wa_typeCount watt watp watg wa_functionCount waft wa_hasMemory wa_pagesLeast wa_pagesMost wa_globalCount wagt wafy wafv wagc wa_exportCount waek waei waes waez ma ma_pages ma_steps ma_reason magl ma_wafer ma_codes mace mask ma_height mafb mafs maff mafl ma_frameCount malb malh ma_labelCount ma_at ou cou gou)
set_option maxHeartbeats 4000000 in
set_option maxRecDepth 100000 in
theorem c_LW_count (l : Launch) (hlt : l.stackTraces = false) (dC : Nat → ClassId) (dI : Nat → Nat → Nat) (sz : Nat) (sa : Nat → Nat) (h0 ta rw ag wa ws h0_program_r h0_coder_r h0_reader_r h0_validator_r ma tab rwb wab wac watt watp watg waft wagt wafy wafv wagc waek waei waes waez magl mace mask mafb mafs maff mafl malb malh ou : Nat) (cou : ClassId) (h0_argumentCount : Int32) (h0_reason : Int32) (h0_place : Int32) (h0_loaded : Int32) (ta_length : Int32) (rw_length : Int32) (wa_typeCount : Int32) (wa_functionCount : Int32) (wa_hasMemory : Int32) (wa_pagesLeast : Int64) (wa_pagesMost : Int64) (wa_globalCount : Int32) (wa_exportCount : Int32) (ma_pages : Int32) (ma_steps : Int32) (ma_reason : Int32) (ma_wafer : Value) (ma_codes : Value) (ma_height : Int32) (ma_frameCount : Int32) (ma_labelCount : Int32) (ma_at : Int32) (gou : Nat → Int64)  (b_h0_argumentCount : 0 ≤ h0_argumentCount.toInt ∧ h0_argumentCount.toInt ≤ 8) (b_h0_loaded : h0_loaded = 0 ∨ h0_loaded = 1) (b_ta_length : 0 ≤ ta_length.toInt ∧ ta_length.toInt ≤ 2000) (b_rw_length : 0 ≤ rw_length.toInt ∧ rw_length.toInt ≤ 8192) (b_wa_functionCount : 0 ≤ wa_functionCount.toInt ∧ wa_functionCount.toInt ≤ 30) (b_wa_globalCount : 0 ≤ wa_globalCount.toInt ∧ wa_globalCount.toInt ≤ 20) (b_ma_pages : 0 ≤ ma_pages.toInt ∧ ma_pages.toInt ≤ 2) (b_ma_steps : 0 ≤ ma_steps.toInt ∧ ma_steps.toInt ≤ 100001) (p0 : Int32)   : Met l y_LW_count w_LW_count ({ frames := 7, cells := 1, slots := 6, locals := 111 }) (va_Pc [.ref h0, .int p0, .ref ou] (fun U => U.heap.size = sz ∧ va_P (dC, dI) cls (wz_624 h0 ta rw ag h0_argumentCount h0_reason h0_place h0_loaded wa ws h0_program_r h0_coder_r h0_reader_r h0_validator_r ma ta tab ta_length rw rwb rw_length wa wab wac wa_typeCount watt watp watg wa_functionCount waft wa_hasMemory wa_pagesLeast wa_pagesMost wa_globalCount wagt wafy wafv wagc wa_exportCount waek waei waes waez ma ma_pages ma_steps ma_reason magl ma_wafer ma_codes mace mask ma_height mafb mafs maff mafl ma_frameCount malb malh ma_labelCount ma_at ou cou gou) U.heap ∧ va_K (dC, dI) cls [(cou, .long)] U ∧ va_D (fun _ => True) (wz_624 h0 ta rw ag h0_argumentCount h0_reason h0_place h0_loaded wa ws h0_program_r h0_coder_r h0_reader_r h0_validator_r ma ta tab ta_length rw rwb rw_length wa wab wac wa_typeCount watt watp watg wa_functionCount waft wa_hasMemory wa_pagesLeast wa_pagesMost wa_globalCount wagt wafy wafv wagc wa_exportCount waek waei waes waez ma ma_pages ma_steps ma_reason magl ma_wafer ma_codes mace mask ma_height mafb mafs maff mafl ma_frameCount malb malh ma_labelCount ma_at ou cou gou) ∧ sw sa (va_A (wz_624 h0 ta rw ag h0_argumentCount h0_reason h0_place h0_loaded wa ws h0_program_r h0_coder_r h0_reader_r h0_validator_r ma ta tab ta_length rw rwb rw_length wa wab wac wa_typeCount watt watp watg wa_functionCount waft wa_hasMemory wa_pagesLeast wa_pagesMost wa_globalCount wagt wafy wafv wagc wa_exportCount waek waei waes waez ma ma_pages ma_steps ma_reason magl ma_wafer ma_codes mace mask ma_height mafb mafs maff mafl ma_frameCount malb malh ma_labelCount ma_at ou cou gou) sz) U U.heap)) (va_Qi (fun (r : Int32) (u : (Nat → Int64)) => match u with | gou2 => (True)) (at_LW_count dC dI sa h0 ta rw ag wa ws h0_program_r h0_coder_r h0_reader_r h0_validator_r ma tab rwb wab wac watt watp watg waft wagt wafy wafv wagc waek waei waes waez magl mace mask mafb mafs maff mafl malb malh ou cou h0_argumentCount h0_reason h0_place h0_loaded ta_length rw_length wa_typeCount wa_functionCount wa_hasMemory wa_pagesLeast wa_pagesMost wa_globalCount wa_exportCount ma_pages ma_steps ma_reason ma_wafer ma_codes ma_height ma_frameCount ma_labelCount ma_at (va_A (wz_624 h0 ta rw ag h0_argumentCount h0_reason h0_place h0_loaded wa ws h0_program_r h0_coder_r h0_reader_r h0_validator_r ma ta tab ta_length rw rwb rw_length wa wab wac wa_typeCount watt watp watg wa_functionCount waft wa_hasMemory wa_pagesLeast wa_pagesMost wa_globalCount wagt wafy wafv wagc wa_exportCount waek waei waes waez ma ma_pages ma_steps ma_reason magl ma_wafer ma_codes mace mask ma_height mafb mafs maff mafl ma_frameCount malb malh ma_labelCount ma_at ou cou gou) sz)) (va_A (wz_624 h0 ta rw ag h0_argumentCount h0_reason h0_place h0_loaded wa ws h0_program_r h0_coder_r h0_reader_r h0_validator_r ma ta tab ta_length rw rwb rw_length wa wab wac wa_typeCount watt watp watg wa_functionCount waft wa_hasMemory wa_pagesLeast wa_pagesMost wa_globalCount wagt wafy wafv wagc wa_exportCount waek waei waes waez ma ma_pages ma_steps ma_reason magl ma_wafer ma_codes mace mask ma_height mafb mafs maff mafl ma_frameCount malb malh ma_labelCount ma_at ou cou gou) sz)) 1 6 (va_A (wz_624 h0 ta rw ag h0_argumentCount h0_reason h0_place h0_loaded wa ws h0_program_r h0_coder_r h0_reader_r h0_validator_r ma ta tab ta_length rw rwb rw_length wa wab wac wa_typeCount watt watp watg wa_functionCount waft wa_hasMemory wa_pagesLeast wa_pagesMost wa_globalCount wagt wafy wafv wagc wa_exportCount waek waei waes waez ma ma_pages ma_steps ma_reason magl ma_wafer ma_codes mace mask ma_height mafb mafs maff mafl ma_frameCount malb malh ma_labelCount ma_at ou cou gou) sz) := by
  refine va_MetW (cc := b_LW_count) (maxL := 4) (ret := (Option.some .int)) (hh := [(0, 9, 12, 19)]) (by decide) rfl ?_
  intro p e s m args below meth c s₁ B hml hv
  obtain ⟨rfl, hsz, hP, hK, hD0, hSW⟩ := hv
  have hx := B.exec
  have hb := B.bytes
  have hr := B.returns
  have hts0 := atoms_spec (ws := w_LW_count) B.pre
  have hts : ∀ w ∈ lw_g, w.before _ s = true := fun w h => hts0 w (List.mem_cons_of_mem _ h)
  have hown : s.vm.findClass R_LW = some m.cls := findClass_of_methodNamed B.named
  have hlocks := B.notSynchronized
  have hE := uw_table B (hts0 _ List.mem_cons_self)
  clear hts0
  subst hsz
  have hD := hD0.self (sz := s.heap.size)
  generalize hAe : va_A (wz_624 h0 ta rw ag h0_argumentCount h0_reason h0_place h0_loaded wa ws h0_program_r h0_coder_r h0_reader_r h0_validator_r ma ta tab ta_length rw rwb rw_length wa wab wac wa_typeCount watt watp watg wa_functionCount waft wa_hasMemory wa_pagesLeast wa_pagesMost wa_globalCount wagt wafy wafv wagc wa_exportCount waek waei waes waez ma ma_pages ma_steps ma_reason magl ma_wafer ma_codes mace mask ma_height mafb mafs maff mafl ma_frameCount malb malh ma_labelCount ma_at ou cou gou) s.heap.size = A at hD hSW ⊢
  have hA : ∀ q : Nat, s.heap.size ≤ q → A q := fun q h => by rw [← hAe]; exact Or.inr h
  clear hAe
  have hP : va_P (dC, dI) cls (wz_624 h0 ta rw ag h0_argumentCount h0_reason h0_place h0_loaded wa ws h0_program_r h0_coder_r h0_reader_r h0_validator_r ma ta tab ta_length rw rwb rw_length wa wab wac wa_typeCount watt watp watg wa_functionCount waft wa_hasMemory wa_pagesLeast wa_pagesMost wa_globalCount wagt wafy wafv wagc wa_exportCount waek waei waes waez ma ma_pages ma_steps ma_reason magl ma_wafer ma_codes mace mask ma_height mafb mafs maff mafl ma_frameCount malb malh ma_labelCount ma_at ou cou gou) s.heap := hP
  have hl := lv_entry ([.ref h0, .int p0, .ref ou]) (n := 4) (Nat.le_of_ble_eq_true rfl)
  rw [lg_entry_eq]
  generalize (lg_sl ([.ref h0, .int p0, .ref ou]) ++ List.replicate (4 - (lg_sl ([.ref h0, .int p0, .ref ou])).length) Slot.unset).toArray = ls at hl ⊢
  have hl : lv_has ls 4 [(0, .ref h0), (1, .int p0), (2, .ref ou)] := hl
  have k0 : (0 : Int32).toInt = 0 := by decide
  refine w_gen (A := A) hP (fun H locs hP hS => ?_)
  have k1 : (1 : Int32).toInt = 1 := by decide
  have lo_p0 := i32_lo p0
  have hi_p0 := i32_hi p0
  have th0_loaded := b01 b_h0_loaded
  refine lv_aload_n hx hb d_LW_count_0 rfl (lv_at hl 2 rfl) ?_
  refine lv_iconst (v := 0) hx hb d_LW_count_1 (by decide) ?_
  refine lv_aload_n hx hb d_LW_count_2 rfl (lv_at hl 0 rfl) ?_
  refine lv_iload_n hx hb d_LW_count_3 rfl (lv_at hl 1 rfl) ?_
  have hPc := hP.sb (wq := (wz_264 h0 ta rw ag h0_argumentCount h0_reason h0_place h0_loaded wa ws h0_program_r h0_coder_r h0_reader_r h0_validator_r ma ta tab ta_length rw rwb rw_length wa wab wac wa_typeCount watt watp watg wa_functionCount waft wa_hasMemory wa_pagesLeast wa_pagesMost wa_globalCount wagt wafy wafv wagc wa_exportCount waek waei waes waez ma ma_pages ma_steps ma_reason magl ma_wafer ma_codes mace mask ma_height mafb mafs maff mafl ma_frameCount malb malh ma_labelCount ma_at)) [0, 1, 2, 3, 4] rfl
  have hDc := hD.sb (wq := (wz_264 h0 ta rw ag h0_argumentCount h0_reason h0_place h0_loaded wa ws h0_program_r h0_coder_r h0_reader_r h0_validator_r ma ta tab ta_length rw rwb rw_length wa wab wac wa_typeCount watt watp watg wa_functionCount waft wa_hasMemory wa_pagesLeast wa_pagesMost wa_globalCount wagt wafy wafv wagc wa_exportCount waek waei waes waez ma ma_pages ma_steps ma_reason magl ma_wafer ma_codes mace mask ma_height mafb mafs maff mafl ma_frameCount malb malh ma_labelCount ma_at)) [0, 1, 2, 3, 4] (by decide) rfl
  have hKc := hK.sb (tyq := []) [] rfl
  have hFc := va_free (wc := (wz_264 h0 ta rw ag h0_argumentCount h0_reason h0_place h0_loaded wa ws h0_program_r h0_coder_r h0_reader_r h0_validator_r ma ta tab ta_length rw rwb rw_length wa wab wac wa_typeCount watt watp watg wa_functionCount waft wa_hasMemory wa_pagesLeast wa_pagesMost wa_globalCount wagt wafy wafv wagc wa_exportCount waek waei waes waez ma ma_pages ma_steps ma_reason magl ma_wafer ma_codes mace mask ma_height mafb mafs maff mafl ma_frameCount malb malh ma_labelCount ma_at)) hD hS hA [0, 1, 2, 3, 4] rfl
  refine tq_calli (tz_runV (As := [.int p0]) (rest := [.int 0, .ref ou]) ⟨hx, hb, hml, hown, hts⟩ (c_WF_count l hlt dC dI H.size sa h0 ta rw ag wa ws h0_program_r h0_coder_r h0_reader_r h0_validator_r ma tab rwb wab wac watt watp watg waft wagt wafy wafv wagc waek waei waes waez magl mace mask mafb mafs maff mafl malb malh h0_argumentCount h0_reason h0_place h0_loaded ta_length rw_length wa_typeCount wa_functionCount wa_hasMemory wa_pagesLeast wa_pagesMost wa_globalCount wa_exportCount ma_pages ma_steps ma_reason ma_wafer ma_codes ma_height ma_frameCount ma_labelCount ma_at (b_h0_argumentCount) (b_h0_loaded) (b_ta_length) (b_rw_length) (b_wa_functionCount) (b_wa_globalCount) (b_ma_pages) (b_ma_steps) p0) (cwV 1 hts (gV kM_LW_54 kV_WF_count kS_WF_count kI_WF kC_WF_count) rfl rfl rfl (by decide +kernel) ⟨Nat.le_of_ble_eq_true rfl, Nat.le_of_ble_eq_true rfl⟩) ⟨fun a U g mk z => by obtain ⟨z0, z1, zP, zK, zD, zS⟩ := z; exact ⟨z0, z1, zP, va_K.moved (u := U) (U := U.calling g mk a) (Vm.Alike.refl U.vm) zK, zD, sw.same (u := U) (U := U.calling g mk a) rfl zS⟩, va_recv hKc hPc (ci := 0) (q0 := 0) rfl rfl, fun U hU hW => ⟨rfl, by rw [hU], va_P.he hU.symm hPc, va_K.moved hW.alike hKc, hDc.weaken (fun _ _ _ _ => trivial), hSW.call hS hFc hW hU⟩⟩ rfl rfl hl.1 rfl (lv_room (Nat.le_of_ble_eq_true rfl)) d_LW_count_4 ⟨Nat.le_of_ble_eq_true rfl, Nat.le_of_ble_eq_true rfl⟩) hS (fun q _ h => hFc q h) hFc (fun r1 u t H1 locs ht hvm hw hB hz1 hk1 hS => ?_) (fun xx u t H1 locs ht hvm hw hXX hB hz1 hk1 hS => ?_)
  rotate_left
  · skip
    try dsimp only at hw
    obtain ⟨hP1, hK1, hD1⟩ := hB
    replace hP1 := va_P.he ht hP1
    obtain ⟨hP, hD⟩ := va_join (wr := [(ou, .inl (cou, 1, .inr (.inl gou)))]) (w1 := (wz_264 h0 ta rw ag h0_argumentCount h0_reason h0_place h0_loaded wa ws h0_program_r h0_coder_r h0_reader_r h0_validator_r ma ta tab ta_length rw rwb rw_length wa wab wac wa_typeCount watt watp watg wa_functionCount waft wa_hasMemory wa_pagesLeast wa_pagesMost wa_globalCount wagt wafy wafv wagc wa_exportCount waek waei waes waez ma ma_pages ma_steps ma_reason magl ma_wafer ma_codes mace mask ma_height mafb mafs maff mafl ma_frameCount malb malh ma_labelCount ma_at)) hP hD [0, 1, 2, 3, 4] [5] rfl rfl (by decide) (by decide) hk1 hFc hP1 hD1
    have hP : va_P (dC, dI) cls (wz_625 ou cou gou h0 ta rw ag h0_argumentCount h0_reason h0_place h0_loaded wa ws h0_program_r h0_coder_r h0_reader_r h0_validator_r ma ta tab ta_length rw rwb rw_length wa wab wac wa_typeCount watt watp watg wa_functionCount waft wa_hasMemory wa_pagesLeast wa_pagesMost wa_globalCount wagt wafy wafv wagc wa_exportCount waek waei waes waez ma ma_pages ma_steps ma_reason magl ma_wafer ma_codes mace mask ma_height mafb mafs maff mafl ma_frameCount malb malh ma_labelCount ma_at) H1 := hP
    have hD : va_D A (wz_625 ou cou gou h0 ta rw ag h0_argumentCount h0_reason h0_place h0_loaded wa ws h0_program_r h0_coder_r h0_reader_r h0_validator_r ma ta tab ta_length rw rwb rw_length wa wab wac wa_typeCount watt watp watg wa_functionCount waft wa_hasMemory wa_pagesLeast wa_pagesMost wa_globalCount wagt wafy wafv wagc wa_exportCount waek waei waes waez ma ma_pages ma_steps ma_reason magl ma_wafer ma_codes mace mask ma_height mafb mafs maff mafl ma_frameCount malb malh ma_labelCount ma_at) := hD
    refine tc_caught hE (by decide) (by decide) (by decide) hown (hts _ kK_LW_19) hXX ?_
    clear hPc hDc hKc hFc hz1 hk1 hP1 hK1 hD1 hXX
    refine lv_astore_n (lv' := [(3, .ref xx), (0, .ref h0), (1, .int p0), (2, .ref ou)]) hx hb d_LW_count_12 rfl hl (by decide) rfl (fun ls hl => ?_)
    refine lv_iconst (v := 1) hx hb d_LW_count_13 (by decide) ?_
    have hP9 := hP.sb (wq := (wz_624 h0 ta rw ag h0_argumentCount h0_reason h0_place h0_loaded wa ws h0_program_r h0_coder_r h0_reader_r h0_validator_r ma ta tab ta_length rw rwb rw_length wa wab wac wa_typeCount watt watp watg wa_functionCount waft wa_hasMemory wa_pagesLeast wa_pagesMost wa_globalCount wagt wafy wafv wagc wa_exportCount waek waei waes waez ma ma_pages ma_steps ma_reason magl ma_wafer ma_codes mace mask ma_height mafb mafs maff mafl ma_frameCount malb malh ma_labelCount ma_at ou cou gou)) [1, 2, 3, 4, 5, 0] rfl
    have hD9 := hD.sb (wq := (wz_624 h0 ta rw ag h0_argumentCount h0_reason h0_place h0_loaded wa ws h0_program_r h0_coder_r h0_reader_r h0_validator_r ma ta tab ta_length rw rwb rw_length wa wab wac wa_typeCount watt watp watg wa_functionCount waft wa_hasMemory wa_pagesLeast wa_pagesMost wa_globalCount wagt wafy wafv wagc wa_exportCount waek waei waes waez ma ma_pages ma_steps ma_reason magl ma_wafer ma_codes mace mask ma_height mafb mafs maff mafl ma_frameCount malb malh ma_labelCount ma_at ou cou gou)) [1, 2, 3, 4, 5, 0] (by decide) rfl
    refine W.widen (k := 1) (n := 6) (Nat.le_of_ble_eq_true rfl) (Nat.le_of_ble_eq_true rfl) ?_
    exact W.iret (v := 1) hx hb hr (fun t ht hW => ⟨⟨1, gou, rfl, (trivial), va_P.he ht.symm hP9, va_K.moved hW.alike hK, hD9⟩, hS.F ht⟩) hS.2.2 d_LW_count_14
  try dsimp only at hw
  have xr1 := hw
  try clear hw
  obtain ⟨hP1, hK1, hD1⟩ := hB
  replace hP1 := va_P.he ht hP1
  obtain ⟨hP, hD⟩ := va_join (wr := [(ou, .inl (cou, 1, .inr (.inl gou)))]) (w1 := (wz_264 h0 ta rw ag h0_argumentCount h0_reason h0_place h0_loaded wa ws h0_program_r h0_coder_r h0_reader_r h0_validator_r ma ta tab ta_length rw rwb rw_length wa wab wac wa_typeCount watt watp watg wa_functionCount waft wa_hasMemory wa_pagesLeast wa_pagesMost wa_globalCount wagt wafy wafv wagc wa_exportCount waek waei waes waez ma ma_pages ma_steps ma_reason magl ma_wafer ma_codes mace mask ma_height mafb mafs maff mafl ma_frameCount malb malh ma_labelCount ma_at)) hP hD [0, 1, 2, 3, 4] [5] rfl rfl (by decide) (by decide) hk1 hFc hP1 hD1
  clear hPc hDc hKc hFc hz1 hk1 hP1 hK1 hD1
  rename Heap => H
  have hP : va_P (dC, dI) cls (wz_625 ou cou gou h0 ta rw ag h0_argumentCount h0_reason h0_place h0_loaded wa ws h0_program_r h0_coder_r h0_reader_r h0_validator_r ma ta tab ta_length rw rwb rw_length wa wab wac wa_typeCount watt watp watg wa_functionCount waft wa_hasMemory wa_pagesLeast wa_pagesMost wa_globalCount wagt wafy wafv wagc wa_exportCount waek waei waes waez ma ma_pages ma_steps ma_reason magl ma_wafer ma_codes mace mask ma_height mafb mafs maff mafl ma_frameCount malb malh ma_labelCount ma_at) H := hP
  have hD : va_D A (wz_625 ou cou gou h0 ta rw ag h0_argumentCount h0_reason h0_place h0_loaded wa ws h0_program_r h0_coder_r h0_reader_r h0_validator_r ma ta tab ta_length rw rwb rw_length wa wab wac wa_typeCount watt watp watg wa_functionCount waft wa_hasMemory wa_pagesLeast wa_pagesMost wa_globalCount wagt wafy wafv wagc wa_exportCount waek waei waes waez ma ma_pages ma_steps ma_reason magl ma_wafer ma_codes mace mask ma_height mafb mafs maff mafl ma_frameCount malb malh ma_labelCount ma_at) := hD
  refine lv_i2l hx hb d_LW_count_7 rfl ?_
  refine lv_topl (fun x2 ex2 => ?_)
  have tx2 := i2l_t ex2
  have g8 : vp_in 0 1 := vp_in_iff.mpr ⟨by (first | (apply Int.le_antisymm <;> omega) | omega), by (first | (apply Int.le_antisymm <;> omega) | omega)⟩
  refine va_last hx hb hK hP hD hS 0 0 rfl rfl g8 d_LW_count_8 (fun H locs hP hD hS => ?_)
  generalize ef3 : vp_updL gou (0 : Int32).toNatClampNeg x2 = f3 at hP hD
  refine lv_goto (tgt := 15) hx hb d_LW_count_9 (by decide) ?_
  refine lv_iconst (v := 0) hx hb d_LW_count_15 (by decide) ?_
  have hP9 := hP.sb (wq := (wz_624 h0 ta rw ag h0_argumentCount h0_reason h0_place h0_loaded wa ws h0_program_r h0_coder_r h0_reader_r h0_validator_r ma ta tab ta_length rw rwb rw_length wa wab wac wa_typeCount watt watp watg wa_functionCount waft wa_hasMemory wa_pagesLeast wa_pagesMost wa_globalCount wagt wafy wafv wagc wa_exportCount waek waei waes waez ma ma_pages ma_steps ma_reason magl ma_wafer ma_codes mace mask ma_height mafb mafs maff mafl ma_frameCount malb malh ma_labelCount ma_at ou cou f3)) [1, 2, 3, 4, 5, 0] rfl
  have hD9 := hD.sb (wq := (wz_624 h0 ta rw ag h0_argumentCount h0_reason h0_place h0_loaded wa ws h0_program_r h0_coder_r h0_reader_r h0_validator_r ma ta tab ta_length rw rwb rw_length wa wab wac wa_typeCount watt watp watg wa_functionCount waft wa_hasMemory wa_pagesLeast wa_pagesMost wa_globalCount wagt wafy wafv wagc wa_exportCount waek waei waes waez ma ma_pages ma_steps ma_reason magl ma_wafer ma_codes mace mask ma_height mafb mafs maff mafl ma_frameCount malb malh ma_labelCount ma_at ou cou f3)) [1, 2, 3, 4, 5, 0] (by decide) rfl
  refine W.widen (k := 1) (n := 6) (Nat.le_of_ble_eq_true rfl) (Nat.le_of_ble_eq_true rfl) ?_
  exact W.iret (v := 0) hx hb hr (fun t ht hW => ⟨⟨0, f3, rfl, (trivial), va_P.he ht.symm hP9, va_K.moved hW.alike hK, hD9⟩, hS.F ht⟩) hS.2.2 d_LW_count_16
abbrev b_LW_emit : ByteArray := method_7_code
def y_LW_emit : MethodName := ⟨R_LW, "emit", "(LWaferForge;[J)I"⟩
abbrev w_LW_emit : List Cond := .codeWith y_LW_emit b_LW_emit 3 (Option.some .int) [(0, 8, 11, 33)] :: lw_g
theorem kC_LW_emit : Cond.codeWith y_LW_emit b_LW_emit 3 (Option.some .int) [(0, 8, 11, 33)] ∈ lw_g := in_c7 57 rfl rfl
theorem d_LW_emit_0 : decode b_LW_emit 0 = .ok (.aload_n 1, 1) := bz_c43 (by decide +kernel)
theorem d_LW_emit_1 : decode b_LW_emit 1 = .ok (.iconst 0, 1) := bz_c3 (by decide +kernel)
theorem d_LW_emit_2 : decode b_LW_emit 2 = .ok (.aload_n 0, 1) := bz_c42 (by decide +kernel)
theorem d_LW_emit_3 : decode b_LW_emit 3 = .ok (.invokevirtual 30, 3) := bz_c182 (by decide +kernel)
theorem d_LW_emit_6 : decode b_LW_emit 6 = .ok (.i2l, 1) := bz_c133 (by decide +kernel)
theorem d_LW_emit_7 : decode b_LW_emit 7 = .ok (.lastore, 1) := bz_c80 (by decide +kernel)
theorem d_LW_emit_8 : decode b_LW_emit 8 = .ok (.goto 6, 3) := bz_c167 (by decide +kernel)
theorem d_LW_emit_11 : decode b_LW_emit 11 = .ok (.astore_n 2, 1) := bz_c77 (by decide +kernel)
theorem d_LW_emit_12 : decode b_LW_emit 12 = .ok (.iconst 1, 1) := bz_c4 (by decide +kernel)
theorem d_LW_emit_13 : decode b_LW_emit 13 = .ok (.ireturn, 1) := bz_c172 (by decide +kernel)
theorem d_LW_emit_14 : decode b_LW_emit 14 = .ok (.iconst 0, 1) := bz_c3 (by decide +kernel)
theorem d_LW_emit_15 : decode b_LW_emit 15 = .ok (.ireturn, 1) := bz_c172 (by decide +kernel)
theorem kM_LW_30 : Cond.methodLink R_LW 30 y_WF_emit ∈ lw_g := in_c7 59 rfl rfl
theorem kV_WF_emit : Cond.instanceMethod y_WF_emit ∈ lw_g := in_c7 60 rfl rfl
theorem kS_WF_emit : Cond.selects R_WF y_WF_emit y_WF_emit ∈ lw_g := in_c7 61 rfl rfl
theorem kK_LW_33 : Cond.classLink R_LW 33 "java/lang/IllegalStateException" ∈ lw_g := in_c7 58 rfl rfl
abbrev at_LW_emit (dC : Nat → ClassId) (dI : Nat → Nat → Nat) (sa : Nat → Nat) (h0 ta rw ag wa ws h0_program_r h0_coder_r h0_reader_r h0_validator_r ma rwb wab wac watt watp watg waft wagt wafy wafv wagc waek waei waes waez wabb ou : Nat) (crwb cwabb cou : ClassId) (h0_argumentCount : Int32) (h0_reason : Int32) (h0_place : Int32) (h0_loaded : Int32) (wa_typeCount : Int32) (wa_functionCount : Int32) (wa_hasMemory : Int32) (wa_pagesLeast : Int64) (wa_pagesMost : Int64) (wa_globalCount : Int32) (wa_exportCount : Int32) (wab_length : Int32) (gwabb : Nat → Int32) (A : Nat → Prop) (u : (Nat → Int64) × (Nat → Int32) × Int32) (t : State) : Prop := match u with | (gou, grwb, rw_length) => va_P (dC, dI) cls (wz_626 h0 ta rw ag h0_argumentCount h0_reason h0_place h0_loaded wa ws h0_program_r h0_coder_r h0_reader_r h0_validator_r ma rw rwb rw_length rwb crwb grwb wa wab wac wa_typeCount watt watp watg wa_functionCount waft wa_hasMemory wa_pagesLeast wa_pagesMost wa_globalCount wagt wafy wafv wagc wa_exportCount waek waei waes waez wab wabb wab_length wabb cwabb gwabb ou cou gou) t.heap ∧ va_K (dC, dI) cls [(crwb, .byte), (cwabb, .byte), (cou, .long)] t ∧ va_D A (wz_626 h0 ta rw ag h0_argumentCount h0_reason h0_place h0_loaded wa ws h0_program_r h0_coder_r h0_reader_r h0_validator_r ma rw rwb rw_length rwb crwb grwb wa wab wac wa_typeCount watt watp watg wa_functionCount waft wa_hasMemory wa_pagesLeast wa_pagesMost wa_globalCount wagt wafy wafv wagc wa_exportCount waek waei waes waez wab wabb wab_length wabb cwabb gwabb ou cou gou)
set_option maxHeartbeats 4000000 in
set_option maxRecDepth 100000 in
theorem c_LW_emit (l : Launch) (hlt : l.stackTraces = false) (dC : Nat → ClassId) (dI : Nat → Nat → Nat) (sz : Nat) (sa : Nat → Nat) (h0 ta rw ag wa ws h0_program_r h0_coder_r h0_reader_r h0_validator_r ma rwb wab wac watt watp watg waft wagt wafy wafv wagc waek waei waes waez wabb ou : Nat) (crwb cwabb cou : ClassId) (h0_argumentCount : Int32) (h0_reason : Int32) (h0_place : Int32) (h0_loaded : Int32) (rw_length : Int32) (grwb : Nat → Int32) (wa_typeCount : Int32) (wa_functionCount : Int32) (wa_hasMemory : Int32) (wa_pagesLeast : Int64) (wa_pagesMost : Int64) (wa_globalCount : Int32) (wa_exportCount : Int32) (wab_length : Int32) (gwabb : Nat → Int32) (gou : Nat → Int64)  (b_h0_loaded : h0_loaded = 0 ∨ h0_loaded = 1) (b_rw_length : 0 ≤ rw_length.toInt ∧ rw_length.toInt ≤ 8192) (b_wab_length : 0 ≤ wab_length.toInt ∧ wab_length.toInt ≤ 8192)    : Met l y_LW_emit w_LW_emit ({ frames := 7, cells := 1, slots := 6, locals := 110 }) (va_Pc [.ref h0, .ref ou] (fun U => U.heap.size = sz ∧ va_P (dC, dI) cls (wz_626 h0 ta rw ag h0_argumentCount h0_reason h0_place h0_loaded wa ws h0_program_r h0_coder_r h0_reader_r h0_validator_r ma rw rwb rw_length rwb crwb grwb wa wab wac wa_typeCount watt watp watg wa_functionCount waft wa_hasMemory wa_pagesLeast wa_pagesMost wa_globalCount wagt wafy wafv wagc wa_exportCount waek waei waes waez wab wabb wab_length wabb cwabb gwabb ou cou gou) U.heap ∧ va_K (dC, dI) cls [(crwb, .byte), (cwabb, .byte), (cou, .long)] U ∧ va_D (fun _ => True) (wz_626 h0 ta rw ag h0_argumentCount h0_reason h0_place h0_loaded wa ws h0_program_r h0_coder_r h0_reader_r h0_validator_r ma rw rwb rw_length rwb crwb grwb wa wab wac wa_typeCount watt watp watg wa_functionCount waft wa_hasMemory wa_pagesLeast wa_pagesMost wa_globalCount wagt wafy wafv wagc wa_exportCount waek waei waes waez wab wabb wab_length wabb cwabb gwabb ou cou gou) ∧ sw sa (va_A (wz_626 h0 ta rw ag h0_argumentCount h0_reason h0_place h0_loaded wa ws h0_program_r h0_coder_r h0_reader_r h0_validator_r ma rw rwb rw_length rwb crwb grwb wa wab wac wa_typeCount watt watp watg wa_functionCount waft wa_hasMemory wa_pagesLeast wa_pagesMost wa_globalCount wagt wafy wafv wagc wa_exportCount waek waei waes waez wab wabb wab_length wabb cwabb gwabb ou cou gou) sz) U U.heap)) (va_Qi (fun (r : Int32) (u : (Nat → Int64) × (Nat → Int32) × Int32) => match u with | (gou2, grwb2, rw_length2) => (0 ≤ rw_length2.toInt ∧ rw_length2.toInt ≤ 8192) ∧ (True)) (at_LW_emit dC dI sa h0 ta rw ag wa ws h0_program_r h0_coder_r h0_reader_r h0_validator_r ma rwb wab wac watt watp watg waft wagt wafy wafv wagc waek waei waes waez wabb ou crwb cwabb cou h0_argumentCount h0_reason h0_place h0_loaded wa_typeCount wa_functionCount wa_hasMemory wa_pagesLeast wa_pagesMost wa_globalCount wa_exportCount wab_length gwabb (va_A (wz_626 h0 ta rw ag h0_argumentCount h0_reason h0_place h0_loaded wa ws h0_program_r h0_coder_r h0_reader_r h0_validator_r ma rw rwb rw_length rwb crwb grwb wa wab wac wa_typeCount watt watp watg wa_functionCount waft wa_hasMemory wa_pagesLeast wa_pagesMost wa_globalCount wagt wafy wafv wagc wa_exportCount waek waei waes waez wab wabb wab_length wabb cwabb gwabb ou cou gou) sz)) (va_A (wz_626 h0 ta rw ag h0_argumentCount h0_reason h0_place h0_loaded wa ws h0_program_r h0_coder_r h0_reader_r h0_validator_r ma rw rwb rw_length rwb crwb grwb wa wab wac wa_typeCount watt watp watg wa_functionCount waft wa_hasMemory wa_pagesLeast wa_pagesMost wa_globalCount wagt wafy wafv wagc wa_exportCount waek waei waes waez wab wabb wab_length wabb cwabb gwabb ou cou gou) sz)) 1 6 (va_A (wz_626 h0 ta rw ag h0_argumentCount h0_reason h0_place h0_loaded wa ws h0_program_r h0_coder_r h0_reader_r h0_validator_r ma rw rwb rw_length rwb crwb grwb wa wab wac wa_typeCount watt watp watg wa_functionCount waft wa_hasMemory wa_pagesLeast wa_pagesMost wa_globalCount wagt wafy wafv wagc wa_exportCount waek waei waes waez wab wabb wab_length wabb cwabb gwabb ou cou gou) sz) := by
  refine va_MetW (cc := b_LW_emit) (maxL := 3) (ret := (Option.some .int)) (hh := [(0, 8, 11, 33)]) (by decide) rfl ?_
  intro p e s m args below meth c s₁ B hml hv
  obtain ⟨rfl, hsz, hP, hK, hD0, hSW⟩ := hv
  have hx := B.exec
  have hb := B.bytes
  have hr := B.returns
  have hts0 := atoms_spec (ws := w_LW_emit) B.pre
  have hts : ∀ w ∈ lw_g, w.before _ s = true := fun w h => hts0 w (List.mem_cons_of_mem _ h)
  have hown : s.vm.findClass R_LW = some m.cls := findClass_of_methodNamed B.named
  have hlocks := B.notSynchronized
  have hE := uw_table B (hts0 _ List.mem_cons_self)
  clear hts0
  subst hsz
  have hD := hD0.self (sz := s.heap.size)
  generalize hAe : va_A (wz_626 h0 ta rw ag h0_argumentCount h0_reason h0_place h0_loaded wa ws h0_program_r h0_coder_r h0_reader_r h0_validator_r ma rw rwb rw_length rwb crwb grwb wa wab wac wa_typeCount watt watp watg wa_functionCount waft wa_hasMemory wa_pagesLeast wa_pagesMost wa_globalCount wagt wafy wafv wagc wa_exportCount waek waei waes waez wab wabb wab_length wabb cwabb gwabb ou cou gou) s.heap.size = A at hD hSW ⊢
  have hA : ∀ q : Nat, s.heap.size ≤ q → A q := fun q h => by rw [← hAe]; exact Or.inr h
  clear hAe
  have hP : va_P (dC, dI) cls (wz_626 h0 ta rw ag h0_argumentCount h0_reason h0_place h0_loaded wa ws h0_program_r h0_coder_r h0_reader_r h0_validator_r ma rw rwb rw_length rwb crwb grwb wa wab wac wa_typeCount watt watp watg wa_functionCount waft wa_hasMemory wa_pagesLeast wa_pagesMost wa_globalCount wagt wafy wafv wagc wa_exportCount waek waei waes waez wab wabb wab_length wabb cwabb gwabb ou cou gou) s.heap := hP
  have hl := lv_entry ([.ref h0, .ref ou]) (n := 3) (Nat.le_of_ble_eq_true rfl)
  rw [lg_entry_eq]
  generalize (lg_sl ([.ref h0, .ref ou]) ++ List.replicate (3 - (lg_sl ([.ref h0, .ref ou])).length) Slot.unset).toArray = ls at hl ⊢
  have hl : lv_has ls 3 [(0, .ref h0), (1, .ref ou)] := hl
  have k0 : (0 : Int32).toInt = 0 := by decide
  refine w_gen (A := A) hP (fun H locs hP hS => ?_)
  have k1 : (1 : Int32).toInt = 1 := by decide
  have th0_loaded := b01 b_h0_loaded
  refine lv_aload_n hx hb d_LW_emit_0 rfl (lv_at hl 1 rfl) ?_
  refine lv_iconst (v := 0) hx hb d_LW_emit_1 (by decide) ?_
  refine lv_aload_n hx hb d_LW_emit_2 rfl (lv_at hl 0 rfl) ?_
  have hPc := hP.sb (wq := (wz_265 h0 ta rw ag h0_argumentCount h0_reason h0_place h0_loaded wa ws h0_program_r h0_coder_r h0_reader_r h0_validator_r ma rw rwb rw_length rwb crwb grwb wa wab wac wa_typeCount watt watp watg wa_functionCount waft wa_hasMemory wa_pagesLeast wa_pagesMost wa_globalCount wagt wafy wafv wagc wa_exportCount waek waei waes waez wab wabb wab_length wabb cwabb gwabb)) [0, 1, 2, 3, 4, 5] rfl
  have hDc := hD.sb (wq := (wz_265 h0 ta rw ag h0_argumentCount h0_reason h0_place h0_loaded wa ws h0_program_r h0_coder_r h0_reader_r h0_validator_r ma rw rwb rw_length rwb crwb grwb wa wab wac wa_typeCount watt watp watg wa_functionCount waft wa_hasMemory wa_pagesLeast wa_pagesMost wa_globalCount wagt wafy wafv wagc wa_exportCount waek waei waes waez wab wabb wab_length wabb cwabb gwabb)) [0, 1, 2, 3, 4, 5] (by decide) rfl
  have hKc := hK.sb (tyq := [(crwb, .byte), (cwabb, .byte)]) [0, 1] rfl
  have hFc := va_free (wc := (wz_265 h0 ta rw ag h0_argumentCount h0_reason h0_place h0_loaded wa ws h0_program_r h0_coder_r h0_reader_r h0_validator_r ma rw rwb rw_length rwb crwb grwb wa wab wac wa_typeCount watt watp watg wa_functionCount waft wa_hasMemory wa_pagesLeast wa_pagesMost wa_globalCount wagt wafy wafv wagc wa_exportCount waek waei waes waez wab wabb wab_length wabb cwabb gwabb)) hD hS hA [0, 1, 2, 3, 4, 5] rfl
  refine tq_calli (tz_runV (As := []) (rest := [.int 0, .ref ou]) ⟨hx, hb, hml, hown, hts⟩ (c_WF_emit l hlt dC dI H.size sa h0 ta rw ag wa ws h0_program_r h0_coder_r h0_reader_r h0_validator_r ma rwb wab wac watt watp watg waft wagt wafy wafv wagc waek waei waes waez wabb crwb cwabb h0_argumentCount h0_reason h0_place h0_loaded rw_length grwb wa_typeCount wa_functionCount wa_hasMemory wa_pagesLeast wa_pagesMost wa_globalCount wa_exportCount wab_length gwabb (b_h0_loaded) (b_rw_length) (b_wab_length)) (cwV 0 hts (gV kM_LW_30 kV_WF_emit kS_WF_emit kI_WF kC_WF_emit) rfl rfl rfl (by decide +kernel) ⟨Nat.le_of_ble_eq_true rfl, Nat.le_of_ble_eq_true rfl⟩) ⟨fun a U g mk z => by obtain ⟨z0, z1, zP, zK, zD, zS⟩ := z; exact ⟨z0, z1, zP, va_K.moved (u := U) (U := U.calling g mk a) (Vm.Alike.refl U.vm) zK, zD, sw.same (u := U) (U := U.calling g mk a) rfl zS⟩, va_recv hKc hPc (ci := 0) (q0 := 0) rfl rfl, fun U hU hW => ⟨rfl, by rw [hU], va_P.he hU.symm hPc, va_K.moved hW.alike hKc, hDc.weaken (fun _ _ _ _ => trivial), hSW.call hS hFc hW hU⟩⟩ rfl rfl hl.1 rfl (lv_room (Nat.le_of_ble_eq_true rfl)) d_LW_emit_3 ⟨Nat.le_of_ble_eq_true rfl, Nat.le_of_ble_eq_true rfl⟩) hS (fun q _ h => hFc q h) hFc (fun r1 u t H1 locs ht hvm hw hB hz1 hk1 hS => ?_) (fun xx u t H1 locs ht hvm hw hXX hB hz1 hk1 hS => ?_)
  rotate_left
  · skip
    obtain ⟨n2, n3⟩ := u
    try dsimp only at hw
    have bn3 := hw
    obtain ⟨hP1, hK1, hD1⟩ := hB
    replace hP1 := va_P.he ht hP1
    obtain ⟨hP, hD⟩ := va_join (wr := [(ou, .inl (cou, 1, .inr (.inl gou)))]) (w1 := (wz_265 h0 ta rw ag h0_argumentCount h0_reason h0_place h0_loaded wa ws h0_program_r h0_coder_r h0_reader_r h0_validator_r ma rw rwb n3 rwb crwb n2 wa wab wac wa_typeCount watt watp watg wa_functionCount waft wa_hasMemory wa_pagesLeast wa_pagesMost wa_globalCount wagt wafy wafv wagc wa_exportCount waek waei waes waez wab wabb wab_length wabb cwabb gwabb)) hP hD [0, 1, 2, 3, 4, 5] [6] rfl rfl (by decide) (by decide) hk1 hFc hP1 hD1
    have hP : va_P (dC, dI) cls (wz_627 ou cou gou h0 ta rw ag h0_argumentCount h0_reason h0_place h0_loaded wa ws h0_program_r h0_coder_r h0_reader_r h0_validator_r ma rw rwb n3 rwb crwb n2 wa wab wac wa_typeCount watt watp watg wa_functionCount waft wa_hasMemory wa_pagesLeast wa_pagesMost wa_globalCount wagt wafy wafv wagc wa_exportCount waek waei waes waez wab wabb wab_length wabb cwabb gwabb) H1 := hP
    have hD : va_D A (wz_627 ou cou gou h0 ta rw ag h0_argumentCount h0_reason h0_place h0_loaded wa ws h0_program_r h0_coder_r h0_reader_r h0_validator_r ma rw rwb n3 rwb crwb n2 wa wab wac wa_typeCount watt watp watg wa_functionCount waft wa_hasMemory wa_pagesLeast wa_pagesMost wa_globalCount wagt wafy wafv wagc wa_exportCount waek waei waes waez wab wabb wab_length wabb cwabb gwabb) := hD
    refine tc_caught hE (by decide) (by decide) (by decide) hown (hts _ kK_LW_33) hXX ?_
    clear hPc hDc hKc hFc hz1 hk1 hP1 hK1 hD1 hXX
    refine lv_astore_n (lv' := [(2, .ref xx), (0, .ref h0), (1, .ref ou)]) hx hb d_LW_emit_11 rfl hl (by decide) rfl (fun ls hl => ?_)
    refine lv_iconst (v := 1) hx hb d_LW_emit_12 (by decide) ?_
    have hP9 := hP.sb (wq := (wz_626 h0 ta rw ag h0_argumentCount h0_reason h0_place h0_loaded wa ws h0_program_r h0_coder_r h0_reader_r h0_validator_r ma rw rwb n3 rwb crwb n2 wa wab wac wa_typeCount watt watp watg wa_functionCount waft wa_hasMemory wa_pagesLeast wa_pagesMost wa_globalCount wagt wafy wafv wagc wa_exportCount waek waei waes waez wab wabb wab_length wabb cwabb gwabb ou cou gou)) [1, 2, 3, 4, 5, 6, 0] rfl
    have hD9 := hD.sb (wq := (wz_626 h0 ta rw ag h0_argumentCount h0_reason h0_place h0_loaded wa ws h0_program_r h0_coder_r h0_reader_r h0_validator_r ma rw rwb n3 rwb crwb n2 wa wab wac wa_typeCount watt watp watg wa_functionCount waft wa_hasMemory wa_pagesLeast wa_pagesMost wa_globalCount wagt wafy wafv wagc wa_exportCount waek waei waes waez wab wabb wab_length wabb cwabb gwabb ou cou gou)) [1, 2, 3, 4, 5, 6, 0] (by decide) rfl
    refine W.widen (k := 1) (n := 6) (Nat.le_of_ble_eq_true rfl) (Nat.le_of_ble_eq_true rfl) ?_
    exact W.iret (v := 1) hx hb hr (fun t ht hW => ⟨⟨1, (gou, n2, n3), rfl, ⟨bn3, trivial⟩, va_P.he ht.symm hP9, va_K.moved hW.alike hK, hD9⟩, hS.F ht⟩) hS.2.2 d_LW_emit_13
  obtain ⟨n4, n5⟩ := u
  try dsimp only at hw
  obtain ⟨bn5, xr1⟩ := hw
  try clear hw
  obtain ⟨hP1, hK1, hD1⟩ := hB
  replace hP1 := va_P.he ht hP1
  obtain ⟨hP, hD⟩ := va_join (wr := [(ou, .inl (cou, 1, .inr (.inl gou)))]) (w1 := (wz_265 h0 ta rw ag h0_argumentCount h0_reason h0_place h0_loaded wa ws h0_program_r h0_coder_r h0_reader_r h0_validator_r ma rw rwb n5 rwb crwb n4 wa wab wac wa_typeCount watt watp watg wa_functionCount waft wa_hasMemory wa_pagesLeast wa_pagesMost wa_globalCount wagt wafy wafv wagc wa_exportCount waek waei waes waez wab wabb wab_length wabb cwabb gwabb)) hP hD [0, 1, 2, 3, 4, 5] [6] rfl rfl (by decide) (by decide) hk1 hFc hP1 hD1
  clear hPc hDc hKc hFc hz1 hk1 hP1 hK1 hD1
  rename Heap => H
  have hP : va_P (dC, dI) cls (wz_627 ou cou gou h0 ta rw ag h0_argumentCount h0_reason h0_place h0_loaded wa ws h0_program_r h0_coder_r h0_reader_r h0_validator_r ma rw rwb n5 rwb crwb n4 wa wab wac wa_typeCount watt watp watg wa_functionCount waft wa_hasMemory wa_pagesLeast wa_pagesMost wa_globalCount wagt wafy wafv wagc wa_exportCount waek waei waes waez wab wabb wab_length wabb cwabb gwabb) H := hP
  have hD : va_D A (wz_627 ou cou gou h0 ta rw ag h0_argumentCount h0_reason h0_place h0_loaded wa ws h0_program_r h0_coder_r h0_reader_r h0_validator_r ma rw rwb n5 rwb crwb n4 wa wab wac wa_typeCount watt watp watg wa_functionCount waft wa_hasMemory wa_pagesLeast wa_pagesMost wa_globalCount wagt wafy wafv wagc wa_exportCount waek waei waes waez wab wabb wab_length wabb cwabb gwabb) := hD
  refine lv_i2l hx hb d_LW_emit_6 rfl ?_
  refine lv_topl (fun x6 ex6 => ?_)
  have tx6 := i2l_t ex6
  have g7 : vp_in 0 1 := vp_in_iff.mpr ⟨by (first | (apply Int.le_antisymm <;> omega) | omega), by (first | (apply Int.le_antisymm <;> omega) | omega)⟩
  refine va_last hx hb hK hP hD hS 0 2 rfl rfl g7 d_LW_emit_7 (fun H locs hP hD hS => ?_)
  generalize ef7 : vp_updL gou (0 : Int32).toNatClampNeg x6 = f7 at hP hD
  refine lv_goto (tgt := 14) hx hb d_LW_emit_8 (by decide) ?_
  refine lv_iconst (v := 0) hx hb d_LW_emit_14 (by decide) ?_
  have hP9 := hP.sb (wq := (wz_626 h0 ta rw ag h0_argumentCount h0_reason h0_place h0_loaded wa ws h0_program_r h0_coder_r h0_reader_r h0_validator_r ma rw rwb n5 rwb crwb n4 wa wab wac wa_typeCount watt watp watg wa_functionCount waft wa_hasMemory wa_pagesLeast wa_pagesMost wa_globalCount wagt wafy wafv wagc wa_exportCount waek waei waes waez wab wabb wab_length wabb cwabb gwabb ou cou f7)) [1, 2, 3, 4, 5, 6, 0] rfl
  have hD9 := hD.sb (wq := (wz_626 h0 ta rw ag h0_argumentCount h0_reason h0_place h0_loaded wa ws h0_program_r h0_coder_r h0_reader_r h0_validator_r ma rw rwb n5 rwb crwb n4 wa wab wac wa_typeCount watt watp watg wa_functionCount waft wa_hasMemory wa_pagesLeast wa_pagesMost wa_globalCount wagt wafy wafv wagc wa_exportCount waek waei waes waez wab wabb wab_length wabb cwabb gwabb ou cou f7)) [1, 2, 3, 4, 5, 6, 0] (by decide) rfl
  refine W.widen (k := 1) (n := 6) (Nat.le_of_ble_eq_true rfl) (Nat.le_of_ble_eq_true rfl) ?_
  exact W.iret (v := 0) hx hb hr (fun t ht hW => ⟨⟨0, (f7, n4, n5), rfl, ⟨bn5, trivial⟩, va_P.he ht.symm hP9, va_K.moved hW.alike hK, hD9⟩, hS.F ht⟩) hS.2.2 d_LW_emit_15
end q_n37

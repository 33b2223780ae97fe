/-! the law: its helpers with one handler -/
def R_LW : String := "WaferForgeLaw"
theorem if_pos_L9 {f : Nat → Int64} {k : Nat} {x : Int64} : vp_updL f k x k = x := if_pos rfl
section TQL
variable {p : Program} {l : Launch} {e : Env} {R : Room} {s : State} {m : MethodId} {args : Array Value} {below : List Frame} {meth : Method} {c : Code} {H : Heap} {locs : List Loc} {cells slots mr sr mt st : Nat}
variable {A0 A1 : Nat → Prop} {H0 : Heap} {pc : Nat} {ls : Array Slot} {st0 rest : List Value} {a : Array Value} {Q : State → Prop} {free : Addr → Prop} {C : String}
variable {S : Type} {B : S → State → Prop} {pt : S → Prop}
theorem tq_calll {pr : Int64 → S → Prop} (hr : tz_Run p l e R s m args below meth c H locs cells slots (tz_k mr sr mt st) (F0 m pc ls st0) rest (tq_Q (tq_l pr C pt) B A1 a) free) (hS : va_S A0 H0 H locs) (hA : ∀ q, q < H.size → A1 q → A0 q) (hf : ∀ q, free q → A0 q)
    (kr : ∀ (r : Int64) (u : S) (t : State) (H1 : Heap) (locs1 : List Loc), t.heap = H1 → s.vm.Alike t.vm → pr r u → B u t → H.size ≤ H1.size → (∀ q : Nat, q < H.size → ¬ A1 q → H1[q]? = H[q]?) → va_S A0 H0 H1 locs1 → W p l e R s m args below meth c H1 locs1 (cells + mr) (slots + sr) Q (F0 m (pc + 3) ls (.long r :: rest)))
    (kt : ∀ (x : Addr) (u : S) (t : State) (H1 : Heap) (locs1 : List Loc), t.heap = H1 → s.vm.Alike t.vm → pt u → xo C x s H1 → B u t → H.size ≤ H1.size → (∀ q : Nat, q < H.size → ¬ A1 q → H1[q]? = H[q]?) → va_S A0 H0 H1 locs1 → tx_T p l e R s m args below meth c H1 locs1 (cells + mt) (slots + st) Q (F0 m pc ls rest) x) :
    W p l e R s m args below meth c H locs cells slots Q (F0 m pc ls st0) :=
  tq_core hr hS hA hf (fun v u t H1 locs1 h1 h2 h3 h4 h5 h6 h7 => by obtain ⟨r, rfl, h3⟩ := h3; exact kr r u t H1 locs1 h1 h2 h3 h4 h5 h6 h7)
    (fun x u t H1 locs1 h1 h2 h3 h4 h5 h6 h7 => kt x u t H1 locs1 h1 h2 h3.1 (by rw [← h1]; exact h3.2.back h2) h4 h5 h6 h7)
end TQL
abbrev b_LW_feed : ByteArray := method_3_code
def y_LW_feed : MethodName := ⟨R_LW, "feed", "(LWaferForge;IIIII[J)I"⟩
abbrev w_LW_feed : List Cond := .codeWith y_LW_feed b_LW_feed 8 (Option.some .int) [(0, 16, 19, 13)] :: lw_g
theorem kC_LW_feed : Cond.codeWith y_LW_feed b_LW_feed 8 (Option.some .int) [(0, 16, 19, 13)] ∈ lw_g := in_g 653 (by decide +kernel) rfl
theorem d_LW_feed_0 : decode b_LW_feed 0 = .ok (.aload 6, 2) := by decide +kernel
theorem d_LW_feed_2 : decode b_LW_feed 2 = .ok (.iconst 0, 1) := by decide +kernel
theorem d_LW_feed_3 : decode b_LW_feed 3 = .ok (.aload_n 0, 1) := by decide +kernel
theorem d_LW_feed_4 : decode b_LW_feed 4 = .ok (.iload_n 1, 1) := by decide +kernel
theorem d_LW_feed_5 : decode b_LW_feed 5 = .ok (.iload_n 2, 1) := by decide +kernel
theorem d_LW_feed_6 : decode b_LW_feed 6 = .ok (.iload_n 3, 1) := by decide +kernel
theorem d_LW_feed_7 : decode b_LW_feed 7 = .ok (.iload 4, 2) := by decide +kernel
theorem d_LW_feed_9 : decode b_LW_feed 9 = .ok (.iload 5, 2) := by decide +kernel
theorem d_LW_feed_11 : decode b_LW_feed 11 = .ok (.invokevirtual 7, 3) := by decide +kernel
theorem d_LW_feed_14 : decode b_LW_feed 14 = .ok (.i2l, 1) := by decide +kernel
theorem d_LW_feed_15 : decode b_LW_feed 15 = .ok (.lastore, 1) := by decide +kernel
theorem d_LW_feed_16 : decode b_LW_feed 16 = .ok (.goto 7, 3) := by decide +kernel
theorem d_LW_feed_19 : decode b_LW_feed 19 = .ok (.astore 7, 2) := by decide +kernel
theorem d_LW_feed_21 : decode b_LW_feed 21 = .ok (.iconst 1, 1) := by decide +kernel
theorem d_LW_feed_22 : decode b_LW_feed 22 = .ok (.ireturn, 1) := by decide +kernel
theorem d_LW_feed_23 : decode b_LW_feed 23 = .ok (.iconst 0, 1) := by decide +kernel
theorem d_LW_feed_24 : decode b_LW_feed 24 = .ok (.ireturn, 1) := by decide +kernel
theorem kM_LW_7 : Cond.methodLink R_LW 7 y_WF_feed ∈ lw_g := in_g 655 (by decide +kernel) rfl
theorem kV_WF_feed : Cond.instanceMethod y_WF_feed ∈ lw_g := in_g 656 (by decide +kernel) rfl
theorem kS_WF_feed : Cond.selects R_WF y_WF_feed y_WF_feed ∈ lw_g := in_g 657 (by decide +kernel) rfl
theorem kK_LW_13 : Cond.classLink R_LW 13 "java/lang/IndexOutOfBoundsException" ∈ lw_g := in_g 654 (by decide +kernel) rfl
abbrev at_LW_feed (dC : Nat → ClassId) (dI : Nat → Nat → Nat) (sa : Nat → Nat) (h0 ta rw ag h0_wafer_r h0_spare_r h0_program_r h0_coder_r h0_reader_r h0_validator_r h0_machine_r tab ou : Nat) (ctab cou : ClassId) (h0_argumentCount : Int32) (h0_reason : Int32) (h0_place : Int32) (h0_loaded : Int32) (A : Nat → Prop) (u : (Nat → Int64) × (Nat → Int32) × Int32) (t : State) : Prop := match u with | (gou, gtab, ta_length) => va_P (dC, dI) cls [(h0, .inr (0, [.ref ta, .ref rw, .ref ag, .int h0_argumentCount, .int h0_reason, .int h0_place, .int h0_loaded, .ref h0_wafer_r, .ref h0_spare_r, .ref h0_program_r, .ref h0_coder_r, .ref h0_reader_r, .ref h0_validator_r, .ref h0_machine_r])), (ta, .inr (1, [.ref tab, .int ta_length])), (tab, .inl (ctab, 2000, .inl gtab)), (ou, .inl (cou, 1, .inr (.inl gou)))] t.heap ∧ va_K (dC, dI) cls [(ctab, .byte), (cou, .long)] t ∧ va_D A [(h0, .inr (0, [.ref ta, .ref rw, .ref ag, .int h0_argumentCount, .int h0_reason, .int h0_place, .int h0_loaded, .ref h0_wafer_r, .ref h0_spare_r, .ref h0_program_r, .ref h0_coder_r, .ref h0_reader_r, .ref h0_validator_r, .ref h0_machine_r])), (ta, .inr (1, [.ref tab, .int ta_length])), (tab, .inl (ctab, 2000, .inl gtab)), (ou, .inl (cou, 1, .inr (.inl gou)))]
set_option maxHeartbeats 4000000 in
set_option maxRecDepth 100000 in
theorem c_LW_feed (l : Launch) (hlt : l.stackTraces = false) (dC : Nat → ClassId) (dI : Nat → Nat → Nat) (sz : Nat) (sa : Nat → Nat) (h0 ta rw ag h0_wafer_r h0_spare_r h0_program_r h0_coder_r h0_reader_r h0_validator_r h0_machine_r tab ou : Nat) (ctab cou : ClassId) (h0_argumentCount : Int32) (h0_reason : Int32) (h0_place : Int32) (h0_loaded : Int32) (ta_length : Int32) (gtab : Nat → Int32) (gou : Nat → Int64)  (b_ta_length : 0 ≤ ta_length.toInt ∧ ta_length.toInt ≤ 2000) (p0 : Int32) (p1 : Int32) (p2 : Int32) (p3 : Int32) (p4 : Int32)   : Met l y_LW_feed w_LW_feed ({ frames := 7, cells := 1, slots := 6, locals := 115 }) (va_Pc [.ref h0, .int p0, .int p1, .int p2, .int p3, .int p4, .ref ou] (fun U => U.heap.size = sz ∧ va_P (dC, dI) cls [(h0, .inr (0, [.ref ta, .ref rw, .ref ag, .int h0_argumentCount, .int h0_reason, .int h0_place, .int h0_loaded, .ref h0_wafer_r, .ref h0_spare_r, .ref h0_program_r, .ref h0_coder_r, .ref h0_reader_r, .ref h0_validator_r, .ref h0_machine_r])), (ta, .inr (1, [.ref tab, .int ta_length])), (tab, .inl (ctab, 2000, .inl gtab)), (ou, .inl (cou, 1, .inr (.inl gou)))] U.heap ∧ va_K (dC, dI) cls [(ctab, .byte), (cou, .long)] U ∧ va_D (fun _ => True) [(h0, .inr (0, [.ref ta, .ref rw, .ref ag, .int h0_argumentCount, .int h0_reason, .int h0_place, .int h0_loaded, .ref h0_wafer_r, .ref h0_spare_r, .ref h0_program_r, .ref h0_coder_r, .ref h0_reader_r, .ref h0_validator_r, .ref h0_machine_r])), (ta, .inr (1, [.ref tab, .int ta_length])), (tab, .inl (ctab, 2000, .inl gtab)), (ou, .inl (cou, 1, .inr (.inl gou)))] ∧ sw sa (va_A [(h0, .inr (0, [.ref ta, .ref rw, .ref ag, .int h0_argumentCount, .int h0_reason, .int h0_place, .int h0_loaded, .ref h0_wafer_r, .ref h0_spare_r, .ref h0_program_r, .ref h0_coder_r, .ref h0_reader_r, .ref h0_validator_r, .ref h0_machine_r])), (ta, .inr (1, [.ref tab, .int ta_length])), (tab, .inl (ctab, 2000, .inl gtab)), (ou, .inl (cou, 1, .inr (.inl gou)))] sz) U U.heap)) (va_Qi (fun (r : Int32) (u : (Nat → Int64) × (Nat → Int32) × Int32) => match u with | (gou2, gtab2, ta_length2) => (0 ≤ ta_length2.toInt ∧ ta_length2.toInt ≤ 2000) ∧ ((r.toInt = 0 ∧ ta_length2.toInt = ta_length.toInt + 20) ∨ (r.toInt = 1 ∧ ta_length2 = ta_length ∧ 1980 < ta_length.toInt))) (at_LW_feed dC dI sa h0 ta rw ag h0_wafer_r h0_spare_r h0_program_r h0_coder_r h0_reader_r h0_validator_r h0_machine_r tab ou ctab cou h0_argumentCount h0_reason h0_place h0_loaded (va_A [(h0, .inr (0, [.ref ta, .ref rw, .ref ag, .int h0_argumentCount, .int h0_reason, .int h0_place, .int h0_loaded, .ref h0_wafer_r, .ref h0_spare_r, .ref h0_program_r, .ref h0_coder_r, .ref h0_reader_r, .ref h0_validator_r, .ref h0_machine_r])), (ta, .inr (1, [.ref tab, .int ta_length])), (tab, .inl (ctab, 2000, .inl gtab)), (ou, .inl (cou, 1, .inr (.inl gou)))] sz)) (va_A [(h0, .inr (0, [.ref ta, .ref rw, .ref ag, .int h0_argumentCount, .int h0_reason, .int h0_place, .int h0_loaded, .ref h0_wafer_r, .ref h0_spare_r, .ref h0_program_r, .ref h0_coder_r, .ref h0_reader_r, .ref h0_validator_r, .ref h0_machine_r])), (ta, .inr (1, [.ref tab, .int ta_length])), (tab, .inl (ctab, 2000, .inl gtab)), (ou, .inl (cou, 1, .inr (.inl gou)))] sz)) 1 6 (va_A [(h0, .inr (0, [.ref ta, .ref rw, .ref ag, .int h0_argumentCount, .int h0_reason, .int h0_place, .int h0_loaded, .ref h0_wafer_r, .ref h0_spare_r, .ref h0_program_r, .ref h0_coder_r, .ref h0_reader_r, .ref h0_validator_r, .ref h0_machine_r])), (ta, .inr (1, [.ref tab, .int ta_length])), (tab, .inl (ctab, 2000, .inl gtab)), (ou, .inl (cou, 1, .inr (.inl gou)))] sz) := by
  refine va_MetW (cc := b_LW_feed) (maxL := 8) (ret := (Option.some .int)) (hh := [(0, 16, 19, 13)]) (by decide) rfl ?_
  intro p e s m args below meth c s₁ B hml hv
  obtain ⟨rfl, hsz, hP, hK, hD0, hSW⟩ := hv
  have hx := B.exec
  have hb := B.bytes
  have hr := B.returns
  have hts0 := atoms_spec (ws := w_LW_feed) B.pre
  have hts : ∀ w ∈ lw_g, w.before _ s = true := fun w h => hts0 w (List.mem_cons_of_mem _ h)
  have hown : s.vm.findClass R_LW = some m.cls := findClass_of_methodNamed B.named
  have hlocks := B.notSynchronized
  have hE := uw_table B (hts0 _ List.mem_cons_self)
  clear hts0
  subst hsz
  have hD := hD0.self (sz := s.heap.size)
  generalize hAe : va_A [(h0, .inr (0, [.ref ta, .ref rw, .ref ag, .int h0_argumentCount, .int h0_reason, .int h0_place, .int h0_loaded, .ref h0_wafer_r, .ref h0_spare_r, .ref h0_program_r, .ref h0_coder_r, .ref h0_reader_r, .ref h0_validator_r, .ref h0_machine_r])), (ta, .inr (1, [.ref tab, .int ta_length])), (tab, .inl (ctab, 2000, .inl gtab)), (ou, .inl (cou, 1, .inr (.inl gou)))] s.heap.size = A at hD hSW ⊢
  have hA : ∀ q : Nat, s.heap.size ≤ q → A q := fun q h => by rw [← hAe]; exact Or.inr h
  clear hAe
  have hP : va_P (dC, dI) cls [(h0, .inr (0, [.ref ta, .ref rw, .ref ag, .int h0_argumentCount, .int h0_reason, .int h0_place, .int h0_loaded, .ref h0_wafer_r, .ref h0_spare_r, .ref h0_program_r, .ref h0_coder_r, .ref h0_reader_r, .ref h0_validator_r, .ref h0_machine_r])), (ta, .inr (1, [.ref tab, .int ta_length])), (tab, .inl (ctab, 2000, .inl gtab)), (ou, .inl (cou, 1, .inr (.inl gou)))] s.heap := hP
  have hl := lv_entry ([.ref h0, .int p0, .int p1, .int p2, .int p3, .int p4, .ref ou]) (n := 8) (Nat.le_of_ble_eq_true rfl)
  rw [lg_entry_eq]
  generalize (lg_sl ([.ref h0, .int p0, .int p1, .int p2, .int p3, .int p4, .ref ou]) ++ List.replicate (8 - (lg_sl ([.ref h0, .int p0, .int p1, .int p2, .int p3, .int p4, .ref ou])).length) Slot.unset).toArray = ls at hl ⊢
  have hl : lv_has ls 8 [(0, .ref h0), (1, .int p0), (2, .int p1), (3, .int p2), (4, .int p3), (5, .int p4), (6, .ref ou)] := hl
  have k0 : (0 : Int32).toInt = 0 := by decide
  refine w_gen (A := A) hP (fun H locs hP hS => ?_)
  have k1 : (1 : Int32).toInt = 1 := by decide
  have lo_p0 := i32_lo p0
  have hi_p0 := i32_hi p0
  have lo_p1 := i32_lo p1
  have hi_p1 := i32_hi p1
  have lo_p2 := i32_lo p2
  have hi_p2 := i32_hi p2
  have lo_p3 := i32_lo p3
  have hi_p3 := i32_hi p3
  have lo_p4 := i32_lo p4
  have hi_p4 := i32_hi p4
  refine lv_aload hx hb d_LW_feed_0 (lv_at hl 6 rfl) ?_
  refine lv_iconst (v := 0) hx hb d_LW_feed_2 (by decide) ?_
  refine lv_aload_n hx hb d_LW_feed_3 rfl (lv_at hl 0 rfl) ?_
  refine lv_iload_n hx hb d_LW_feed_4 rfl (lv_at hl 1 rfl) ?_
  refine lv_iload_n hx hb d_LW_feed_5 rfl (lv_at hl 2 rfl) ?_
  refine lv_iload_n hx hb d_LW_feed_6 rfl (lv_at hl 3 rfl) ?_
  refine lv_iload hx hb d_LW_feed_7 (lv_at hl 4 rfl) ?_
  refine lv_iload hx hb d_LW_feed_9 (lv_at hl 5 rfl) ?_
  have hPc := hP.sub (ws' := [(h0, .inr (0, [.ref ta, .ref rw, .ref ag, .int h0_argumentCount, .int h0_reason, .int h0_place, .int h0_loaded, .ref h0_wafer_r, .ref h0_spare_r, .ref h0_program_r, .ref h0_coder_r, .ref h0_reader_r, .ref h0_validator_r, .ref h0_machine_r])), (ta, .inr (1, [.ref tab, .int ta_length])), (tab, .inl (ctab, 2000, .inl gtab))]) [0, 1, 2] rfl
  have hDc := hD.sub (ws' := [(h0, .inr (0, [.ref ta, .ref rw, .ref ag, .int h0_argumentCount, .int h0_reason, .int h0_place, .int h0_loaded, .ref h0_wafer_r, .ref h0_spare_r, .ref h0_program_r, .ref h0_coder_r, .ref h0_reader_r, .ref h0_validator_r, .ref h0_machine_r])), (ta, .inr (1, [.ref tab, .int ta_length])), (tab, .inl (ctab, 2000, .inl gtab))]) [0, 1, 2] (by decide) rfl
  have hKc := hK.sub (tys' := [(ctab, .byte)]) [0] rfl
  have hFc := va_free (wc := [(h0, .inr (0, [.ref ta, .ref rw, .ref ag, .int h0_argumentCount, .int h0_reason, .int h0_place, .int h0_loaded, .ref h0_wafer_r, .ref h0_spare_r, .ref h0_program_r, .ref h0_coder_r, .ref h0_reader_r, .ref h0_validator_r, .ref h0_machine_r])), (ta, .inr (1, [.ref tab, .int ta_length])), (tab, .inl (ctab, 2000, .inl gtab))]) hD hS hA [0, 1, 2] rfl
  refine tq_calli (tz_runV (As := [.int p0, .int p1, .int p2, .int p3, .int p4]) (rest := [.int 0, .ref ou]) ⟨hx, hb, hml, hown, hts⟩ (c_WF_feed l hlt dC dI H.size sa h0 ta rw ag h0_wafer_r h0_spare_r h0_program_r h0_coder_r h0_reader_r h0_validator_r h0_machine_r tab ctab h0_argumentCount h0_reason h0_place h0_loaded ta_length gtab (b_ta_length) p0 p1 p2 p3 p4) (cwV 5 hts (gV kM_LW_7 kV_WF_feed kS_WF_feed kI_WF kC_WF_feed) rfl rfl rfl (by decide +kernel) ⟨Nat.le_of_ble_eq_true rfl, Nat.le_of_ble_eq_true rfl⟩) ⟨fun a U g mk z => by obtain ⟨z0, z1, zP, zK, zD, zS⟩ := z; exact ⟨z0, z1, zP, va_K.moved (u := U) (U := U.calling g mk a) (Vm.Alike.refl U.vm) zK, zD, sw.same (u := U) (U := U.calling g mk a) rfl zS⟩, va_recv hKc hPc (ci := 0) (q0 := 0) rfl rfl, fun U hU hW => ⟨rfl, by rw [hU], by rw [hU]; exact hPc, va_K.moved hW.alike hKc, hDc.weaken (fun _ _ _ _ => trivial), hSW.call hS hFc hW hU⟩⟩ rfl rfl hl.1 rfl (lv_room (Nat.le_of_ble_eq_true rfl)) d_LW_feed_11 ⟨Nat.le_of_ble_eq_true rfl, Nat.le_of_ble_eq_true rfl⟩) hS (fun q _ h => hFc q h) hFc (fun r1 u t H1 locs ht hvm hw hB hz1 hk1 hS => ?_) (fun xx u t H1 locs ht hvm hw hXX hB hz1 hk1 hS => ?_)
  rotate_left
  · skip
    obtain ⟨n2, n3⟩ := u
    try dsimp only at hw
    obtain ⟨bn3, tq9⟩ := hw
    obtain ⟨hP1, hK1, hD1⟩ := hB
    rw [ht] at hP1
    obtain ⟨hP, hD⟩ := va_join (wr := [(ou, .inl (cou, 1, .inr (.inl gou)))]) (w1 := [(h0, .inr (0, [.ref ta, .ref rw, .ref ag, .int h0_argumentCount, .int h0_reason, .int h0_place, .int h0_loaded, .ref h0_wafer_r, .ref h0_spare_r, .ref h0_program_r, .ref h0_coder_r, .ref h0_reader_r, .ref h0_validator_r, .ref h0_machine_r])), (ta, .inr (1, [.ref tab, .int n3])), (tab, .inl (ctab, 2000, .inl n2))]) hP hD [0, 1, 2] [3] rfl rfl (by decide) (by decide) hk1 hFc hP1 hD1
    have hP : va_P (dC, dI) cls [(ou, .inl (cou, 1, .inr (.inl gou))), (h0, .inr (0, [.ref ta, .ref rw, .ref ag, .int h0_argumentCount, .int h0_reason, .int h0_place, .int h0_loaded, .ref h0_wafer_r, .ref h0_spare_r, .ref h0_program_r, .ref h0_coder_r, .ref h0_reader_r, .ref h0_validator_r, .ref h0_machine_r])), (ta, .inr (1, [.ref tab, .int n3])), (tab, .inl (ctab, 2000, .inl n2))] H1 := hP
    have hD : va_D A [(ou, .inl (cou, 1, .inr (.inl gou))), (h0, .inr (0, [.ref ta, .ref rw, .ref ag, .int h0_argumentCount, .int h0_reason, .int h0_place, .int h0_loaded, .ref h0_wafer_r, .ref h0_spare_r, .ref h0_program_r, .ref h0_coder_r, .ref h0_reader_r, .ref h0_validator_r, .ref h0_machine_r])), (ta, .inr (1, [.ref tab, .int n3])), (tab, .inl (ctab, 2000, .inl n2))] := hD
    refine tc_caught hE (by decide) (by decide) (by decide) hown (hts _ kK_LW_13) hXX ?_
    clear hPc hDc hKc hFc hz1 hk1 hP1 hK1 hD1 hXX
    refine lv_astore (lv' := [(7, .ref xx), (0, .ref h0), (1, .int p0), (2, .int p1), (3, .int p2), (4, .int p3), (5, .int p4), (6, .ref ou)]) hx hb d_LW_feed_19 hl (by decide) rfl (fun ls hl => ?_)
    refine lv_iconst (v := 1) hx hb d_LW_feed_21 (by decide) ?_
    have hP9 := hP.sub (ws' := [(h0, .inr (0, [.ref ta, .ref rw, .ref ag, .int h0_argumentCount, .int h0_reason, .int h0_place, .int h0_loaded, .ref h0_wafer_r, .ref h0_spare_r, .ref h0_program_r, .ref h0_coder_r, .ref h0_reader_r, .ref h0_validator_r, .ref h0_machine_r])), (ta, .inr (1, [.ref tab, .int n3])), (tab, .inl (ctab, 2000, .inl n2)), (ou, .inl (cou, 1, .inr (.inl gou)))]) [1, 2, 3, 0] rfl
    have hD9 := hD.sub (ws' := [(h0, .inr (0, [.ref ta, .ref rw, .ref ag, .int h0_argumentCount, .int h0_reason, .int h0_place, .int h0_loaded, .ref h0_wafer_r, .ref h0_spare_r, .ref h0_program_r, .ref h0_coder_r, .ref h0_reader_r, .ref h0_validator_r, .ref h0_machine_r])), (ta, .inr (1, [.ref tab, .int n3])), (tab, .inl (ctab, 2000, .inl n2)), (ou, .inl (cou, 1, .inr (.inl gou)))]) [1, 2, 3, 0] (by decide) rfl
    refine W.widen (k := 1) (n := 6) (Nat.le_of_ble_eq_true rfl) (Nat.le_of_ble_eq_true rfl) ?_
    exact W.iret (v := 1) hx hb hr (fun t ht hW => ⟨⟨1, (gou, n2, n3), rfl, ⟨bn3, Or.inr ⟨by decide, tq9.1, tq9.2⟩⟩, by rw [ht]; exact hP9, va_K.moved hW.alike hK, hD9⟩, hS.F ht⟩) hS.2.2 d_LW_feed_22
  obtain ⟨n4, n5⟩ := u
  try dsimp only at hw
  obtain ⟨bn5, xr1⟩ := hw
  try clear hw
  obtain ⟨hP1, hK1, hD1⟩ := hB
  rw [ht] at hP1
  obtain ⟨hP, hD⟩ := va_join (wr := [(ou, .inl (cou, 1, .inr (.inl gou)))]) (w1 := [(h0, .inr (0, [.ref ta, .ref rw, .ref ag, .int h0_argumentCount, .int h0_reason, .int h0_place, .int h0_loaded, .ref h0_wafer_r, .ref h0_spare_r, .ref h0_program_r, .ref h0_coder_r, .ref h0_reader_r, .ref h0_validator_r, .ref h0_machine_r])), (ta, .inr (1, [.ref tab, .int n5])), (tab, .inl (ctab, 2000, .inl n4))]) hP hD [0, 1, 2] [3] rfl rfl (by decide) (by decide) hk1 hFc hP1 hD1
  clear hPc hDc hKc hFc hz1 hk1 hP1 hK1 hD1
  generalize H1 = H at hP hS ⊢
  have hP : va_P (dC, dI) cls [(ou, .inl (cou, 1, .inr (.inl gou))), (h0, .inr (0, [.ref ta, .ref rw, .ref ag, .int h0_argumentCount, .int h0_reason, .int h0_place, .int h0_loaded, .ref h0_wafer_r, .ref h0_spare_r, .ref h0_program_r, .ref h0_coder_r, .ref h0_reader_r, .ref h0_validator_r, .ref h0_machine_r])), (ta, .inr (1, [.ref tab, .int n5])), (tab, .inl (ctab, 2000, .inl n4))] H := hP
  have hD : va_D A [(ou, .inl (cou, 1, .inr (.inl gou))), (h0, .inr (0, [.ref ta, .ref rw, .ref ag, .int h0_argumentCount, .int h0_reason, .int h0_place, .int h0_loaded, .ref h0_wafer_r, .ref h0_spare_r, .ref h0_program_r, .ref h0_coder_r, .ref h0_reader_r, .ref h0_validator_r, .ref h0_machine_r])), (ta, .inr (1, [.ref tab, .int n5])), (tab, .inl (ctab, 2000, .inl n4))] := hD
  refine lv_i2l hx hb d_LW_feed_14 rfl ?_
  refine lv_topl (fun x6 ex6 => ?_)
  have tx6 := i2l_t ex6
  have g15 : vp_in 0 1 := vp_in_iff.mpr ⟨by omega, by omega⟩
  refine va_last hx hb hK hP hD hS 0 1 rfl rfl g15 d_LW_feed_15 (fun H locs hP hD hS => ?_)
  generalize ef7 : vp_updL gou (0 : Int32).toNatClampNeg x6 = f7 at hP hD
  refine lv_goto (tgt := 23) hx hb d_LW_feed_16 (by decide) ?_
  refine lv_iconst (v := 0) hx hb d_LW_feed_23 (by decide) ?_
  have hP9 := hP.sub (ws' := [(h0, .inr (0, [.ref ta, .ref rw, .ref ag, .int h0_argumentCount, .int h0_reason, .int h0_place, .int h0_loaded, .ref h0_wafer_r, .ref h0_spare_r, .ref h0_program_r, .ref h0_coder_r, .ref h0_reader_r, .ref h0_validator_r, .ref h0_machine_r])), (ta, .inr (1, [.ref tab, .int n5])), (tab, .inl (ctab, 2000, .inl n4)), (ou, .inl (cou, 1, .inr (.inl f7)))]) [1, 2, 3, 0] rfl
  have hD9 := hD.sub (ws' := [(h0, .inr (0, [.ref ta, .ref rw, .ref ag, .int h0_argumentCount, .int h0_reason, .int h0_place, .int h0_loaded, .ref h0_wafer_r, .ref h0_spare_r, .ref h0_program_r, .ref h0_coder_r, .ref h0_reader_r, .ref h0_validator_r, .ref h0_machine_r])), (ta, .inr (1, [.ref tab, .int n5])), (tab, .inl (ctab, 2000, .inl n4)), (ou, .inl (cou, 1, .inr (.inl f7)))]) [1, 2, 3, 0] (by decide) rfl
  refine W.widen (k := 1) (n := 6) (Nat.le_of_ble_eq_true rfl) (Nat.le_of_ble_eq_true rfl) ?_
  exact W.iret (v := 0) hx hb hr (fun t ht hW => ⟨⟨0, (f7, n4, n5), rfl, ⟨bn5, Or.inl ⟨by decide, by (try dsimp only) <;> omega⟩⟩, by rw [ht]; exact hP9, va_K.moved hW.alike hK, hD9⟩, hS.F ht⟩) hS.2.2 d_LW_feed_24
abbrev b_LW_end : ByteArray := method_4_code
def y_LW_end : MethodName := ⟨R_LW, "end", "(LWaferForge;I[J)I"⟩
abbrev w_LW_end : List Cond := .codeWith y_LW_end b_LW_end 4 (Option.some .int) [(0, 9, 12, 19)] :: lw_g
theorem kC_LW_end : Cond.codeWith y_LW_end b_LW_end 4 (Option.some .int) [(0, 9, 12, 19)] ∈ lw_g := in_g 736 (by decide +kernel) rfl
theorem d_LW_end_0 : decode b_LW_end 0 = .ok (.aload_n 2, 1) := by decide +kernel
theorem d_LW_end_1 : decode b_LW_end 1 = .ok (.iconst 0, 1) := by decide +kernel
theorem d_LW_end_2 : decode b_LW_end 2 = .ok (.aload_n 0, 1) := by decide +kernel
theorem d_LW_end_3 : decode b_LW_end 3 = .ok (.iload_n 1, 1) := by decide +kernel
theorem d_LW_end_4 : decode b_LW_end 4 = .ok (.invokevirtual 15, 3) := by decide +kernel
theorem d_LW_end_7 : decode b_LW_end 7 = .ok (.i2l, 1) := by decide +kernel
theorem d_LW_end_8 : decode b_LW_end 8 = .ok (.lastore, 1) := by decide +kernel
theorem d_LW_end_9 : decode b_LW_end 9 = .ok (.goto 6, 3) := by decide +kernel
theorem d_LW_end_12 : decode b_LW_end 12 = .ok (.astore_n 3, 1) := by decide +kernel
theorem d_LW_end_13 : decode b_LW_end 13 = .ok (.iconst 1, 1) := by decide +kernel
theorem d_LW_end_14 : decode b_LW_end 14 = .ok (.ireturn, 1) := by decide +kernel
theorem d_LW_end_15 : decode b_LW_end 15 = .ok (.iconst 0, 1) := by decide +kernel
theorem d_LW_end_16 : decode b_LW_end 16 = .ok (.ireturn, 1) := by decide +kernel
theorem kM_LW_15 : Cond.methodLink R_LW 15 y_WF_end ∈ lw_g := in_g 738 (by decide +kernel) rfl
theorem kV_WF_end : Cond.instanceMethod y_WF_end ∈ lw_g := in_g 739 (by decide +kernel) rfl
theorem kS_WF_end : Cond.selects R_WF y_WF_end y_WF_end ∈ lw_g := in_g 740 (by decide +kernel) rfl
theorem kK_LW_19 : Cond.classLink R_LW 19 "java/lang/IllegalArgumentException" ∈ lw_g := in_g 737 (by decide +kernel) rfl
abbrev at_LW_end (dC : Nat → ClassId) (dI : Nat → Nat → Nat) (sa : Nat → Nat) (h0 ta rw ag h0_wafer_r h0_spare_r h0_program_r h0_coder_r h0_reader_r h0_validator_r h0_machine_r tab ou : Nat) (cou : ClassId) (h0_argumentCount : Int32) (h0_reason : Int32) (h0_place : Int32) (h0_loaded : Int32) (A : Nat → Prop) (u : (Nat → Int64) × Int32) (t : State) : Prop := match u with | (gou, ta_length) => va_P (dC, dI) cls [(h0, .inr (0, [.ref ta, .ref rw, .ref ag, .int h0_argumentCount, .int h0_reason, .int h0_place, .int h0_loaded, .ref h0_wafer_r, .ref h0_spare_r, .ref h0_program_r, .ref h0_coder_r, .ref h0_reader_r, .ref h0_validator_r, .ref h0_machine_r])), (ta, .inr (1, [.ref tab, .int ta_length])), (ou, .inl (cou, 1, .inr (.inl gou)))] t.heap ∧ va_K (dC, dI) cls [(cou, .long)] t ∧ va_D A [(h0, .inr (0, [.ref ta, .ref rw, .ref ag, .int h0_argumentCount, .int h0_reason, .int h0_place, .int h0_loaded, .ref h0_wafer_r, .ref h0_spare_r, .ref h0_program_r, .ref h0_coder_r, .ref h0_reader_r, .ref h0_validator_r, .ref h0_machine_r])), (ta, .inr (1, [.ref tab, .int ta_length])), (ou, .inl (cou, 1, .inr (.inl gou)))]
set_option maxHeartbeats 4000000 in
set_option maxRecDepth 100000 in
theorem c_LW_end (l : Launch) (hlt : l.stackTraces = false) (dC : Nat → ClassId) (dI : Nat → Nat → Nat) (sz : Nat) (sa : Nat → Nat) (h0 ta rw ag h0_wafer_r h0_spare_r h0_program_r h0_coder_r h0_reader_r h0_validator_r h0_machine_r tab ou : Nat) (cou : ClassId) (h0_argumentCount : Int32) (h0_reason : Int32) (h0_place : Int32) (h0_loaded : Int32) (ta_length : Int32) (gou : Nat → Int64)  (b_ta_length : 0 ≤ ta_length.toInt ∧ ta_length.toInt ≤ 2000) (p0 : Int32)   : Met l y_LW_end w_LW_end ({ frames := 7, cells := 1, slots := 6, locals := 111 }) (va_Pc [.ref h0, .int p0, .ref ou] (fun U => U.heap.size = sz ∧ va_P (dC, dI) cls [(h0, .inr (0, [.ref ta, .ref rw, .ref ag, .int h0_argumentCount, .int h0_reason, .int h0_place, .int h0_loaded, .ref h0_wafer_r, .ref h0_spare_r, .ref h0_program_r, .ref h0_coder_r, .ref h0_reader_r, .ref h0_validator_r, .ref h0_machine_r])), (ta, .inr (1, [.ref tab, .int ta_length])), (ou, .inl (cou, 1, .inr (.inl gou)))] U.heap ∧ va_K (dC, dI) cls [(cou, .long)] U ∧ va_D (fun _ => True) [(h0, .inr (0, [.ref ta, .ref rw, .ref ag, .int h0_argumentCount, .int h0_reason, .int h0_place, .int h0_loaded, .ref h0_wafer_r, .ref h0_spare_r, .ref h0_program_r, .ref h0_coder_r, .ref h0_reader_r, .ref h0_validator_r, .ref h0_machine_r])), (ta, .inr (1, [.ref tab, .int ta_length])), (ou, .inl (cou, 1, .inr (.inl gou)))] ∧ sw sa (va_A [(h0, .inr (0, [.ref ta, .ref rw, .ref ag, .int h0_argumentCount, .int h0_reason, .int h0_place, .int h0_loaded, .ref h0_wafer_r, .ref h0_spare_r, .ref h0_program_r, .ref h0_coder_r, .ref h0_reader_r, .ref h0_validator_r, .ref h0_machine_r])), (ta, .inr (1, [.ref tab, .int ta_length])), (ou, .inl (cou, 1, .inr (.inl gou)))] sz) U U.heap)) (va_Qi (fun (r : Int32) (u : (Nat → Int64) × Int32) => match u with | (gou2, ta_length2) => (0 ≤ ta_length2.toInt ∧ ta_length2.toInt ≤ 2000) ∧ ((r.toInt = 0 ∧ ta_length2 = p0 ∧ (gou2 0).toInt = p0.toInt ∧ 0 ≤ p0.toInt ∧ p0.toInt ≤ ta_length.toInt) ∨ (r.toInt = 1 ∧ ta_length2 = ta_length ∧ (p0.toInt < 0 ∨ ta_length.toInt < p0.toInt)))) (at_LW_end dC dI sa h0 ta rw ag h0_wafer_r h0_spare_r h0_program_r h0_coder_r h0_reader_r h0_validator_r h0_machine_r tab ou cou h0_argumentCount h0_reason h0_place h0_loaded (va_A [(h0, .inr (0, [.ref ta, .ref rw, .ref ag, .int h0_argumentCount, .int h0_reason, .int h0_place, .int h0_loaded, .ref h0_wafer_r, .ref h0_spare_r, .ref h0_program_r, .ref h0_coder_r, .ref h0_reader_r, .ref h0_validator_r, .ref h0_machine_r])), (ta, .inr (1, [.ref tab, .int ta_length])), (ou, .inl (cou, 1, .inr (.inl gou)))] sz)) (va_A [(h0, .inr (0, [.ref ta, .ref rw, .ref ag, .int h0_argumentCount, .int h0_reason, .int h0_place, .int h0_loaded, .ref h0_wafer_r, .ref h0_spare_r, .ref h0_program_r, .ref h0_coder_r, .ref h0_reader_r, .ref h0_validator_r, .ref h0_machine_r])), (ta, .inr (1, [.ref tab, .int ta_length])), (ou, .inl (cou, 1, .inr (.inl gou)))] sz)) 1 6 (va_A [(h0, .inr (0, [.ref ta, .ref rw, .ref ag, .int h0_argumentCount, .int h0_reason, .int h0_place, .int h0_loaded, .ref h0_wafer_r, .ref h0_spare_r, .ref h0_program_r, .ref h0_coder_r, .ref h0_reader_r, .ref h0_validator_r, .ref h0_machine_r])), (ta, .inr (1, [.ref tab, .int ta_length])), (ou, .inl (cou, 1, .inr (.inl gou)))] sz) := by
  refine va_MetW (cc := b_LW_end) (maxL := 4) (ret := (Option.some .int)) (hh := [(0, 9, 12, 19)]) (by decide) rfl ?_
  intro p e s m args below meth c s₁ B hml hv
  obtain ⟨rfl, hsz, hP, hK, hD0, hSW⟩ := hv
  have hx := B.exec
  have hb := B.bytes
  have hr := B.returns
  have hts0 := atoms_spec (ws := w_LW_end) B.pre
  have hts : ∀ w ∈ lw_g, w.before _ s = true := fun w h => hts0 w (List.mem_cons_of_mem _ h)
  have hown : s.vm.findClass R_LW = some m.cls := findClass_of_methodNamed B.named
  have hlocks := B.notSynchronized
  have hE := uw_table B (hts0 _ List.mem_cons_self)
  clear hts0
  subst hsz
  have hD := hD0.self (sz := s.heap.size)
  generalize hAe : va_A [(h0, .inr (0, [.ref ta, .ref rw, .ref ag, .int h0_argumentCount, .int h0_reason, .int h0_place, .int h0_loaded, .ref h0_wafer_r, .ref h0_spare_r, .ref h0_program_r, .ref h0_coder_r, .ref h0_reader_r, .ref h0_validator_r, .ref h0_machine_r])), (ta, .inr (1, [.ref tab, .int ta_length])), (ou, .inl (cou, 1, .inr (.inl gou)))] s.heap.size = A at hD hSW ⊢
  have hA : ∀ q : Nat, s.heap.size ≤ q → A q := fun q h => by rw [← hAe]; exact Or.inr h
  clear hAe
  have hP : va_P (dC, dI) cls [(h0, .inr (0, [.ref ta, .ref rw, .ref ag, .int h0_argumentCount, .int h0_reason, .int h0_place, .int h0_loaded, .ref h0_wafer_r, .ref h0_spare_r, .ref h0_program_r, .ref h0_coder_r, .ref h0_reader_r, .ref h0_validator_r, .ref h0_machine_r])), (ta, .inr (1, [.ref tab, .int ta_length])), (ou, .inl (cou, 1, .inr (.inl gou)))] s.heap := hP
  have hl := lv_entry ([.ref h0, .int p0, .ref ou]) (n := 4) (Nat.le_of_ble_eq_true rfl)
  rw [lg_entry_eq]
  generalize (lg_sl ([.ref h0, .int p0, .ref ou]) ++ List.replicate (4 - (lg_sl ([.ref h0, .int p0, .ref ou])).length) Slot.unset).toArray = ls at hl ⊢
  have hl : lv_has ls 4 [(0, .ref h0), (1, .int p0), (2, .ref ou)] := hl
  have k0 : (0 : Int32).toInt = 0 := by decide
  refine w_gen (A := A) hP (fun H locs hP hS => ?_)
  have k1 : (1 : Int32).toInt = 1 := by decide
  have lo_p0 := i32_lo p0
  have hi_p0 := i32_hi p0
  refine lv_aload_n hx hb d_LW_end_0 rfl (lv_at hl 2 rfl) ?_
  refine lv_iconst (v := 0) hx hb d_LW_end_1 (by decide) ?_
  refine lv_aload_n hx hb d_LW_end_2 rfl (lv_at hl 0 rfl) ?_
  refine lv_iload_n hx hb d_LW_end_3 rfl (lv_at hl 1 rfl) ?_
  have hPc := hP.sub (ws' := [(h0, .inr (0, [.ref ta, .ref rw, .ref ag, .int h0_argumentCount, .int h0_reason, .int h0_place, .int h0_loaded, .ref h0_wafer_r, .ref h0_spare_r, .ref h0_program_r, .ref h0_coder_r, .ref h0_reader_r, .ref h0_validator_r, .ref h0_machine_r])), (ta, .inr (1, [.ref tab, .int ta_length]))]) [0, 1] rfl
  have hDc := hD.sub (ws' := [(h0, .inr (0, [.ref ta, .ref rw, .ref ag, .int h0_argumentCount, .int h0_reason, .int h0_place, .int h0_loaded, .ref h0_wafer_r, .ref h0_spare_r, .ref h0_program_r, .ref h0_coder_r, .ref h0_reader_r, .ref h0_validator_r, .ref h0_machine_r])), (ta, .inr (1, [.ref tab, .int ta_length]))]) [0, 1] (by decide) rfl
  have hKc := hK.sub (tys' := []) [] rfl
  have hFc := va_free (wc := [(h0, .inr (0, [.ref ta, .ref rw, .ref ag, .int h0_argumentCount, .int h0_reason, .int h0_place, .int h0_loaded, .ref h0_wafer_r, .ref h0_spare_r, .ref h0_program_r, .ref h0_coder_r, .ref h0_reader_r, .ref h0_validator_r, .ref h0_machine_r])), (ta, .inr (1, [.ref tab, .int ta_length]))]) hD hS hA [0, 1] rfl
  refine tq_calli (tz_runV (As := [.int p0]) (rest := [.int 0, .ref ou]) ⟨hx, hb, hml, hown, hts⟩ (c_WF_end l hlt dC dI H.size sa h0 ta rw ag h0_wafer_r h0_spare_r h0_program_r h0_coder_r h0_reader_r h0_validator_r h0_machine_r tab h0_argumentCount h0_reason h0_place h0_loaded ta_length (b_ta_length) p0) (cwV 1 hts (gV kM_LW_15 kV_WF_end kS_WF_end kI_WF kC_WF_end) rfl rfl rfl (by decide +kernel) ⟨Nat.le_of_ble_eq_true rfl, Nat.le_of_ble_eq_true rfl⟩) ⟨fun a U g mk z => by obtain ⟨z0, z1, zP, zK, zD, zS⟩ := z; exact ⟨z0, z1, zP, va_K.moved (u := U) (U := U.calling g mk a) (Vm.Alike.refl U.vm) zK, zD, sw.same (u := U) (U := U.calling g mk a) rfl zS⟩, va_recv hKc hPc (ci := 0) (q0 := 0) rfl rfl, fun U hU hW => ⟨rfl, by rw [hU], by rw [hU]; exact hPc, va_K.moved hW.alike hKc, hDc.weaken (fun _ _ _ _ => trivial), hSW.call hS hFc hW hU⟩⟩ rfl rfl hl.1 rfl (lv_room (Nat.le_of_ble_eq_true rfl)) d_LW_end_4 ⟨Nat.le_of_ble_eq_true rfl, Nat.le_of_ble_eq_true rfl⟩) hS (fun q _ h => hFc q h) hFc (fun r1 u t H1 locs ht hvm hw hB hz1 hk1 hS => ?_) (fun xx u t H1 locs ht hvm hw hXX hB hz1 hk1 hS => ?_)
  rotate_left
  · skip
    obtain ⟨n2, rfl⟩ : ∃ z, z = u := ⟨_, rfl⟩
    try dsimp only at hw
    obtain ⟨bn2, tq9⟩ := hw
    obtain ⟨hP1, hK1, hD1⟩ := hB
    rw [ht] at hP1
    obtain ⟨hP, hD⟩ := va_join (wr := [(ou, .inl (cou, 1, .inr (.inl gou)))]) (w1 := [(h0, .inr (0, [.ref ta, .ref rw, .ref ag, .int h0_argumentCount, .int h0_reason, .int h0_place, .int h0_loaded, .ref h0_wafer_r, .ref h0_spare_r, .ref h0_program_r, .ref h0_coder_r, .ref h0_reader_r, .ref h0_validator_r, .ref h0_machine_r])), (ta, .inr (1, [.ref tab, .int n2]))]) hP hD [0, 1] [2] rfl rfl (by decide) (by decide) hk1 hFc hP1 hD1
    have hP : va_P (dC, dI) cls [(ou, .inl (cou, 1, .inr (.inl gou))), (h0, .inr (0, [.ref ta, .ref rw, .ref ag, .int h0_argumentCount, .int h0_reason, .int h0_place, .int h0_loaded, .ref h0_wafer_r, .ref h0_spare_r, .ref h0_program_r, .ref h0_coder_r, .ref h0_reader_r, .ref h0_validator_r, .ref h0_machine_r])), (ta, .inr (1, [.ref tab, .int n2]))] H1 := hP
    have hD : va_D A [(ou, .inl (cou, 1, .inr (.inl gou))), (h0, .inr (0, [.ref ta, .ref rw, .ref ag, .int h0_argumentCount, .int h0_reason, .int h0_place, .int h0_loaded, .ref h0_wafer_r, .ref h0_spare_r, .ref h0_program_r, .ref h0_coder_r, .ref h0_reader_r, .ref h0_validator_r, .ref h0_machine_r])), (ta, .inr (1, [.ref tab, .int n2]))] := hD
    refine tc_caught hE (by decide) (by decide) (by decide) hown (hts _ kK_LW_19) hXX ?_
    clear hPc hDc hKc hFc hz1 hk1 hP1 hK1 hD1 hXX
    refine lv_astore_n (lv' := [(3, .ref xx), (0, .ref h0), (1, .int p0), (2, .ref ou)]) hx hb d_LW_end_12 rfl hl (by decide) rfl (fun ls hl => ?_)
    refine lv_iconst (v := 1) hx hb d_LW_end_13 (by decide) ?_
    have hP9 := hP.sub (ws' := [(h0, .inr (0, [.ref ta, .ref rw, .ref ag, .int h0_argumentCount, .int h0_reason, .int h0_place, .int h0_loaded, .ref h0_wafer_r, .ref h0_spare_r, .ref h0_program_r, .ref h0_coder_r, .ref h0_reader_r, .ref h0_validator_r, .ref h0_machine_r])), (ta, .inr (1, [.ref tab, .int n2])), (ou, .inl (cou, 1, .inr (.inl gou)))]) [1, 2, 0] rfl
    have hD9 := hD.sub (ws' := [(h0, .inr (0, [.ref ta, .ref rw, .ref ag, .int h0_argumentCount, .int h0_reason, .int h0_place, .int h0_loaded, .ref h0_wafer_r, .ref h0_spare_r, .ref h0_program_r, .ref h0_coder_r, .ref h0_reader_r, .ref h0_validator_r, .ref h0_machine_r])), (ta, .inr (1, [.ref tab, .int n2])), (ou, .inl (cou, 1, .inr (.inl gou)))]) [1, 2, 0] (by decide) rfl
    refine W.widen (k := 1) (n := 6) (Nat.le_of_ble_eq_true rfl) (Nat.le_of_ble_eq_true rfl) ?_
    exact W.iret (v := 1) hx hb hr (fun t ht hW => ⟨⟨1, (gou, n2), rfl, ⟨bn2, Or.inr ⟨by decide, tq9.1, tq9.2⟩⟩, by rw [ht]; exact hP9, va_K.moved hW.alike hK, hD9⟩, hS.F ht⟩) hS.2.2 d_LW_end_14
  obtain ⟨n3, rfl⟩ : ∃ z, z = u := ⟨_, rfl⟩
  try dsimp only at hw
  obtain ⟨bn3, xr1⟩ := hw
  try clear hw
  obtain ⟨hP1, hK1, hD1⟩ := hB
  rw [ht] at hP1
  obtain ⟨hP, hD⟩ := va_join (wr := [(ou, .inl (cou, 1, .inr (.inl gou)))]) (w1 := [(h0, .inr (0, [.ref ta, .ref rw, .ref ag, .int h0_argumentCount, .int h0_reason, .int h0_place, .int h0_loaded, .ref h0_wafer_r, .ref h0_spare_r, .ref h0_program_r, .ref h0_coder_r, .ref h0_reader_r, .ref h0_validator_r, .ref h0_machine_r])), (ta, .inr (1, [.ref tab, .int n3]))]) hP hD [0, 1] [2] rfl rfl (by decide) (by decide) hk1 hFc hP1 hD1
  clear hPc hDc hKc hFc hz1 hk1 hP1 hK1 hD1
  generalize H1 = H at hP hS ⊢
  have hP : va_P (dC, dI) cls [(ou, .inl (cou, 1, .inr (.inl gou))), (h0, .inr (0, [.ref ta, .ref rw, .ref ag, .int h0_argumentCount, .int h0_reason, .int h0_place, .int h0_loaded, .ref h0_wafer_r, .ref h0_spare_r, .ref h0_program_r, .ref h0_coder_r, .ref h0_reader_r, .ref h0_validator_r, .ref h0_machine_r])), (ta, .inr (1, [.ref tab, .int n3]))] H := hP
  have hD : va_D A [(ou, .inl (cou, 1, .inr (.inl gou))), (h0, .inr (0, [.ref ta, .ref rw, .ref ag, .int h0_argumentCount, .int h0_reason, .int h0_place, .int h0_loaded, .ref h0_wafer_r, .ref h0_spare_r, .ref h0_program_r, .ref h0_coder_r, .ref h0_reader_r, .ref h0_validator_r, .ref h0_machine_r])), (ta, .inr (1, [.ref tab, .int n3]))] := hD
  refine lv_i2l hx hb d_LW_end_7 rfl ?_
  refine lv_topl (fun x4 ex4 => ?_)
  have tx4 := i2l_t ex4
  have g8 : vp_in 0 1 := vp_in_iff.mpr ⟨by omega, by omega⟩
  refine va_last hx hb hK hP hD hS 0 0 rfl rfl g8 d_LW_end_8 (fun H locs hP hD hS => ?_)
  generalize ef5 : vp_updL gou (0 : Int32).toNatClampNeg x4 = f5 at hP hD
  refine lv_goto (tgt := 15) hx hb d_LW_end_9 (by decide) ?_
  refine lv_iconst (v := 0) hx hb d_LW_end_15 (by decide) ?_
  have hP9 := hP.sub (ws' := [(h0, .inr (0, [.ref ta, .ref rw, .ref ag, .int h0_argumentCount, .int h0_reason, .int h0_place, .int h0_loaded, .ref h0_wafer_r, .ref h0_spare_r, .ref h0_program_r, .ref h0_coder_r, .ref h0_reader_r, .ref h0_validator_r, .ref h0_machine_r])), (ta, .inr (1, [.ref tab, .int n3])), (ou, .inl (cou, 1, .inr (.inl f5)))]) [1, 2, 0] rfl
  have hD9 := hD.sub (ws' := [(h0, .inr (0, [.ref ta, .ref rw, .ref ag, .int h0_argumentCount, .int h0_reason, .int h0_place, .int h0_loaded, .ref h0_wafer_r, .ref h0_spare_r, .ref h0_program_r, .ref h0_coder_r, .ref h0_reader_r, .ref h0_validator_r, .ref h0_machine_r])), (ta, .inr (1, [.ref tab, .int n3])), (ou, .inl (cou, 1, .inr (.inl f5)))]) [1, 2, 0] (by decide) rfl
  refine W.widen (k := 1) (n := 6) (Nat.le_of_ble_eq_true rfl) (Nat.le_of_ble_eq_true rfl) ?_
  exact W.iret (v := 0) hx hb hr (fun t ht hW => ⟨⟨0, (f5, n3), rfl, ⟨bn3, Or.inl ⟨by decide, xr1.1, (by rw [← ef5, show (0 : Int32).toNatClampNeg = 0 from by decide, if_pos_L9]; rw [tx4, xr1.2.1]), xr1.2.2.1, xr1.2.2.2⟩⟩, by rw [ht]; exact hP9, va_K.moved hW.alike hK, hD9⟩, hS.F ht⟩) hS.2.2 d_LW_end_16
abbrev b_LW_word : ByteArray := method_12_code
def y_LW_word : MethodName := ⟨R_LW, "word", "(LWaferForge;I[J)I"⟩
abbrev w_LW_word : List Cond := .codeWith y_LW_word b_LW_word 4 (Option.some .int) [(0, 8, 11, 13)] :: lw_g
theorem kC_LW_word : Cond.codeWith y_LW_word b_LW_word 4 (Option.some .int) [(0, 8, 11, 13)] ∈ lw_g := in_g 1724 (by decide +kernel) rfl
theorem d_LW_word_0 : decode b_LW_word 0 = .ok (.aload_n 2, 1) := by decide +kernel
theorem d_LW_word_1 : decode b_LW_word 1 = .ok (.iconst 0, 1) := by decide +kernel
theorem d_LW_word_2 : decode b_LW_word 2 = .ok (.aload_n 0, 1) := by decide +kernel
theorem d_LW_word_3 : decode b_LW_word 3 = .ok (.iload_n 1, 1) := by decide +kernel
theorem d_LW_word_4 : decode b_LW_word 4 = .ok (.invokevirtual 51, 3) := by decide +kernel
theorem d_LW_word_7 : decode b_LW_word 7 = .ok (.lastore, 1) := by decide +kernel
theorem d_LW_word_8 : decode b_LW_word 8 = .ok (.goto 6, 3) := by decide +kernel
theorem d_LW_word_11 : decode b_LW_word 11 = .ok (.astore_n 3, 1) := by decide +kernel
theorem d_LW_word_12 : decode b_LW_word 12 = .ok (.iconst 1, 1) := by decide +kernel
theorem d_LW_word_13 : decode b_LW_word 13 = .ok (.ireturn, 1) := by decide +kernel
theorem d_LW_word_14 : decode b_LW_word 14 = .ok (.iconst 0, 1) := by decide +kernel
theorem d_LW_word_15 : decode b_LW_word 15 = .ok (.ireturn, 1) := by decide +kernel
theorem kM_LW_51 : Cond.methodLink R_LW 51 y_WF_word ∈ lw_g := in_g 1725 (by decide +kernel) rfl
theorem kV_WF_word : Cond.instanceMethod y_WF_word ∈ lw_g := in_g 1726 (by decide +kernel) rfl
theorem kS_WF_word : Cond.selects R_WF y_WF_word y_WF_word ∈ lw_g := in_g 1727 (by decide +kernel) rfl
abbrev at_LW_word (dC : Nat → ClassId) (dI : Nat → Nat → Nat) (sa : Nat → Nat) (h0 ta rw ag h0_wafer_r h0_spare_r h0_program_r h0_coder_r h0_reader_r h0_validator_r h0_machine_r rwb ou : Nat) (crwb cou : ClassId) (h0_argumentCount : Int32) (h0_reason : Int32) (h0_place : Int32) (h0_loaded : Int32) (rw_length : Int32) (grwb : Nat → Int32) (A : Nat → Prop) (u : (Nat → Int64)) (t : State) : Prop := match u with | gou => va_P (dC, dI) cls [(h0, .inr (0, [.ref ta, .ref rw, .ref ag, .int h0_argumentCount, .int h0_reason, .int h0_place, .int h0_loaded, .ref h0_wafer_r, .ref h0_spare_r, .ref h0_program_r, .ref h0_coder_r, .ref h0_reader_r, .ref h0_validator_r, .ref h0_machine_r])), (rw, .inr (1, [.ref rwb, .int rw_length])), (rwb, .inl (crwb, 8192, .inl grwb)), (ou, .inl (cou, 1, .inr (.inl gou)))] t.heap ∧ va_K (dC, dI) cls [(crwb, .byte), (cou, .long)] t ∧ va_D A [(h0, .inr (0, [.ref ta, .ref rw, .ref ag, .int h0_argumentCount, .int h0_reason, .int h0_place, .int h0_loaded, .ref h0_wafer_r, .ref h0_spare_r, .ref h0_program_r, .ref h0_coder_r, .ref h0_reader_r, .ref h0_validator_r, .ref h0_machine_r])), (rw, .inr (1, [.ref rwb, .int rw_length])), (rwb, .inl (crwb, 8192, .inl grwb)), (ou, .inl (cou, 1, .inr (.inl gou)))]
set_option maxHeartbeats 4000000 in
set_option maxRecDepth 100000 in
theorem c_LW_word (l : Launch) (hlt : l.stackTraces = false) (dC : Nat → ClassId) (dI : Nat → Nat → Nat) (sz : Nat) (sa : Nat → Nat) (h0 ta rw ag h0_wafer_r h0_spare_r h0_program_r h0_coder_r h0_reader_r h0_validator_r h0_machine_r rwb ou : Nat) (crwb cou : ClassId) (h0_argumentCount : Int32) (h0_reason : Int32) (h0_place : Int32) (h0_loaded : Int32) (rw_length : Int32) (grwb : Nat → Int32) (gou : Nat → Int64)  (b_rw_length : 0 ≤ rw_length.toInt ∧ rw_length.toInt ≤ 8192) (p0 : Int32)   : Met l y_LW_word w_LW_word ({ frames := 7, cells := 1, slots := 6, locals := 115 }) (va_Pc [.ref h0, .int p0, .ref ou] (fun U => U.heap.size = sz ∧ va_P (dC, dI) cls [(h0, .inr (0, [.ref ta, .ref rw, .ref ag, .int h0_argumentCount, .int h0_reason, .int h0_place, .int h0_loaded, .ref h0_wafer_r, .ref h0_spare_r, .ref h0_program_r, .ref h0_coder_r, .ref h0_reader_r, .ref h0_validator_r, .ref h0_machine_r])), (rw, .inr (1, [.ref rwb, .int rw_length])), (rwb, .inl (crwb, 8192, .inl grwb)), (ou, .inl (cou, 1, .inr (.inl gou)))] U.heap ∧ va_K (dC, dI) cls [(crwb, .byte), (cou, .long)] U ∧ va_D (fun _ => True) [(h0, .inr (0, [.ref ta, .ref rw, .ref ag, .int h0_argumentCount, .int h0_reason, .int h0_place, .int h0_loaded, .ref h0_wafer_r, .ref h0_spare_r, .ref h0_program_r, .ref h0_coder_r, .ref h0_reader_r, .ref h0_validator_r, .ref h0_machine_r])), (rw, .inr (1, [.ref rwb, .int rw_length])), (rwb, .inl (crwb, 8192, .inl grwb)), (ou, .inl (cou, 1, .inr (.inl gou)))] ∧ sw sa (va_A [(h0, .inr (0, [.ref ta, .ref rw, .ref ag, .int h0_argumentCount, .int h0_reason, .int h0_place, .int h0_loaded, .ref h0_wafer_r, .ref h0_spare_r, .ref h0_program_r, .ref h0_coder_r, .ref h0_reader_r, .ref h0_validator_r, .ref h0_machine_r])), (rw, .inr (1, [.ref rwb, .int rw_length])), (rwb, .inl (crwb, 8192, .inl grwb)), (ou, .inl (cou, 1, .inr (.inl gou)))] sz) U U.heap)) (va_Qi (fun (r : Int32) (u : (Nat → Int64)) => match u with | gou2 => (True)) (at_LW_word dC dI sa h0 ta rw ag h0_wafer_r h0_spare_r h0_program_r h0_coder_r h0_reader_r h0_validator_r h0_machine_r rwb ou crwb cou h0_argumentCount h0_reason h0_place h0_loaded rw_length grwb (va_A [(h0, .inr (0, [.ref ta, .ref rw, .ref ag, .int h0_argumentCount, .int h0_reason, .int h0_place, .int h0_loaded, .ref h0_wafer_r, .ref h0_spare_r, .ref h0_program_r, .ref h0_coder_r, .ref h0_reader_r, .ref h0_validator_r, .ref h0_machine_r])), (rw, .inr (1, [.ref rwb, .int rw_length])), (rwb, .inl (crwb, 8192, .inl grwb)), (ou, .inl (cou, 1, .inr (.inl gou)))] sz)) (va_A [(h0, .inr (0, [.ref ta, .ref rw, .ref ag, .int h0_argumentCount, .int h0_reason, .int h0_place, .int h0_loaded, .ref h0_wafer_r, .ref h0_spare_r, .ref h0_program_r, .ref h0_coder_r, .ref h0_reader_r, .ref h0_validator_r, .ref h0_machine_r])), (rw, .inr (1, [.ref rwb, .int rw_length])), (rwb, .inl (crwb, 8192, .inl grwb)), (ou, .inl (cou, 1, .inr (.inl gou)))] sz)) 1 6 (va_A [(h0, .inr (0, [.ref ta, .ref rw, .ref ag, .int h0_argumentCount, .int h0_reason, .int h0_place, .int h0_loaded, .ref h0_wafer_r, .ref h0_spare_r, .ref h0_program_r, .ref h0_coder_r, .ref h0_reader_r, .ref h0_validator_r, .ref h0_machine_r])), (rw, .inr (1, [.ref rwb, .int rw_length])), (rwb, .inl (crwb, 8192, .inl grwb)), (ou, .inl (cou, 1, .inr (.inl gou)))] sz) := by
  refine va_MetW (cc := b_LW_word) (maxL := 4) (ret := (Option.some .int)) (hh := [(0, 8, 11, 13)]) (by decide) rfl ?_
  intro p e s m args below meth c s₁ B hml hv
  obtain ⟨rfl, hsz, hP, hK, hD0, hSW⟩ := hv
  have hx := B.exec
  have hb := B.bytes
  have hr := B.returns
  have hts0 := atoms_spec (ws := w_LW_word) B.pre
  have hts : ∀ w ∈ lw_g, w.before _ s = true := fun w h => hts0 w (List.mem_cons_of_mem _ h)
  have hown : s.vm.findClass R_LW = some m.cls := findClass_of_methodNamed B.named
  have hlocks := B.notSynchronized
  have hE := uw_table B (hts0 _ List.mem_cons_self)
  clear hts0
  subst hsz
  have hD := hD0.self (sz := s.heap.size)
  generalize hAe : va_A [(h0, .inr (0, [.ref ta, .ref rw, .ref ag, .int h0_argumentCount, .int h0_reason, .int h0_place, .int h0_loaded, .ref h0_wafer_r, .ref h0_spare_r, .ref h0_program_r, .ref h0_coder_r, .ref h0_reader_r, .ref h0_validator_r, .ref h0_machine_r])), (rw, .inr (1, [.ref rwb, .int rw_length])), (rwb, .inl (crwb, 8192, .inl grwb)), (ou, .inl (cou, 1, .inr (.inl gou)))] s.heap.size = A at hD hSW ⊢
  have hA : ∀ q : Nat, s.heap.size ≤ q → A q := fun q h => by rw [← hAe]; exact Or.inr h
  clear hAe
  have hP : va_P (dC, dI) cls [(h0, .inr (0, [.ref ta, .ref rw, .ref ag, .int h0_argumentCount, .int h0_reason, .int h0_place, .int h0_loaded, .ref h0_wafer_r, .ref h0_spare_r, .ref h0_program_r, .ref h0_coder_r, .ref h0_reader_r, .ref h0_validator_r, .ref h0_machine_r])), (rw, .inr (1, [.ref rwb, .int rw_length])), (rwb, .inl (crwb, 8192, .inl grwb)), (ou, .inl (cou, 1, .inr (.inl gou)))] s.heap := hP
  have hl := lv_entry ([.ref h0, .int p0, .ref ou]) (n := 4) (Nat.le_of_ble_eq_true rfl)
  rw [lg_entry_eq]
  generalize (lg_sl ([.ref h0, .int p0, .ref ou]) ++ List.replicate (4 - (lg_sl ([.ref h0, .int p0, .ref ou])).length) Slot.unset).toArray = ls at hl ⊢
  have hl : lv_has ls 4 [(0, .ref h0), (1, .int p0), (2, .ref ou)] := hl
  have k0 : (0 : Int32).toInt = 0 := by decide
  refine w_gen (A := A) hP (fun H locs hP hS => ?_)
  have k1 : (1 : Int32).toInt = 1 := by decide
  have lo_p0 := i32_lo p0
  have hi_p0 := i32_hi p0
  refine lv_aload_n hx hb d_LW_word_0 rfl (lv_at hl 2 rfl) ?_
  refine lv_iconst (v := 0) hx hb d_LW_word_1 (by decide) ?_
  refine lv_aload_n hx hb d_LW_word_2 rfl (lv_at hl 0 rfl) ?_
  refine lv_iload_n hx hb d_LW_word_3 rfl (lv_at hl 1 rfl) ?_
  have hPc := hP.sub (ws' := [(h0, .inr (0, [.ref ta, .ref rw, .ref ag, .int h0_argumentCount, .int h0_reason, .int h0_place, .int h0_loaded, .ref h0_wafer_r, .ref h0_spare_r, .ref h0_program_r, .ref h0_coder_r, .ref h0_reader_r, .ref h0_validator_r, .ref h0_machine_r])), (rw, .inr (1, [.ref rwb, .int rw_length])), (rwb, .inl (crwb, 8192, .inl grwb))]) [0, 1, 2] rfl
  have hDc := hD.sub (ws' := [(h0, .inr (0, [.ref ta, .ref rw, .ref ag, .int h0_argumentCount, .int h0_reason, .int h0_place, .int h0_loaded, .ref h0_wafer_r, .ref h0_spare_r, .ref h0_program_r, .ref h0_coder_r, .ref h0_reader_r, .ref h0_validator_r, .ref h0_machine_r])), (rw, .inr (1, [.ref rwb, .int rw_length])), (rwb, .inl (crwb, 8192, .inl grwb))]) [0, 1, 2] (by decide) rfl
  have hKc := hK.sub (tys' := [(crwb, .byte)]) [0] rfl
  have hFc := va_free (wc := [(h0, .inr (0, [.ref ta, .ref rw, .ref ag, .int h0_argumentCount, .int h0_reason, .int h0_place, .int h0_loaded, .ref h0_wafer_r, .ref h0_spare_r, .ref h0_program_r, .ref h0_coder_r, .ref h0_reader_r, .ref h0_validator_r, .ref h0_machine_r])), (rw, .inr (1, [.ref rwb, .int rw_length])), (rwb, .inl (crwb, 8192, .inl grwb))]) hD hS hA [0, 1, 2] rfl
  refine tq_calll (tz_runV (As := [.int p0]) (rest := [.int 0, .ref ou]) ⟨hx, hb, hml, hown, hts⟩ (c_WF_word l hlt dC dI H.size sa h0 ta rw ag h0_wafer_r h0_spare_r h0_program_r h0_coder_r h0_reader_r h0_validator_r h0_machine_r rwb crwb h0_argumentCount h0_reason h0_place h0_loaded rw_length grwb (b_rw_length) p0) (cwV 1 hts (gV kM_LW_51 kV_WF_word kS_WF_word kI_WF kC_WF_word) rfl rfl rfl (by decide +kernel) ⟨Nat.le_of_ble_eq_true rfl, Nat.le_of_ble_eq_true rfl⟩) ⟨fun a U g mk z => by obtain ⟨z0, z1, zP, zK, zD, zS⟩ := z; exact ⟨z0, z1, zP, va_K.moved (u := U) (U := U.calling g mk a) (Vm.Alike.refl U.vm) zK, zD, sw.same (u := U) (U := U.calling g mk a) rfl zS⟩, va_recv hKc hPc (ci := 0) (q0 := 0) rfl rfl, fun U hU hW => ⟨rfl, by rw [hU], by rw [hU]; exact hPc, va_K.moved hW.alike hKc, hDc.weaken (fun _ _ _ _ => trivial), hSW.call hS hFc hW hU⟩⟩ rfl rfl hl.1 rfl (lv_room (Nat.le_of_ble_eq_true rfl)) d_LW_word_4 ⟨Nat.le_of_ble_eq_true rfl, Nat.le_of_ble_eq_true rfl⟩) hS (fun q _ h => hFc q h) hFc (fun r1 u t H1 locs ht hvm hw hB hz1 hk1 hS => ?_) (fun xx u t H1 locs ht hvm hw hXX hB hz1 hk1 hS => ?_)
  rotate_left
  · skip
    try dsimp only at hw
    obtain ⟨hP1, hK1, hD1⟩ := hB
    rw [ht] at hP1
    obtain ⟨hP, hD⟩ := va_join (wr := [(ou, .inl (cou, 1, .inr (.inl gou)))]) (w1 := [(h0, .inr (0, [.ref ta, .ref rw, .ref ag, .int h0_argumentCount, .int h0_reason, .int h0_place, .int h0_loaded, .ref h0_wafer_r, .ref h0_spare_r, .ref h0_program_r, .ref h0_coder_r, .ref h0_reader_r, .ref h0_validator_r, .ref h0_machine_r])), (rw, .inr (1, [.ref rwb, .int rw_length])), (rwb, .inl (crwb, 8192, .inl grwb))]) hP hD [0, 1, 2] [3] rfl rfl (by decide) (by decide) hk1 hFc hP1 hD1
    have hP : va_P (dC, dI) cls [(ou, .inl (cou, 1, .inr (.inl gou))), (h0, .inr (0, [.ref ta, .ref rw, .ref ag, .int h0_argumentCount, .int h0_reason, .int h0_place, .int h0_loaded, .ref h0_wafer_r, .ref h0_spare_r, .ref h0_program_r, .ref h0_coder_r, .ref h0_reader_r, .ref h0_validator_r, .ref h0_machine_r])), (rw, .inr (1, [.ref rwb, .int rw_length])), (rwb, .inl (crwb, 8192, .inl grwb))] H1 := hP
    have hD : va_D A [(ou, .inl (cou, 1, .inr (.inl gou))), (h0, .inr (0, [.ref ta, .ref rw, .ref ag, .int h0_argumentCount, .int h0_reason, .int h0_place, .int h0_loaded, .ref h0_wafer_r, .ref h0_spare_r, .ref h0_program_r, .ref h0_coder_r, .ref h0_reader_r, .ref h0_validator_r, .ref h0_machine_r])), (rw, .inr (1, [.ref rwb, .int rw_length])), (rwb, .inl (crwb, 8192, .inl grwb))] := hD
    refine tc_caught hE (by decide) (by decide) (by decide) hown (hts _ kK_LW_13) hXX ?_
    clear hPc hDc hKc hFc hz1 hk1 hP1 hK1 hD1 hXX
    refine lv_astore_n (lv' := [(3, .ref xx), (0, .ref h0), (1, .int p0), (2, .ref ou)]) hx hb d_LW_word_11 rfl hl (by decide) rfl (fun ls hl => ?_)
    refine lv_iconst (v := 1) hx hb d_LW_word_12 (by decide) ?_
    have hP9 := hP.sub (ws' := [(h0, .inr (0, [.ref ta, .ref rw, .ref ag, .int h0_argumentCount, .int h0_reason, .int h0_place, .int h0_loaded, .ref h0_wafer_r, .ref h0_spare_r, .ref h0_program_r, .ref h0_coder_r, .ref h0_reader_r, .ref h0_validator_r, .ref h0_machine_r])), (rw, .inr (1, [.ref rwb, .int rw_length])), (rwb, .inl (crwb, 8192, .inl grwb)), (ou, .inl (cou, 1, .inr (.inl gou)))]) [1, 2, 3, 0] rfl
    have hD9 := hD.sub (ws' := [(h0, .inr (0, [.ref ta, .ref rw, .ref ag, .int h0_argumentCount, .int h0_reason, .int h0_place, .int h0_loaded, .ref h0_wafer_r, .ref h0_spare_r, .ref h0_program_r, .ref h0_coder_r, .ref h0_reader_r, .ref h0_validator_r, .ref h0_machine_r])), (rw, .inr (1, [.ref rwb, .int rw_length])), (rwb, .inl (crwb, 8192, .inl grwb)), (ou, .inl (cou, 1, .inr (.inl gou)))]) [1, 2, 3, 0] (by decide) rfl
    refine W.widen (k := 1) (n := 6) (Nat.le_of_ble_eq_true rfl) (Nat.le_of_ble_eq_true rfl) ?_
    exact W.iret (v := 1) hx hb hr (fun t ht hW => ⟨⟨1, gou, rfl, (trivial), by rw [ht]; exact hP9, va_K.moved hW.alike hK, hD9⟩, hS.F ht⟩) hS.2.2 d_LW_word_13
  try dsimp only at hw
  have xr1 := hw
  try clear hw
  obtain ⟨hP1, hK1, hD1⟩ := hB
  rw [ht] at hP1
  obtain ⟨hP, hD⟩ := va_join (wr := [(ou, .inl (cou, 1, .inr (.inl gou)))]) (w1 := [(h0, .inr (0, [.ref ta, .ref rw, .ref ag, .int h0_argumentCount, .int h0_reason, .int h0_place, .int h0_loaded, .ref h0_wafer_r, .ref h0_spare_r, .ref h0_program_r, .ref h0_coder_r, .ref h0_reader_r, .ref h0_validator_r, .ref h0_machine_r])), (rw, .inr (1, [.ref rwb, .int rw_length])), (rwb, .inl (crwb, 8192, .inl grwb))]) hP hD [0, 1, 2] [3] rfl rfl (by decide) (by decide) hk1 hFc hP1 hD1
  clear hPc hDc hKc hFc hz1 hk1 hP1 hK1 hD1
  generalize H1 = H at hP hS ⊢
  have hP : va_P (dC, dI) cls [(ou, .inl (cou, 1, .inr (.inl gou))), (h0, .inr (0, [.ref ta, .ref rw, .ref ag, .int h0_argumentCount, .int h0_reason, .int h0_place, .int h0_loaded, .ref h0_wafer_r, .ref h0_spare_r, .ref h0_program_r, .ref h0_coder_r, .ref h0_reader_r, .ref h0_validator_r, .ref h0_machine_r])), (rw, .inr (1, [.ref rwb, .int rw_length])), (rwb, .inl (crwb, 8192, .inl grwb))] H := hP
  have hD : va_D A [(ou, .inl (cou, 1, .inr (.inl gou))), (h0, .inr (0, [.ref ta, .ref rw, .ref ag, .int h0_argumentCount, .int h0_reason, .int h0_place, .int h0_loaded, .ref h0_wafer_r, .ref h0_spare_r, .ref h0_program_r, .ref h0_coder_r, .ref h0_reader_r, .ref h0_validator_r, .ref h0_machine_r])), (rw, .inr (1, [.ref rwb, .int rw_length])), (rwb, .inl (crwb, 8192, .inl grwb))] := hD
  have g7 : vp_in 0 1 := vp_in_iff.mpr ⟨by omega, by omega⟩
  refine va_last hx hb hK hP hD hS 0 1 rfl rfl g7 d_LW_word_7 (fun H locs hP hD hS => ?_)
  generalize ef2 : vp_updL gou (0 : Int32).toNatClampNeg r1 = f2 at hP hD
  refine lv_goto (tgt := 14) hx hb d_LW_word_8 (by decide) ?_
  refine lv_iconst (v := 0) hx hb d_LW_word_14 (by decide) ?_
  have hP9 := hP.sub (ws' := [(h0, .inr (0, [.ref ta, .ref rw, .ref ag, .int h0_argumentCount, .int h0_reason, .int h0_place, .int h0_loaded, .ref h0_wafer_r, .ref h0_spare_r, .ref h0_program_r, .ref h0_coder_r, .ref h0_reader_r, .ref h0_validator_r, .ref h0_machine_r])), (rw, .inr (1, [.ref rwb, .int rw_length])), (rwb, .inl (crwb, 8192, .inl grwb)), (ou, .inl (cou, 1, .inr (.inl f2)))]) [1, 2, 3, 0] rfl
  have hD9 := hD.sub (ws' := [(h0, .inr (0, [.ref ta, .ref rw, .ref ag, .int h0_argumentCount, .int h0_reason, .int h0_place, .int h0_loaded, .ref h0_wafer_r, .ref h0_spare_r, .ref h0_program_r, .ref h0_coder_r, .ref h0_reader_r, .ref h0_validator_r, .ref h0_machine_r])), (rw, .inr (1, [.ref rwb, .int rw_length])), (rwb, .inl (crwb, 8192, .inl grwb)), (ou, .inl (cou, 1, .inr (.inl f2)))]) [1, 2, 3, 0] (by decide) rfl
  refine W.widen (k := 1) (n := 6) (Nat.le_of_ble_eq_true rfl) (Nat.le_of_ble_eq_true rfl) ?_
  exact W.iret (v := 0) hx hb hr (fun t ht hW => ⟨⟨0, f2, rfl, (trivial), by rw [ht]; exact hP9, va_K.moved hW.alike hK, hD9⟩, hS.F ht⟩) hS.2.2 d_LW_word_15
abbrev b_LW_argument : ByteArray := method_8_code
def y_LW_argument : MethodName := ⟨R_LW, "argument", "(LWaferForge;J[J)I"⟩
abbrev w_LW_argument : List Cond := .codeWith y_LW_argument b_LW_argument 5 (Option.some .int) [(0, 9, 12, 13)] :: lw_g
theorem kC_LW_argument : Cond.codeWith y_LW_argument b_LW_argument 5 (Option.some .int) [(0, 9, 12, 13)] ∈ lw_g := in_g 1520 (by decide +kernel) rfl
theorem d_LW_argument_0 : decode b_LW_argument 0 = .ok (.aload_n 3, 1) := by decide +kernel
theorem d_LW_argument_1 : decode b_LW_argument 1 = .ok (.iconst 0, 1) := by decide +kernel
theorem d_LW_argument_2 : decode b_LW_argument 2 = .ok (.aload_n 0, 1) := by decide +kernel
theorem d_LW_argument_3 : decode b_LW_argument 3 = .ok (.lload_n 1, 1) := by decide +kernel
theorem d_LW_argument_4 : decode b_LW_argument 4 = .ok (.invokevirtual 35, 3) := by decide +kernel
theorem d_LW_argument_7 : decode b_LW_argument 7 = .ok (.i2l, 1) := by decide +kernel
theorem d_LW_argument_8 : decode b_LW_argument 8 = .ok (.lastore, 1) := by decide +kernel
theorem d_LW_argument_9 : decode b_LW_argument 9 = .ok (.goto 7, 3) := by decide +kernel
theorem d_LW_argument_12 : decode b_LW_argument 12 = .ok (.astore 4, 2) := by decide +kernel
theorem d_LW_argument_14 : decode b_LW_argument 14 = .ok (.iconst 1, 1) := by decide +kernel
theorem d_LW_argument_15 : decode b_LW_argument 15 = .ok (.ireturn, 1) := by decide +kernel
theorem d_LW_argument_16 : decode b_LW_argument 16 = .ok (.iconst 0, 1) := by decide +kernel
theorem d_LW_argument_17 : decode b_LW_argument 17 = .ok (.ireturn, 1) := by decide +kernel
theorem kM_LW_35 : Cond.methodLink R_LW 35 y_WF_argument ∈ lw_g := in_g 1521 (by decide +kernel) rfl
theorem kV_WF_argument : Cond.instanceMethod y_WF_argument ∈ lw_g := in_g 1522 (by decide +kernel) rfl
theorem kS_WF_argument : Cond.selects R_WF y_WF_argument y_WF_argument ∈ lw_g := in_g 1523 (by decide +kernel) rfl
abbrev at_LW_argument (dC : Nat → ClassId) (dI : Nat → Nat → Nat) (sa : Nat → Nat) (h0 ta rw ag h0_wafer_r h0_spare_r h0_program_r h0_coder_r h0_reader_r h0_validator_r h0_machine_r ou : Nat) (cag cou : ClassId) (h0_reason : Int32) (h0_place : Int32) (h0_loaded : Int32) (A : Nat → Prop) (u : (Nat → Int64) × (Nat → Int64) × Int32) (t : State) : Prop := match u with | (gag, gou, h0_argumentCount) => va_P (dC, dI) cls [(h0, .inr (0, [.ref ta, .ref rw, .ref ag, .int h0_argumentCount, .int h0_reason, .int h0_place, .int h0_loaded, .ref h0_wafer_r, .ref h0_spare_r, .ref h0_program_r, .ref h0_coder_r, .ref h0_reader_r, .ref h0_validator_r, .ref h0_machine_r])), (ag, .inl (cag, 8, .inr (.inl gag))), (ou, .inl (cou, 1, .inr (.inl gou)))] t.heap ∧ va_K (dC, dI) cls [(cag, .long), (cou, .long)] t ∧ va_D A [(h0, .inr (0, [.ref ta, .ref rw, .ref ag, .int h0_argumentCount, .int h0_reason, .int h0_place, .int h0_loaded, .ref h0_wafer_r, .ref h0_spare_r, .ref h0_program_r, .ref h0_coder_r, .ref h0_reader_r, .ref h0_validator_r, .ref h0_machine_r])), (ag, .inl (cag, 8, .inr (.inl gag))), (ou, .inl (cou, 1, .inr (.inl gou)))]
set_option maxHeartbeats 4000000 in
set_option maxRecDepth 100000 in
theorem c_LW_argument (l : Launch) (hlt : l.stackTraces = false) (dC : Nat → ClassId) (dI : Nat → Nat → Nat) (sz : Nat) (sa : Nat → Nat) (h0 ta rw ag h0_wafer_r h0_spare_r h0_program_r h0_coder_r h0_reader_r h0_validator_r h0_machine_r ou : Nat) (cag cou : ClassId) (h0_argumentCount : Int32) (h0_reason : Int32) (h0_place : Int32) (h0_loaded : Int32) (gag : Nat → Int64) (gou : Nat → Int64)  (b_h0_argumentCount : 0 ≤ h0_argumentCount.toInt ∧ h0_argumentCount.toInt ≤ 8) (p0 : Int64)   : Met l y_LW_argument w_LW_argument ({ frames := 7, cells := 1, slots := 6, locals := 112 }) (va_Pc [.ref h0, .long p0, .ref ou] (fun U => U.heap.size = sz ∧ va_P (dC, dI) cls [(h0, .inr (0, [.ref ta, .ref rw, .ref ag, .int h0_argumentCount, .int h0_reason, .int h0_place, .int h0_loaded, .ref h0_wafer_r, .ref h0_spare_r, .ref h0_program_r, .ref h0_coder_r, .ref h0_reader_r, .ref h0_validator_r, .ref h0_machine_r])), (ag, .inl (cag, 8, .inr (.inl gag))), (ou, .inl (cou, 1, .inr (.inl gou)))] U.heap ∧ va_K (dC, dI) cls [(cag, .long), (cou, .long)] U ∧ va_D (fun _ => True) [(h0, .inr (0, [.ref ta, .ref rw, .ref ag, .int h0_argumentCount, .int h0_reason, .int h0_place, .int h0_loaded, .ref h0_wafer_r, .ref h0_spare_r, .ref h0_program_r, .ref h0_coder_r, .ref h0_reader_r, .ref h0_validator_r, .ref h0_machine_r])), (ag, .inl (cag, 8, .inr (.inl gag))), (ou, .inl (cou, 1, .inr (.inl gou)))] ∧ sw sa (va_A [(h0, .inr (0, [.ref ta, .ref rw, .ref ag, .int h0_argumentCount, .int h0_reason, .int h0_place, .int h0_loaded, .ref h0_wafer_r, .ref h0_spare_r, .ref h0_program_r, .ref h0_coder_r, .ref h0_reader_r, .ref h0_validator_r, .ref h0_machine_r])), (ag, .inl (cag, 8, .inr (.inl gag))), (ou, .inl (cou, 1, .inr (.inl gou)))] sz) U U.heap)) (va_Qi (fun (r : Int32) (u : (Nat → Int64) × (Nat → Int64) × Int32) => match u with | (gag2, gou2, h0_argumentCount2) => (0 ≤ h0_argumentCount2.toInt ∧ h0_argumentCount2.toInt ≤ 8) ∧ (True)) (at_LW_argument dC dI sa h0 ta rw ag h0_wafer_r h0_spare_r h0_program_r h0_coder_r h0_reader_r h0_validator_r h0_machine_r ou cag cou h0_reason h0_place h0_loaded (va_A [(h0, .inr (0, [.ref ta, .ref rw, .ref ag, .int h0_argumentCount, .int h0_reason, .int h0_place, .int h0_loaded, .ref h0_wafer_r, .ref h0_spare_r, .ref h0_program_r, .ref h0_coder_r, .ref h0_reader_r, .ref h0_validator_r, .ref h0_machine_r])), (ag, .inl (cag, 8, .inr (.inl gag))), (ou, .inl (cou, 1, .inr (.inl gou)))] sz)) (va_A [(h0, .inr (0, [.ref ta, .ref rw, .ref ag, .int h0_argumentCount, .int h0_reason, .int h0_place, .int h0_loaded, .ref h0_wafer_r, .ref h0_spare_r, .ref h0_program_r, .ref h0_coder_r, .ref h0_reader_r, .ref h0_validator_r, .ref h0_machine_r])), (ag, .inl (cag, 8, .inr (.inl gag))), (ou, .inl (cou, 1, .inr (.inl gou)))] sz)) 1 6 (va_A [(h0, .inr (0, [.ref ta, .ref rw, .ref ag, .int h0_argumentCount, .int h0_reason, .int h0_place, .int h0_loaded, .ref h0_wafer_r, .ref h0_spare_r, .ref h0_program_r, .ref h0_coder_r, .ref h0_reader_r, .ref h0_validator_r, .ref h0_machine_r])), (ag, .inl (cag, 8, .inr (.inl gag))), (ou, .inl (cou, 1, .inr (.inl gou)))] sz) := by
  refine va_MetW (cc := b_LW_argument) (maxL := 5) (ret := (Option.some .int)) (hh := [(0, 9, 12, 13)]) (by decide) rfl ?_
  intro p e s m args below meth c s₁ B hml hv
  obtain ⟨rfl, hsz, hP, hK, hD0, hSW⟩ := hv
  have hx := B.exec
  have hb := B.bytes
  have hr := B.returns
  have hts0 := atoms_spec (ws := w_LW_argument) B.pre
  have hts : ∀ w ∈ lw_g, w.before _ s = true := fun w h => hts0 w (List.mem_cons_of_mem _ h)
  have hown : s.vm.findClass R_LW = some m.cls := findClass_of_methodNamed B.named
  have hlocks := B.notSynchronized
  have hE := uw_table B (hts0 _ List.mem_cons_self)
  clear hts0
  subst hsz
  have hD := hD0.self (sz := s.heap.size)
  generalize hAe : va_A [(h0, .inr (0, [.ref ta, .ref rw, .ref ag, .int h0_argumentCount, .int h0_reason, .int h0_place, .int h0_loaded, .ref h0_wafer_r, .ref h0_spare_r, .ref h0_program_r, .ref h0_coder_r, .ref h0_reader_r, .ref h0_validator_r, .ref h0_machine_r])), (ag, .inl (cag, 8, .inr (.inl gag))), (ou, .inl (cou, 1, .inr (.inl gou)))] s.heap.size = A at hD hSW ⊢
  have hA : ∀ q : Nat, s.heap.size ≤ q → A q := fun q h => by rw [← hAe]; exact Or.inr h
  clear hAe
  have hP : va_P (dC, dI) cls [(h0, .inr (0, [.ref ta, .ref rw, .ref ag, .int h0_argumentCount, .int h0_reason, .int h0_place, .int h0_loaded, .ref h0_wafer_r, .ref h0_spare_r, .ref h0_program_r, .ref h0_coder_r, .ref h0_reader_r, .ref h0_validator_r, .ref h0_machine_r])), (ag, .inl (cag, 8, .inr (.inl gag))), (ou, .inl (cou, 1, .inr (.inl gou)))] s.heap := hP
  have hl := lv_entry ([.ref h0, .long p0, .ref ou]) (n := 5) (Nat.le_of_ble_eq_true rfl)
  rw [lg_entry_eq]
  generalize (lg_sl ([.ref h0, .long p0, .ref ou]) ++ List.replicate (5 - (lg_sl ([.ref h0, .long p0, .ref ou])).length) Slot.unset).toArray = ls at hl ⊢
  have hl : lv_has ls 5 [(0, .ref h0), (1, .long p0), (3, .ref ou)] := hl
  have k0 : (0 : Int32).toInt = 0 := by decide
  refine w_gen (A := A) hP (fun H locs hP hS => ?_)
  have k1 : (1 : Int32).toInt = 1 := by decide
  refine lv_aload_n hx hb d_LW_argument_0 rfl (lv_at hl 2 rfl) ?_
  refine lv_iconst (v := 0) hx hb d_LW_argument_1 (by decide) ?_
  refine lv_aload_n hx hb d_LW_argument_2 rfl (lv_at hl 0 rfl) ?_
  refine lv_lload_n hx hb d_LW_argument_3 rfl (lv_at hl 1 rfl) ?_
  have hPc := hP.sub (ws' := [(h0, .inr (0, [.ref ta, .ref rw, .ref ag, .int h0_argumentCount, .int h0_reason, .int h0_place, .int h0_loaded, .ref h0_wafer_r, .ref h0_spare_r, .ref h0_program_r, .ref h0_coder_r, .ref h0_reader_r, .ref h0_validator_r, .ref h0_machine_r])), (ag, .inl (cag, 8, .inr (.inl gag)))]) [0, 1] rfl
  have hDc := hD.sub (ws' := [(h0, .inr (0, [.ref ta, .ref rw, .ref ag, .int h0_argumentCount, .int h0_reason, .int h0_place, .int h0_loaded, .ref h0_wafer_r, .ref h0_spare_r, .ref h0_program_r, .ref h0_coder_r, .ref h0_reader_r, .ref h0_validator_r, .ref h0_machine_r])), (ag, .inl (cag, 8, .inr (.inl gag)))]) [0, 1] (by decide) rfl
  have hKc := hK.sub (tys' := [(cag, .long)]) [0] rfl
  have hFc := va_free (wc := [(h0, .inr (0, [.ref ta, .ref rw, .ref ag, .int h0_argumentCount, .int h0_reason, .int h0_place, .int h0_loaded, .ref h0_wafer_r, .ref h0_spare_r, .ref h0_program_r, .ref h0_coder_r, .ref h0_reader_r, .ref h0_validator_r, .ref h0_machine_r])), (ag, .inl (cag, 8, .inr (.inl gag)))]) hD hS hA [0, 1] rfl
  refine tq_calli (tz_runV (As := [.long p0]) (rest := [.int 0, .ref ou]) ⟨hx, hb, hml, hown, hts⟩ (c_WF_argument l hlt dC dI H.size sa h0 ta rw ag h0_wafer_r h0_spare_r h0_program_r h0_coder_r h0_reader_r h0_validator_r h0_machine_r cag h0_argumentCount h0_reason h0_place h0_loaded gag (b_h0_argumentCount) p0) (cwV 1 hts (gV kM_LW_35 kV_WF_argument kS_WF_argument kI_WF kC_WF_argument) rfl rfl rfl (by decide +kernel) ⟨Nat.le_of_ble_eq_true rfl, Nat.le_of_ble_eq_true rfl⟩) ⟨fun a U g mk z => by obtain ⟨z0, z1, zP, zK, zD, zS⟩ := z; exact ⟨z0, z1, zP, va_K.moved (u := U) (U := U.calling g mk a) (Vm.Alike.refl U.vm) zK, zD, sw.same (u := U) (U := U.calling g mk a) rfl zS⟩, va_recv hKc hPc (ci := 0) (q0 := 0) rfl rfl, fun U hU hW => ⟨rfl, by rw [hU], by rw [hU]; exact hPc, va_K.moved hW.alike hKc, hDc.weaken (fun _ _ _ _ => trivial), hSW.call hS hFc hW hU⟩⟩ rfl rfl hl.1 rfl (lv_room (Nat.le_of_ble_eq_true rfl)) d_LW_argument_4 ⟨Nat.le_of_ble_eq_true rfl, Nat.le_of_ble_eq_true rfl⟩) hS (fun q _ h => hFc q h) hFc (fun r1 u t H1 locs ht hvm hw hB hz1 hk1 hS => ?_) (fun xx u t H1 locs ht hvm hw hXX hB hz1 hk1 hS => ?_)
  rotate_left
  · skip
    obtain ⟨n2, n3⟩ := u
    try dsimp only at hw
    have bn3 := hw
    obtain ⟨hP1, hK1, hD1⟩ := hB
    rw [ht] at hP1
    obtain ⟨hP, hD⟩ := va_join (wr := [(ou, .inl (cou, 1, .inr (.inl gou)))]) (w1 := [(h0, .inr (0, [.ref ta, .ref rw, .ref ag, .int n3, .int h0_reason, .int h0_place, .int h0_loaded, .ref h0_wafer_r, .ref h0_spare_r, .ref h0_program_r, .ref h0_coder_r, .ref h0_reader_r, .ref h0_validator_r, .ref h0_machine_r])), (ag, .inl (cag, 8, .inr (.inl n2)))]) hP hD [0, 1] [2] rfl rfl (by decide) (by decide) hk1 hFc hP1 hD1
    have hP : va_P (dC, dI) cls [(ou, .inl (cou, 1, .inr (.inl gou))), (h0, .inr (0, [.ref ta, .ref rw, .ref ag, .int n3, .int h0_reason, .int h0_place, .int h0_loaded, .ref h0_wafer_r, .ref h0_spare_r, .ref h0_program_r, .ref h0_coder_r, .ref h0_reader_r, .ref h0_validator_r, .ref h0_machine_r])), (ag, .inl (cag, 8, .inr (.inl n2)))] H1 := hP
    have hD : va_D A [(ou, .inl (cou, 1, .inr (.inl gou))), (h0, .inr (0, [.ref ta, .ref rw, .ref ag, .int n3, .int h0_reason, .int h0_place, .int h0_loaded, .ref h0_wafer_r, .ref h0_spare_r, .ref h0_program_r, .ref h0_coder_r, .ref h0_reader_r, .ref h0_validator_r, .ref h0_machine_r])), (ag, .inl (cag, 8, .inr (.inl n2)))] := hD
    refine tc_caught hE (by decide) (by decide) (by decide) hown (hts _ kK_LW_13) hXX ?_
    clear hPc hDc hKc hFc hz1 hk1 hP1 hK1 hD1 hXX
    refine lv_astore (lv' := [(4, .ref xx), (0, .ref h0), (1, .long p0), (3, .ref ou)]) hx hb d_LW_argument_12 hl (by decide) rfl (fun ls hl => ?_)
    refine lv_iconst (v := 1) hx hb d_LW_argument_14 (by decide) ?_
    have hP9 := hP.sub (ws' := [(h0, .inr (0, [.ref ta, .ref rw, .ref ag, .int n3, .int h0_reason, .int h0_place, .int h0_loaded, .ref h0_wafer_r, .ref h0_spare_r, .ref h0_program_r, .ref h0_coder_r, .ref h0_reader_r, .ref h0_validator_r, .ref h0_machine_r])), (ag, .inl (cag, 8, .inr (.inl n2))), (ou, .inl (cou, 1, .inr (.inl gou)))]) [1, 2, 0] rfl
    have hD9 := hD.sub (ws' := [(h0, .inr (0, [.ref ta, .ref rw, .ref ag, .int n3, .int h0_reason, .int h0_place, .int h0_loaded, .ref h0_wafer_r, .ref h0_spare_r, .ref h0_program_r, .ref h0_coder_r, .ref h0_reader_r, .ref h0_validator_r, .ref h0_machine_r])), (ag, .inl (cag, 8, .inr (.inl n2))), (ou, .inl (cou, 1, .inr (.inl gou)))]) [1, 2, 0] (by decide) rfl
    refine W.widen (k := 1) (n := 6) (Nat.le_of_ble_eq_true rfl) (Nat.le_of_ble_eq_true rfl) ?_
    exact W.iret (v := 1) hx hb hr (fun t ht hW => ⟨⟨1, (n2, gou, n3), rfl, ⟨bn3, trivial⟩, by rw [ht]; exact hP9, va_K.moved hW.alike hK, hD9⟩, hS.F ht⟩) hS.2.2 d_LW_argument_15
  obtain ⟨n4, n5⟩ := u
  try dsimp only at hw
  obtain ⟨bn5, xr1⟩ := hw
  try clear hw
  obtain ⟨hP1, hK1, hD1⟩ := hB
  rw [ht] at hP1
  obtain ⟨hP, hD⟩ := va_join (wr := [(ou, .inl (cou, 1, .inr (.inl gou)))]) (w1 := [(h0, .inr (0, [.ref ta, .ref rw, .ref ag, .int n5, .int h0_reason, .int h0_place, .int h0_loaded, .ref h0_wafer_r, .ref h0_spare_r, .ref h0_program_r, .ref h0_coder_r, .ref h0_reader_r, .ref h0_validator_r, .ref h0_machine_r])), (ag, .inl (cag, 8, .inr (.inl n4)))]) hP hD [0, 1] [2] rfl rfl (by decide) (by decide) hk1 hFc hP1 hD1
  clear hPc hDc hKc hFc hz1 hk1 hP1 hK1 hD1
  generalize H1 = H at hP hS ⊢
  have hP : va_P (dC, dI) cls [(ou, .inl (cou, 1, .inr (.inl gou))), (h0, .inr (0, [.ref ta, .ref rw, .ref ag, .int n5, .int h0_reason, .int h0_place, .int h0_loaded, .ref h0_wafer_r, .ref h0_spare_r, .ref h0_program_r, .ref h0_coder_r, .ref h0_reader_r, .ref h0_validator_r, .ref h0_machine_r])), (ag, .inl (cag, 8, .inr (.inl n4)))] H := hP
  have hD : va_D A [(ou, .inl (cou, 1, .inr (.inl gou))), (h0, .inr (0, [.ref ta, .ref rw, .ref ag, .int n5, .int h0_reason, .int h0_place, .int h0_loaded, .ref h0_wafer_r, .ref h0_spare_r, .ref h0_program_r, .ref h0_coder_r, .ref h0_reader_r, .ref h0_validator_r, .ref h0_machine_r])), (ag, .inl (cag, 8, .inr (.inl n4)))] := hD
  refine lv_i2l hx hb d_LW_argument_7 rfl ?_
  refine lv_topl (fun x6 ex6 => ?_)
  have tx6 := i2l_t ex6
  have g8 : vp_in 0 1 := vp_in_iff.mpr ⟨by omega, by omega⟩
  refine va_last hx hb hK hP hD hS 0 1 rfl rfl g8 d_LW_argument_8 (fun H locs hP hD hS => ?_)
  generalize ef7 : vp_updL gou (0 : Int32).toNatClampNeg x6 = f7 at hP hD
  refine lv_goto (tgt := 16) hx hb d_LW_argument_9 (by decide) ?_
  refine lv_iconst (v := 0) hx hb d_LW_argument_16 (by decide) ?_
  have hP9 := hP.sub (ws' := [(h0, .inr (0, [.ref ta, .ref rw, .ref ag, .int n5, .int h0_reason, .int h0_place, .int h0_loaded, .ref h0_wafer_r, .ref h0_spare_r, .ref h0_program_r, .ref h0_coder_r, .ref h0_reader_r, .ref h0_validator_r, .ref h0_machine_r])), (ag, .inl (cag, 8, .inr (.inl n4))), (ou, .inl (cou, 1, .inr (.inl f7)))]) [1, 2, 0] rfl
  have hD9 := hD.sub (ws' := [(h0, .inr (0, [.ref ta, .ref rw, .ref ag, .int n5, .int h0_reason, .int h0_place, .int h0_loaded, .ref h0_wafer_r, .ref h0_spare_r, .ref h0_program_r, .ref h0_coder_r, .ref h0_reader_r, .ref h0_validator_r, .ref h0_machine_r])), (ag, .inl (cag, 8, .inr (.inl n4))), (ou, .inl (cou, 1, .inr (.inl f7)))]) [1, 2, 0] (by decide) rfl
  refine W.widen (k := 1) (n := 6) (Nat.le_of_ble_eq_true rfl) (Nat.le_of_ble_eq_true rfl) ?_
  exact W.iret (v := 0) hx hb hr (fun t ht hW => ⟨⟨0, (n4, f7, n5), rfl, ⟨bn5, trivial⟩, by rw [ht]; exact hP9, va_K.moved hW.alike hK, hD9⟩, hS.F ht⟩) hS.2.2 d_LW_argument_17

/-! the law: from its entry -/
theorem kN_WF : Cond.instantiable R_WF 14 ∈ lw_g := in_c1 42 rfl rfl
theorem kN_MD : Cond.instantiable R_MD 65 ∈ lw_g := in_c8 58 rfl rfl
theorem kK_LW_8 : Cond.classLink R_LW 8 R_WF ∈ lw_g := in_c1 41 rfl rfl
theorem kK_LW_58 : Cond.classLink R_LW 58 R_MD ∈ lw_g := in_c8 57 rfl rfl
theorem pw_3 {a b c : va_W} : ((a ++ b) ++ c).Perm ((a ++ c) ++ b) := by
  rw [List.append_assoc, List.append_assoc]
  exact List.Perm.append_left a List.perm_append_comm
theorem k_start {s : State} {args : Array Value} (hts : ∀ w ∈ lw_g, w.before args s = true) : ∃ (dC : Nat → ClassId) (dI : Nat → Nat → Nat), va_K (dC, dI) cls2 [] s := by
  have hk : ∀ k : Nat, ∃ q : ClassId × (Nat → Nat), ∀ r : vw_C, cls2[k]? = some r → u_Kn s r.1 r.2.1 r.2.2 q.1 q.2 := by
    intro k
    match k with
    | 0 =>
      obtain ⟨c, i, h⟩ := u_known (C := R_WF) (T := F_WF) (N := 14) (n := 14) hts i_WF (hts _ kN_WF)
      exact ⟨(c, i), fun r hr => by cases hr; exact h⟩
    | 1 =>
      obtain ⟨c, i, h⟩ := u_known (C := R_BR) (T := F_BR) (N := 2) (n := 2) hts i_BR (hts _ kN_BR)
      exact ⟨(c, i), fun r hr => by cases hr; exact h⟩
    | 2 =>
      obtain ⟨c, i, h⟩ := u_known (C := R_CO) (T := F_CO) (N := 13) (n := 13) hts i_CO (hts _ kN_CO)
      exact ⟨(c, i), fun r hr => by cases hr; exact h⟩
    | 3 =>
      obtain ⟨c, i, h⟩ := u_known (C := R_CD) (T := F_CD) (N := 10) (n := 10) hts i_CD (hts _ kN_CD)
      exact ⟨(c, i), fun r hr => by cases hr; exact h⟩
    | 4 =>
      obtain ⟨c, i, h⟩ := u_known (C := R_MA) (T := F_MA) (N := 18) (n := 18) hts i_MA (hts _ kN_MA)
      exact ⟨(c, i), fun r hr => by cases hr; exact h⟩
    | 5 =>
      obtain ⟨c, i, h⟩ := u_known (C := R_NA) (T := F_NA) (N := 6) (n := 6) hts i_NA (hts _ kN_NA)
      exact ⟨(c, i), fun r hr => by cases hr; exact h⟩
    | 6 =>
      obtain ⟨c, i, h⟩ := u_known (C := R_PR) (T := F_PR) (N := 19) (n := 19) hts i_PR (hts _ kN_PR)
      exact ⟨(c, i), fun r hr => by cases hr; exact h⟩
    | 7 =>
      obtain ⟨c, i, h⟩ := u_known (C := R_RE) (T := F_RE) (N := 8) (n := 8) hts i_RE (hts _ kN_RE)
      exact ⟨(c, i), fun r hr => by cases hr; exact h⟩
    | 8 =>
      obtain ⟨c, i, h⟩ := u_known (C := R_SC) (T := F_SC) (N := 11) (n := 11) hts i_SC (hts _ kN_SC)
      exact ⟨(c, i), fun r hr => by cases hr; exact h⟩
    | 9 =>
      obtain ⟨c, i, h⟩ := u_known (C := R_VA) (T := F_VA) (N := 11) (n := 11) hts i_VA (hts _ kN_VA)
      exact ⟨(c, i), fun r hr => by cases hr; exact h⟩
    | 10 =>
      obtain ⟨c, i, h⟩ := u_known (C := R_WA) (T := F_WA) (N := 21) (n := 21) hts i_WA (hts _ kN_WA)
      exact ⟨(c, i), fun r hr => by cases hr; exact h⟩
    | 11 =>
      obtain ⟨c, i, h⟩ := u_known (C := R_MD) (T := F_MD) (N := 65) (n := 65) hts i_MD (hts _ kN_MD)
      exact ⟨(c, i), fun r hr => by cases hr; exact h⟩
    | 12 =>
      obtain ⟨c, i, h⟩ := u_known (C := R_MM) (T := F_MM) (N := 29) (n := 29) hts i_MM (hts _ kN_MM)
      exact ⟨(c, i), fun r hr => by cases hr; exact h⟩
    | 13 =>
      obtain ⟨c, i, h⟩ := u_known (C := R_MN) (T := F_MN) (N := 9) (n := 9) hts i_MN (hts _ kN_MN)
      exact ⟨(c, i), fun r hr => by cases hr; exact h⟩
    | 14 =>
      obtain ⟨c, i, h⟩ := u_known (C := R_MF) (T := F_MF) (N := 10) (n := 10) hts i_MF (hts _ kN_MF)
      exact ⟨(c, i), fun r hr => by cases hr; exact h⟩
    | 15 =>
      obtain ⟨c, i, h⟩ := u_known (C := R_MR) (T := F_MR) (N := 8) (n := 8) hts i_MR (hts _ kN_MR)
      exact ⟨(c, i), fun r hr => by cases hr; exact h⟩
    | 16 =>
      obtain ⟨c, i, h⟩ := u_known (C := R_JS) (T := F_JS) (N := 4) (n := 4) hts i_JS (hts _ kN_JS)
      exact ⟨(c, i), fun r hr => by cases hr; exact h⟩
    | 17 =>
      obtain ⟨c, i, h⟩ := u_known (C := R_JB) (T := F_JB) (N := 4) (n := 4) hts i_JB (hts _ kN_JB)
      exact ⟨(c, i), fun r hr => by cases hr; exact h⟩
    | k + 18 => exact ⟨(0, fun _ => 0), fun r hr => by simp at hr⟩
  obtain ⟨d, hd⟩ := Classical.axiomOfChoice hk
  exact ⟨fun k => (d k).1, fun k => (d k).2, hd, fun k q h => by simp at h⟩
set_option maxHeartbeats 4000000 in
set_option maxRecDepth 100000 in
theorem whole_start {p : Program} {e : Env} {s : State} {m : MethodId} {below : List Frame} {meth : Method} {c : Code} (l : Launch) (hlt : l.stackTraces = false) {b L : Nat} {xs : Nat → Int32} (hL : L ≤ 3072) (C0 : lw_At p s m meth c b L xs) : W p l e room_1 s m #[Value.ref b] below meth c s.heap [] 0 0 (lw_Z below #[Value.ref b] s) (entryFrame m ([Value.ref b] : List Value).toArray 8) := by
  obtain ⟨hx, hb, hr, hml, hown0, hts0, hX, hbl, hlocks, hgv⟩ := C0
  have hown : s.vm.findClass R_LW = some m.cls := hown0
  have hA : ∀ q : Nat, s.heap.size ≤ q → (fun q : Nat => s.heap.size ≤ q) q := fun _ h => h
  have hbA : ¬ (fun q : Nat => s.heap.size ≤ q) b := Nat.not_le.mpr hbl
  have hts : ∀ w ∈ lw_g, w.before #[Value.ref b] s = true := fun w h => hts0 w (List.mem_filter.mp h).1
  have hSM : sm (sa9 #[Value.ref b] s) (fun q : Nat => s.heap.size ≤ q) s s.heap := sm_start hgv hts0 (fun a h => Nat.not_le.mpr h)
  have hO1 : va_AO "WaferForge$Sign" s := va_AO.of (tw (i := 263) hts0 (by decide +kernel))
  have hO2 : va_AO "java/lang/String" s := va_AO.of (tw (i := 1773) hts0 (by decide +kernel))
  have hO3 : va_AO "WaferForgeModel$Fun" s := va_AO.of (tw (i := 1775) hts0 (by decide +kernel))
  have hO4 : mz_O s := mz_O.of (tw (i := 1792) hts0 (by decide +kernel))
  have hcl : (Cond.arrayClass .long).before #[Value.ref b] s = true := tw (i := 139) hts0 (by decide +kernel)
  generalize sa9 #[Value.ref b] s = sa at hSM
  clear hgv hts0 hown0
  obtain ⟨dC, dI, hK⟩ := k_start hts
  have hS : va_S (fun q : Nat => s.heap.size ≤ q) s.heap s.heap [] := va_S.rf
  have hP : va_P (dC, dI) cls2 [] s.heap := vp_nil
  have hD : va_D (fun q : Nat => s.heap.size ≤ q) [] := vd_part0
  have hl := lv_entry ([.ref b]) (n := 8) (Nat.le_of_ble_eq_true rfl)
  rw [lg_entry_eq]
  generalize (lg_sl ([.ref b]) ++ List.replicate (8 - (lg_sl ([.ref b])).length) Slot.unset).toArray = ls at hl ⊢
  have hl : lv_has ls 8 [(0, .ref b)] := hl
  refine va_new (ci := 0) (fs := [.null, .null, .null, .int 0, .int 0, .int 0, .int 0, .null, .null, .null, .null, .null, .null, .null]) (C := R_WF) (T := F_WF) (N := 14) hx hb hts i_WF t_WF t_WF_ok hown (hts _ kK_LW_8) (hts _ kN_WF) (hts _ kI_WF) hK hP hD hS hA rfl (lt_all (by decide)) (by show _ ≤ (601024 : Nat); exact Nat.le_of_ble_eq_true rfl) (by show _ ≤ (7293034 : Nat); exact Nat.le_of_ble_eq_true rfl) d_law_0 (fun h0 H hP hD hS => ?_)
  have hP : va_P (dC, dI) cls2 (wz_296 h0 0 0 0 0) H := hP
  have hD : va_D (fun q : Nat => s.heap.size ≤ q) (wz_296 h0 0 0 0 0) := hD
  refine lv_dup hx hb d_law_3 rfl ?_
  have hFc := va_free (wc := (wz_296 h0 0 0 0 0)) hD hS hA [0] rfl
  refine va_callv (va_runI (As := []) (rest := [.ref h0]) ⟨hx, hb, hml, hown, hts⟩ (o_WF_init l dC dI H.size sa h0) ⟨callB_of 0 hts (gW kC_WF_init) rfl rfl rfl (hts _ kI_WF) (hts _ kM_LW_57) (by decide +kernel) ⟨Nat.le_of_ble_eq_true rfl, Nat.le_of_ble_eq_true rfl⟩, rfl, hts _ kV_WF_init⟩ ⟨fun a U g mk z => by obtain ⟨z0, z1, zP, zK, zD, zS, zO⟩ := z; exact ⟨z0, z1, zP, va_K.moved (u := U) (U := U.calling g mk a) (Vm.Alike.refl U.vm) zK, zD, sw.same (u := U) (U := U.calling g mk a) rfl zS, va_AO.moved (u := U) (U := U.calling g mk a) (Vm.Alike.refl U.vm) zO⟩, fun U hU hW => ⟨rfl, by rw [hU], by rw [hU]; exact hP, va_K.moved hW.alike hK, hD.weaken (fun _ _ _ _ => trivial), hSM.1.call hS hFc hW hU, va_AO.moved hW.alike hO1⟩⟩ rfl rfl hl.1 rfl (lv_room (Nat.le_of_ble_eq_true rfl)) d_law_4 ⟨by show _ ≤ (601024 : Nat); exact Nat.le_of_ble_eq_true rfl, by show _ ≤ (7293034 : Nat); exact Nat.le_of_ble_eq_true rfl⟩) hS (fun q _ h => hFc q h) hFc (fun w0 t H1 locs ht hvm0 hw hB hz1 hk1 hS => ?_)
  obtain ⟨hP1, hXV, hD1⟩ := hB
  replace hP1 := va_P.he ht hP1
  obtain ⟨hP, hD⟩ := va_join (wr := []) (w1 := w0) hP hD [0] [] rfl rfl (by decide) (by decide) hk1 hFc hP1 hD1
  have hP : va_P (dC, dI) cls2 w0 H1 := hP
  have hD : va_D (fun q : Nat => s.heap.size ≤ q) w0 := hD
  clear hP1 hD1 hFc hz1 hk1 hw
  refine lv_astore_n (lv' := [(1, .ref h0), (0, .ref b)]) hx hb d_law_7 rfl hl (by decide) rfl (fun ls hl => ?_)
  refine va_new (ci := 11) (fs := (.null :: .null :: .int 0 :: .int 0 :: .int 0 :: .int 0 :: .int 0 :: .null :: .long 0 :: .null :: .null :: .null :: .null :: .int 0 :: .null :: .int 0 :: .int 0 :: .int 0 :: .null :: .null :: .null :: .int 0 :: .int 0 :: .null :: .int 0 :: .null :: .null :: .null :: .null :: .null :: .null :: .int 0 :: .int 0 :: [ .null, .null, .int 0, .null, .null, .null, .null, .null, .int 0, .int 0, .null, .int 0, .null, .null, .int 0, .null, .null, .null, .null, .int 0, .null, .null, .int 0, .int 0, .int 0, .null, .int 0, .int 0, .int 0, .null, .int 0, .int 0])) (C := R_MD) (T := F_MD) (N := 65) hx hb hts i_MD t_MD t_MD_ok hown (hts _ kK_LW_58) (hts _ kN_MD) (hts _ kI_MD) hK hP hD hS hA rfl (lt_all (by decide)) (by show _ ≤ (601024 : Nat); exact Nat.le_of_ble_eq_true rfl) (by show _ ≤ (7293034 : Nat); exact Nat.le_of_ble_eq_true rfl) d_law_8 (fun h1 H hP hD hS => ?_)
  refine lv_dup hx hb d_law_11 rfl ?_
  have hFc := lj_F (lj_Dy hD) hS hA
  refine va_callv (va_runI (As := []) (rest := [.ref h1]) ⟨hx, hb, hml, hown, hts⟩ (o_MD_init l dC dI H.size sa h1) ⟨callB_of 0 hts (gW kC_MD_init) rfl rfl rfl (hts _ kI_MD) (hts _ kM_LW_60) (by decide +kernel) ⟨Nat.le_of_ble_eq_true rfl, Nat.le_of_ble_eq_true rfl⟩, rfl, hts _ kV_MD_init⟩ ⟨fun a U g mk z => by obtain ⟨z0, z1, zP, zK, zD, zS, zO, zO2, zO3⟩ := z; exact ⟨z0, z1, zP, va_K.moved (u := U) (U := U.calling g mk a) (Vm.Alike.refl U.vm) zK, zD, sm.same (u := U) (U := U.calling g mk a) rfl zS, va_AO.moved (u := U) (U := U.calling g mk a) (Vm.Alike.refl U.vm) zO, va_AO.moved (u := U) (U := U.calling g mk a) (Vm.Alike.refl U.vm) zO2, mz_O.moved (u := U) (U := U.calling g mk a) (Vm.Alike.refl U.vm) zO3⟩, fun U hU hW => ⟨rfl, by rw [hU], by rw [hU]; exact lj_Py hP, va_K.moved hW.alike hK, (lj_Dy hD).weaken (fun _ _ _ _ => trivial), hSM.call hS hFc hW hU, va_AO.moved hW.alike hO2, va_AO.moved hW.alike hO3, mz_O.moved hW.alike hO4⟩⟩ rfl rfl hl.1 rfl (lv_room (Nat.le_of_ble_eq_true rfl)) d_law_12 ⟨by show _ ≤ (601024 : Nat); exact Nat.le_of_ble_eq_true rfl, by show _ ≤ (7293034 : Nat); exact Nat.le_of_ble_eq_true rfl⟩) hS (fun q _ h => hFc q h) hFc (fun wy t2 H1 locs ht hvm1 hw hB hz1 hk1 hS => ?_)
  obtain ⟨hP1, hYw0, hD1⟩ := hB
  replace hP1 := va_P.he ht hP1
  obtain ⟨hP, hD⟩ := lj_y hP hD hk1 hFc hP1 hD1
  have hYw := hYw0.moved hvm1.symm
  clear hP1 hD1 hFc hz1 hk1 hw hYw0
  refine lv_astore_n (lv' := [(2, .ref h1), (1, .ref h0), (0, .ref b)]) hx hb d_law_15 rfl hl (by decide) rfl (fun ls hl => ?_)
  refine lv_iconst (v := 1) hx hb d_law_16 (by decide) ?_
  refine va_newa (atype := .long) (ty := .long) (N' := 1) (a0 := (1, .inr (.inl (fun _ => 0)))) hx hb hcl rfl hK hP hD hS hA (fun _ => rfl) (by decide) (by decide) (by decide) (show _ ≤ 601024 from Nat.le_of_ble_eq_true rfl) (show _ ≤ 7293034 from Nat.le_of_ble_eq_true rfl) d_law_17 (fun ou cou H hKo hP hD hS => ?_)
  have hXw : XW dC dI sa s h0 ou 0 0 (w0 ++ ([(ou, .inl (cou, 1, .inr (.inl (fun _ => 0))))] : va_W)) := hXV s ou cou hvm0.symm (k2_of hKo)
  have hP := vq_Pp pw_3 hP
  have hD := vq_Dp pw_3 hD
  refine lv_astore_n (lv' := [(3, .ref ou), (2, .ref h1), (1, .ref h0), (0, .ref b)]) hx hb d_law_19 rfl hl (by decide) rfl (fun ls hl => ?_)
  refine lv_iconst (v := 0) hx hb d_law_20 (by decide) ?_
  refine lv_istore (lv' := [(4, .int 0), (3, .ref ou), (2, .ref h1), (1, .ref h0), (0, .ref b)]) hx hb d_law_21 hl (by decide) rfl (fun ls hl => ?_)
  exact law_loop (Q := fun _ => True) hx hb hml hown hts hX hbl hbA hA hSM hlt hr hlocks (fun _ h => h) hL 513 0 0 0 _ _ H locs ls (by decide) (by (first | (apply Int.le_antisymm <;> omega) | omega)) (by (first | (apply Int.le_antisymm <;> omega) | omega)) ⟨0, 0, _, wy, hXw, hYw, hP, hD, hS, (fun a ha => absurd ha (by omega))⟩ hl (by (first | (apply Int.le_antisymm <;> omega) | omega)) (by (first | (apply Int.le_antisymm <;> omega) | omega))
set_option maxHeartbeats 4000000 in
theorem lw_walk (l : Launch) (hlt : l.stackTraces = false) (b : Addr) (xs : List Int32) : MetFree l x (headSpec (Jvm.Cond.code x code maxLocals ret :: tables_1) room_1) (lw_P b xs) (fun _ _ _ _ _ => True) lw_Q := by
  refine MetFree.of_bodyS (code := code) (maxLocals := maxLocals) (ret := ret) (by decide) ?_ ?_
  · intro args s m h hn
    obtain ⟨meth, c, h1, h2, h3, h4, h5, h6, -, -⟩ := Cond.code_spec hn (atoms_spec (ws := Jvm.Cond.code x code maxLocals ret :: tables_1) h _ List.mem_cons_self)
    exact ⟨meth, c, h1, h2, h3, h4, h5, h6⟩
  · intro p e s m args below meth c s₁ B hml0 hP _
    obtain ⟨rfl, hx, hbd, hgv⟩ := hP
    obtain ⟨scr, harrAt, hlist, hof, hsmall⟩ := hx
    obtain ⟨hcb, hkn, -, -⟩ := State.arrayAt?_spec harrAt
    have hown : s.vm.findClass R_law = some m.cls := findClass_of_methodNamed B.named
    have hts0 : ∀ c ∈ (Jvm.Cond.code x code maxLocals ret :: tables_1), c.before #[Value.ref b] s = true := atoms_spec (ws := Jvm.Cond.code x code maxLocals ret :: tables_1) B.pre
    have hts : ∀ w ∈ lw_tbl, w.before #[Value.ref b] s = true := k2_hts_sels lw_privs (fun w hw => hts0 w (List.mem_cons_of_mem _ hw)) lw_privs_ok
    have hml : c.maxLocals = 8 := B.maxLocals_eq (hts0 _ List.mem_cons_self)
    have X₀ : Stand p l e room_1 s m #[Value.ref b] below meth c s₁ [] 0 0 := Stand.of_body B
    have hh0 : s₁.heap = s.heap := by rw [B.state]; rfl
    have hsz : scr.slots.size = xs.length := by rw [← Array.length_toList, hlist, List.length_map]
    have hval : ∀ j : Nat, j < xs.length → scr.slots[j]? = some (.int (xs.getD j 0)) := fun j hj => by
      rw [← Array.getElem?_toList, hlist]
      simp [hj]
    have hbl : b < s.heap.size := (Array.getElem?_eq_some_iff.mp hcb).1
    have hX : va_X b xs.length (fun j => xs.getD j 0) s s.heap := ⟨scr, hcb, hof, hkn, hsz, hval⟩
    have K : W p l e room_1 s m #[Value.ref b] below meth c s₁.heap [] 0 0 (lw_Z below #[Value.ref b] s) (entryFrame m ([Value.ref b] : List Value).toArray 8) := by
      rw [hh0]
      exact whole_start l hlt hbd ⟨B.exec, B.bytes, B.returns, hml, hown, hts, hX, hbl, B.notSynchronized, hgv⟩
    obtain ⟨t, a1, o, b1, b2, b3⟩ := K s₁ rfl X₀
    exact ⟨t, o, a1, b1, b2, b3⟩
theorem lw_pre_spec {args : Array Value} {s : State} (h : (Jvm.Cond.and given_1 narrow_1).before args s = true) (hr : rest_1_c.before args s = true) : ∃ (b : Addr) (xs : List Int32), lw_P b xs args s := by
  have hs := flat_of_before _ h
  have hq := flat_of_before _ hr
  have hc : (Cond.count 1).before args s = true := hs _ (by decide +kernel)
  have harr : (Cond.arrayOf (.arg 0) .int).before args s = true := hs _ (by decide +kernel)
  have hle : (Cond.le (.length (.arg 0)) (.int 3072)).before args s = true := hs _ (by decide +kernel)
  have hlen : (Cond.isInt (.length (.arg 0))).before args s = true := hq _ (by decide +kernel)
  have hall : (Cond.all (.arg 0) (.isInt (.elem (.arg 0) (.index 0)))).before args s = true := hq _ (by decide +kernel)
  obtain ⟨b, xs, hb, hx⟩ := State.ints_of_pre rfl harr hlen hall
  have hsm : xs.length < 2 ^ 31 := hx.choose_spec.2.2.2
  have hev : (Term.length (.arg 0)).eval args s none [] s = some (.int xs.length.toInt32) := hx.length_eval hb
  have hv := Cond.le_ints hev (show (Term.int 3072).eval args s none [] s = some (.int 3072) from rfl)
  have hd : xs.length.toInt32 ≤ 3072 := by
    simpa [Cond.before, Cond.holds, hv] using hle
  have hN : xs.length ≤ 3072 := (Int32.ofNat_le_ofNat hsm (by decide)).mp (show Int32.ofNat xs.length ≤ Int32.ofNat 3072 from hd)
  exact ⟨b, xs, Cond.one_arg hc (show args[0]? = some (.ref b) from hb), hx, hN, h⟩
theorem lw_comes (l : Launch) (hlt : l.stackTraces = false) : Comes l x (Jvm.Cond.code x code maxLocals ret :: tables_1) room_1 (fun tb e args s => Calls_1 tb e args s ∧ rest_1 tb e args s ∧ Pre_1 tb e args s)
    (fun _ _ args s o t => lw_Q args s o t) := by
  intro p e ha hc hk s m args below hf hfit hheap happ hpre
  obtain ⟨b, xs, hP⟩ := lw_pre_spec hpre.2.2 hpre.2.1
  obtain ⟨k, o, h1, h2, h3, hQ⟩ := lw_walk l hlt b xs p e ha hc hk s m args below hf ((Spec.applies_iff_loose hf).mp happ).1 hP trivial
  exact ⟨k, o, h1, h2, h3, hQ⟩
theorem lw_frame {s t : State} {o : Outcome} {args : Array Value} (h : Framed s o t [] 601024 7293034) :
    Framed s o t (fieldLocs frame_1_writes args s ++ arrayLocs frame_1_arrays args s ++ staticLocs frame_1_statics s) 601024 7293034 := h
theorem lw_limb (L : Cond) (hL : ∀ (args : Array Value) (s t : State), L.after args s (.returned (some (.int 1))) t = true) :
    ArmFor flags0 classFile x code maxLocals ret World_1 tables_1 room_1 Calls_1 rest_1 Pre_1
      (fun tb e a s o t => postC L tb e a s o t ∧ Framed s o t (fieldLocs frame_1_writes a s ++ arrayLocs frame_1_arrays a s ++ staticLocs frame_1_statics s) 601024 7293034) := by
  intro l hfl _ _ p e ha hc hk s m args below hf hfit hheap happ hpre
  have hlt : l.stackTraces = false := by unfold Launch.stackTraces; rw [hfl]; decide +kernel
  obtain ⟨k, o, h1, h2, h3, rfl, hF⟩ := lw_comes l hlt p e ha hc hk s m args below hf hfit hheap happ hpre
  exact ⟨k, _, h1, h2, h3, hL args s _, lw_frame hF⟩
theorem i_vc : Claimed_1_1 ∧ Claimed_1_2 := ⟨lw_limb limb_1_1 (fun args s t => by simp [limb_1_1, Cond.after, Cond.holds, Cond.value]), lw_limb limb_1_2 (fun args s t => Cond.after_iff.mpr (by
  first | (rw [show limb_1_2 = Cond.eq .result (.int 1) from rfl, Cond.eq_ints (x := 1) (y := 1) rfl rfl]; simp; done) | (simp [limb_1_2, Cond.value, Term.eval]; done)))⟩

/-! the reference: what it makes lies in the pool: functions that are alike -/
theorem pl_ix {X : va_W} {L : List Nat} {f : Nat → va_E} {y : Nat} {e : va_E} (hy : y ∈ L) (he : f y = e) : ∃ q : Nat, (X ++ va_pl L f)[q]? = some (y, e) := by
  obtain ⟨k, hk⟩ := va_pl_get (X := X) (f := f) hy
  exact ⟨k, by rw [hk, he]⟩
/-- an array of objects is read -/
theorem vq_aldo {p : Program} {l : Launch} {e : Env} {R : Room} {s : State} {m : MethodId} {args : Array Value} {below : List Frame} {meth : Method} {c : Code} {H : Heap} {locs : List Loc} {cells slots : Nat} {Q : State → Prop} {cc : ByteArray} {pc : Nat} {ls : Array Slot} {rest : List Value} {a : Nat} {D : va_G} {cl : List vw_C} {tys : List (ClassId × FieldType)} {ws : va_W} {C : String} {y : Nat}
    (hexec : p.tables.exec = Jvm.exec) (hb : c.code = cc) (hK : va_K D cl tys s) (hP : va_P D cl ws H) (q0 t0 : Nat) {cA : ClassId} {n : Nat} {f : Nat → Option Nat} (ha : ws[q0]? = some (a, .inl (cA, n, .inr (.inr (.inr (.inr f)))))) (ht : tys[t0]? = some (cA, .object C)) {i : Int32} (hin : vp_in i n) (hy : f i.toNatClampNeg = some y) (hdg : decode cc pc = .ok (.aaload, 1))
    (kk : W p l e R s m args below meth c H locs cells slots Q (F0 m (pc + 1) ls (.ref y :: rest))) : W p l e R s m args below meth c H locs cells slots Q (F0 m pc ls (.int i :: .ref a :: rest)) := by
  have hlt : i.toNatClampNeg < n := Nat.not_le.mp fun q => hin (Or.inr q)
  exact W.aald (v := .ref y) (ty := .object C) hexec hb (hP q0 _ ha) ((hK.2 t0 _ ht).1 n (fun j => va_rf (f j))) rfl (fun q => by cases q) (by show ¬ (i < 0 ∨ (arrV _ _ _).slots.size ≤ _); rw [arrV_size]; exact hin) (by show (arrV _ _ _).slots[_]? = _; rw [arrV_read _ _ hlt, hy]; rfl) rfl rfl hdg kk
theorem ofNat_t {n : Nat} (h : n < 2147483648) : (Int32.ofNat n).toInt = (n : Int) := by
  have e : Int32.ofNat n = nI n := rfl
  rw [e, nI_toInt (by omega)]
/-- a function stands in the pool -/
def fnP (L : List Nat) (f : Nat → va_E) (cr : ClassId) (a : Nat) (nm : Value) (pl : Int32) (nms pls tys : Nat) (ps lc rs : Int32) (bd : Value) (sg : Int32) (T : Nat → Int32) : Prop :=
  a ∈ L ∧ f a = .inr (14, [nm, .int pl, .ref nms, .ref pls, .ref tys, .int ps, .int lc, .int rs, bd, .int sg]) ∧ tys ∈ L ∧ f tys = .inl (cr, 51, .inl T)
abbrev b_MD_alike : ByteArray := prog_15_method_45_code
def y_MD_alike : MethodName := ⟨R_MD, "alike", "(LWaferForgeModel$Fun;LWaferForgeModel$Fun;)Z"⟩
abbrev w_MD_alike : List Cond := .code y_MD_alike b_MD_alike 3 (Option.some .boolean) :: lw_g
theorem kC_MD_alike : Cond.code y_MD_alike b_MD_alike 3 (Option.some .boolean) ∈ lw_g := in_g 2752 (by decide +kernel) rfl
theorem d_MD_alike_0 : decode b_MD_alike 0 = .ok (.aload_n 0, 1) := by decide +kernel
theorem d_MD_alike_1 : decode b_MD_alike 1 = .ok (.getfield 208, 3) := by decide +kernel
theorem d_MD_alike_4 : decode b_MD_alike 4 = .ok (.aload_n 1, 1) := by decide +kernel
theorem d_MD_alike_5 : decode b_MD_alike 5 = .ok (.getfield 208, 3) := by decide +kernel
theorem d_MD_alike_8 : decode b_MD_alike 8 = .ok (.if_icmp .ne 14, 3) := by decide +kernel
theorem d_MD_alike_11 : decode b_MD_alike 11 = .ok (.aload_n 0, 1) := by decide +kernel
theorem d_MD_alike_12 : decode b_MD_alike 12 = .ok (.getfield 222, 3) := by decide +kernel
theorem d_MD_alike_15 : decode b_MD_alike 15 = .ok (.aload_n 1, 1) := by decide +kernel
theorem d_MD_alike_16 : decode b_MD_alike 16 = .ok (.getfield 222, 3) := by decide +kernel
theorem d_MD_alike_19 : decode b_MD_alike 19 = .ok (.if_icmp .eq 5, 3) := by decide +kernel
theorem d_MD_alike_22 : decode b_MD_alike 22 = .ok (.iconst 0, 1) := by decide +kernel
theorem d_MD_alike_23 : decode b_MD_alike 23 = .ok (.ireturn, 1) := by decide +kernel
theorem d_MD_alike_24 : decode b_MD_alike 24 = .ok (.iconst 0, 1) := by decide +kernel
theorem d_MD_alike_25 : decode b_MD_alike 25 = .ok (.istore_n 2, 1) := by decide +kernel
theorem d_MD_alike_26 : decode b_MD_alike 26 = .ok (.iload_n 2, 1) := by decide +kernel
theorem d_MD_alike_27 : decode b_MD_alike 27 = .ok (.aload_n 0, 1) := by decide +kernel
theorem d_MD_alike_28 : decode b_MD_alike 28 = .ok (.getfield 208, 3) := by decide +kernel
theorem d_MD_alike_31 : decode b_MD_alike 31 = .ok (.if_icmp .ge 26, 3) := by decide +kernel
theorem d_MD_alike_34 : decode b_MD_alike 34 = .ok (.aload_n 0, 1) := by decide +kernel
theorem d_MD_alike_35 : decode b_MD_alike 35 = .ok (.getfield 217, 3) := by decide +kernel
theorem d_MD_alike_38 : decode b_MD_alike 38 = .ok (.iload_n 2, 1) := by decide +kernel
theorem d_MD_alike_39 : decode b_MD_alike 39 = .ok (.iaload, 1) := by decide +kernel
theorem d_MD_alike_40 : decode b_MD_alike 40 = .ok (.aload_n 1, 1) := by decide +kernel
theorem d_MD_alike_41 : decode b_MD_alike 41 = .ok (.getfield 217, 3) := by decide +kernel
theorem d_MD_alike_44 : decode b_MD_alike 44 = .ok (.iload_n 2, 1) := by decide +kernel
theorem d_MD_alike_45 : decode b_MD_alike 45 = .ok (.iaload, 1) := by decide +kernel
theorem d_MD_alike_46 : decode b_MD_alike 46 = .ok (.if_icmp .eq 5, 3) := by decide +kernel
theorem d_MD_alike_49 : decode b_MD_alike 49 = .ok (.iconst 0, 1) := by decide +kernel
theorem d_MD_alike_50 : decode b_MD_alike 50 = .ok (.ireturn, 1) := by decide +kernel
theorem d_MD_alike_51 : decode b_MD_alike 51 = .ok (.iinc 2 1, 3) := by decide +kernel
theorem d_MD_alike_54 : decode b_MD_alike 54 = .ok (.goto (-28), 3) := by decide +kernel
theorem d_MD_alike_57 : decode b_MD_alike 57 = .ok (.iconst 1, 1) := by decide +kernel
theorem d_MD_alike_58 : decode b_MD_alike 58 = .ok (.ireturn, 1) := by decide +kernel
abbrev at_MD_alike (dC : Nat → ClassId) (dI : Nat → Nat → Nat) (cr : ClassId) (LP : List Nat) (fP : Nat → va_E) (A : Nat → Prop) (u : Unit) (t : State) : Prop := match u with | _ => va_P (dC, dI) cls2 ([] ++ va_pl LP fP) t.heap ∧ va_K (dC, dI) cls2 [(cr, .int)] t ∧ va_D A ([] ++ va_pl LP fP)
set_option maxHeartbeats 4000000 in
set_option maxRecDepth 100000 in
theorem c_MD_alike (l : Launch) (hlt : l.stackTraces = false) (dC : Nat → ClassId) (dI : Nat → Nat → Nat) (sz : Nat) (cr : ClassId) (LP : List Nat) (fP : Nat → va_E) (nm0 : Value) (pl0 : Int32) (po_nms0 : Nat) (po_pls0 : Nat) (po_tys0 : Nat) (ps0 : Int32) (lc0 : Int32) (rs0 : Int32) (bd0 : Value) (sg0 : Int32) (T0 : Nat → Int32) (nm1 : Value) (pl1 : Int32) (po_nms1 : Nat) (po_pls1 : Nat) (po_tys1 : Nat) (ps1 : Int32) (lc1 : Int32) (rs1 : Int32) (bd1 : Value) (sg1 : Int32) (T1 : Nat → Int32)   (po_a : Nat) (po_b : Nat)  (hf0 : bx (fnP LP fP cr po_a nm0 pl0 po_nms0 po_pls0 po_tys0 ps0 lc0 rs0 bd0 sg0 T0)) (hf1 : bx (fnP LP fP cr po_b nm1 pl1 po_nms1 po_pls1 po_tys1 ps1 lc1 rs1 bd1 sg1 T1)) (hps : 0 ≤ ps0.toInt ∧ ps0.toInt ≤ 8) : Met l y_MD_alike w_MD_alike ({ frames := 0, cells := 0, slots := 0, locals := 0 }) (va_Pc [.ref po_a, .ref po_b] (fun U => U.heap.size = sz ∧ va_P (dC, dI) cls2 ([] ++ va_pl LP fP) U.heap ∧ va_K (dC, dI) cls2 [(cr, .int)] U ∧ va_D (fun _ => True) ([] ++ va_pl LP fP) ∧ sw_nest U)) (va_Qi (fun (r : Int32) (u : Unit) => match u with | _ => (r = 0 ∨ r = 1) ∧ (r.toInt = 1 → ps0 = ps1 ∧ rs0 = rs1 ∧ ∀ j : Nat, (j : Int) < ps0.toInt → T0 j = T1 j)) (at_MD_alike dC dI cr LP fP (va_A ([] ++ va_pl LP fP) sz)) (va_A ([] ++ va_pl LP fP) sz)) 0 0 (va_A ([] ++ va_pl LP fP) sz) := by
  refine Met.ofW (cc := b_MD_alike) (maxL := 3) (ret := (Option.some .boolean)) (by decide) rfl ?_
  intro p e s m args below meth c s₁ B hml hv
  obtain ⟨rfl, hsz, hP, hK, hD0, hSW⟩ := hv
  have hx := B.exec
  have hb := B.bytes
  have hr := B.returns
  have hts0 := atoms_spec (ws := w_MD_alike) B.pre
  have hts : ∀ w ∈ lw_g, w.before _ s = true := fun w h => hts0 w (List.mem_cons_of_mem _ h)
  have hown : s.vm.findClass R_MD = some m.cls := findClass_of_methodNamed B.named
  have hlocks := B.notSynchronized
  clear hts0
  subst hsz
  have hD := hD0.self (sz := s.heap.size)
  generalize hAe : va_A ([] ++ va_pl LP fP) s.heap.size = A at hD ⊢
  have hA : ∀ q : Nat, s.heap.size ≤ q → A q := fun q h => by rw [← hAe]; exact Or.inr h
  clear hAe
  have hP : va_P (dC, dI) cls2 ([] ++ va_pl LP fP) s.heap := hP
  have hl := lv_entry ([.ref po_a, .ref po_b]) (n := 3) (Nat.le_of_ble_eq_true rfl)
  rw [lg_entry_eq]
  generalize (lg_sl ([.ref po_a, .ref po_b]) ++ List.replicate (3 - (lg_sl ([.ref po_a, .ref po_b])).length) Slot.unset).toArray = ls at hl ⊢
  have hl : lv_has ls 3 [(0, .ref po_a), (1, .ref po_b)] := hl
  have k0 : (0 : Int32).toInt = 0 := by decide
  refine w_gen (A := A) hP (fun H locs hP hS => ?_)
  have k1 : (1 : Int32).toInt = 1 := by decide
  have hnd := vq_nd hD
  obtain ⟨h01, h02, h03, h04⟩ := hf0.out
  obtain ⟨h11, h12, h13, h14⟩ := hf1.out
  refine lv_aload_n hx hb d_MD_alike_0 rfl (lv_at hl 0 rfl) ?_
  obtain ⟨q1, hq1⟩ := pl_ix (X := []) (L := LP) (f := fP) h01 h02
  refine va_getN (D := (dC, dI)) (ci := 14) (v := .int ps0) (C := R_MF) (T := F_MF) (N := 10) hx hb hts i_MF hown hK hP q1 hq1 rfl 5 (by decide) (sn_f (k := 39) hSW rfl) (fun _ h9 => h9) rfl d_MD_alike_1 ?_
  refine lv_aload_n hx hb d_MD_alike_4 rfl (lv_at hl 1 rfl) ?_
  obtain ⟨q2, hq2⟩ := pl_ix (X := []) (L := LP) (f := fP) h11 h12
  refine va_getN (D := (dC, dI)) (ci := 14) (v := .int ps1) (C := R_MF) (T := F_MF) (N := 10) hx hb hts i_MF hown hK hP q2 hq2 rfl 5 (by decide) (sn_f (k := 39) hSW rfl) (fun _ h9 => h9) rfl d_MD_alike_5 ?_
  refine lv_icmp_ne (tgt := 22) hx hb d_MD_alike_8 (by decide) (fun c8 => ?_) (fun c8 => ?_)
  · have q8 := neI c8
    refine lv_iconst (v := 0) hx hb d_MD_alike_22 (by decide) ?_
    have hP9 := hP.part (cx := []) [] rfl
    have hD9 := hD.part (cx := []) [] (by decide) rfl
    exact W.zret (v := 0) hx hb hr (zn01 (Or.inl rfl)) (fun t ht hW => ⟨⟨0, (), rfl, ⟨Or.inl rfl, fun z => absurd z (by decide)⟩, by rw [ht]; exact hP9, va_K.moved hW.alike hK, hD9⟩, hS.F ht⟩) hS.2.2 d_MD_alike_23
  · have q8 := eqI c8
    refine lv_aload_n hx hb d_MD_alike_11 rfl (lv_at hl 0 rfl) ?_
    obtain ⟨q3, hq3⟩ := pl_ix (X := []) (L := LP) (f := fP) h01 h02
    refine va_getN (D := (dC, dI)) (ci := 14) (v := .int rs0) (C := R_MF) (T := F_MF) (N := 10) hx hb hts i_MF hown hK hP q3 hq3 rfl 7 (by decide) (sn_f (k := 41) hSW rfl) (fun _ h9 => h9) rfl d_MD_alike_12 ?_
    refine lv_aload_n hx hb d_MD_alike_15 rfl (lv_at hl 1 rfl) ?_
    obtain ⟨q4, hq4⟩ := pl_ix (X := []) (L := LP) (f := fP) h11 h12
    refine va_getN (D := (dC, dI)) (ci := 14) (v := .int rs1) (C := R_MF) (T := F_MF) (N := 10) hx hb hts i_MF hown hK hP q4 hq4 rfl 7 (by decide) (sn_f (k := 41) hSW rfl) (fun _ h9 => h9) rfl d_MD_alike_16 ?_
    refine lv_icmp_eq (tgt := 24) hx hb d_MD_alike_19 (by decide) (fun c19 => ?_) (fun c19 => ?_)
    · have q19 := eqI c19
      refine lv_iconst (v := 0) hx hb d_MD_alike_24 (by decide) ?_
      refine lv_istore_n (lv' := [(2, .int 0), (0, .ref po_a), (1, .ref po_b)]) hx hb d_MD_alike_25 rfl hl (by decide) rfl (fun ls hl => ?_)
      refine w_loop (σ := Int32) (fun u H locs ls => match u with | j26_l2 => (0 ≤ j26_l2.toInt ∧ j26_l2.toInt ≤ 8) ∧ (j26_l2.toInt ≤ ps0.toInt) ∧ (bx (∀ j : Nat, (j : Int) < j26_l2.toInt → T0 j = T1 j)) ∧ va_P (dC, dI) cls2 ([] ++ va_pl LP fP) H ∧ va_D A ([] ++ va_pl LP fP) ∧ va_S A s.heap H locs ∧ lv_has ls 3 [(0, .ref po_a), (1, .ref po_b), (2, .int j26_l2)]) (fun u => match u with | j26_l2 => (8 - j26_l2.toInt).toNat) ?_ 0 ⟨by (try dsimp only) <;> omega, by (try dsimp only) <;> omega, (fun j hj => absurd hj (by rw [k0]; omega)), hP, hD, hS, lv_sub hl [1, 2, 0] rfl⟩
      intro N26 ih26 u H locs ls hN26 hI
      obtain ⟨j26_l2, rfl⟩ : ∃ z, z = u := ⟨_, rfl⟩
      obtain ⟨b_j26_l2, u1, u2, hP, hD, hS, hl⟩ := hI
      have hN26 : (8 - j26_l2.toInt).toNat < N26 + 1 := hN26
      refine lv_iload_n hx hb d_MD_alike_26 rfl (lv_at hl 2 rfl) ?_
      refine lv_aload_n hx hb d_MD_alike_27 rfl (lv_at hl 0 rfl) ?_
      obtain ⟨q5, hq5⟩ := pl_ix (X := []) (L := LP) (f := fP) h01 h02
      refine va_getN (D := (dC, dI)) (ci := 14) (v := .int ps0) (C := R_MF) (T := F_MF) (N := 10) hx hb hts i_MF hown hK hP q5 hq5 rfl 5 (by decide) (sn_f (k := 39) hSW rfl) (fun _ h9 => h9) rfl d_MD_alike_28 ?_
      refine lv_icmp_ge (tgt := 57) hx hb d_MD_alike_31 (by decide) (fun c31 => ?_) (fun c31 => ?_)
      · have q31 := leI c31
        refine lv_iconst (v := 1) hx hb d_MD_alike_57 (by decide) ?_
        have hP9 := hP.part (cx := []) [] rfl
        have hD9 := hD.part (cx := []) [] (by decide) rfl
        exact W.zret (v := 1) hx hb hr (zn01 (Or.inr rfl)) (fun t ht hW => ⟨⟨1, (), rfl, ⟨Or.inr rfl, fun _ => ⟨Int32.toInt_inj.mp (by omega), Int32.toInt_inj.mp (by omega), fun j hj => u2.out j (by omega)⟩⟩, by rw [ht]; exact hP9, va_K.moved hW.alike hK, hD9⟩, hS.F ht⟩) hS.2.2 d_MD_alike_58
      · have q31 := nleI c31
        refine lv_aload_n hx hb d_MD_alike_34 rfl (lv_at hl 0 rfl) ?_
        obtain ⟨q6, hq6⟩ := pl_ix (X := []) (L := LP) (f := fP) h01 h02
        refine va_getN (D := (dC, dI)) (ci := 14) (v := .ref po_tys0) (C := R_MF) (T := F_MF) (N := 10) hx hb hts i_MF hown hK hP q6 hq6 rfl 4 (by decide) (sn_f (k := 38) hSW rfl) (fun _ h9 => h9) rfl d_MD_alike_35 ?_
        refine lv_iload_n hx hb d_MD_alike_38 rfl (lv_at hl 2 rfl) ?_
        obtain ⟨q7, hq7⟩ := pl_ix (X := []) (L := LP) (f := fP) h03 h04
        have g39 : vp_in j26_l2 51 := vp_in_iff.mpr ⟨by omega, by omega⟩
        refine va_iald hx hb hK hP q7 0 hq7 rfl g39 d_MD_alike_39 ?_
        refine lv_topi (fun x8 ex8 => ?_)
        refine lv_aload_n hx hb d_MD_alike_40 rfl (lv_at hl 1 rfl) ?_
        obtain ⟨q9, hq9⟩ := pl_ix (X := []) (L := LP) (f := fP) h11 h12
        refine va_getN (D := (dC, dI)) (ci := 14) (v := .ref po_tys1) (C := R_MF) (T := F_MF) (N := 10) hx hb hts i_MF hown hK hP q9 hq9 rfl 4 (by decide) (sn_f (k := 38) hSW rfl) (fun _ h9 => h9) rfl d_MD_alike_41 ?_
        refine lv_iload_n hx hb d_MD_alike_44 rfl (lv_at hl 2 rfl) ?_
        obtain ⟨q10, hq10⟩ := pl_ix (X := []) (L := LP) (f := fP) h13 h14
        have g45 : vp_in j26_l2 51 := vp_in_iff.mpr ⟨by omega, by omega⟩
        refine va_iald hx hb hK hP q10 0 hq10 rfl g45 d_MD_alike_45 ?_
        refine lv_topi (fun x11 ex11 => ?_)
        refine lv_icmp_eq (tgt := 51) hx hb d_MD_alike_46 (by decide) (fun c46 => ?_) (fun c46 => ?_)
        · have q46 := eqI c46
          obtain ⟨x12, ex12⟩ : ∃ z : Int32, z = j26_l2 + 1 := ⟨_, rfl⟩
          have tx12 : x12.toInt = j26_l2.toInt + 1 := by have z := i32_add ex12 (by omega) (by omega); omega
          refine lv_iinc (v := x12) (lv' := [(2, .int x12), (0, .ref po_a), (1, .ref po_b)]) hx hb d_MD_alike_51 hl (k := 2) rfl (by rw [ex12]; rfl) (by decide) rfl (fun ls hl => ?_)
          refine lv_goto (tgt := 26) hx hb d_MD_alike_54 (by decide) ?_
          exact ih26 x12 _ _ _ (by show (8 - x12.toInt).toNat < N26; omega) ⟨by (try dsimp only) <;> omega, by (try dsimp only) <;> omega, (fun j hj => by have z9 := i32_clamp (x := j26_l2) (by omega); by_cases q : (j : Int) < j26_l2.toInt; (exact u2.out j q); (rw [show j = j26_l2.toNatClampNeg from by omega, ← ex8, ← ex11]; exact Int32.toInt_inj.mp (by omega))), hP, hD, hS, lv_sub hl [1, 2, 0] rfl⟩
        · have q46 := neI c46
          refine lv_iconst (v := 0) hx hb d_MD_alike_49 (by decide) ?_
          have hP9 := hP.part (cx := []) [] rfl
          have hD9 := hD.part (cx := []) [] (by decide) rfl
          exact W.zret (v := 0) hx hb hr (zn01 (Or.inl rfl)) (fun t ht hW => ⟨⟨0, (), rfl, ⟨Or.inl rfl, fun z => absurd z (by decide)⟩, by rw [ht]; exact hP9, va_K.moved hW.alike hK, hD9⟩, hS.F ht⟩) hS.2.2 d_MD_alike_50
    · have q19 := neI c19
      refine lv_iconst (v := 0) hx hb d_MD_alike_22 (by decide) ?_
      have hP9 := hP.part (cx := []) [] rfl
      have hD9 := hD.part (cx := []) [] (by decide) rfl
      exact W.zret (v := 0) hx hb hr (zn01 (Or.inl rfl)) (fun t ht hW => ⟨⟨0, (), rfl, ⟨Or.inl rfl, fun z => absurd z (by decide)⟩, by rw [ht]; exact hP9, va_K.moved hW.alike hK, hD9⟩, hS.F ht⟩) hS.2.2 d_MD_alike_23

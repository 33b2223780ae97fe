/-! Program: plain statements -/
theorem pX_ad {B d c : Int} {f g : List Nat → List Nat} {l l1 l2 : List pS} {k : Int32} {ge : Nat} {p z : Int32} {v : Int64} (h : pX B f l l1 d) (e : l2 = l1 ++ [(k, some ge, p, z, v)]) (hs : ∀ S, sS k ge z v c (f S) (g S)) (hg : ∀ S : List Nat, ls B S → lm (g S)) (hc : 10 ≤ c) (hge : ge < 55 := by (first | (apply Int.le_antisymm <;> omega) | omega)) : pX B g l l2 (d + c) := pX_step h e (fun S q => ⟨hs S, hg S q⟩) hc hge
abbrev b_PR_readVar : ByteArray := prog_8_method_10_code
def y_PR_readVar : MethodName := ⟨R_PR, "readVar", "()V"⟩
abbrev w_PR_readVar : List Cond := .code y_PR_readVar b_PR_readVar 5 none :: lw_g
theorem kC_PR_readVar : Cond.code y_PR_readVar b_PR_readVar 5 none ∈ lw_g := in_c5 35 rfl rfl
theorem d_PR_readVar_0 : decode b_PR_readVar 0 = .ok (.aload_n 0, 1) := bz_c42 (by decide +kernel)
theorem d_PR_readVar_1 : decode b_PR_readVar 1 = .ok (.getfield 43, 3) := bz_c180 (by decide +kernel)
theorem d_PR_readVar_4 : decode b_PR_readVar 4 = .ok (.getfield 109, 3) := bz_c180 (by decide +kernel)
theorem d_PR_readVar_7 : decode b_PR_readVar 7 = .ok (.istore_n 1, 1) := bz_c60 (by decide +kernel)
theorem d_PR_readVar_8 : decode b_PR_readVar 8 = .ok (.aload_n 0, 1) := bz_c42 (by decide +kernel)
theorem d_PR_readVar_9 : decode b_PR_readVar 9 = .ok (.getfield 43, 3) := bz_c180 (by decide +kernel)
theorem d_PR_readVar_12 : decode b_PR_readVar 12 = .ok (.invokevirtual 114, 3) := bz_c182 (by decide +kernel)
theorem d_PR_readVar_15 : decode b_PR_readVar 15 = .ok (.aload_n 0, 1) := bz_c42 (by decide +kernel)
theorem d_PR_readVar_16 : decode b_PR_readVar 16 = .ok (.getfield 43, 3) := bz_c180 (by decide +kernel)
theorem d_PR_readVar_19 : decode b_PR_readVar 19 = .ok (.getfield 109, 3) := bz_c180 (by decide +kernel)
theorem d_PR_readVar_22 : decode b_PR_readVar 22 = .ok (.istore_n 2, 1) := bz_c61 (by decide +kernel)
theorem d_PR_readVar_23 : decode b_PR_readVar 23 = .ok (.aload_n 0, 1) := bz_c42 (by decide +kernel)
theorem d_PR_readVar_24 : decode b_PR_readVar 24 = .ok (.getfield 43, 3) := bz_c180 (by decide +kernel)
theorem d_PR_readVar_27 : decode b_PR_readVar 27 = .ok (.getfield 120, 3) := bz_c180 (by decide +kernel)
theorem d_PR_readVar_30 : decode b_PR_readVar 30 = .ok (.istore_n 3, 1) := bz_c62 (by decide +kernel)
theorem d_PR_readVar_31 : decode b_PR_readVar 31 = .ok (.aload_n 0, 1) := bz_c42 (by decide +kernel)
theorem d_PR_readVar_32 : decode b_PR_readVar 32 = .ok (.getstatic 123, 3) := bz_c178 (by decide +kernel)
theorem d_PR_readVar_35 : decode b_PR_readVar 35 = .ok (.invokevirtual 126, 3) := bz_c182 (by decide +kernel)
theorem d_PR_readVar_38 : decode b_PR_readVar 38 = .ok (.aload_n 0, 1) := bz_c42 (by decide +kernel)
theorem d_PR_readVar_39 : decode b_PR_readVar 39 = .ok (.getstatic 130, 3) := bz_c178 (by decide +kernel)
theorem d_PR_readVar_42 : decode b_PR_readVar 42 = .ok (.invokevirtual 126, 3) := bz_c182 (by decide +kernel)
theorem d_PR_readVar_45 : decode b_PR_readVar 45 = .ok (.aload_n 0, 1) := bz_c42 (by decide +kernel)
theorem d_PR_readVar_46 : decode b_PR_readVar 46 = .ok (.getfield 43, 3) := bz_c180 (by decide +kernel)
theorem d_PR_readVar_49 : decode b_PR_readVar 49 = .ok (.getfield 93, 3) := bz_c180 (by decide +kernel)
theorem d_PR_readVar_52 : decode b_PR_readVar 52 = .ok (.astore 4, 2) := bz_c58 (by decide +kernel)
theorem d_PR_readVar_54 : decode b_PR_readVar 54 = .ok (.aload_n 0, 1) := bz_c42 (by decide +kernel)
theorem d_PR_readVar_55 : decode b_PR_readVar 55 = .ok (.invokevirtual 133, 3) := bz_c182 (by decide +kernel)
theorem d_PR_readVar_58 : decode b_PR_readVar 58 = .ok (.pop, 1) := bz_c87 (by decide +kernel)
theorem d_PR_readVar_59 : decode b_PR_readVar 59 = .ok (.aload_n 0, 1) := bz_c42 (by decide +kernel)
theorem d_PR_readVar_60 : decode b_PR_readVar 60 = .ok (.getstatic 137, 3) := bz_c178 (by decide +kernel)
theorem d_PR_readVar_63 : decode b_PR_readVar 63 = .ok (.invokevirtual 126, 3) := bz_c182 (by decide +kernel)
theorem d_PR_readVar_66 : decode b_PR_readVar 66 = .ok (.aload_n 0, 1) := bz_c42 (by decide +kernel)
theorem d_PR_readVar_67 : decode b_PR_readVar 67 = .ok (.invokevirtual 223, 3) := bz_c182 (by decide +kernel)
theorem d_PR_readVar_70 : decode b_PR_readVar 70 = .ok (.aload_n 0, 1) := bz_c42 (by decide +kernel)
theorem d_PR_readVar_71 : decode b_PR_readVar 71 = .ok (.bipush 8, 2) := bz_c16 (by decide +kernel)
theorem d_PR_readVar_73 : decode b_PR_readVar 73 = .ok (.aload 4, 2) := bz_c25 (by decide +kernel)
theorem d_PR_readVar_75 : decode b_PR_readVar 75 = .ok (.iload_n 1, 1) := bz_c27 (by decide +kernel)
theorem d_PR_readVar_76 : decode b_PR_readVar 76 = .ok (.iload_n 3, 1) := bz_c29 (by decide +kernel)
theorem d_PR_readVar_77 : decode b_PR_readVar 77 = .ok (.iload_n 2, 1) := bz_c28 (by decide +kernel)
theorem d_PR_readVar_78 : decode b_PR_readVar 78 = .ok (.i2l, 1) := bz_c133 (by decide +kernel)
theorem d_PR_readVar_79 : decode b_PR_readVar 79 = .ok (.invokevirtual 187, 3) := bz_c182 (by decide +kernel)
theorem d_PR_readVar_82 : decode b_PR_readVar 82 = .ok (.aload_n 0, 1) := bz_c42 (by decide +kernel)
theorem d_PR_readVar_83 : decode b_PR_readVar 83 = .ok (.getstatic 153, 3) := bz_c178 (by decide +kernel)
theorem d_PR_readVar_86 : decode b_PR_readVar 86 = .ok (.invokevirtual 126, 3) := bz_c182 (by decide +kernel)
theorem d_PR_readVar_89 : decode b_PR_readVar 89 = .ok (.return_, 1) := bz_c177 (by decide +kernel)
abbrev at_PR_readVar (dC : Nat → ClassId) (dI : Nat → Nat → Nat) (sa : Nat → Nat) (h0 gl fu pa pf sf pk pg pp pz pv sc wg wp tr ss sp szs sv tx : Nat) (css csp cszs csv cpk cpg cpp cpz cpv cwg cwp : ClassId) (sc_length : Int32) (tr_length : Int32) (gss : Nat → Option Nat) (gsp : Nat → Int32) (gszs : Nat → Int32) (gsv : Nat → Int64) (A : Nat → Prop) (u : (Nat → Option Nat) × (Nat → Int32) × (Nat → Int32) × (Nat → Int64) × (Nat → Int32) × (Nat → Option Nat) × (Nat → Int32) × Int32 × Int32 × Int32 × Int32 × Int32 × Int32 × Int32 × Int32 × Nat × Int32 × Int64) (t : State) : Prop := match u with | (gpg, gpk, gpp, gpv, gpz, gwg, gwp, h0_open, h0_place, h0_reason, h0_stepCount, h0_twoSides, h0_waitingCount, sc_at, sc_place, sc_sign, sc_size, sc_value) => va_P (dC, dI) cls (wz_121 h0 gl fu pa pf sf pk pg pp pz pv h0_reason h0_place sc h0_stepCount h0_open h0_twoSides wg wp h0_waitingCount sc tr (sg sa sc_sign) sc_place sc_size sc_value ss sp szs sv sc_length sc_at tr tx tr_length ss css (fun j => (gss j).map (sg sa)) sp csp gsp szs cszs gszs sv csv gsv pk cpk gpk pg cpg (fun j => (gpg j).map (sg sa)) pp cpp gpp pz cpz gpz pv cpv gpv wg cwg (fun j => (gwg j).map (sg sa)) wp cwp gwp) t.heap ∧ va_K (dC, dI) cls [(css, .object "WaferForge$Sign"), (csp, .int), (cszs, .int), (csv, .long), (cpk, .int), (cpg, .object "WaferForge$Sign"), (cpp, .int), (cpz, .int), (cpv, .long), (cwg, .object "WaferForge$Sign"), (cwp, .int)] t ∧ va_D A (wz_121 h0 gl fu pa pf sf pk pg pp pz pv h0_reason h0_place sc h0_stepCount h0_open h0_twoSides wg wp h0_waitingCount sc tr (sg sa sc_sign) sc_place sc_size sc_value ss sp szs sv sc_length sc_at tr tx tr_length ss css (fun j => (gss j).map (sg sa)) sp csp gsp szs cszs gszs sv csv gsv pk cpk gpk pg cpg (fun j => (gpg j).map (sg sa)) pp cpp gpp pz cpz gpz pv cpv gpv wg cwg (fun j => (gwg j).map (sg sa)) wp cwp gwp)
set_option maxHeartbeats 4000000 in
set_option maxRecDepth 100000 in
theorem c_PR_readVar (l : Launch) (hlt : l.stackTraces = false) (dC : Nat → ClassId) (dI : Nat → Nat → Nat) (sz : Nat) (sa : Nat → Nat) (h0 gl fu pa pf sf pk pg pp pz pv sc wg wp tr ss sp szs sv tx : Nat) (css csp cszs csv cpk cpg cpp cpz cpv cwg cwp : ClassId) (h0_reason : Int32) (h0_place : Int32) (h0_stepCount : Int32) (h0_open : Int32) (h0_twoSides : Int32) (h0_waitingCount : Int32) (sc_sign : Nat) (sc_place : Int32) (sc_size : Int32) (sc_value : Int64) (sc_length : Int32) (sc_at : Int32) (tr_length : Int32) (gss : Nat → Option Nat) (gsp : Nat → Int32) (gszs : Nat → Int32) (gsv : Nat → Int64) (gpk : Nat → Int32) (gpg : Nat → Option Nat) (gpp : Nat → Int32) (gpz : Nat → Int32) (gpv : Nat → Int64) (gwg : Nat → Option Nat) (gwp : Nat → Int32)  (b_h0_stepCount : 0 ≤ h0_stepCount.toInt ∧ h0_stepCount.toInt ≤ 4100) (b_h0_open : 0 ≤ h0_open.toInt ∧ h0_open.toInt ≤ 40) (b_h0_twoSides : 0 ≤ h0_twoSides.toInt ∧ h0_twoSides.toInt ≤ 400) (b_h0_waitingCount : 0 ≤ h0_waitingCount.toInt ∧ h0_waitingCount.toInt ≤ 360) (b_sc_sign : sc_sign < 55) (b_sc_place : 0 ≤ sc_place.toInt ∧ sc_place.toInt ≤ 2000) (b_sc_size : 0 ≤ sc_size.toInt ∧ sc_size.toInt ≤ 2000) (b_sc_length : 0 ≤ sc_length.toInt ∧ sc_length.toInt ≤ 2001) (b_sc_at : -1 ≤ sc_at.toInt ∧ sc_at.toInt ≤ 2000) (b_tr_length : 0 ≤ tr_length.toInt ∧ tr_length.toInt ≤ 2000)   (hsk : sk tr_length.toInt sc_length.toInt sc_at.toInt sc_sign sc_place sc_size sc_value gss gsp gszs gsv) (hst : 10 * h0_stepCount.toInt ≤ 20 * sc_place.toInt) (hwc : h0_waitingCount.toInt ≤ 8 * h0_open.toInt) (hsg : sc_sign = 7) : tz_Met l y_PR_readVar w_PR_readVar ({ frames := 221, cells := 1, slots := 6, locals := 5242 }) (va_Pc [.ref h0] (fun U => U.heap.size = sz ∧ va_P (dC, dI) cls (wz_121 h0 gl fu pa pf sf pk pg pp pz pv h0_reason h0_place sc h0_stepCount h0_open h0_twoSides wg wp h0_waitingCount sc tr (sg sa sc_sign) sc_place sc_size sc_value ss sp szs sv sc_length sc_at tr tx tr_length ss css (fun j => (gss j).map (sg sa)) sp csp gsp szs cszs gszs sv csv gsv pk cpk gpk pg cpg (fun j => (gpg j).map (sg sa)) pp cpp gpp pz cpz gpz pv cpv gpv wg cwg (fun j => (gwg j).map (sg sa)) wp cwp gwp) U.heap ∧ va_K (dC, dI) cls [(css, .object "WaferForge$Sign"), (csp, .int), (cszs, .int), (csv, .long), (cpk, .int), (cpg, .object "WaferForge$Sign"), (cpp, .int), (cpz, .int), (cpv, .long), (cwg, .object "WaferForge$Sign"), (cwp, .int)] U ∧ va_D (fun _ => True) (wz_121 h0 gl fu pa pf sf pk pg pp pz pv h0_reason h0_place sc h0_stepCount h0_open h0_twoSides wg wp h0_waitingCount sc tr (sg sa sc_sign) sc_place sc_size sc_value ss sp szs sv sc_length sc_at tr tx tr_length ss css (fun j => (gss j).map (sg sa)) sp csp gsp szs cszs gszs sv csv gsv pk cpk gpk pg cpg (fun j => (gpg j).map (sg sa)) pp cpp gpp pz cpz gpz pv cpv gpv wg cwg (fun j => (gwg j).map (sg sa)) wp cwp gwp) ∧ sw sa (va_A (wz_121 h0 gl fu pa pf sf pk pg pp pz pv h0_reason h0_place sc h0_stepCount h0_open h0_twoSides wg wp h0_waitingCount sc tr (sg sa sc_sign) sc_place sc_size sc_value ss sp szs sv sc_length sc_at tr tx tr_length ss css (fun j => (gss j).map (sg sa)) sp csp gsp szs cszs gszs sv csv gsv pk cpk gpk pg cpg (fun j => (gpg j).map (sg sa)) pp cpp gpp pz cpz gpz pv cpv gpv wg cwg (fun j => (gwg j).map (sg sa)) wp cwp gwp) sz) U U.heap)) (tq_Q (tq_v (fun (u : (Nat → Option Nat) × (Nat → Int32) × (Nat → Int32) × (Nat → Int64) × (Nat → Int32) × (Nat → Option Nat) × (Nat → Int32) × Int32 × Int32 × Int32 × Int32 × Int32 × Int32 × Int32 × Int32 × Nat × Int32 × Int64) => match u with | (gpg2, gpk2, gpp2, gpv2, gpz2, gwg2, gwp2, h0_open2, h0_place2, h0_reason2, h0_stepCount2, h0_twoSides2, h0_waitingCount2, sc_at2, sc_place2, sc_sign2, sc_size2, sc_value2) => (0 ≤ h0_open2.toInt ∧ h0_open2.toInt ≤ 40) ∧ (0 ≤ h0_stepCount2.toInt ∧ h0_stepCount2.toInt ≤ 4100) ∧ (0 ≤ h0_twoSides2.toInt ∧ h0_twoSides2.toInt ≤ 400) ∧ (0 ≤ h0_waitingCount2.toInt ∧ h0_waitingCount2.toInt ≤ 360) ∧ (-1 ≤ sc_at2.toInt ∧ sc_at2.toInt ≤ 2000) ∧ (0 ≤ sc_place2.toInt ∧ sc_place2.toInt ≤ 2000) ∧ (sc_sign2 < 55) ∧ (0 ≤ sc_size2.toInt ∧ sc_size2.toInt ≤ 2000) ∧ (sk tr_length.toInt sc_length.toInt sc_at2.toInt sc_sign2 sc_place2 sc_size2 sc_value2 gss gsp gszs gsv ∧ pX (16 * h0_open.toInt - 9) (fun S => S) (sl gpk gpg gpp gpz gpv h0_stepCount.toInt) (sl gpk2 gpg2 gpp2 gpz2 gpv2 h0_stepCount2.toInt) (20 * sc_place2.toInt - 20 * sc_place.toInt - 0) ∧ h0_open2.toInt = h0_open.toInt ∧ h0_waitingCount2.toInt = h0_waitingCount.toInt ∧ wk h0_waitingCount.toInt gwg gwg2 ∧ sc_place.toInt ≤ sc_place2.toInt)) "java/lang/UnsupportedOperationException" (fun (u : (Nat → Option Nat) × (Nat → Int32) × (Nat → Int32) × (Nat → Int64) × (Nat → Int32) × (Nat → Option Nat) × (Nat → Int32) × Int32 × Int32 × Int32 × Int32 × Int32 × Int32 × Int32 × Int32 × Nat × Int32 × Int64) => match u with | (gpg2, gpk2, gpp2, gpv2, gpz2, gwg2, gwp2, h0_open2, h0_place2, h0_reason2, h0_stepCount2, h0_twoSides2, h0_waitingCount2, sc_at2, sc_place2, sc_sign2, sc_size2, sc_value2) => (0 ≤ h0_open2.toInt ∧ h0_open2.toInt ≤ 40) ∧ (0 ≤ h0_stepCount2.toInt ∧ h0_stepCount2.toInt ≤ 4100) ∧ (0 ≤ h0_twoSides2.toInt ∧ h0_twoSides2.toInt ≤ 400) ∧ (0 ≤ h0_waitingCount2.toInt ∧ h0_waitingCount2.toInt ≤ 360) ∧ (-1 ≤ sc_at2.toInt ∧ sc_at2.toInt ≤ 2000) ∧ (0 ≤ sc_place2.toInt ∧ sc_place2.toInt ≤ 2000) ∧ (sc_sign2 < 55) ∧ (0 ≤ sc_size2.toInt ∧ sc_size2.toInt ≤ 2000))) (at_PR_readVar dC dI sa h0 gl fu pa pf sf pk pg pp pz pv sc wg wp tr ss sp szs sv tx css csp cszs csv cpk cpg cpp cpz cpv cwg cwp sc_length tr_length gss gsp gszs gsv (va_A (wz_121 h0 gl fu pa pf sf pk pg pp pz pv h0_reason h0_place sc h0_stepCount h0_open h0_twoSides wg wp h0_waitingCount sc tr (sg sa sc_sign) sc_place sc_size sc_value ss sp szs sv sc_length sc_at tr tx tr_length ss css (fun j => (gss j).map (sg sa)) sp csp gsp szs cszs gszs sv csv gsv pk cpk gpk pg cpg (fun j => (gpg j).map (sg sa)) pp cpp gpp pz cpz gpz pv cpv gpv wg cwg (fun j => (gwg j).map (sg sa)) wp cwp gwp) sz)) (va_A (wz_121 h0 gl fu pa pf sf pk pg pp pz pv h0_reason h0_place sc h0_stepCount h0_open h0_twoSides wg wp h0_waitingCount sc tr (sg sa sc_sign) sc_place sc_size sc_value ss sp szs sv sc_length sc_at tr tx tr_length ss css (fun j => (gss j).map (sg sa)) sp csp gsp szs cszs gszs sv csv gsv pk cpk gpk pg cpg (fun j => (gpg j).map (sg sa)) pp cpp gpp pz cpz gpz pv cpv gpv wg cwg (fun j => (gwg j).map (sg sa)) wp cwp gwp) sz)) (tz_k 0 0 1 6) (va_A (wz_121 h0 gl fu pa pf sf pk pg pp pz pv h0_reason h0_place sc h0_stepCount h0_open h0_twoSides wg wp h0_waitingCount sc tr (sg sa sc_sign) sc_place sc_size sc_value ss sp szs sv sc_length sc_at tr tx tr_length ss css (fun j => (gss j).map (sg sa)) sp csp gsp szs cszs gszs sv csv gsv pk cpk gpk pg cpg (fun j => (gpg j).map (sg sa)) pp cpp gpp pz cpz gpz pv cpv gpv wg cwg (fun j => (gwg j).map (sg sa)) wp cwp gwp) sz) := by
  refine tz_ofW (cc := b_PR_readVar) (maxL := 5) (ret := none) (by decide) rfl ?_
  intro p e s m args below meth c s₁ B hml hno hv
  obtain ⟨rfl, hsz, hP, hK, hD0, hSW⟩ := hv
  have hx := B.exec
  have hb := B.bytes
  have hr := B.returns
  have hts0 := atoms_spec (ws := w_PR_readVar) B.pre
  have hts : ∀ w ∈ lw_g, w.before _ s = true := fun w h => hts0 w (List.mem_cons_of_mem _ h)
  have hown : s.vm.findClass R_PR = some m.cls := findClass_of_methodNamed B.named
  have hlocks := B.notSynchronized
  clear hts0
  subst hsz
  have hD := hD0.self (sz := s.heap.size)
  generalize hAe : va_A (wz_121 h0 gl fu pa pf sf pk pg pp pz pv h0_reason h0_place sc h0_stepCount h0_open h0_twoSides wg wp h0_waitingCount sc tr (sg sa sc_sign) sc_place sc_size sc_value ss sp szs sv sc_length sc_at tr tx tr_length ss css (fun j => (gss j).map (sg sa)) sp csp gsp szs cszs gszs sv csv gsv pk cpk gpk pg cpg (fun j => (gpg j).map (sg sa)) pp cpp gpp pz cpz gpz pv cpv gpv wg cwg (fun j => (gwg j).map (sg sa)) wp cwp gwp) s.heap.size = A at hD hSW ⊢
  have hA : ∀ q : Nat, s.heap.size ≤ q → A q := fun q h => by rw [← hAe]; exact Or.inr h
  clear hAe
  have hP : va_P (dC, dI) cls (wz_121 h0 gl fu pa pf sf pk pg pp pz pv h0_reason h0_place sc h0_stepCount h0_open h0_twoSides wg wp h0_waitingCount sc tr (sg sa sc_sign) sc_place sc_size sc_value ss sp szs sv sc_length sc_at tr tx tr_length ss css (fun j => (gss j).map (sg sa)) sp csp gsp szs cszs gszs sv csv gsv pk cpk gpk pg cpg (fun j => (gpg j).map (sg sa)) pp cpp gpp pz cpz gpz pv cpv gpv wg cwg (fun j => (gwg j).map (sg sa)) wp cwp gwp) s.heap := hP
  have hl := lv_entry ([.ref h0]) (n := 5) (Nat.le_of_ble_eq_true rfl)
  rw [lg_entry_eq]
  generalize (lg_sl ([.ref h0]) ++ List.replicate (5 - (lg_sl ([.ref h0])).length) Slot.unset).toArray = ls at hl ⊢
  have hl : lv_has ls 5 [(0, .ref h0)] := hl
  have k0 : (0 : Int32).toInt = 0 := by decide
  refine w_gen (A := A) hP (fun H locs hP hS => ?_)
  have k8 : (8 : Int32).toInt = 8 := by decide
  have isk := sk_is hsk
  refine lv_aload_n hx hb d_PR_readVar_0 rfl (lv_at hl 0 rfl) ?_
  refine va_get (D := (dC, dI)) (ci := 6) (v := .ref sc) (C := R_PR) (T := F_PR) (N := 19) hx hb hts i_PR hown hK hP 0 rfl rfl 12 (by decide) (hts _ kF_PR_43) (fun _ h9 => h9) rfl d_PR_readVar_1 ?_
  refine va_get (D := (dC, dI)) (ci := 8) (v := .int sc_place) (C := R_SC) (T := F_SC) (N := 11) hx hb hts i_SC hown hK hP 1 rfl rfl 2 (by decide) (hts _ kF_PR_109) (fun _ h9 => h9) rfl d_PR_readVar_4 ?_
  refine lv_istore_n (lv' := [(1, .int sc_place), (0, .ref h0)]) hx hb d_PR_readVar_7 rfl hl (by decide) rfl (fun ls hl => ?_)
  refine lv_aload_n hx hb d_PR_readVar_8 rfl (lv_at hl 1 rfl) ?_
  refine va_get (D := (dC, dI)) (ci := 6) (v := .ref sc) (C := R_PR) (T := F_PR) (N := 19) hx hb hts i_PR hown hK hP 0 rfl rfl 12 (by decide) (hts _ kF_PR_43) (fun _ h9 => h9) rfl d_PR_readVar_9 ?_
  have hPc := hP.sb (wq := (wz_107 sc tr (sg sa sc_sign) sc_place sc_size sc_value ss sp szs sv sc_length sc_at tr tx tr_length ss css (fun j => (gss j).map (sg sa)) sp csp gsp szs cszs gszs sv csv gsv)) [1, 2, 3, 4, 5, 6] rfl
  have hDc := hD.sb (wq := (wz_107 sc tr (sg sa sc_sign) sc_place sc_size sc_value ss sp szs sv sc_length sc_at tr tx tr_length ss css (fun j => (gss j).map (sg sa)) sp csp gsp szs cszs gszs sv csv gsv)) [1, 2, 3, 4, 5, 6] (by decide) rfl
  have hKc := hK.sb (tyq := [(css, .object "WaferForge$Sign"), (csp, .int), (cszs, .int), (csv, .long)]) [0, 1, 2, 3] rfl
  have hFc := va_free (wc := (wz_107 sc tr (sg sa sc_sign) sc_place sc_size sc_value ss sp szs sv sc_length sc_at tr tx tr_length ss css (fun j => (gss j).map (sg sa)) sp csp gsp szs cszs gszs sv csv gsv)) hD hS hA [1, 2, 3, 4, 5, 6] rfl
  refine va_callv (va_runV (As := []) (rest := []) ⟨hx, hb, hml, hown, hts⟩ (c_SC_next l dC dI H.size sa sc tr ss sp szs sv tx css csp cszs csv sc_sign sc_place sc_size sc_value sc_length sc_at tr_length gss gsp gszs gsv (b_sc_sign) (b_sc_place) (b_sc_size) (b_sc_length) (b_sc_at) (b_tr_length) (hsk.1.2.1)) (cwV 0 hts (gV kM_PR_114 kV_SC_next kS_SC_next kI_SC kC_SC_next) rfl rfl rfl (by decide +kernel) ⟨Nat.le_of_ble_eq_true rfl, Nat.le_of_ble_eq_true rfl⟩) ⟨fun a U g mk z => by obtain ⟨z0, z1, zP, zK, zD, zS⟩ := z; exact ⟨z0, z1, zP, va_K.moved (u := U) (U := U.calling g mk a) (Vm.Alike.refl U.vm) zK, zD, sw.same (u := U) (U := U.calling g mk a) rfl zS⟩, va_recv hKc hPc (ci := 8) (q0 := 0) rfl rfl, fun U hU hW => ⟨rfl, by rw [hU], va_P.he hU.symm hPc, va_K.moved hW.alike hKc, hDc.weaken (fun _ _ _ _ => trivial), hSW.call hS hFc hW hU⟩⟩ rfl rfl hl.1 rfl (lv_room (Nat.le_of_ble_eq_true rfl)) d_PR_readVar_12 ⟨(Nat.zero_le _), (Nat.zero_le _)⟩) hS (fun q _ h => hFc q h) hFc (fun u t H1 locs ht hvm hw hB hz1 hk1 hS => ?_)
  obtain ⟨n2, n3, n4, n5, n6⟩ := u
  try dsimp only at hw
  obtain ⟨bn2, bn3, bn4, bn5, xr1⟩ := hw
  try clear hw
  have or1 := hsk
  have zr1 := sk_next hsk xr1.1 xr1.2
  have hsk := zr1.1
  have mr1 := zr1.2.1
  have fr1 := zr1.2.2.1
  clear xr1 zr1
  have mr1 := (fr1 (by (first | (apply Int.le_antisymm <;> omega) | omega)) (by (first | (apply Int.le_antisymm <;> omega) | omega))).2
  have zr1 := sk_pos or1 (by (first | (apply Int.le_antisymm <;> omega) | omega)) (by (first | (apply Int.le_antisymm <;> omega) | omega))
  have dr1 := sk_is hsk
  clear fr1
  obtain ⟨hP1, hK1, hD1⟩ := hB
  replace hP1 := va_P.he ht hP1
  obtain ⟨hP, hD⟩ := va_join (wr := (wz_122 h0 gl fu pa pf sf pk pg pp pz pv h0_reason h0_place sc h0_stepCount h0_open h0_twoSides wg wp h0_waitingCount pk cpk gpk pg cpg (fun j => (gpg j).map (sg sa)) pp cpp gpp pz cpz gpz pv cpv gpv wg cwg (fun j => (gwg j).map (sg sa)) wp cwp gwp)) (w1 := (wz_107 sc tr (sg sa n4) n3 n5 n6 ss sp szs sv sc_length n2 tr tx tr_length ss css (fun j => (gss j).map (sg sa)) sp csp gsp szs cszs gszs sv csv gsv)) hP hD [1, 2, 3, 4, 5, 6] [0, 7, 8, 9, 10, 11, 12, 13] rfl rfl (by decide) (by decide) hk1 hFc hP1 hD1
  clear hPc hDc hKc hFc hz1 hk1 hP1 hK1 hD1
  rename Heap => H
  have hP : va_P (dC, dI) cls (wz_123 h0 gl fu pa pf sf pk pg pp pz pv h0_reason h0_place sc h0_stepCount h0_open h0_twoSides wg wp h0_waitingCount pk cpk gpk pg cpg (fun j => (gpg j).map (sg sa)) pp cpp gpp pz cpz gpz pv cpv gpv wg cwg (fun j => (gwg j).map (sg sa)) wp cwp gwp sc tr (sg sa n4) n3 n5 n6 ss sp szs sv sc_length n2 tr tx tr_length ss css (fun j => (gss j).map (sg sa)) sp csp gsp szs cszs gszs sv csv gsv) H := hP
  have hD : va_D A (wz_123 h0 gl fu pa pf sf pk pg pp pz pv h0_reason h0_place sc h0_stepCount h0_open h0_twoSides wg wp h0_waitingCount pk cpk gpk pg cpg (fun j => (gpg j).map (sg sa)) pp cpp gpp pz cpz gpz pv cpv gpv wg cwg (fun j => (gwg j).map (sg sa)) wp cwp gwp sc tr (sg sa n4) n3 n5 n6 ss sp szs sv sc_length n2 tr tx tr_length ss css (fun j => (gss j).map (sg sa)) sp csp gsp szs cszs gszs sv csv gsv) := hD
  refine lv_aload_n hx hb d_PR_readVar_15 rfl (lv_at hl 1 rfl) ?_
  refine va_get (D := (dC, dI)) (ci := 6) (v := .ref sc) (C := R_PR) (T := F_PR) (N := 19) hx hb hts i_PR hown hK hP 0 rfl rfl 12 (by decide) (hts _ kF_PR_43) (fun _ h9 => h9) rfl d_PR_readVar_16 ?_
  refine va_get (D := (dC, dI)) (ci := 8) (v := .int n3) (C := R_SC) (T := F_SC) (N := 11) hx hb hts i_SC hown hK hP 8 rfl rfl 2 (by decide) (hts _ kF_PR_109) (fun _ h9 => h9) rfl d_PR_readVar_19 ?_
  refine lv_istore_n (lv' := [(2, .int n3), (1, .int sc_place), (0, .ref h0)]) hx hb d_PR_readVar_22 rfl hl (by decide) rfl (fun ls hl => ?_)
  refine lv_aload_n hx hb d_PR_readVar_23 rfl (lv_at hl 2 rfl) ?_
  refine va_get (D := (dC, dI)) (ci := 6) (v := .ref sc) (C := R_PR) (T := F_PR) (N := 19) hx hb hts i_PR hown hK hP 0 rfl rfl 12 (by decide) (hts _ kF_PR_43) (fun _ h9 => h9) rfl d_PR_readVar_24 ?_
  refine va_get (D := (dC, dI)) (ci := 8) (v := .int n5) (C := R_SC) (T := F_SC) (N := 11) hx hb hts i_SC hown hK hP 8 rfl rfl 3 (by decide) (hts _ kF_PR_120) (fun _ h9 => h9) rfl d_PR_readVar_27 ?_
  refine lv_istore_n (lv' := [(3, .int n5), (2, .int n3), (1, .int sc_place), (0, .ref h0)]) hx hb d_PR_readVar_30 rfl hl (by decide) rfl (fun ls hl => ?_)
  refine lv_aload_n hx hb d_PR_readVar_31 rfl (lv_at hl 3 rfl) ?_
  refine va_gets (C := "WaferForge$Sign") (n := "NAME") (d := "LWaferForge$Sign;") (v := .ref (sg sa 2)) hx hb ((hSW.2.2.2.1.1 2 (by decide)).1) hS hown (hts _ kF_PR_123) (fun _ h9 => h9) d_PR_readVar_32 ?_
  have hPc := hP.sb (wq := (wz_112 h0 gl fu pa pf sf pk pg pp pz pv h0_reason h0_place sc h0_stepCount h0_open h0_twoSides wg wp h0_waitingCount sc tr (sg sa n4) n3 n5 n6 ss sp szs sv sc_length n2 tr tx tr_length ss css (fun j => (gss j).map (sg sa)) sp csp gsp szs cszs gszs sv csv gsv)) [0, 8, 9, 10, 11, 12, 13] rfl
  have hDc := hD.sb (wq := (wz_112 h0 gl fu pa pf sf pk pg pp pz pv h0_reason h0_place sc h0_stepCount h0_open h0_twoSides wg wp h0_waitingCount sc tr (sg sa n4) n3 n5 n6 ss sp szs sv sc_length n2 tr tx tr_length ss css (fun j => (gss j).map (sg sa)) sp csp gsp szs cszs gszs sv csv gsv)) [0, 8, 9, 10, 11, 12, 13] (by decide) rfl
  have hKc := hK.sb (tyq := [(css, .object "WaferForge$Sign"), (csp, .int), (cszs, .int), (csv, .long)]) [0, 1, 2, 3] rfl
  have hFc := va_free (wc := (wz_112 h0 gl fu pa pf sf pk pg pp pz pv h0_reason h0_place sc h0_stepCount h0_open h0_twoSides wg wp h0_waitingCount sc tr (sg sa n4) n3 n5 n6 ss sp szs sv sc_length n2 tr tx tr_length ss css (fun j => (gss j).map (sg sa)) sp csp gsp szs cszs gszs sv csv gsv)) hD hS hA [0, 8, 9, 10, 11, 12, 13] rfl
  refine tq_callv (tz_runV (As := [.ref (sg sa 2)]) (rest := []) ⟨hx, hb, hml, hown, hts⟩ (c_PR_take l hlt dC dI H.size sa h0 gl fu pa pf sf pk pg pp pz pv sc wg wp tr ss sp szs sv tx css csp cszs csv h0_reason h0_place h0_stepCount h0_open h0_twoSides h0_waitingCount n4 n3 n5 n6 sc_length n2 tr_length gss gsp gszs gsv (bn4) (bn3) (bn5) (b_sc_length) (bn2) (b_tr_length) 2 ((by decide : 2 < 55)) (hsk) (by decide)) (cwV 1 hts (gV kM_PR_126 kV_PR_take kS_PR_take kI_PR kC_PR_take) rfl rfl rfl (by decide +kernel) ⟨Nat.le_of_ble_eq_true rfl, Nat.le_of_ble_eq_true rfl⟩) ⟨fun a U g mk z => by obtain ⟨z0, z1, zP, zK, zD, zS⟩ := z; exact ⟨z0, z1, zP, va_K.moved (u := U) (U := U.calling g mk a) (Vm.Alike.refl U.vm) zK, zD, sw.same (u := U) (U := U.calling g mk a) rfl zS⟩, va_recv hKc hPc (ci := 6) (q0 := 0) rfl rfl, fun U hU hW => ⟨rfl, by rw [hU], va_P.he hU.symm hPc, va_K.moved hW.alike hKc, hDc.weaken (fun _ _ _ _ => trivial), hSW.call hS hFc hW hU⟩⟩ rfl rfl hl.1 rfl (lv_room (Nat.le_of_ble_eq_true rfl)) d_PR_readVar_35 ⟨Nat.le_of_ble_eq_true rfl, Nat.le_of_ble_eq_true rfl⟩) hS (fun q _ h => hFc q h) hFc (fun u t H1 locs ht hvm hw hB hz1 hk1 hS => ?_) (fun xx u t H1 locs ht hvm hw hXX hB hz1 hk1 hS => ?_)
  rotate_left
  · skip
    obtain ⟨n8, n9, n10, n11, n12, n13, n14⟩ := u
    try dsimp only at hw
    obtain ⟨bn10, bn11, bn12, bn13⟩ := hw
    obtain ⟨hP1, hK1, hD1⟩ := hB
    replace hP1 := va_P.he ht hP1
    obtain ⟨hP, hD⟩ := va_join (wr := (wz_126 pk cpk gpk pg cpg (fun j => (gpg j).map (sg sa)) pp cpp gpp pz cpz gpz pv cpv gpv wg cwg (fun j => (gwg j).map (sg sa)) wp cwp gwp)) (w1 := (wz_112 h0 gl fu pa pf sf pk pg pp pz pv n9 n8 sc h0_stepCount h0_open h0_twoSides wg wp h0_waitingCount sc tr (sg sa n12) n11 n13 n14 ss sp szs sv sc_length n10 tr tx tr_length ss css (fun j => (gss j).map (sg sa)) sp csp gsp szs cszs gszs sv csv gsv)) hP hD [0, 8, 9, 10, 11, 12, 13] [1, 2, 3, 4, 5, 6, 7] rfl rfl (by decide) (by decide) hk1 hFc hP1 hD1
    have hP : va_P (dC, dI) cls (wz_127 pk cpk gpk pg cpg (fun j => (gpg j).map (sg sa)) pp cpp gpp pz cpz gpz pv cpv gpv wg cwg (fun j => (gwg j).map (sg sa)) wp cwp gwp h0 gl fu pa pf sf pk pg pp pz pv n9 n8 sc h0_stepCount h0_open h0_twoSides wg wp h0_waitingCount sc tr (sg sa n12) n11 n13 n14 ss sp szs sv sc_length n10 tr tx tr_length ss css (fun j => (gss j).map (sg sa)) sp csp gsp szs cszs gszs sv csv gsv) H1 := hP
    have hD : va_D A (wz_127 pk cpk gpk pg cpg (fun j => (gpg j).map (sg sa)) pp cpp gpp pz cpz gpz pv cpv gpv wg cwg (fun j => (gwg j).map (sg sa)) wp cwp gwp h0 gl fu pa pf sf pk pg pp pz pv n9 n8 sc h0_stepCount h0_open h0_twoSides wg wp h0_waitingCount sc tr (sg sa n12) n11 n13 n14 ss sp szs sv sc_length n10 tr tx tr_length ss css (fun j => (gss j).map (sg sa)) sp csp gsp szs cszs gszs sv csv gsv) := hD
    have hP9 := hP.sb (wq := (wz_121 h0 gl fu pa pf sf pk pg pp pz pv n9 n8 sc h0_stepCount h0_open h0_twoSides wg wp h0_waitingCount sc tr (sg sa n12) n11 n13 n14 ss sp szs sv sc_length n10 tr tx tr_length ss css (fun j => (gss j).map (sg sa)) sp csp gsp szs cszs gszs sv csv gsv pk cpk gpk pg cpg (fun j => (gpg j).map (sg sa)) pp cpp gpp pz cpz gpz pv cpv gpv wg cwg (fun j => (gwg j).map (sg sa)) wp cwp gwp)) [7, 8, 9, 10, 11, 12, 13, 0, 1, 2, 3, 4, 5, 6] rfl
    have hD9 := hD.sb (wq := (wz_121 h0 gl fu pa pf sf pk pg pp pz pv n9 n8 sc h0_stepCount h0_open h0_twoSides wg wp h0_waitingCount sc tr (sg sa n12) n11 n13 n14 ss sp szs sv sc_length n10 tr tx tr_length ss css (fun j => (gss j).map (sg sa)) sp csp gsp szs cszs gszs sv csv gsv pk cpk gpk pg cpg (fun j => (gpg j).map (sg sa)) pp cpp gpp pz cpz gpz pv cpv gpv wg cwg (fun j => (gwg j).map (sg sa)) wp cwp gwp)) [7, 8, 9, 10, 11, 12, 13, 0, 1, 2, 3, 4, 5, 6] (by decide) rfl
    exact tz_leave rfl hno hlocks (fun t ht hW => ⟨⟨(gpg, gpk, gpp, gpv, gpz, gwg, gwp, h0_open, n8, n9, h0_stepCount, h0_twoSides, h0_waitingCount, n10, n11, n12, n13, n14), ⟨⟨b_h0_open, b_h0_stepCount, b_h0_twoSides, b_h0_waitingCount, bn10, bn11, bn12, bn13⟩, by rw [ht]; exact hXX.moved hW.alike⟩, va_P.he ht.symm hP9, va_K.moved hW.alike hK, hD9⟩, hS.F ht⟩) hS.2.2
  obtain ⟨n15, n16, n17, n18, n19, n20, n21⟩ := u
  try dsimp only at hw
  obtain ⟨bn17, bn18, bn19, bn20, xr7⟩ := hw
  try clear hw
  have or7 := hsk
  have er7 := xr7.1
  have hsk := xr7.2.1
  have mr7 := xr7.2.2.1
  have pr7 := sk_pos or7 (by (first | (apply Int.le_antisymm <;> omega) | omega)) (by (first | (apply Int.le_antisymm <;> omega) | omega))
  clear xr7
  have w35 := sk_name or7 er7
  have dr7 := sk_is hsk
  obtain ⟨hP1, hK1, hD1⟩ := hB
  replace hP1 := va_P.he ht hP1
  obtain ⟨hP, hD⟩ := va_join (wr := (wz_126 pk cpk gpk pg cpg (fun j => (gpg j).map (sg sa)) pp cpp gpp pz cpz gpz pv cpv gpv wg cwg (fun j => (gwg j).map (sg sa)) wp cwp gwp)) (w1 := (wz_112 h0 gl fu pa pf sf pk pg pp pz pv n16 n15 sc h0_stepCount h0_open h0_twoSides wg wp h0_waitingCount sc tr (sg sa n19) n18 n20 n21 ss sp szs sv sc_length n17 tr tx tr_length ss css (fun j => (gss j).map (sg sa)) sp csp gsp szs cszs gszs sv csv gsv)) hP hD [0, 8, 9, 10, 11, 12, 13] [1, 2, 3, 4, 5, 6, 7] rfl rfl (by decide) (by decide) hk1 hFc hP1 hD1
  clear hPc hDc hKc hFc hz1 hk1 hP1 hK1 hD1
  rename Heap => H
  have hP : va_P (dC, dI) cls (wz_127 pk cpk gpk pg cpg (fun j => (gpg j).map (sg sa)) pp cpp gpp pz cpz gpz pv cpv gpv wg cwg (fun j => (gwg j).map (sg sa)) wp cwp gwp h0 gl fu pa pf sf pk pg pp pz pv n16 n15 sc h0_stepCount h0_open h0_twoSides wg wp h0_waitingCount sc tr (sg sa n19) n18 n20 n21 ss sp szs sv sc_length n17 tr tx tr_length ss css (fun j => (gss j).map (sg sa)) sp csp gsp szs cszs gszs sv csv gsv) H := hP
  have hD : va_D A (wz_127 pk cpk gpk pg cpg (fun j => (gpg j).map (sg sa)) pp cpp gpp pz cpz gpz pv cpv gpv wg cwg (fun j => (gwg j).map (sg sa)) wp cwp gwp h0 gl fu pa pf sf pk pg pp pz pv n16 n15 sc h0_stepCount h0_open h0_twoSides wg wp h0_waitingCount sc tr (sg sa n19) n18 n20 n21 ss sp szs sv sc_length n17 tr tx tr_length ss css (fun j => (gss j).map (sg sa)) sp csp gsp szs cszs gszs sv csv gsv) := hD
  refine lv_aload_n hx hb d_PR_readVar_38 rfl (lv_at hl 3 rfl) ?_
  refine va_gets (C := "WaferForge$Sign") (n := "COLON") (d := "LWaferForge$Sign;") (v := .ref (sg sa 30)) hx hb ((hSW.2.2.2.1.1 30 (by decide)).1) hS hown (hts _ kF_PR_130) (fun _ h9 => h9) d_PR_readVar_39 ?_
  have hPc := hP.sb (wq := (wz_112 h0 gl fu pa pf sf pk pg pp pz pv n16 n15 sc h0_stepCount h0_open h0_twoSides wg wp h0_waitingCount sc tr (sg sa n19) n18 n20 n21 ss sp szs sv sc_length n17 tr tx tr_length ss css (fun j => (gss j).map (sg sa)) sp csp gsp szs cszs gszs sv csv gsv)) [7, 8, 9, 10, 11, 12, 13] rfl
  have hDc := hD.sb (wq := (wz_112 h0 gl fu pa pf sf pk pg pp pz pv n16 n15 sc h0_stepCount h0_open h0_twoSides wg wp h0_waitingCount sc tr (sg sa n19) n18 n20 n21 ss sp szs sv sc_length n17 tr tx tr_length ss css (fun j => (gss j).map (sg sa)) sp csp gsp szs cszs gszs sv csv gsv)) [7, 8, 9, 10, 11, 12, 13] (by decide) rfl
  have hKc := hK.sb (tyq := [(css, .object "WaferForge$Sign"), (csp, .int), (cszs, .int), (csv, .long)]) [0, 1, 2, 3] rfl
  have hFc := va_free (wc := (wz_112 h0 gl fu pa pf sf pk pg pp pz pv n16 n15 sc h0_stepCount h0_open h0_twoSides wg wp h0_waitingCount sc tr (sg sa n19) n18 n20 n21 ss sp szs sv sc_length n17 tr tx tr_length ss css (fun j => (gss j).map (sg sa)) sp csp gsp szs cszs gszs sv csv gsv)) hD hS hA [7, 8, 9, 10, 11, 12, 13] rfl
  refine tq_callv (tz_runV (As := [.ref (sg sa 30)]) (rest := []) ⟨hx, hb, hml, hown, hts⟩ (c_PR_take l hlt dC dI H.size sa h0 gl fu pa pf sf pk pg pp pz pv sc wg wp tr ss sp szs sv tx css csp cszs csv n16 n15 h0_stepCount h0_open h0_twoSides h0_waitingCount n19 n18 n20 n21 sc_length n17 tr_length gss gsp gszs gsv (bn19) (bn18) (bn20) (b_sc_length) (bn17) (b_tr_length) 30 ((by decide : 30 < 55)) (hsk) (by decide)) (cwV 1 hts (gV kM_PR_126 kV_PR_take kS_PR_take kI_PR kC_PR_take) rfl rfl rfl (by decide +kernel) ⟨Nat.le_of_ble_eq_true rfl, Nat.le_of_ble_eq_true rfl⟩) ⟨fun a U g mk z => by obtain ⟨z0, z1, zP, zK, zD, zS⟩ := z; exact ⟨z0, z1, zP, va_K.moved (u := U) (U := U.calling g mk a) (Vm.Alike.refl U.vm) zK, zD, sw.same (u := U) (U := U.calling g mk a) rfl zS⟩, va_recv hKc hPc (ci := 6) (q0 := 0) rfl rfl, fun U hU hW => ⟨rfl, by rw [hU], va_P.he hU.symm hPc, va_K.moved hW.alike hKc, hDc.weaken (fun _ _ _ _ => trivial), hSW.call hS hFc hW hU⟩⟩ rfl rfl hl.1 rfl (lv_room (Nat.le_of_ble_eq_true rfl)) d_PR_readVar_42 ⟨Nat.le_of_ble_eq_true rfl, Nat.le_of_ble_eq_true rfl⟩) hS (fun q _ h => hFc q h) hFc (fun u t H1 locs ht hvm hw hB hz1 hk1 hS => ?_) (fun xx u t H1 locs ht hvm hw hXX hB hz1 hk1 hS => ?_)
  rotate_left
  · skip
    obtain ⟨n23, n24, n25, n26, n27, n28, n29⟩ := u
    try dsimp only at hw
    obtain ⟨bn25, bn26, bn27, bn28⟩ := hw
    obtain ⟨hP1, hK1, hD1⟩ := hB
    replace hP1 := va_P.he ht hP1
    obtain ⟨hP, hD⟩ := va_join (wr := (wz_126 pk cpk gpk pg cpg (fun j => (gpg j).map (sg sa)) pp cpp gpp pz cpz gpz pv cpv gpv wg cwg (fun j => (gwg j).map (sg sa)) wp cwp gwp)) (w1 := (wz_112 h0 gl fu pa pf sf pk pg pp pz pv n24 n23 sc h0_stepCount h0_open h0_twoSides wg wp h0_waitingCount sc tr (sg sa n27) n26 n28 n29 ss sp szs sv sc_length n25 tr tx tr_length ss css (fun j => (gss j).map (sg sa)) sp csp gsp szs cszs gszs sv csv gsv)) hP hD [7, 8, 9, 10, 11, 12, 13] [0, 1, 2, 3, 4, 5, 6] rfl rfl (by decide) (by decide) hk1 hFc hP1 hD1
    have hP : va_P (dC, dI) cls (wz_127 pk cpk gpk pg cpg (fun j => (gpg j).map (sg sa)) pp cpp gpp pz cpz gpz pv cpv gpv wg cwg (fun j => (gwg j).map (sg sa)) wp cwp gwp h0 gl fu pa pf sf pk pg pp pz pv n24 n23 sc h0_stepCount h0_open h0_twoSides wg wp h0_waitingCount sc tr (sg sa n27) n26 n28 n29 ss sp szs sv sc_length n25 tr tx tr_length ss css (fun j => (gss j).map (sg sa)) sp csp gsp szs cszs gszs sv csv gsv) H1 := hP
    have hD : va_D A (wz_127 pk cpk gpk pg cpg (fun j => (gpg j).map (sg sa)) pp cpp gpp pz cpz gpz pv cpv gpv wg cwg (fun j => (gwg j).map (sg sa)) wp cwp gwp h0 gl fu pa pf sf pk pg pp pz pv n24 n23 sc h0_stepCount h0_open h0_twoSides wg wp h0_waitingCount sc tr (sg sa n27) n26 n28 n29 ss sp szs sv sc_length n25 tr tx tr_length ss css (fun j => (gss j).map (sg sa)) sp csp gsp szs cszs gszs sv csv gsv) := hD
    have hP9 := hP.sb (wq := (wz_121 h0 gl fu pa pf sf pk pg pp pz pv n24 n23 sc h0_stepCount h0_open h0_twoSides wg wp h0_waitingCount sc tr (sg sa n27) n26 n28 n29 ss sp szs sv sc_length n25 tr tx tr_length ss css (fun j => (gss j).map (sg sa)) sp csp gsp szs cszs gszs sv csv gsv pk cpk gpk pg cpg (fun j => (gpg j).map (sg sa)) pp cpp gpp pz cpz gpz pv cpv gpv wg cwg (fun j => (gwg j).map (sg sa)) wp cwp gwp)) [7, 8, 9, 10, 11, 12, 13, 0, 1, 2, 3, 4, 5, 6] rfl
    have hD9 := hD.sb (wq := (wz_121 h0 gl fu pa pf sf pk pg pp pz pv n24 n23 sc h0_stepCount h0_open h0_twoSides wg wp h0_waitingCount sc tr (sg sa n27) n26 n28 n29 ss sp szs sv sc_length n25 tr tx tr_length ss css (fun j => (gss j).map (sg sa)) sp csp gsp szs cszs gszs sv csv gsv pk cpk gpk pg cpg (fun j => (gpg j).map (sg sa)) pp cpp gpp pz cpz gpz pv cpv gpv wg cwg (fun j => (gwg j).map (sg sa)) wp cwp gwp)) [7, 8, 9, 10, 11, 12, 13, 0, 1, 2, 3, 4, 5, 6] (by decide) rfl
    exact tz_leave rfl hno hlocks (fun t ht hW => ⟨⟨(gpg, gpk, gpp, gpv, gpz, gwg, gwp, h0_open, n23, n24, h0_stepCount, h0_twoSides, h0_waitingCount, n25, n26, n27, n28, n29), ⟨⟨b_h0_open, b_h0_stepCount, b_h0_twoSides, b_h0_waitingCount, bn25, bn26, bn27, bn28⟩, by rw [ht]; exact hXX.moved hW.alike⟩, va_P.he ht.symm hP9, va_K.moved hW.alike hK, hD9⟩, hS.F ht⟩) hS.2.2
  obtain ⟨n30, n31, n32, n33, n34, n35, n36⟩ := u
  try dsimp only at hw
  obtain ⟨bn32, bn33, bn34, bn35, xr22⟩ := hw
  try clear hw
  have or22 := hsk
  have er22 := xr22.1
  have hsk := xr22.2.1
  have mr22 := xr22.2.2.1
  have pr22 := sk_pos or22 (by (first | (apply Int.le_antisymm <;> omega) | omega)) (by (first | (apply Int.le_antisymm <;> omega) | omega))
  clear xr22
  have dr22 := sk_is hsk
  obtain ⟨hP1, hK1, hD1⟩ := hB
  replace hP1 := va_P.he ht hP1
  obtain ⟨hP, hD⟩ := va_join (wr := (wz_126 pk cpk gpk pg cpg (fun j => (gpg j).map (sg sa)) pp cpp gpp pz cpz gpz pv cpv gpv wg cwg (fun j => (gwg j).map (sg sa)) wp cwp gwp)) (w1 := (wz_112 h0 gl fu pa pf sf pk pg pp pz pv n31 n30 sc h0_stepCount h0_open h0_twoSides wg wp h0_waitingCount sc tr (sg sa n34) n33 n35 n36 ss sp szs sv sc_length n32 tr tx tr_length ss css (fun j => (gss j).map (sg sa)) sp csp gsp szs cszs gszs sv csv gsv)) hP hD [7, 8, 9, 10, 11, 12, 13] [0, 1, 2, 3, 4, 5, 6] rfl rfl (by decide) (by decide) hk1 hFc hP1 hD1
  clear hPc hDc hKc hFc hz1 hk1 hP1 hK1 hD1
  rename Heap => H
  have hP : va_P (dC, dI) cls (wz_127 pk cpk gpk pg cpg (fun j => (gpg j).map (sg sa)) pp cpp gpp pz cpz gpz pv cpv gpv wg cwg (fun j => (gwg j).map (sg sa)) wp cwp gwp h0 gl fu pa pf sf pk pg pp pz pv n31 n30 sc h0_stepCount h0_open h0_twoSides wg wp h0_waitingCount sc tr (sg sa n34) n33 n35 n36 ss sp szs sv sc_length n32 tr tx tr_length ss css (fun j => (gss j).map (sg sa)) sp csp gsp szs cszs gszs sv csv gsv) H := hP
  have hD : va_D A (wz_127 pk cpk gpk pg cpg (fun j => (gpg j).map (sg sa)) pp cpp gpp pz cpz gpz pv cpv gpv wg cwg (fun j => (gwg j).map (sg sa)) wp cwp gwp h0 gl fu pa pf sf pk pg pp pz pv n31 n30 sc h0_stepCount h0_open h0_twoSides wg wp h0_waitingCount sc tr (sg sa n34) n33 n35 n36 ss sp szs sv sc_length n32 tr tx tr_length ss css (fun j => (gss j).map (sg sa)) sp csp gsp szs cszs gszs sv csv gsv) := hD
  refine lv_aload_n hx hb d_PR_readVar_45 rfl (lv_at hl 3 rfl) ?_
  refine va_get (D := (dC, dI)) (ci := 6) (v := .ref sc) (C := R_PR) (T := F_PR) (N := 19) hx hb hts i_PR hown hK hP 7 rfl rfl 12 (by decide) (hts _ kF_PR_43) (fun _ h9 => h9) rfl d_PR_readVar_46 ?_
  refine va_get (D := (dC, dI)) (ci := 8) (v := .ref (sg sa n34)) (C := R_SC) (T := F_SC) (N := 11) hx hb hts i_SC hown hK hP 8 rfl rfl 1 (by decide) (hts _ kF_PR_93) (fun _ h9 => h9) rfl d_PR_readVar_49 ?_
  refine lv_astore (lv' := [(4, .ref (sg sa n34)), (3, .int n5), (2, .int n3), (1, .int sc_place), (0, .ref h0)]) hx hb d_PR_readVar_52 hl (by decide) rfl (fun ls hl => ?_)
  refine lv_aload_n hx hb d_PR_readVar_54 rfl (lv_at hl 4 rfl) ?_
  have hPc := hP.sb (wq := (wz_112 h0 gl fu pa pf sf pk pg pp pz pv n31 n30 sc h0_stepCount h0_open h0_twoSides wg wp h0_waitingCount sc tr (sg sa n34) n33 n35 n36 ss sp szs sv sc_length n32 tr tx tr_length ss css (fun j => (gss j).map (sg sa)) sp csp gsp szs cszs gszs sv csv gsv)) [7, 8, 9, 10, 11, 12, 13] rfl
  have hDc := hD.sb (wq := (wz_112 h0 gl fu pa pf sf pk pg pp pz pv n31 n30 sc h0_stepCount h0_open h0_twoSides wg wp h0_waitingCount sc tr (sg sa n34) n33 n35 n36 ss sp szs sv sc_length n32 tr tx tr_length ss css (fun j => (gss j).map (sg sa)) sp csp gsp szs cszs gszs sv csv gsv)) [7, 8, 9, 10, 11, 12, 13] (by decide) rfl
  have hKc := hK.sb (tyq := [(css, .object "WaferForge$Sign"), (csp, .int), (cszs, .int), (csv, .long)]) [0, 1, 2, 3] rfl
  have hFc := va_free (wc := (wz_112 h0 gl fu pa pf sf pk pg pp pz pv n31 n30 sc h0_stepCount h0_open h0_twoSides wg wp h0_waitingCount sc tr (sg sa n34) n33 n35 n36 ss sp szs sv sc_length n32 tr tx tr_length ss css (fun j => (gss j).map (sg sa)) sp csp gsp szs cszs gszs sv csv gsv)) hD hS hA [7, 8, 9, 10, 11, 12, 13] rfl
  refine tq_calli (tz_runV (As := []) (rest := []) ⟨hx, hb, hml, hown, hts⟩ (c_PR_takeType l hlt dC dI H.size sa h0 gl fu pa pf sf pk pg pp pz pv sc wg wp tr ss sp szs sv tx css csp cszs csv n31 n30 h0_stepCount h0_open h0_twoSides h0_waitingCount n34 n33 n35 n36 sc_length n32 tr_length gss gsp gszs gsv (bn34) (bn33) (bn35) (b_sc_length) (bn32) (b_tr_length) (hsk)) (cwV 0 hts (gV kM_PR_133 kV_PR_takeType kS_PR_takeType kI_PR kC_PR_takeType) rfl rfl rfl (by decide +kernel) ⟨Nat.le_of_ble_eq_true rfl, Nat.le_of_ble_eq_true rfl⟩) ⟨fun a U g mk z => by obtain ⟨z0, z1, zP, zK, zD, zS⟩ := z; exact ⟨z0, z1, zP, va_K.moved (u := U) (U := U.calling g mk a) (Vm.Alike.refl U.vm) zK, zD, sw.same (u := U) (U := U.calling g mk a) rfl zS⟩, va_recv hKc hPc (ci := 6) (q0 := 0) rfl rfl, fun U hU hW => ⟨rfl, by rw [hU], va_P.he hU.symm hPc, va_K.moved hW.alike hKc, hDc.weaken (fun _ _ _ _ => trivial), hSW.call hS hFc hW hU⟩⟩ rfl rfl hl.1 rfl (lv_room (Nat.le_of_ble_eq_true rfl)) d_PR_readVar_55 ⟨Nat.le_of_ble_eq_true rfl, Nat.le_of_ble_eq_true rfl⟩) hS (fun q _ h => hFc q h) hFc (fun r37 u t H1 locs ht hvm hw hB hz1 hk1 hS => ?_) (fun xx u t H1 locs ht hvm hw hXX hB hz1 hk1 hS => ?_)
  rotate_left
  · skip
    obtain ⟨n38, n39, n40, n41, n42, n43, n44⟩ := u
    try dsimp only at hw
    obtain ⟨bn40, bn41, bn42, bn43⟩ := hw
    obtain ⟨hP1, hK1, hD1⟩ := hB
    replace hP1 := va_P.he ht hP1
    obtain ⟨hP, hD⟩ := va_join (wr := (wz_126 pk cpk gpk pg cpg (fun j => (gpg j).map (sg sa)) pp cpp gpp pz cpz gpz pv cpv gpv wg cwg (fun j => (gwg j).map (sg sa)) wp cwp gwp)) (w1 := (wz_112 h0 gl fu pa pf sf pk pg pp pz pv n39 n38 sc h0_stepCount h0_open h0_twoSides wg wp h0_waitingCount sc tr (sg sa n42) n41 n43 n44 ss sp szs sv sc_length n40 tr tx tr_length ss css (fun j => (gss j).map (sg sa)) sp csp gsp szs cszs gszs sv csv gsv)) hP hD [7, 8, 9, 10, 11, 12, 13] [0, 1, 2, 3, 4, 5, 6] rfl rfl (by decide) (by decide) hk1 hFc hP1 hD1
    have hP : va_P (dC, dI) cls (wz_127 pk cpk gpk pg cpg (fun j => (gpg j).map (sg sa)) pp cpp gpp pz cpz gpz pv cpv gpv wg cwg (fun j => (gwg j).map (sg sa)) wp cwp gwp h0 gl fu pa pf sf pk pg pp pz pv n39 n38 sc h0_stepCount h0_open h0_twoSides wg wp h0_waitingCount sc tr (sg sa n42) n41 n43 n44 ss sp szs sv sc_length n40 tr tx tr_length ss css (fun j => (gss j).map (sg sa)) sp csp gsp szs cszs gszs sv csv gsv) H1 := hP
    have hD : va_D A (wz_127 pk cpk gpk pg cpg (fun j => (gpg j).map (sg sa)) pp cpp gpp pz cpz gpz pv cpv gpv wg cwg (fun j => (gwg j).map (sg sa)) wp cwp gwp h0 gl fu pa pf sf pk pg pp pz pv n39 n38 sc h0_stepCount h0_open h0_twoSides wg wp h0_waitingCount sc tr (sg sa n42) n41 n43 n44 ss sp szs sv sc_length n40 tr tx tr_length ss css (fun j => (gss j).map (sg sa)) sp csp gsp szs cszs gszs sv csv gsv) := hD
    have hP9 := hP.sb (wq := (wz_121 h0 gl fu pa pf sf pk pg pp pz pv n39 n38 sc h0_stepCount h0_open h0_twoSides wg wp h0_waitingCount sc tr (sg sa n42) n41 n43 n44 ss sp szs sv sc_length n40 tr tx tr_length ss css (fun j => (gss j).map (sg sa)) sp csp gsp szs cszs gszs sv csv gsv pk cpk gpk pg cpg (fun j => (gpg j).map (sg sa)) pp cpp gpp pz cpz gpz pv cpv gpv wg cwg (fun j => (gwg j).map (sg sa)) wp cwp gwp)) [7, 8, 9, 10, 11, 12, 13, 0, 1, 2, 3, 4, 5, 6] rfl
    have hD9 := hD.sb (wq := (wz_121 h0 gl fu pa pf sf pk pg pp pz pv n39 n38 sc h0_stepCount h0_open h0_twoSides wg wp h0_waitingCount sc tr (sg sa n42) n41 n43 n44 ss sp szs sv sc_length n40 tr tx tr_length ss css (fun j => (gss j).map (sg sa)) sp csp gsp szs cszs gszs sv csv gsv pk cpk gpk pg cpg (fun j => (gpg j).map (sg sa)) pp cpp gpp pz cpz gpz pv cpv gpv wg cwg (fun j => (gwg j).map (sg sa)) wp cwp gwp)) [7, 8, 9, 10, 11, 12, 13, 0, 1, 2, 3, 4, 5, 6] (by decide) rfl
    exact tz_leave rfl hno hlocks (fun t ht hW => ⟨⟨(gpg, gpk, gpp, gpv, gpz, gwg, gwp, h0_open, n38, n39, h0_stepCount, h0_twoSides, h0_waitingCount, n40, n41, n42, n43, n44), ⟨⟨b_h0_open, b_h0_stepCount, b_h0_twoSides, b_h0_waitingCount, bn40, bn41, bn42, bn43⟩, by rw [ht]; exact hXX.moved hW.alike⟩, va_P.he ht.symm hP9, va_K.moved hW.alike hK, hD9⟩, hS.F ht⟩) hS.2.2
  obtain ⟨n45, n46, n47, n48, n49, n50, n51⟩ := u
  try dsimp only at hw
  obtain ⟨br37, bn47, bn48, bn49, bn50, xr37⟩ := hw
  try clear hw
  have or37 := hsk
  have er37 := xr37.1
  have hsk := xr37.2.1
  have mr37 := xr37.2.2.1
  have pr37 := sk_pos or37 (by (first | (apply Int.le_antisymm <;> omega) | omega)) (by (first | (apply Int.le_antisymm <;> omega) | omega))
  clear xr37
  have dr37 := sk_is hsk
  obtain ⟨hP1, hK1, hD1⟩ := hB
  replace hP1 := va_P.he ht hP1
  obtain ⟨hP, hD⟩ := va_join (wr := (wz_126 pk cpk gpk pg cpg (fun j => (gpg j).map (sg sa)) pp cpp gpp pz cpz gpz pv cpv gpv wg cwg (fun j => (gwg j).map (sg sa)) wp cwp gwp)) (w1 := (wz_112 h0 gl fu pa pf sf pk pg pp pz pv n46 n45 sc h0_stepCount h0_open h0_twoSides wg wp h0_waitingCount sc tr (sg sa n49) n48 n50 n51 ss sp szs sv sc_length n47 tr tx tr_length ss css (fun j => (gss j).map (sg sa)) sp csp gsp szs cszs gszs sv csv gsv)) hP hD [7, 8, 9, 10, 11, 12, 13] [0, 1, 2, 3, 4, 5, 6] rfl rfl (by decide) (by decide) hk1 hFc hP1 hD1
  clear hPc hDc hKc hFc hz1 hk1 hP1 hK1 hD1
  rename Heap => H
  have hP : va_P (dC, dI) cls (wz_127 pk cpk gpk pg cpg (fun j => (gpg j).map (sg sa)) pp cpp gpp pz cpz gpz pv cpv gpv wg cwg (fun j => (gwg j).map (sg sa)) wp cwp gwp h0 gl fu pa pf sf pk pg pp pz pv n46 n45 sc h0_stepCount h0_open h0_twoSides wg wp h0_waitingCount sc tr (sg sa n49) n48 n50 n51 ss sp szs sv sc_length n47 tr tx tr_length ss css (fun j => (gss j).map (sg sa)) sp csp gsp szs cszs gszs sv csv gsv) H := hP
  have hD : va_D A (wz_127 pk cpk gpk pg cpg (fun j => (gpg j).map (sg sa)) pp cpp gpp pz cpz gpz pv cpv gpv wg cwg (fun j => (gwg j).map (sg sa)) wp cwp gwp h0 gl fu pa pf sf pk pg pp pz pv n46 n45 sc h0_stepCount h0_open h0_twoSides wg wp h0_waitingCount sc tr (sg sa n49) n48 n50 n51 ss sp szs sv sc_length n47 tr tx tr_length ss css (fun j => (gss j).map (sg sa)) sp csp gsp szs cszs gszs sv csv gsv) := hD
  refine lv_pop hx hb d_PR_readVar_58 rfl ?_
  refine lv_aload_n hx hb d_PR_readVar_59 rfl (lv_at hl 4 rfl) ?_
  refine va_gets (C := "WaferForge$Sign") (n := "ASSIGN") (d := "LWaferForge$Sign;") (v := .ref (sg sa 33)) hx hb ((hSW.2.2.2.1.1 33 (by decide)).1) hS hown (hts _ kF_PR_137) (fun _ h9 => h9) d_PR_readVar_60 ?_
  have hPc := hP.sb (wq := (wz_112 h0 gl fu pa pf sf pk pg pp pz pv n46 n45 sc h0_stepCount h0_open h0_twoSides wg wp h0_waitingCount sc tr (sg sa n49) n48 n50 n51 ss sp szs sv sc_length n47 tr tx tr_length ss css (fun j => (gss j).map (sg sa)) sp csp gsp szs cszs gszs sv csv gsv)) [7, 8, 9, 10, 11, 12, 13] rfl
  have hDc := hD.sb (wq := (wz_112 h0 gl fu pa pf sf pk pg pp pz pv n46 n45 sc h0_stepCount h0_open h0_twoSides wg wp h0_waitingCount sc tr (sg sa n49) n48 n50 n51 ss sp szs sv sc_length n47 tr tx tr_length ss css (fun j => (gss j).map (sg sa)) sp csp gsp szs cszs gszs sv csv gsv)) [7, 8, 9, 10, 11, 12, 13] (by decide) rfl
  have hKc := hK.sb (tyq := [(css, .object "WaferForge$Sign"), (csp, .int), (cszs, .int), (csv, .long)]) [0, 1, 2, 3] rfl
  have hFc := va_free (wc := (wz_112 h0 gl fu pa pf sf pk pg pp pz pv n46 n45 sc h0_stepCount h0_open h0_twoSides wg wp h0_waitingCount sc tr (sg sa n49) n48 n50 n51 ss sp szs sv sc_length n47 tr tx tr_length ss css (fun j => (gss j).map (sg sa)) sp csp gsp szs cszs gszs sv csv gsv)) hD hS hA [7, 8, 9, 10, 11, 12, 13] rfl
  refine tq_callv (tz_runV (As := [.ref (sg sa 33)]) (rest := []) ⟨hx, hb, hml, hown, hts⟩ (c_PR_take l hlt dC dI H.size sa h0 gl fu pa pf sf pk pg pp pz pv sc wg wp tr ss sp szs sv tx css csp cszs csv n46 n45 h0_stepCount h0_open h0_twoSides h0_waitingCount n49 n48 n50 n51 sc_length n47 tr_length gss gsp gszs gsv (bn49) (bn48) (bn50) (b_sc_length) (bn47) (b_tr_length) 33 ((by decide : 33 < 55)) (hsk) (by decide)) (cwV 1 hts (gV kM_PR_126 kV_PR_take kS_PR_take kI_PR kC_PR_take) rfl rfl rfl (by decide +kernel) ⟨Nat.le_of_ble_eq_true rfl, Nat.le_of_ble_eq_true rfl⟩) ⟨fun a U g mk z => by obtain ⟨z0, z1, zP, zK, zD, zS⟩ := z; exact ⟨z0, z1, zP, va_K.moved (u := U) (U := U.calling g mk a) (Vm.Alike.refl U.vm) zK, zD, sw.same (u := U) (U := U.calling g mk a) rfl zS⟩, va_recv hKc hPc (ci := 6) (q0 := 0) rfl rfl, fun U hU hW => ⟨rfl, by rw [hU], va_P.he hU.symm hPc, va_K.moved hW.alike hKc, hDc.weaken (fun _ _ _ _ => trivial), hSW.call hS hFc hW hU⟩⟩ rfl rfl hl.1 rfl (lv_room (Nat.le_of_ble_eq_true rfl)) d_PR_readVar_63 ⟨Nat.le_of_ble_eq_true rfl, Nat.le_of_ble_eq_true rfl⟩) hS (fun q _ h => hFc q h) hFc (fun u t H1 locs ht hvm hw hB hz1 hk1 hS => ?_) (fun xx u t H1 locs ht hvm hw hXX hB hz1 hk1 hS => ?_)
  rotate_left
  · skip
    obtain ⟨n53, n54, n55, n56, n57, n58, n59⟩ := u
    try dsimp only at hw
    obtain ⟨bn55, bn56, bn57, bn58⟩ := hw
    obtain ⟨hP1, hK1, hD1⟩ := hB
    replace hP1 := va_P.he ht hP1
    obtain ⟨hP, hD⟩ := va_join (wr := (wz_126 pk cpk gpk pg cpg (fun j => (gpg j).map (sg sa)) pp cpp gpp pz cpz gpz pv cpv gpv wg cwg (fun j => (gwg j).map (sg sa)) wp cwp gwp)) (w1 := (wz_112 h0 gl fu pa pf sf pk pg pp pz pv n54 n53 sc h0_stepCount h0_open h0_twoSides wg wp h0_waitingCount sc tr (sg sa n57) n56 n58 n59 ss sp szs sv sc_length n55 tr tx tr_length ss css (fun j => (gss j).map (sg sa)) sp csp gsp szs cszs gszs sv csv gsv)) hP hD [7, 8, 9, 10, 11, 12, 13] [0, 1, 2, 3, 4, 5, 6] rfl rfl (by decide) (by decide) hk1 hFc hP1 hD1
    have hP : va_P (dC, dI) cls (wz_127 pk cpk gpk pg cpg (fun j => (gpg j).map (sg sa)) pp cpp gpp pz cpz gpz pv cpv gpv wg cwg (fun j => (gwg j).map (sg sa)) wp cwp gwp h0 gl fu pa pf sf pk pg pp pz pv n54 n53 sc h0_stepCount h0_open h0_twoSides wg wp h0_waitingCount sc tr (sg sa n57) n56 n58 n59 ss sp szs sv sc_length n55 tr tx tr_length ss css (fun j => (gss j).map (sg sa)) sp csp gsp szs cszs gszs sv csv gsv) H1 := hP
    have hD : va_D A (wz_127 pk cpk gpk pg cpg (fun j => (gpg j).map (sg sa)) pp cpp gpp pz cpz gpz pv cpv gpv wg cwg (fun j => (gwg j).map (sg sa)) wp cwp gwp h0 gl fu pa pf sf pk pg pp pz pv n54 n53 sc h0_stepCount h0_open h0_twoSides wg wp h0_waitingCount sc tr (sg sa n57) n56 n58 n59 ss sp szs sv sc_length n55 tr tx tr_length ss css (fun j => (gss j).map (sg sa)) sp csp gsp szs cszs gszs sv csv gsv) := hD
    have hP9 := hP.sb (wq := (wz_121 h0 gl fu pa pf sf pk pg pp pz pv n54 n53 sc h0_stepCount h0_open h0_twoSides wg wp h0_waitingCount sc tr (sg sa n57) n56 n58 n59 ss sp szs sv sc_length n55 tr tx tr_length ss css (fun j => (gss j).map (sg sa)) sp csp gsp szs cszs gszs sv csv gsv pk cpk gpk pg cpg (fun j => (gpg j).map (sg sa)) pp cpp gpp pz cpz gpz pv cpv gpv wg cwg (fun j => (gwg j).map (sg sa)) wp cwp gwp)) [7, 8, 9, 10, 11, 12, 13, 0, 1, 2, 3, 4, 5, 6] rfl
    have hD9 := hD.sb (wq := (wz_121 h0 gl fu pa pf sf pk pg pp pz pv n54 n53 sc h0_stepCount h0_open h0_twoSides wg wp h0_waitingCount sc tr (sg sa n57) n56 n58 n59 ss sp szs sv sc_length n55 tr tx tr_length ss css (fun j => (gss j).map (sg sa)) sp csp gsp szs cszs gszs sv csv gsv pk cpk gpk pg cpg (fun j => (gpg j).map (sg sa)) pp cpp gpp pz cpz gpz pv cpv gpv wg cwg (fun j => (gwg j).map (sg sa)) wp cwp gwp)) [7, 8, 9, 10, 11, 12, 13, 0, 1, 2, 3, 4, 5, 6] (by decide) rfl
    exact tz_leave rfl hno hlocks (fun t ht hW => ⟨⟨(gpg, gpk, gpp, gpv, gpz, gwg, gwp, h0_open, n53, n54, h0_stepCount, h0_twoSides, h0_waitingCount, n55, n56, n57, n58, n59), ⟨⟨b_h0_open, b_h0_stepCount, b_h0_twoSides, b_h0_waitingCount, bn55, bn56, bn57, bn58⟩, by rw [ht]; exact hXX.moved hW.alike⟩, va_P.he ht.symm hP9, va_K.moved hW.alike hK, hD9⟩, hS.F ht⟩) hS.2.2
  obtain ⟨n60, n61, n62, n63, n64, n65, n66⟩ := u
  try dsimp only at hw
  obtain ⟨bn62, bn63, bn64, bn65, xr52⟩ := hw
  try clear hw
  have or52 := hsk
  have er52 := xr52.1
  have hsk := xr52.2.1
  have mr52 := xr52.2.2.1
  have pr52 := sk_pos or52 (by (first | (apply Int.le_antisymm <;> omega) | omega)) (by (first | (apply Int.le_antisymm <;> omega) | omega))
  clear xr52
  have dr52 := sk_is hsk
  obtain ⟨hP1, hK1, hD1⟩ := hB
  replace hP1 := va_P.he ht hP1
  obtain ⟨hP, hD⟩ := va_join (wr := (wz_126 pk cpk gpk pg cpg (fun j => (gpg j).map (sg sa)) pp cpp gpp pz cpz gpz pv cpv gpv wg cwg (fun j => (gwg j).map (sg sa)) wp cwp gwp)) (w1 := (wz_112 h0 gl fu pa pf sf pk pg pp pz pv n61 n60 sc h0_stepCount h0_open h0_twoSides wg wp h0_waitingCount sc tr (sg sa n64) n63 n65 n66 ss sp szs sv sc_length n62 tr tx tr_length ss css (fun j => (gss j).map (sg sa)) sp csp gsp szs cszs gszs sv csv gsv)) hP hD [7, 8, 9, 10, 11, 12, 13] [0, 1, 2, 3, 4, 5, 6] rfl rfl (by decide) (by decide) hk1 hFc hP1 hD1
  clear hPc hDc hKc hFc hz1 hk1 hP1 hK1 hD1
  rename Heap => H
  have hP : va_P (dC, dI) cls (wz_127 pk cpk gpk pg cpg (fun j => (gpg j).map (sg sa)) pp cpp gpp pz cpz gpz pv cpv gpv wg cwg (fun j => (gwg j).map (sg sa)) wp cwp gwp h0 gl fu pa pf sf pk pg pp pz pv n61 n60 sc h0_stepCount h0_open h0_twoSides wg wp h0_waitingCount sc tr (sg sa n64) n63 n65 n66 ss sp szs sv sc_length n62 tr tx tr_length ss css (fun j => (gss j).map (sg sa)) sp csp gsp szs cszs gszs sv csv gsv) H := hP
  have hD : va_D A (wz_127 pk cpk gpk pg cpg (fun j => (gpg j).map (sg sa)) pp cpp gpp pz cpz gpz pv cpv gpv wg cwg (fun j => (gwg j).map (sg sa)) wp cwp gwp h0 gl fu pa pf sf pk pg pp pz pv n61 n60 sc h0_stepCount h0_open h0_twoSides wg wp h0_waitingCount sc tr (sg sa n64) n63 n65 n66 ss sp szs sv sc_length n62 tr tx tr_length ss css (fun j => (gss j).map (sg sa)) sp csp gsp szs cszs gszs sv csv gsv) := hD
  refine lv_aload_n hx hb d_PR_readVar_66 rfl (lv_at hl 4 rfl) ?_
  have hPc := hP.sb (wq := (wz_121 h0 gl fu pa pf sf pk pg pp pz pv n61 n60 sc h0_stepCount h0_open h0_twoSides wg wp h0_waitingCount sc tr (sg sa n64) n63 n65 n66 ss sp szs sv sc_length n62 tr tx tr_length ss css (fun j => (gss j).map (sg sa)) sp csp gsp szs cszs gszs sv csv gsv pk cpk gpk pg cpg (fun j => (gpg j).map (sg sa)) pp cpp gpp pz cpz gpz pv cpv gpv wg cwg (fun j => (gwg j).map (sg sa)) wp cwp gwp)) [7, 8, 9, 10, 11, 12, 13, 0, 1, 2, 3, 4, 5, 6] rfl
  have hDc := hD.sb (wq := (wz_121 h0 gl fu pa pf sf pk pg pp pz pv n61 n60 sc h0_stepCount h0_open h0_twoSides wg wp h0_waitingCount sc tr (sg sa n64) n63 n65 n66 ss sp szs sv sc_length n62 tr tx tr_length ss css (fun j => (gss j).map (sg sa)) sp csp gsp szs cszs gszs sv csv gsv pk cpk gpk pg cpg (fun j => (gpg j).map (sg sa)) pp cpp gpp pz cpz gpz pv cpv gpv wg cwg (fun j => (gwg j).map (sg sa)) wp cwp gwp)) [7, 8, 9, 10, 11, 12, 13, 0, 1, 2, 3, 4, 5, 6] (by decide) rfl
  have hKc := hK.sb (tyq := [(css, .object "WaferForge$Sign"), (csp, .int), (cszs, .int), (csv, .long), (cpk, .int), (cpg, .object "WaferForge$Sign"), (cpp, .int), (cpz, .int), (cpv, .long), (cwg, .object "WaferForge$Sign"), (cwp, .int)]) [0, 1, 2, 3, 4, 5, 6, 7, 8, 9, 10] rfl
  have hFc := va_free (wc := (wz_121 h0 gl fu pa pf sf pk pg pp pz pv n61 n60 sc h0_stepCount h0_open h0_twoSides wg wp h0_waitingCount sc tr (sg sa n64) n63 n65 n66 ss sp szs sv sc_length n62 tr tx tr_length ss css (fun j => (gss j).map (sg sa)) sp csp gsp szs cszs gszs sv csv gsv pk cpk gpk pg cpg (fun j => (gpg j).map (sg sa)) pp cpp gpp pz cpz gpz pv cpv gpv wg cwg (fun j => (gwg j).map (sg sa)) wp cwp gwp)) hD hS hA [7, 8, 9, 10, 11, 12, 13, 0, 1, 2, 3, 4, 5, 6] rfl
  refine tq_callv (tz_runV (As := []) (rest := []) ⟨hx, hb, hml, hown, hts⟩ (k_readX l hlt 41 dC dI H.size sa h0 gl fu pa pf sf pk pg pp pz pv sc wg wp tr ss sp szs sv tx css csp cszs csv cpk cpg cpp cpz cpv cwg cwp n61 n60 h0_stepCount h0_open h0_twoSides h0_waitingCount n64 n63 n65 n66 sc_length n62 tr_length gss gsp gszs gsv gpk gpg gpp gpz gpv gwg gwp (b_h0_stepCount) (b_h0_open) (b_h0_twoSides) (b_h0_waitingCount) (bn64) (bn63) (bn65) (b_sc_length) (bn62) (b_tr_length) (hsk) (by (try dsimp only) <;> (first | (apply Int.le_antisymm <;> omega) | omega)) (by (try dsimp only) <;> (first | (apply Int.le_antisymm <;> omega) | omega)) (by (try dsimp only) <;> (first | (apply Int.le_antisymm <;> omega) | omega))) (cwV 0 hts (gV kM_PR_223 kV_PR_readX kS_PR_readX kI_PR kC_PR_readX) rfl rfl rfl (by decide +kernel) ⟨Nat.le_of_ble_eq_true rfl, Nat.le_of_ble_eq_true rfl⟩) ⟨fun a U g mk z => by obtain ⟨z0, z1, zP, zK, zD, zS⟩ := z; exact ⟨z0, z1, zP, va_K.moved (u := U) (U := U.calling g mk a) (Vm.Alike.refl U.vm) zK, zD, sw.same (u := U) (U := U.calling g mk a) rfl zS⟩, va_recv hKc hPc (ci := 6) (q0 := 0) rfl rfl, fun U hU hW => ⟨rfl, by rw [hU], va_P.he hU.symm hPc, va_K.moved hW.alike hKc, hDc.weaken (fun _ _ _ _ => trivial), hSW.call hS hFc hW hU⟩⟩ rfl rfl hl.1 rfl (lv_room (Nat.le_of_ble_eq_true rfl)) d_PR_readVar_67 ⟨Nat.le_of_ble_eq_true rfl, Nat.le_of_ble_eq_true rfl⟩) hS (fun q _ h => hFc q h) hFc (fun u t H1 locs ht hvm hw hB hz1 hk1 hS => ?_) (fun xx u t H1 locs ht hvm hw hXX hB hz1 hk1 hS => ?_)
  rotate_left
  · skip
    obtain ⟨n68, n69, n70, n71, n72, n73, n74, n75, n76, n77, hq9r⟩ := u
    obtain ⟨n78, n79, n80, n81, n82, n83, n84, n85⟩ := hq9r
    try dsimp only at hw
    obtain ⟨bn75, bn78, bn79, bn80, bn81, bn82, bn83, bn84⟩ := hw
    obtain ⟨hP1, hK1, hD1⟩ := hB
    replace hP1 := va_P.he ht hP1
    obtain ⟨hP, hD⟩ := va_join (wr := []) (w1 := (wz_121 h0 gl fu pa pf sf pk pg pp pz pv n77 n76 sc n78 n75 n79 wg wp n80 sc tr (sg sa n83) n82 n84 n85 ss sp szs sv sc_length n81 tr tx tr_length ss css (fun j => (gss j).map (sg sa)) sp csp gsp szs cszs gszs sv csv gsv pk cpk n69 pg cpg (fun j => (n68 j).map (sg sa)) pp cpp n70 pz cpz n72 pv cpv n71 wg cwg (fun j => (n73 j).map (sg sa)) wp cwp n74)) hP hD [7, 8, 9, 10, 11, 12, 13, 0, 1, 2, 3, 4, 5, 6] [] rfl rfl (by decide) (by decide) hk1 hFc hP1 hD1
    have hP : va_P (dC, dI) cls (wz_121 h0 gl fu pa pf sf pk pg pp pz pv n77 n76 sc n78 n75 n79 wg wp n80 sc tr (sg sa n83) n82 n84 n85 ss sp szs sv sc_length n81 tr tx tr_length ss css (fun j => (gss j).map (sg sa)) sp csp gsp szs cszs gszs sv csv gsv pk cpk n69 pg cpg (fun j => (n68 j).map (sg sa)) pp cpp n70 pz cpz n72 pv cpv n71 wg cwg (fun j => (n73 j).map (sg sa)) wp cwp n74) H1 := hP
    have hD : va_D A (wz_121 h0 gl fu pa pf sf pk pg pp pz pv n77 n76 sc n78 n75 n79 wg wp n80 sc tr (sg sa n83) n82 n84 n85 ss sp szs sv sc_length n81 tr tx tr_length ss css (fun j => (gss j).map (sg sa)) sp csp gsp szs cszs gszs sv csv gsv pk cpk n69 pg cpg (fun j => (n68 j).map (sg sa)) pp cpp n70 pz cpz n72 pv cpv n71 wg cwg (fun j => (n73 j).map (sg sa)) wp cwp n74) := hD
    have hP9 := hP.sb (wq := (wz_121 h0 gl fu pa pf sf pk pg pp pz pv n77 n76 sc n78 n75 n79 wg wp n80 sc tr (sg sa n83) n82 n84 n85 ss sp szs sv sc_length n81 tr tx tr_length ss css (fun j => (gss j).map (sg sa)) sp csp gsp szs cszs gszs sv csv gsv pk cpk n69 pg cpg (fun j => (n68 j).map (sg sa)) pp cpp n70 pz cpz n72 pv cpv n71 wg cwg (fun j => (n73 j).map (sg sa)) wp cwp n74)) [0, 1, 2, 3, 4, 5, 6, 7, 8, 9, 10, 11, 12, 13] rfl
    have hD9 := hD.sb (wq := (wz_121 h0 gl fu pa pf sf pk pg pp pz pv n77 n76 sc n78 n75 n79 wg wp n80 sc tr (sg sa n83) n82 n84 n85 ss sp szs sv sc_length n81 tr tx tr_length ss css (fun j => (gss j).map (sg sa)) sp csp gsp szs cszs gszs sv csv gsv pk cpk n69 pg cpg (fun j => (n68 j).map (sg sa)) pp cpp n70 pz cpz n72 pv cpv n71 wg cwg (fun j => (n73 j).map (sg sa)) wp cwp n74)) [0, 1, 2, 3, 4, 5, 6, 7, 8, 9, 10, 11, 12, 13] (by decide) rfl
    exact tz_leave rfl hno hlocks (fun t ht hW => ⟨⟨(n68, n69, n70, n71, n72, n73, n74, n75, n76, n77, n78, n79, n80, n81, n82, n83, n84, n85), ⟨⟨bn75, bn78, bn79, bn80, bn81, bn82, bn83, bn84⟩, by rw [ht]; exact hXX.moved hW.alike⟩, va_P.he ht.symm hP9, va_K.moved hW.alike hK, hD9⟩, hS.F ht⟩) hS.2.2
  obtain ⟨n86, n87, n88, n89, n90, n91, n92, n93, n94, n95, hq9r⟩ := u
  obtain ⟨n96, n97, n98, n99, n100, n101, n102, n103⟩ := hq9r
  try dsimp only at hw
  obtain ⟨bn93, bn96, bn97, bn98, bn99, bn100, bn101, bn102, xr67⟩ := hw
  try clear hw
  have or67 := hsk
  obtain ⟨hsk, Xr67, ar67, cr67, wr67, mr67⟩ := xr67
  have nr67 := pX_n Xr67 (by (first | (apply Int.le_antisymm <;> omega) | omega)) (by (first | (apply Int.le_antisymm <;> omega) | omega))
  have dr67 := sk_is hsk
  obtain ⟨hP1, hK1, hD1⟩ := hB
  replace hP1 := va_P.he ht hP1
  obtain ⟨hP, hD⟩ := va_join (wr := []) (w1 := (wz_121 h0 gl fu pa pf sf pk pg pp pz pv n95 n94 sc n96 n93 n97 wg wp n98 sc tr (sg sa n101) n100 n102 n103 ss sp szs sv sc_length n99 tr tx tr_length ss css (fun j => (gss j).map (sg sa)) sp csp gsp szs cszs gszs sv csv gsv pk cpk n87 pg cpg (fun j => (n86 j).map (sg sa)) pp cpp n88 pz cpz n90 pv cpv n89 wg cwg (fun j => (n91 j).map (sg sa)) wp cwp n92)) hP hD [7, 8, 9, 10, 11, 12, 13, 0, 1, 2, 3, 4, 5, 6] [] rfl rfl (by decide) (by decide) hk1 hFc hP1 hD1
  clear hPc hDc hKc hFc hz1 hk1 hP1 hK1 hD1
  rename Heap => H
  have hP : va_P (dC, dI) cls (wz_121 h0 gl fu pa pf sf pk pg pp pz pv n95 n94 sc n96 n93 n97 wg wp n98 sc tr (sg sa n101) n100 n102 n103 ss sp szs sv sc_length n99 tr tx tr_length ss css (fun j => (gss j).map (sg sa)) sp csp gsp szs cszs gszs sv csv gsv pk cpk n87 pg cpg (fun j => (n86 j).map (sg sa)) pp cpp n88 pz cpz n90 pv cpv n89 wg cwg (fun j => (n91 j).map (sg sa)) wp cwp n92) H := hP
  have hD : va_D A (wz_121 h0 gl fu pa pf sf pk pg pp pz pv n95 n94 sc n96 n93 n97 wg wp n98 sc tr (sg sa n101) n100 n102 n103 ss sp szs sv sc_length n99 tr tx tr_length ss css (fun j => (gss j).map (sg sa)) sp csp gsp szs cszs gszs sv csv gsv pk cpk n87 pg cpg (fun j => (n86 j).map (sg sa)) pp cpp n88 pz cpz n90 pv cpv n89 wg cwg (fun j => (n91 j).map (sg sa)) wp cwp n92) := hD
  refine lv_aload_n hx hb d_PR_readVar_70 rfl (lv_at hl 4 rfl) ?_
  refine lv_bipush (v := 8) hx hb d_PR_readVar_71 (by decide) ?_
  refine lv_aload hx hb d_PR_readVar_73 (lv_at hl 0 rfl) ?_
  refine lv_iload_n hx hb d_PR_readVar_75 rfl (lv_at hl 3 rfl) ?_
  refine lv_iload_n hx hb d_PR_readVar_76 rfl (lv_at hl 1 rfl) ?_
  refine lv_iload_n hx hb d_PR_readVar_77 rfl (lv_at hl 2 rfl) ?_
  refine lv_i2l hx hb d_PR_readVar_78 rfl ?_
  refine lv_topl (fun x104 ex104 => ?_)
  have tx104 := i2l_t ex104
  have hPc := hP.sb (wq := (wz_114 h0 gl fu pa pf sf pk pg pp pz pv n95 n94 sc n96 n93 n97 wg wp n98 pk cpk n87 pg cpg (fun j => (n86 j).map (sg sa)) pp cpp n88 pz cpz n90 pv cpv n89)) [0, 7, 8, 9, 10, 11] rfl
  have hDc := hD.sb (wq := (wz_114 h0 gl fu pa pf sf pk pg pp pz pv n95 n94 sc n96 n93 n97 wg wp n98 pk cpk n87 pg cpg (fun j => (n86 j).map (sg sa)) pp cpp n88 pz cpz n90 pv cpv n89)) [0, 7, 8, 9, 10, 11] (by decide) rfl
  have hKc := hK.sb (tyq := [(cpk, .int), (cpg, .object "WaferForge$Sign"), (cpp, .int), (cpz, .int), (cpv, .long)]) [4, 5, 6, 7, 8] rfl
  have hFc := va_free (wc := (wz_114 h0 gl fu pa pf sf pk pg pp pz pv n95 n94 sc n96 n93 n97 wg wp n98 pk cpk n87 pg cpg (fun j => (n86 j).map (sg sa)) pp cpp n88 pz cpz n90 pv cpv n89)) hD hS hA [0, 7, 8, 9, 10, 11] rfl
  refine va_callv (va_runV (As := [.int 8, .ref (sg sa n34), .int sc_place, .int n5, .long x104]) (rest := []) ⟨hx, hb, hml, hown, hts⟩ (c_PR_add l dC dI H.size sa h0 gl fu pa pf sf pk pg pp pz pv sc wg wp cpk cpg cpp cpz cpv n95 n94 n96 n93 n97 n98 n87 n86 n88 n90 n89 (bn96) 8 n34 sc_place n5 x104 (bn34) (by (try dsimp only) <;> (first | (apply Int.le_antisymm <;> omega) | omega))) (cwV 5 hts (gV kM_PR_187 kV_PR_add kS_PR_add kI_PR kC_PR_add) rfl rfl rfl (by decide +kernel) ⟨Nat.le_of_ble_eq_true rfl, Nat.le_of_ble_eq_true rfl⟩) ⟨fun a U g mk z => by obtain ⟨z0, z1, zP, zK, zD, zS⟩ := z; exact ⟨z0, z1, zP, va_K.moved (u := U) (U := U.calling g mk a) (Vm.Alike.refl U.vm) zK, zD, sw.same (u := U) (U := U.calling g mk a) rfl zS⟩, va_recv hKc hPc (ci := 6) (q0 := 0) rfl rfl, fun U hU hW => ⟨rfl, by rw [hU], va_P.he hU.symm hPc, va_K.moved hW.alike hKc, hDc.weaken (fun _ _ _ _ => trivial), hSW.call hS hFc hW hU⟩⟩ rfl rfl hl.1 rfl (lv_room (Nat.le_of_ble_eq_true rfl)) d_PR_readVar_79 ⟨(Nat.zero_le _), (Nat.zero_le _)⟩) hS (fun q _ h => hFc q h) hFc (fun u t H1 locs ht hvm hw hB hz1 hk1 hS => ?_)
  obtain ⟨n106, n107, n108, n109, n110, n111⟩ := u
  try dsimp only at hw
  obtain ⟨bn111, xr105⟩ := hw
  try clear hw
  have sr105 := xr105.1
  have Lr105 := xr105.2
  clear xr105
  have hX9 := pX_ad (pX_mono (B2 := 16 * h0_open.toInt - 9) Xr67 (by (first | (apply Int.le_antisymm <;> omega) | omega)) (Int.le_refl _)) Lr105 (g := fun S => S) (c := 20) (fun S => sS_8 ⟨by (first | (apply Int.le_antisymm <;> omega) | omega), ⟨w35.2.1, w35.2.2.1⟩, ⟨by rw [tx104]; (first | (apply Int.le_antisymm <;> omega) | omega), by rw [tx104]; (first | (apply Int.le_antisymm <;> omega) | omega)⟩, rfl, rfl⟩) (fun S q => lm_s q (by (first | (apply Int.le_antisymm <;> omega) | omega))) (by (first | (apply Int.le_antisymm <;> omega) | omega))
  obtain ⟨hP1, hK1, hD1⟩ := hB
  replace hP1 := va_P.he ht hP1
  obtain ⟨hP, hD⟩ := va_join (wr := (wz_130 sc tr (sg sa n101) n100 n102 n103 ss sp szs sv sc_length n99 tr tx tr_length ss css (fun j => (gss j).map (sg sa)) sp csp gsp szs cszs gszs sv csv gsv wg cwg (fun j => (n91 j).map (sg sa)) wp cwp n92)) (w1 := (wz_114 h0 gl fu pa pf sf pk pg pp pz pv n95 n94 sc n111 n93 n97 wg wp n98 pk cpk n107 pg cpg (fun j => (n106 j).map (sg sa)) pp cpp n108 pz cpz n110 pv cpv n109)) hP hD [0, 7, 8, 9, 10, 11] [1, 2, 3, 4, 5, 6, 12, 13] rfl rfl (by decide) (by decide) hk1 hFc hP1 hD1
  clear hPc hDc hKc hFc hz1 hk1 hP1 hK1 hD1
  rename Heap => H
  have hP : va_P (dC, dI) cls (wz_131 sc tr (sg sa n101) n100 n102 n103 ss sp szs sv sc_length n99 tr tx tr_length ss css (fun j => (gss j).map (sg sa)) sp csp gsp szs cszs gszs sv csv gsv wg cwg (fun j => (n91 j).map (sg sa)) wp cwp n92 h0 gl fu pa pf sf pk pg pp pz pv n95 n94 sc n111 n93 n97 wg wp n98 pk cpk n107 pg cpg (fun j => (n106 j).map (sg sa)) pp cpp n108 pz cpz n110 pv cpv n109) H := hP
  have hD : va_D A (wz_131 sc tr (sg sa n101) n100 n102 n103 ss sp szs sv sc_length n99 tr tx tr_length ss css (fun j => (gss j).map (sg sa)) sp csp gsp szs cszs gszs sv csv gsv wg cwg (fun j => (n91 j).map (sg sa)) wp cwp n92 h0 gl fu pa pf sf pk pg pp pz pv n95 n94 sc n111 n93 n97 wg wp n98 pk cpk n107 pg cpg (fun j => (n106 j).map (sg sa)) pp cpp n108 pz cpz n110 pv cpv n109) := hD
  refine lv_aload_n hx hb d_PR_readVar_82 rfl (lv_at hl 4 rfl) ?_
  refine va_gets (C := "WaferForge$Sign") (n := "SEMICOLON") (d := "LWaferForge$Sign;") (v := .ref (sg sa 31)) hx hb ((hSW.2.2.2.1.1 31 (by decide)).1) hS hown (hts _ kF_PR_153) (fun _ h9 => h9) d_PR_readVar_83 ?_
  have hPc := hP.sb (wq := (wz_112 h0 gl fu pa pf sf pk pg pp pz pv n95 n94 sc n111 n93 n97 wg wp n98 sc tr (sg sa n101) n100 n102 n103 ss sp szs sv sc_length n99 tr tx tr_length ss css (fun j => (gss j).map (sg sa)) sp csp gsp szs cszs gszs sv csv gsv)) [8, 0, 1, 2, 3, 4, 5] rfl
  have hDc := hD.sb (wq := (wz_112 h0 gl fu pa pf sf pk pg pp pz pv n95 n94 sc n111 n93 n97 wg wp n98 sc tr (sg sa n101) n100 n102 n103 ss sp szs sv sc_length n99 tr tx tr_length ss css (fun j => (gss j).map (sg sa)) sp csp gsp szs cszs gszs sv csv gsv)) [8, 0, 1, 2, 3, 4, 5] (by decide) rfl
  have hKc := hK.sb (tyq := [(css, .object "WaferForge$Sign"), (csp, .int), (cszs, .int), (csv, .long)]) [0, 1, 2, 3] rfl
  have hFc := va_free (wc := (wz_112 h0 gl fu pa pf sf pk pg pp pz pv n95 n94 sc n111 n93 n97 wg wp n98 sc tr (sg sa n101) n100 n102 n103 ss sp szs sv sc_length n99 tr tx tr_length ss css (fun j => (gss j).map (sg sa)) sp csp gsp szs cszs gszs sv csv gsv)) hD hS hA [8, 0, 1, 2, 3, 4, 5] rfl
  refine tq_callv (tz_runV (As := [.ref (sg sa 31)]) (rest := []) ⟨hx, hb, hml, hown, hts⟩ (c_PR_take l hlt dC dI H.size sa h0 gl fu pa pf sf pk pg pp pz pv sc wg wp tr ss sp szs sv tx css csp cszs csv n95 n94 n111 n93 n97 n98 n101 n100 n102 n103 sc_length n99 tr_length gss gsp gszs gsv (bn101) (bn100) (bn102) (b_sc_length) (bn99) (b_tr_length) 31 ((by decide : 31 < 55)) (hsk) (by decide)) (cwV 1 hts (gV kM_PR_126 kV_PR_take kS_PR_take kI_PR kC_PR_take) rfl rfl rfl (by decide +kernel) ⟨Nat.le_of_ble_eq_true rfl, Nat.le_of_ble_eq_true rfl⟩) ⟨fun a U g mk z => by obtain ⟨z0, z1, zP, zK, zD, zS⟩ := z; exact ⟨z0, z1, zP, va_K.moved (u := U) (U := U.calling g mk a) (Vm.Alike.refl U.vm) zK, zD, sw.same (u := U) (U := U.calling g mk a) rfl zS⟩, va_recv hKc hPc (ci := 6) (q0 := 0) rfl rfl, fun U hU hW => ⟨rfl, by rw [hU], va_P.he hU.symm hPc, va_K.moved hW.alike hKc, hDc.weaken (fun _ _ _ _ => trivial), hSW.call hS hFc hW hU⟩⟩ rfl rfl hl.1 rfl (lv_room (Nat.le_of_ble_eq_true rfl)) d_PR_readVar_86 ⟨Nat.le_of_ble_eq_true rfl, Nat.le_of_ble_eq_true rfl⟩) hS (fun q _ h => hFc q h) hFc (fun u t H1 locs ht hvm hw hB hz1 hk1 hS => ?_) (fun xx u t H1 locs ht hvm hw hXX hB hz1 hk1 hS => ?_)
  rotate_left
  · skip
    obtain ⟨n113, n114, n115, n116, n117, n118, n119⟩ := u
    try dsimp only at hw
    obtain ⟨bn115, bn116, bn117, bn118⟩ := hw
    obtain ⟨hP1, hK1, hD1⟩ := hB
    replace hP1 := va_P.he ht hP1
    obtain ⟨hP, hD⟩ := va_join (wr := (wz_138 wg cwg (fun j => (n91 j).map (sg sa)) wp cwp n92 pk cpk n107 pg cpg (fun j => (n106 j).map (sg sa)) pp cpp n108 pz cpz n110 pv cpv n109)) (w1 := (wz_112 h0 gl fu pa pf sf pk pg pp pz pv n114 n113 sc n111 n93 n97 wg wp n98 sc tr (sg sa n117) n116 n118 n119 ss sp szs sv sc_length n115 tr tx tr_length ss css (fun j => (gss j).map (sg sa)) sp csp gsp szs cszs gszs sv csv gsv)) hP hD [8, 0, 1, 2, 3, 4, 5] [6, 7, 9, 10, 11, 12, 13] rfl rfl (by decide) (by decide) hk1 hFc hP1 hD1
    have hP : va_P (dC, dI) cls (wz_139 wg cwg (fun j => (n91 j).map (sg sa)) wp cwp n92 pk cpk n107 pg cpg (fun j => (n106 j).map (sg sa)) pp cpp n108 pz cpz n110 pv cpv n109 h0 gl fu pa pf sf pk pg pp pz pv n114 n113 sc n111 n93 n97 wg wp n98 sc tr (sg sa n117) n116 n118 n119 ss sp szs sv sc_length n115 tr tx tr_length ss css (fun j => (gss j).map (sg sa)) sp csp gsp szs cszs gszs sv csv gsv) H1 := hP
    have hD : va_D A (wz_139 wg cwg (fun j => (n91 j).map (sg sa)) wp cwp n92 pk cpk n107 pg cpg (fun j => (n106 j).map (sg sa)) pp cpp n108 pz cpz n110 pv cpv n109 h0 gl fu pa pf sf pk pg pp pz pv n114 n113 sc n111 n93 n97 wg wp n98 sc tr (sg sa n117) n116 n118 n119 ss sp szs sv sc_length n115 tr tx tr_length ss css (fun j => (gss j).map (sg sa)) sp csp gsp szs cszs gszs sv csv gsv) := hD
    have hP9 := hP.sb (wq := (wz_121 h0 gl fu pa pf sf pk pg pp pz pv n114 n113 sc n111 n93 n97 wg wp n98 sc tr (sg sa n117) n116 n118 n119 ss sp szs sv sc_length n115 tr tx tr_length ss css (fun j => (gss j).map (sg sa)) sp csp gsp szs cszs gszs sv csv gsv pk cpk n107 pg cpg (fun j => (n106 j).map (sg sa)) pp cpp n108 pz cpz n110 pv cpv n109 wg cwg (fun j => (n91 j).map (sg sa)) wp cwp n92)) [7, 8, 9, 10, 11, 12, 13, 2, 3, 4, 5, 6, 0, 1] rfl
    have hD9 := hD.sb (wq := (wz_121 h0 gl fu pa pf sf pk pg pp pz pv n114 n113 sc n111 n93 n97 wg wp n98 sc tr (sg sa n117) n116 n118 n119 ss sp szs sv sc_length n115 tr tx tr_length ss css (fun j => (gss j).map (sg sa)) sp csp gsp szs cszs gszs sv csv gsv pk cpk n107 pg cpg (fun j => (n106 j).map (sg sa)) pp cpp n108 pz cpz n110 pv cpv n109 wg cwg (fun j => (n91 j).map (sg sa)) wp cwp n92)) [7, 8, 9, 10, 11, 12, 13, 2, 3, 4, 5, 6, 0, 1] (by decide) rfl
    exact tz_leave rfl hno hlocks (fun t ht hW => ⟨⟨(n106, n107, n108, n109, n110, n91, n92, n93, n113, n114, n111, n97, n98, n115, n116, n117, n118, n119), ⟨⟨bn93, bn111, bn97, bn98, bn115, bn116, bn117, bn118⟩, by rw [ht]; exact hXX.moved hW.alike⟩, va_P.he ht.symm hP9, va_K.moved hW.alike hK, hD9⟩, hS.F ht⟩) hS.2.2
  obtain ⟨n120, n121, n122, n123, n124, n125, n126⟩ := u
  try dsimp only at hw
  obtain ⟨bn122, bn123, bn124, bn125, xr112⟩ := hw
  try clear hw
  have or112 := hsk
  have er112 := xr112.1
  have hsk := xr112.2.1
  have mr112 := xr112.2.2.1
  have pr112 := sk_pos or112 (by (first | (apply Int.le_antisymm <;> omega) | omega)) (by (first | (apply Int.le_antisymm <;> omega) | omega))
  clear xr112
  have dr112 := sk_is hsk
  obtain ⟨hP1, hK1, hD1⟩ := hB
  replace hP1 := va_P.he ht hP1
  obtain ⟨hP, hD⟩ := va_join (wr := (wz_138 wg cwg (fun j => (n91 j).map (sg sa)) wp cwp n92 pk cpk n107 pg cpg (fun j => (n106 j).map (sg sa)) pp cpp n108 pz cpz n110 pv cpv n109)) (w1 := (wz_112 h0 gl fu pa pf sf pk pg pp pz pv n121 n120 sc n111 n93 n97 wg wp n98 sc tr (sg sa n124) n123 n125 n126 ss sp szs sv sc_length n122 tr tx tr_length ss css (fun j => (gss j).map (sg sa)) sp csp gsp szs cszs gszs sv csv gsv)) hP hD [8, 0, 1, 2, 3, 4, 5] [6, 7, 9, 10, 11, 12, 13] rfl rfl (by decide) (by decide) hk1 hFc hP1 hD1
  clear hPc hDc hKc hFc hz1 hk1 hP1 hK1 hD1
  rename Heap => H
  have hP : va_P (dC, dI) cls (wz_139 wg cwg (fun j => (n91 j).map (sg sa)) wp cwp n92 pk cpk n107 pg cpg (fun j => (n106 j).map (sg sa)) pp cpp n108 pz cpz n110 pv cpv n109 h0 gl fu pa pf sf pk pg pp pz pv n121 n120 sc n111 n93 n97 wg wp n98 sc tr (sg sa n124) n123 n125 n126 ss sp szs sv sc_length n122 tr tx tr_length ss css (fun j => (gss j).map (sg sa)) sp csp gsp szs cszs gszs sv csv gsv) H := hP
  have hD : va_D A (wz_139 wg cwg (fun j => (n91 j).map (sg sa)) wp cwp n92 pk cpk n107 pg cpg (fun j => (n106 j).map (sg sa)) pp cpp n108 pz cpz n110 pv cpv n109 h0 gl fu pa pf sf pk pg pp pz pv n121 n120 sc n111 n93 n97 wg wp n98 sc tr (sg sa n124) n123 n125 n126 ss sp szs sv sc_length n122 tr tx tr_length ss css (fun j => (gss j).map (sg sa)) sp csp gsp szs cszs gszs sv csv gsv) := hD
  have hP9 := hP.sb (wq := (wz_121 h0 gl fu pa pf sf pk pg pp pz pv n121 n120 sc n111 n93 n97 wg wp n98 sc tr (sg sa n124) n123 n125 n126 ss sp szs sv sc_length n122 tr tx tr_length ss css (fun j => (gss j).map (sg sa)) sp csp gsp szs cszs gszs sv csv gsv pk cpk n107 pg cpg (fun j => (n106 j).map (sg sa)) pp cpp n108 pz cpz n110 pv cpv n109 wg cwg (fun j => (n91 j).map (sg sa)) wp cwp n92)) [7, 8, 9, 10, 11, 12, 13, 2, 3, 4, 5, 6, 0, 1] rfl
  have hD9 := hD.sb (wq := (wz_121 h0 gl fu pa pf sf pk pg pp pz pv n121 n120 sc n111 n93 n97 wg wp n98 sc tr (sg sa n124) n123 n125 n126 ss sp szs sv sc_length n122 tr tx tr_length ss css (fun j => (gss j).map (sg sa)) sp csp gsp szs cszs gszs sv csv gsv pk cpk n107 pg cpg (fun j => (n106 j).map (sg sa)) pp cpp n108 pz cpz n110 pv cpv n109 wg cwg (fun j => (n91 j).map (sg sa)) wp cwp n92)) [7, 8, 9, 10, 11, 12, 13, 2, 3, 4, 5, 6, 0, 1] (by decide) rfl
  exact tz_up (fun _ => rfl) (W.vret hx hb hr (fun t ht hW => ⟨⟨(n106, n107, n108, n109, n110, n91, n92, n93, n120, n121, n111, n97, n98, n122, n123, n124, n125, n126), ⟨rfl, ⟨bn93, bn111, bn97, bn98, bn122, bn123, bn124, bn125, ⟨hsk, pX_mono hX9 (by (first | (apply Int.le_antisymm <;> omega) | omega)) (by (try dsimp only) <;> (first | (apply Int.le_antisymm <;> omega) | omega)), by (try dsimp only) <;> (first | (apply Int.le_antisymm <;> omega) | omega), by (try dsimp only) <;> (first | (apply Int.le_antisymm <;> omega) | omega), wr67, by (try dsimp only) <;> (first | (apply Int.le_antisymm <;> omega) | omega)⟩⟩⟩, va_P.he ht.symm hP9, va_K.moved hW.alike hK, hD9⟩, hS.F ht⟩) hS.2.2 d_PR_readVar_89)
abbrev b_PR_readReturn : ByteArray := prog_8_method_13_code
def y_PR_readReturn : MethodName := ⟨R_PR, "readReturn", "()V"⟩
abbrev w_PR_readReturn : List Cond := .code y_PR_readReturn b_PR_readReturn 3 none :: lw_g
theorem kC_PR_readReturn : Cond.code y_PR_readReturn b_PR_readReturn 3 none ∈ lw_g := in_c5 102 rfl rfl
theorem d_PR_readReturn_0 : decode b_PR_readReturn 0 = .ok (.aload_n 0, 1) := bz_c42 (by decide +kernel)
theorem d_PR_readReturn_1 : decode b_PR_readReturn 1 = .ok (.getfield 43, 3) := bz_c180 (by decide +kernel)
theorem d_PR_readReturn_4 : decode b_PR_readReturn 4 = .ok (.getfield 109, 3) := bz_c180 (by decide +kernel)
theorem d_PR_readReturn_7 : decode b_PR_readReturn 7 = .ok (.istore_n 1, 1) := bz_c60 (by decide +kernel)
theorem d_PR_readReturn_8 : decode b_PR_readReturn 8 = .ok (.aload_n 0, 1) := bz_c42 (by decide +kernel)
theorem d_PR_readReturn_9 : decode b_PR_readReturn 9 = .ok (.getfield 43, 3) := bz_c180 (by decide +kernel)
theorem d_PR_readReturn_12 : decode b_PR_readReturn 12 = .ok (.invokevirtual 114, 3) := bz_c182 (by decide +kernel)
theorem d_PR_readReturn_15 : decode b_PR_readReturn 15 = .ok (.aload_n 0, 1) := bz_c42 (by decide +kernel)
theorem d_PR_readReturn_16 : decode b_PR_readReturn 16 = .ok (.getfield 43, 3) := bz_c180 (by decide +kernel)
theorem d_PR_readReturn_19 : decode b_PR_readReturn 19 = .ok (.getfield 93, 3) := bz_c180 (by decide +kernel)
theorem d_PR_readReturn_22 : decode b_PR_readReturn 22 = .ok (.getstatic 153, 3) := bz_c178 (by decide +kernel)
theorem d_PR_readReturn_25 : decode b_PR_readReturn 25 = .ok (.if_acmp .eq 7, 3) := bz_c165 (by decide +kernel)
theorem d_PR_readReturn_28 : decode b_PR_readReturn 28 = .ok (.iconst 1, 1) := bz_c4 (by decide +kernel)
theorem d_PR_readReturn_29 : decode b_PR_readReturn 29 = .ok (.goto 4, 3) := bz_c167 (by decide +kernel)
theorem d_PR_readReturn_32 : decode b_PR_readReturn 32 = .ok (.iconst 0, 1) := bz_c3 (by decide +kernel)
theorem d_PR_readReturn_33 : decode b_PR_readReturn 33 = .ok (.istore_n 2, 1) := bz_c61 (by decide +kernel)
theorem d_PR_readReturn_34 : decode b_PR_readReturn 34 = .ok (.iload_n 2, 1) := bz_c28 (by decide +kernel)
theorem d_PR_readReturn_35 : decode b_PR_readReturn 35 = .ok (.ifCond .eq 7, 3) := bz_c153 (by decide +kernel)
theorem d_PR_readReturn_38 : decode b_PR_readReturn 38 = .ok (.aload_n 0, 1) := bz_c42 (by decide +kernel)
theorem d_PR_readReturn_39 : decode b_PR_readReturn 39 = .ok (.invokevirtual 223, 3) := bz_c182 (by decide +kernel)
theorem d_PR_readReturn_42 : decode b_PR_readReturn 42 = .ok (.aload_n 0, 1) := bz_c42 (by decide +kernel)
theorem d_PR_readReturn_43 : decode b_PR_readReturn 43 = .ok (.bipush 11, 2) := bz_c16 (by decide +kernel)
theorem d_PR_readReturn_45 : decode b_PR_readReturn 45 = .ok (.getstatic 235, 3) := bz_c178 (by decide +kernel)
theorem d_PR_readReturn_48 : decode b_PR_readReturn 48 = .ok (.iload_n 1, 1) := bz_c27 (by decide +kernel)
theorem d_PR_readReturn_49 : decode b_PR_readReturn 49 = .ok (.iconst 0, 1) := bz_c3 (by decide +kernel)
theorem d_PR_readReturn_50 : decode b_PR_readReturn 50 = .ok (.iload_n 2, 1) := bz_c28 (by decide +kernel)
theorem d_PR_readReturn_51 : decode b_PR_readReturn 51 = .ok (.ifCond .eq 7, 3) := bz_c153 (by decide +kernel)
theorem d_PR_readReturn_54 : decode b_PR_readReturn 54 = .ok (.lconst 1, 1) := bz_c10 (by decide +kernel)
theorem d_PR_readReturn_55 : decode b_PR_readReturn 55 = .ok (.goto 4, 3) := bz_c167 (by decide +kernel)
theorem d_PR_readReturn_58 : decode b_PR_readReturn 58 = .ok (.lconst 0, 1) := bz_c9 (by decide +kernel)
theorem d_PR_readReturn_59 : decode b_PR_readReturn 59 = .ok (.invokevirtual 187, 3) := bz_c182 (by decide +kernel)
theorem d_PR_readReturn_62 : decode b_PR_readReturn 62 = .ok (.aload_n 0, 1) := bz_c42 (by decide +kernel)
theorem d_PR_readReturn_63 : decode b_PR_readReturn 63 = .ok (.getstatic 153, 3) := bz_c178 (by decide +kernel)
theorem d_PR_readReturn_66 : decode b_PR_readReturn 66 = .ok (.invokevirtual 126, 3) := bz_c182 (by decide +kernel)
theorem d_PR_readReturn_69 : decode b_PR_readReturn 69 = .ok (.return_, 1) := bz_c177 (by decide +kernel)
theorem kF_PR_235 : Cond.fieldLink R_PR 235 "WaferForge$Sign" "RETURN" "LWaferForge$Sign;" ∈ lw_g := in_c5 103 rfl rfl
abbrev at_PR_readReturn (dC : Nat → ClassId) (dI : Nat → Nat → Nat) (sa : Nat → Nat) (h0 gl fu pa pf sf pk pg pp pz pv sc wg wp tr ss sp szs sv tx : Nat) (css csp cszs csv cpk cpg cpp cpz cpv cwg cwp : ClassId) (sc_length : Int32) (tr_length : Int32) (gss : Nat → Option Nat) (gsp : Nat → Int32) (gszs : Nat → Int32) (gsv : Nat → Int64) (A : Nat → Prop) (u : (Nat → Option Nat) × (Nat → Int32) × (Nat → Int32) × (Nat → Int64) × (Nat → Int32) × (Nat → Option Nat) × (Nat → Int32) × Int32 × Int32 × Int32 × Int32 × Int32 × Int32 × Int32 × Int32 × Nat × Int32 × Int64) (t : State) : Prop := match u with | (gpg, gpk, gpp, gpv, gpz, gwg, gwp, h0_open, h0_place, h0_reason, h0_stepCount, h0_twoSides, h0_waitingCount, sc_at, sc_place, sc_sign, sc_size, sc_value) => va_P (dC, dI) cls (wz_121 h0 gl fu pa pf sf pk pg pp pz pv h0_reason h0_place sc h0_stepCount h0_open h0_twoSides wg wp h0_waitingCount sc tr (sg sa sc_sign) sc_place sc_size sc_value ss sp szs sv sc_length sc_at tr tx tr_length ss css (fun j => (gss j).map (sg sa)) sp csp gsp szs cszs gszs sv csv gsv pk cpk gpk pg cpg (fun j => (gpg j).map (sg sa)) pp cpp gpp pz cpz gpz pv cpv gpv wg cwg (fun j => (gwg j).map (sg sa)) wp cwp gwp) t.heap ∧ va_K (dC, dI) cls [(css, .object "WaferForge$Sign"), (csp, .int), (cszs, .int), (csv, .long), (cpk, .int), (cpg, .object "WaferForge$Sign"), (cpp, .int), (cpz, .int), (cpv, .long), (cwg, .object "WaferForge$Sign"), (cwp, .int)] t ∧ va_D A (wz_121 h0 gl fu pa pf sf pk pg pp pz pv h0_reason h0_place sc h0_stepCount h0_open h0_twoSides wg wp h0_waitingCount sc tr (sg sa sc_sign) sc_place sc_size sc_value ss sp szs sv sc_length sc_at tr tx tr_length ss css (fun j => (gss j).map (sg sa)) sp csp gsp szs cszs gszs sv csv gsv pk cpk gpk pg cpg (fun j => (gpg j).map (sg sa)) pp cpp gpp pz cpz gpz pv cpv gpv wg cwg (fun j => (gwg j).map (sg sa)) wp cwp gwp)
set_option maxHeartbeats 4000000 in
set_option maxRecDepth 100000 in
theorem c_PR_readReturn (l : Launch) (hlt : l.stackTraces = false) (dC : Nat → ClassId) (dI : Nat → Nat → Nat) (sz : Nat) (sa : Nat → Nat) (h0 gl fu pa pf sf pk pg pp pz pv sc wg wp tr ss sp szs sv tx : Nat) (css csp cszs csv cpk cpg cpp cpz cpv cwg cwp : ClassId) (h0_reason : Int32) (h0_place : Int32) (h0_stepCount : Int32) (h0_open : Int32) (h0_twoSides : Int32) (h0_waitingCount : Int32) (sc_sign : Nat) (sc_place : Int32) (sc_size : Int32) (sc_value : Int64) (sc_length : Int32) (sc_at : Int32) (tr_length : Int32) (gss : Nat → Option Nat) (gsp : Nat → Int32) (gszs : Nat → Int32) (gsv : Nat → Int64) (gpk : Nat → Int32) (gpg : Nat → Option Nat) (gpp : Nat → Int32) (gpz : Nat → Int32) (gpv : Nat → Int64) (gwg : Nat → Option Nat) (gwp : Nat → Int32)  (b_h0_stepCount : 0 ≤ h0_stepCount.toInt ∧ h0_stepCount.toInt ≤ 4100) (b_h0_open : 0 ≤ h0_open.toInt ∧ h0_open.toInt ≤ 40) (b_h0_twoSides : 0 ≤ h0_twoSides.toInt ∧ h0_twoSides.toInt ≤ 400) (b_h0_waitingCount : 0 ≤ h0_waitingCount.toInt ∧ h0_waitingCount.toInt ≤ 360) (b_sc_sign : sc_sign < 55) (b_sc_place : 0 ≤ sc_place.toInt ∧ sc_place.toInt ≤ 2000) (b_sc_size : 0 ≤ sc_size.toInt ∧ sc_size.toInt ≤ 2000) (b_sc_length : 0 ≤ sc_length.toInt ∧ sc_length.toInt ≤ 2001) (b_sc_at : -1 ≤ sc_at.toInt ∧ sc_at.toInt ≤ 2000) (b_tr_length : 0 ≤ tr_length.toInt ∧ tr_length.toInt ≤ 2000)   (hsk : sk tr_length.toInt sc_length.toInt sc_at.toInt sc_sign sc_place sc_size sc_value gss gsp gszs gsv) (hst : 10 * h0_stepCount.toInt ≤ 20 * sc_place.toInt) (hwc : h0_waitingCount.toInt ≤ 8 * h0_open.toInt) (hsg : sc_sign = 13) : tz_Met l y_PR_readReturn w_PR_readReturn ({ frames := 221, cells := 1, slots := 6, locals := 5242 }) (va_Pc [.ref h0] (fun U => U.heap.size = sz ∧ va_P (dC, dI) cls (wz_121 h0 gl fu pa pf sf pk pg pp pz pv h0_reason h0_place sc h0_stepCount h0_open h0_twoSides wg wp h0_waitingCount sc tr (sg sa sc_sign) sc_place sc_size sc_value ss sp szs sv sc_length sc_at tr tx tr_length ss css (fun j => (gss j).map (sg sa)) sp csp gsp szs cszs gszs sv csv gsv pk cpk gpk pg cpg (fun j => (gpg j).map (sg sa)) pp cpp gpp pz cpz gpz pv cpv gpv wg cwg (fun j => (gwg j).map (sg sa)) wp cwp gwp) U.heap ∧ va_K (dC, dI) cls [(css, .object "WaferForge$Sign"), (csp, .int), (cszs, .int), (csv, .long), (cpk, .int), (cpg, .object "WaferForge$Sign"), (cpp, .int), (cpz, .int), (cpv, .long), (cwg, .object "WaferForge$Sign"), (cwp, .int)] U ∧ va_D (fun _ => True) (wz_121 h0 gl fu pa pf sf pk pg pp pz pv h0_reason h0_place sc h0_stepCount h0_open h0_twoSides wg wp h0_waitingCount sc tr (sg sa sc_sign) sc_place sc_size sc_value ss sp szs sv sc_length sc_at tr tx tr_length ss css (fun j => (gss j).map (sg sa)) sp csp gsp szs cszs gszs sv csv gsv pk cpk gpk pg cpg (fun j => (gpg j).map (sg sa)) pp cpp gpp pz cpz gpz pv cpv gpv wg cwg (fun j => (gwg j).map (sg sa)) wp cwp gwp) ∧ sw sa (va_A (wz_121 h0 gl fu pa pf sf pk pg pp pz pv h0_reason h0_place sc h0_stepCount h0_open h0_twoSides wg wp h0_waitingCount sc tr (sg sa sc_sign) sc_place sc_size sc_value ss sp szs sv sc_length sc_at tr tx tr_length ss css (fun j => (gss j).map (sg sa)) sp csp gsp szs cszs gszs sv csv gsv pk cpk gpk pg cpg (fun j => (gpg j).map (sg sa)) pp cpp gpp pz cpz gpz pv cpv gpv wg cwg (fun j => (gwg j).map (sg sa)) wp cwp gwp) sz) U U.heap)) (tq_Q (tq_v (fun (u : (Nat → Option Nat) × (Nat → Int32) × (Nat → Int32) × (Nat → Int64) × (Nat → Int32) × (Nat → Option Nat) × (Nat → Int32) × Int32 × Int32 × Int32 × Int32 × Int32 × Int32 × Int32 × Int32 × Nat × Int32 × Int64) => match u with | (gpg2, gpk2, gpp2, gpv2, gpz2, gwg2, gwp2, h0_open2, h0_place2, h0_reason2, h0_stepCount2, h0_twoSides2, h0_waitingCount2, sc_at2, sc_place2, sc_sign2, sc_size2, sc_value2) => (0 ≤ h0_open2.toInt ∧ h0_open2.toInt ≤ 40) ∧ (0 ≤ h0_stepCount2.toInt ∧ h0_stepCount2.toInt ≤ 4100) ∧ (0 ≤ h0_twoSides2.toInt ∧ h0_twoSides2.toInt ≤ 400) ∧ (0 ≤ h0_waitingCount2.toInt ∧ h0_waitingCount2.toInt ≤ 360) ∧ (-1 ≤ sc_at2.toInt ∧ sc_at2.toInt ≤ 2000) ∧ (0 ≤ sc_place2.toInt ∧ sc_place2.toInt ≤ 2000) ∧ (sc_sign2 < 55) ∧ (0 ≤ sc_size2.toInt ∧ sc_size2.toInt ≤ 2000) ∧ (sk tr_length.toInt sc_length.toInt sc_at2.toInt sc_sign2 sc_place2 sc_size2 sc_value2 gss gsp gszs gsv ∧ pX (16 * h0_open.toInt - 9) (fun S => S) (sl gpk gpg gpp gpz gpv h0_stepCount.toInt) (sl gpk2 gpg2 gpp2 gpz2 gpv2 h0_stepCount2.toInt) (20 * sc_place2.toInt - 20 * sc_place.toInt - 0) ∧ h0_open2.toInt = h0_open.toInt ∧ h0_waitingCount2.toInt = h0_waitingCount.toInt ∧ wk h0_waitingCount.toInt gwg gwg2 ∧ sc_place.toInt ≤ sc_place2.toInt)) "java/lang/UnsupportedOperationException" (fun (u : (Nat → Option Nat) × (Nat → Int32) × (Nat → Int32) × (Nat → Int64) × (Nat → Int32) × (Nat → Option Nat) × (Nat → Int32) × Int32 × Int32 × Int32 × Int32 × Int32 × Int32 × Int32 × Int32 × Nat × Int32 × Int64) => match u with | (gpg2, gpk2, gpp2, gpv2, gpz2, gwg2, gwp2, h0_open2, h0_place2, h0_reason2, h0_stepCount2, h0_twoSides2, h0_waitingCount2, sc_at2, sc_place2, sc_sign2, sc_size2, sc_value2) => (0 ≤ h0_open2.toInt ∧ h0_open2.toInt ≤ 40) ∧ (0 ≤ h0_stepCount2.toInt ∧ h0_stepCount2.toInt ≤ 4100) ∧ (0 ≤ h0_twoSides2.toInt ∧ h0_twoSides2.toInt ≤ 400) ∧ (0 ≤ h0_waitingCount2.toInt ∧ h0_waitingCount2.toInt ≤ 360) ∧ (-1 ≤ sc_at2.toInt ∧ sc_at2.toInt ≤ 2000) ∧ (0 ≤ sc_place2.toInt ∧ sc_place2.toInt ≤ 2000) ∧ (sc_sign2 < 55) ∧ (0 ≤ sc_size2.toInt ∧ sc_size2.toInt ≤ 2000))) (at_PR_readReturn dC dI sa h0 gl fu pa pf sf pk pg pp pz pv sc wg wp tr ss sp szs sv tx css csp cszs csv cpk cpg cpp cpz cpv cwg cwp sc_length tr_length gss gsp gszs gsv (va_A (wz_121 h0 gl fu pa pf sf pk pg pp pz pv h0_reason h0_place sc h0_stepCount h0_open h0_twoSides wg wp h0_waitingCount sc tr (sg sa sc_sign) sc_place sc_size sc_value ss sp szs sv sc_length sc_at tr tx tr_length ss css (fun j => (gss j).map (sg sa)) sp csp gsp szs cszs gszs sv csv gsv pk cpk gpk pg cpg (fun j => (gpg j).map (sg sa)) pp cpp gpp pz cpz gpz pv cpv gpv wg cwg (fun j => (gwg j).map (sg sa)) wp cwp gwp) sz)) (va_A (wz_121 h0 gl fu pa pf sf pk pg pp pz pv h0_reason h0_place sc h0_stepCount h0_open h0_twoSides wg wp h0_waitingCount sc tr (sg sa sc_sign) sc_place sc_size sc_value ss sp szs sv sc_length sc_at tr tx tr_length ss css (fun j => (gss j).map (sg sa)) sp csp gsp szs cszs gszs sv csv gsv pk cpk gpk pg cpg (fun j => (gpg j).map (sg sa)) pp cpp gpp pz cpz gpz pv cpv gpv wg cwg (fun j => (gwg j).map (sg sa)) wp cwp gwp) sz)) (tz_k 0 0 1 6) (va_A (wz_121 h0 gl fu pa pf sf pk pg pp pz pv h0_reason h0_place sc h0_stepCount h0_open h0_twoSides wg wp h0_waitingCount sc tr (sg sa sc_sign) sc_place sc_size sc_value ss sp szs sv sc_length sc_at tr tx tr_length ss css (fun j => (gss j).map (sg sa)) sp csp gsp szs cszs gszs sv csv gsv pk cpk gpk pg cpg (fun j => (gpg j).map (sg sa)) pp cpp gpp pz cpz gpz pv cpv gpv wg cwg (fun j => (gwg j).map (sg sa)) wp cwp gwp) sz) := by
  refine tz_ofW (cc := b_PR_readReturn) (maxL := 3) (ret := none) (by decide) rfl ?_
  intro p e s m args below meth c s₁ B hml hno hv
  obtain ⟨rfl, hsz, hP, hK, hD0, hSW⟩ := hv
  have hx := B.exec
  have hb := B.bytes
  have hr := B.returns
  have hts0 := atoms_spec (ws := w_PR_readReturn) B.pre
  have hts : ∀ w ∈ lw_g, w.before _ s = true := fun w h => hts0 w (List.mem_cons_of_mem _ h)
  have hown : s.vm.findClass R_PR = some m.cls := findClass_of_methodNamed B.named
  have hlocks := B.notSynchronized
  clear hts0
  subst hsz
  have hD := hD0.self (sz := s.heap.size)
  generalize hAe : va_A (wz_121 h0 gl fu pa pf sf pk pg pp pz pv h0_reason h0_place sc h0_stepCount h0_open h0_twoSides wg wp h0_waitingCount sc tr (sg sa sc_sign) sc_place sc_size sc_value ss sp szs sv sc_length sc_at tr tx tr_length ss css (fun j => (gss j).map (sg sa)) sp csp gsp szs cszs gszs sv csv gsv pk cpk gpk pg cpg (fun j => (gpg j).map (sg sa)) pp cpp gpp pz cpz gpz pv cpv gpv wg cwg (fun j => (gwg j).map (sg sa)) wp cwp gwp) s.heap.size = A at hD hSW ⊢
  have hA : ∀ q : Nat, s.heap.size ≤ q → A q := fun q h => by rw [← hAe]; exact Or.inr h
  clear hAe
  have hP : va_P (dC, dI) cls (wz_121 h0 gl fu pa pf sf pk pg pp pz pv h0_reason h0_place sc h0_stepCount h0_open h0_twoSides wg wp h0_waitingCount sc tr (sg sa sc_sign) sc_place sc_size sc_value ss sp szs sv sc_length sc_at tr tx tr_length ss css (fun j => (gss j).map (sg sa)) sp csp gsp szs cszs gszs sv csv gsv pk cpk gpk pg cpg (fun j => (gpg j).map (sg sa)) pp cpp gpp pz cpz gpz pv cpv gpv wg cwg (fun j => (gwg j).map (sg sa)) wp cwp gwp) s.heap := hP
  have hl := lv_entry ([.ref h0]) (n := 3) (Nat.le_of_ble_eq_true rfl)
  rw [lg_entry_eq]
  generalize (lg_sl ([.ref h0]) ++ List.replicate (3 - (lg_sl ([.ref h0])).length) Slot.unset).toArray = ls at hl ⊢
  have hl : lv_has ls 3 [(0, .ref h0)] := hl
  have k0 : (0 : Int32).toInt = 0 := by decide
  refine w_gen (A := A) hP (fun H locs hP hS => ?_)
  have k1 : (1 : Int32).toInt = 1 := by decide
  have k11 : (11 : Int32).toInt = 11 := by decide
  have isk := sk_is hsk
  refine lv_aload_n hx hb d_PR_readReturn_0 rfl (lv_at hl 0 rfl) ?_
  refine va_get (D := (dC, dI)) (ci := 6) (v := .ref sc) (C := R_PR) (T := F_PR) (N := 19) hx hb hts i_PR hown hK hP 0 rfl rfl 12 (by decide) (hts _ kF_PR_43) (fun _ h9 => h9) rfl d_PR_readReturn_1 ?_
  refine va_get (D := (dC, dI)) (ci := 8) (v := .int sc_place) (C := R_SC) (T := F_SC) (N := 11) hx hb hts i_SC hown hK hP 1 rfl rfl 2 (by decide) (hts _ kF_PR_109) (fun _ h9 => h9) rfl d_PR_readReturn_4 ?_
  refine lv_istore_n (lv' := [(1, .int sc_place), (0, .ref h0)]) hx hb d_PR_readReturn_7 rfl hl (by decide) rfl (fun ls hl => ?_)
  refine lv_aload_n hx hb d_PR_readReturn_8 rfl (lv_at hl 1 rfl) ?_
  refine va_get (D := (dC, dI)) (ci := 6) (v := .ref sc) (C := R_PR) (T := F_PR) (N := 19) hx hb hts i_PR hown hK hP 0 rfl rfl 12 (by decide) (hts _ kF_PR_43) (fun _ h9 => h9) rfl d_PR_readReturn_9 ?_
  have hPc := hP.sb (wq := (wz_107 sc tr (sg sa sc_sign) sc_place sc_size sc_value ss sp szs sv sc_length sc_at tr tx tr_length ss css (fun j => (gss j).map (sg sa)) sp csp gsp szs cszs gszs sv csv gsv)) [1, 2, 3, 4, 5, 6] rfl
  have hDc := hD.sb (wq := (wz_107 sc tr (sg sa sc_sign) sc_place sc_size sc_value ss sp szs sv sc_length sc_at tr tx tr_length ss css (fun j => (gss j).map (sg sa)) sp csp gsp szs cszs gszs sv csv gsv)) [1, 2, 3, 4, 5, 6] (by decide) rfl
  have hKc := hK.sb (tyq := [(css, .object "WaferForge$Sign"), (csp, .int), (cszs, .int), (csv, .long)]) [0, 1, 2, 3] rfl
  have hFc := va_free (wc := (wz_107 sc tr (sg sa sc_sign) sc_place sc_size sc_value ss sp szs sv sc_length sc_at tr tx tr_length ss css (fun j => (gss j).map (sg sa)) sp csp gsp szs cszs gszs sv csv gsv)) hD hS hA [1, 2, 3, 4, 5, 6] rfl
  refine va_callv (va_runV (As := []) (rest := []) ⟨hx, hb, hml, hown, hts⟩ (c_SC_next l dC dI H.size sa sc tr ss sp szs sv tx css csp cszs csv sc_sign sc_place sc_size sc_value sc_length sc_at tr_length gss gsp gszs gsv (b_sc_sign) (b_sc_place) (b_sc_size) (b_sc_length) (b_sc_at) (b_tr_length) (hsk.1.2.1)) (cwV 0 hts (gV kM_PR_114 kV_SC_next kS_SC_next kI_SC kC_SC_next) rfl rfl rfl (by decide +kernel) ⟨Nat.le_of_ble_eq_true rfl, Nat.le_of_ble_eq_true rfl⟩) ⟨fun a U g mk z => by obtain ⟨z0, z1, zP, zK, zD, zS⟩ := z; exact ⟨z0, z1, zP, va_K.moved (u := U) (U := U.calling g mk a) (Vm.Alike.refl U.vm) zK, zD, sw.same (u := U) (U := U.calling g mk a) rfl zS⟩, va_recv hKc hPc (ci := 8) (q0 := 0) rfl rfl, fun U hU hW => ⟨rfl, by rw [hU], va_P.he hU.symm hPc, va_K.moved hW.alike hKc, hDc.weaken (fun _ _ _ _ => trivial), hSW.call hS hFc hW hU⟩⟩ rfl rfl hl.1 rfl (lv_room (Nat.le_of_ble_eq_true rfl)) d_PR_readReturn_12 ⟨(Nat.zero_le _), (Nat.zero_le _)⟩) hS (fun q _ h => hFc q h) hFc (fun u t H1 locs ht hvm hw hB hz1 hk1 hS => ?_)
  obtain ⟨n2, n3, n4, n5, n6⟩ := u
  try dsimp only at hw
  obtain ⟨bn2, bn3, bn4, bn5, xr1⟩ := hw
  try clear hw
  have or1 := hsk
  have zr1 := sk_next hsk xr1.1 xr1.2
  have hsk := zr1.1
  have mr1 := zr1.2.1
  have fr1 := zr1.2.2.1
  clear xr1 zr1
  have mr1 := (fr1 (by (first | (apply Int.le_antisymm <;> omega) | omega)) (by (first | (apply Int.le_antisymm <;> omega) | omega))).2
  have zr1 := sk_pos or1 (by (first | (apply Int.le_antisymm <;> omega) | omega)) (by (first | (apply Int.le_antisymm <;> omega) | omega))
  have dr1 := sk_is hsk
  clear fr1
  obtain ⟨hP1, hK1, hD1⟩ := hB
  replace hP1 := va_P.he ht hP1
  obtain ⟨hP, hD⟩ := va_join (wr := (wz_122 h0 gl fu pa pf sf pk pg pp pz pv h0_reason h0_place sc h0_stepCount h0_open h0_twoSides wg wp h0_waitingCount pk cpk gpk pg cpg (fun j => (gpg j).map (sg sa)) pp cpp gpp pz cpz gpz pv cpv gpv wg cwg (fun j => (gwg j).map (sg sa)) wp cwp gwp)) (w1 := (wz_107 sc tr (sg sa n4) n3 n5 n6 ss sp szs sv sc_length n2 tr tx tr_length ss css (fun j => (gss j).map (sg sa)) sp csp gsp szs cszs gszs sv csv gsv)) hP hD [1, 2, 3, 4, 5, 6] [0, 7, 8, 9, 10, 11, 12, 13] rfl rfl (by decide) (by decide) hk1 hFc hP1 hD1
  clear hPc hDc hKc hFc hz1 hk1 hP1 hK1 hD1
  rename Heap => H
  have hP : va_P (dC, dI) cls (wz_123 h0 gl fu pa pf sf pk pg pp pz pv h0_reason h0_place sc h0_stepCount h0_open h0_twoSides wg wp h0_waitingCount pk cpk gpk pg cpg (fun j => (gpg j).map (sg sa)) pp cpp gpp pz cpz gpz pv cpv gpv wg cwg (fun j => (gwg j).map (sg sa)) wp cwp gwp sc tr (sg sa n4) n3 n5 n6 ss sp szs sv sc_length n2 tr tx tr_length ss css (fun j => (gss j).map (sg sa)) sp csp gsp szs cszs gszs sv csv gsv) H := hP
  have hD : va_D A (wz_123 h0 gl fu pa pf sf pk pg pp pz pv h0_reason h0_place sc h0_stepCount h0_open h0_twoSides wg wp h0_waitingCount pk cpk gpk pg cpg (fun j => (gpg j).map (sg sa)) pp cpp gpp pz cpz gpz pv cpv gpv wg cwg (fun j => (gwg j).map (sg sa)) wp cwp gwp sc tr (sg sa n4) n3 n5 n6 ss sp szs sv sc_length n2 tr tx tr_length ss css (fun j => (gss j).map (sg sa)) sp csp gsp szs cszs gszs sv csv gsv) := hD
  refine lv_aload_n hx hb d_PR_readReturn_15 rfl (lv_at hl 1 rfl) ?_
  refine va_get (D := (dC, dI)) (ci := 6) (v := .ref sc) (C := R_PR) (T := F_PR) (N := 19) hx hb hts i_PR hown hK hP 0 rfl rfl 12 (by decide) (hts _ kF_PR_43) (fun _ h9 => h9) rfl d_PR_readReturn_16 ?_
  refine va_get (D := (dC, dI)) (ci := 8) (v := .ref (sg sa n4)) (C := R_SC) (T := F_SC) (N := 11) hx hb hts i_SC hown hK hP 8 rfl rfl 1 (by decide) (hts _ kF_PR_93) (fun _ h9 => h9) rfl d_PR_readReturn_19 ?_
  refine va_gets (C := "WaferForge$Sign") (n := "SEMICOLON") (d := "LWaferForge$Sign;") (v := .ref (sg sa 31)) hx hb ((hSW.2.2.2.1.1 31 (by decide)).1) hS hown (hts _ kF_PR_153) (fun _ h9 => h9) d_PR_readReturn_22 ?_
  refine w_cut (pc2 := 33) (σ := Int32) (fun u H locs ls => match u with | j33_s0 => (j33_s0 = 0 ∨ j33_s0 = 1) ∧ va_P (dC, dI) cls (wz_123 h0 gl fu pa pf sf pk pg pp pz pv h0_reason h0_place sc h0_stepCount h0_open h0_twoSides wg wp h0_waitingCount pk cpk gpk pg cpg (fun j => (gpg j).map (sg sa)) pp cpp gpp pz cpz gpz pv cpv gpv wg cwg (fun j => (gwg j).map (sg sa)) wp cwp gwp sc tr (sg sa n4) n3 n5 n6 ss sp szs sv sc_length n2 tr tx tr_length ss css (fun j => (gss j).map (sg sa)) sp csp gsp szs cszs gszs sv csv gsv) H ∧ va_D A (wz_123 h0 gl fu pa pf sf pk pg pp pz pv h0_reason h0_place sc h0_stepCount h0_open h0_twoSides wg wp h0_waitingCount pk cpk gpk pg cpg (fun j => (gpg j).map (sg sa)) pp cpp gpp pz cpz gpz pv cpv gpv wg cwg (fun j => (gwg j).map (sg sa)) wp cwp gwp sc tr (sg sa n4) n3 n5 n6 ss sp szs sv sc_length n2 tr tx tr_length ss css (fun j => (gss j).map (sg sa)) sp csp gsp szs cszs gszs sv csv gsv) ∧ va_S A s.heap H locs ∧ lv_has ls 3 [(0, .ref h0), (1, .int sc_place)]) (fun u => match u with | j33_s0 => [.int j33_s0]) ?_ (fun jn33 => ?_)
  · intro u H locs ls hI
    obtain ⟨j33_s0, rfl⟩ : ∃ z, z = u := ⟨_, rfl⟩
    obtain ⟨b_j33_s0, hP, hD, hS, hl⟩ := hI
    have tj33_s0 := b01 b_j33_s0
    refine lv_istore_n (lv' := [(2, .int j33_s0), (0, .ref h0), (1, .int sc_place)]) hx hb d_PR_readReturn_33 rfl hl (by decide) rfl (fun ls hl => ?_)
    refine lv_iload_n hx hb d_PR_readReturn_34 rfl (lv_at hl 0 rfl) ?_
    refine w_cut (pc2 := 42) (σ := (Nat → Option Nat) × (Nat → Int32) × (Nat → Int32) × (Nat → Int64) × (Nat → Int32) × (Nat → Option Nat) × (Nat → Int32) × Int32 × Int32 × Int32 × Int32 × Int32 × Int32 × Int32 × Int32 × Nat × Int32 × Int64) (fun u H locs ls => match u with | (j42_pg, j42_pk, j42_pp, j42_pv, j42_pz, j42_wg, j42_wp, j42_h0_open, j42_h0_place, j42_h0_reason, j42_h0_stepCount, j42_h0_twoSides, j42_h0_waitingCount, j42_sc_at, j42_sc_place, j42_sc_sign, j42_sc_size, j42_sc_value) => (0 ≤ j42_h0_open.toInt ∧ j42_h0_open.toInt ≤ 40) ∧ (0 ≤ j42_h0_stepCount.toInt ∧ j42_h0_stepCount.toInt ≤ 4100) ∧ (0 ≤ j42_h0_twoSides.toInt ∧ j42_h0_twoSides.toInt ≤ 400) ∧ (0 ≤ j42_h0_waitingCount.toInt ∧ j42_h0_waitingCount.toInt ≤ 360) ∧ (-1 ≤ j42_sc_at.toInt ∧ j42_sc_at.toInt ≤ 2000) ∧ (0 ≤ j42_sc_place.toInt ∧ j42_sc_place.toInt ≤ 2000) ∧ (j42_sc_sign < 55) ∧ (0 ≤ j42_sc_size.toInt ∧ j42_sc_size.toInt ≤ 2000) ∧ (sk tr_length.toInt sc_length.toInt j42_sc_at.toInt j42_sc_sign j42_sc_place j42_sc_size j42_sc_value gss gsp gszs gsv) ∧ (j42_h0_open.toInt = h0_open.toInt ∧ j42_h0_waitingCount.toInt = h0_waitingCount.toInt ∧ sc_place.toInt + 1 ≤ j42_sc_place.toInt ∧ 10 * j42_h0_stepCount.toInt ≤ 20 * j42_sc_place.toInt) ∧ (pX (16 * h0_open.toInt - 9) (fun S => if j33_s0 = 1 then 0 :: S else S) (sl gpk gpg gpp gpz gpv h0_stepCount.toInt) (sl j42_pk j42_pg j42_pp j42_pz j42_pv j42_h0_stepCount.toInt) (20 * j42_sc_place.toInt - 20 * sc_place.toInt - 20)) ∧ (wk h0_waitingCount.toInt gwg j42_wg) ∧ va_P (dC, dI) cls (wz_123 h0 gl fu pa pf sf pk pg pp pz pv j42_h0_reason j42_h0_place sc j42_h0_stepCount j42_h0_open j42_h0_twoSides wg wp j42_h0_waitingCount pk cpk j42_pk pg cpg (fun j => (j42_pg j).map (sg sa)) pp cpp j42_pp pz cpz j42_pz pv cpv j42_pv wg cwg (fun j => (j42_wg j).map (sg sa)) wp cwp j42_wp sc tr (sg sa j42_sc_sign) j42_sc_place j42_sc_size j42_sc_value ss sp szs sv sc_length j42_sc_at tr tx tr_length ss css (fun j => (gss j).map (sg sa)) sp csp gsp szs cszs gszs sv csv gsv) H ∧ va_D A (wz_123 h0 gl fu pa pf sf pk pg pp pz pv j42_h0_reason j42_h0_place sc j42_h0_stepCount j42_h0_open j42_h0_twoSides wg wp j42_h0_waitingCount pk cpk j42_pk pg cpg (fun j => (j42_pg j).map (sg sa)) pp cpp j42_pp pz cpz j42_pz pv cpv j42_pv wg cwg (fun j => (j42_wg j).map (sg sa)) wp cwp j42_wp sc tr (sg sa j42_sc_sign) j42_sc_place j42_sc_size j42_sc_value ss sp szs sv sc_length j42_sc_at tr tx tr_length ss css (fun j => (gss j).map (sg sa)) sp csp gsp szs cszs gszs sv csv gsv) ∧ va_S A s.heap H locs ∧ lv_has ls 3 [(0, .ref h0), (1, .int sc_place), (2, .int j33_s0)]) (fun u => match u with | (j42_pg, j42_pk, j42_pp, j42_pv, j42_pz, j42_wg, j42_wp, j42_h0_open, j42_h0_place, j42_h0_reason, j42_h0_stepCount, j42_h0_twoSides, j42_h0_waitingCount, j42_sc_at, j42_sc_place, j42_sc_sign, j42_sc_size, j42_sc_value) => []) ?_ (fun jn42 => ?_)
    · intro u H locs ls hI
      obtain ⟨j42_pg, j42_pk, j42_pp, j42_pv, j42_pz, j42_wg, j42_wp, j42_h0_open, j42_h0_place, j42_h0_reason, hq9r⟩ := u
      obtain ⟨j42_h0_stepCount, j42_h0_twoSides, j42_h0_waitingCount, j42_sc_at, j42_sc_place, j42_sc_sign, j42_sc_size, j42_sc_value⟩ := hq9r
      obtain ⟨b_j42_h0_open, b_j42_h0_stepCount, b_j42_h0_twoSides, b_j42_h0_waitingCount, b_j42_sc_at, b_j42_sc_place, b_j42_sc_sign, b_j42_sc_size, hsk, y42, hq9r⟩ := hI
      obtain ⟨hX, hwk, hP, hD, hS, hl⟩ := hq9r
      refine lv_aload_n hx hb d_PR_readReturn_42 rfl (lv_at hl 0 rfl) ?_
      refine lv_bipush (v := 11) hx hb d_PR_readReturn_43 (by decide) ?_
      refine va_gets (C := "WaferForge$Sign") (n := "RETURN") (d := "LWaferForge$Sign;") (v := .ref (sg sa 13)) hx hb ((hSW.2.2.2.1.1 13 (by decide)).1) hS hown (hts _ kF_PR_235) (fun _ h9 => h9) d_PR_readReturn_45 ?_
      refine lv_iload_n hx hb d_PR_readReturn_48 rfl (lv_at hl 1 rfl) ?_
      refine lv_iconst (v := 0) hx hb d_PR_readReturn_49 (by decide) ?_
      refine lv_iload_n hx hb d_PR_readReturn_50 rfl (lv_at hl 2 rfl) ?_
      refine w_cut (pc2 := 59) (σ := Int64) (fun u H locs ls => match u with | j59_s0 => ((j59_s0 = 1 ∧ j33_s0 = 1) ∨ (j59_s0 = 0 ∧ j33_s0 = 0)) ∧ va_P (dC, dI) cls (wz_123 h0 gl fu pa pf sf pk pg pp pz pv j42_h0_reason j42_h0_place sc j42_h0_stepCount j42_h0_open j42_h0_twoSides wg wp j42_h0_waitingCount pk cpk j42_pk pg cpg (fun j => (j42_pg j).map (sg sa)) pp cpp j42_pp pz cpz j42_pz pv cpv j42_pv wg cwg (fun j => (j42_wg j).map (sg sa)) wp cwp j42_wp sc tr (sg sa j42_sc_sign) j42_sc_place j42_sc_size j42_sc_value ss sp szs sv sc_length j42_sc_at tr tx tr_length ss css (fun j => (gss j).map (sg sa)) sp csp gsp szs cszs gszs sv csv gsv) H ∧ va_D A (wz_123 h0 gl fu pa pf sf pk pg pp pz pv j42_h0_reason j42_h0_place sc j42_h0_stepCount j42_h0_open j42_h0_twoSides wg wp j42_h0_waitingCount pk cpk j42_pk pg cpg (fun j => (j42_pg j).map (sg sa)) pp cpp j42_pp pz cpz j42_pz pv cpv j42_pv wg cwg (fun j => (j42_wg j).map (sg sa)) wp cwp j42_wp sc tr (sg sa j42_sc_sign) j42_sc_place j42_sc_size j42_sc_value ss sp szs sv sc_length j42_sc_at tr tx tr_length ss css (fun j => (gss j).map (sg sa)) sp csp gsp szs cszs gszs sv csv gsv) ∧ va_S A s.heap H locs ∧ lv_has ls 3 [(0, .ref h0)]) (fun u => match u with | j59_s0 => [.long j59_s0, .int 0, .int sc_place, .ref (sg sa 13), .int 11, .ref h0]) ?_ (fun jn59 => ?_)
      · intro u H locs ls hI
        obtain ⟨j59_s0, rfl⟩ : ∃ z, z = u := ⟨_, rfl⟩
        obtain ⟨y59, hP, hD, hS, hl⟩ := hI
        have hPc := hP.sb (wq := (wz_114 h0 gl fu pa pf sf pk pg pp pz pv j42_h0_reason j42_h0_place sc j42_h0_stepCount j42_h0_open j42_h0_twoSides wg wp j42_h0_waitingCount pk cpk j42_pk pg cpg (fun j => (j42_pg j).map (sg sa)) pp cpp j42_pp pz cpz j42_pz pv cpv j42_pv)) [0, 1, 2, 3, 4, 5] rfl
        have hDc := hD.sb (wq := (wz_114 h0 gl fu pa pf sf pk pg pp pz pv j42_h0_reason j42_h0_place sc j42_h0_stepCount j42_h0_open j42_h0_twoSides wg wp j42_h0_waitingCount pk cpk j42_pk pg cpg (fun j => (j42_pg j).map (sg sa)) pp cpp j42_pp pz cpz j42_pz pv cpv j42_pv)) [0, 1, 2, 3, 4, 5] (by decide) rfl
        have hKc := hK.sb (tyq := [(cpk, .int), (cpg, .object "WaferForge$Sign"), (cpp, .int), (cpz, .int), (cpv, .long)]) [4, 5, 6, 7, 8] rfl
        have hFc := va_free (wc := (wz_114 h0 gl fu pa pf sf pk pg pp pz pv j42_h0_reason j42_h0_place sc j42_h0_stepCount j42_h0_open j42_h0_twoSides wg wp j42_h0_waitingCount pk cpk j42_pk pg cpg (fun j => (j42_pg j).map (sg sa)) pp cpp j42_pp pz cpz j42_pz pv cpv j42_pv)) hD hS hA [0, 1, 2, 3, 4, 5] rfl
        refine va_callv (va_runV (As := [.int 11, .ref (sg sa 13), .int sc_place, .int 0, .long j59_s0]) (rest := []) ⟨hx, hb, hml, hown, hts⟩ (c_PR_add l dC dI H.size sa h0 gl fu pa pf sf pk pg pp pz pv sc wg wp cpk cpg cpp cpz cpv j42_h0_reason j42_h0_place j42_h0_stepCount j42_h0_open j42_h0_twoSides j42_h0_waitingCount j42_pk j42_pg j42_pp j42_pz j42_pv (b_j42_h0_stepCount) 11 13 sc_place 0 j59_s0 ((by decide : 13 < 55)) (by (try dsimp only) <;> (first | (apply Int.le_antisymm <;> omega) | omega))) (cwV 5 hts (gV kM_PR_187 kV_PR_add kS_PR_add kI_PR kC_PR_add) rfl rfl rfl (by decide +kernel) ⟨Nat.le_of_ble_eq_true rfl, Nat.le_of_ble_eq_true rfl⟩) ⟨fun a U g mk z => by obtain ⟨z0, z1, zP, zK, zD, zS⟩ := z; exact ⟨z0, z1, zP, va_K.moved (u := U) (U := U.calling g mk a) (Vm.Alike.refl U.vm) zK, zD, sw.same (u := U) (U := U.calling g mk a) rfl zS⟩, va_recv hKc hPc (ci := 6) (q0 := 0) rfl rfl, fun U hU hW => ⟨rfl, by rw [hU], va_P.he hU.symm hPc, va_K.moved hW.alike hKc, hDc.weaken (fun _ _ _ _ => trivial), hSW.call hS hFc hW hU⟩⟩ rfl rfl hl.1 rfl (lv_room (Nat.le_of_ble_eq_true rfl)) d_PR_readReturn_59 ⟨(Nat.zero_le _), (Nat.zero_le _)⟩) hS (fun q _ h => hFc q h) hFc (fun u t H1 locs ht hvm hw hB hz1 hk1 hS => ?_)
        obtain ⟨n8, n9, n10, n11, n12, n13⟩ := u
        try dsimp only at hw
        obtain ⟨bn13, xr7⟩ := hw
        try clear hw
        have sr7 := xr7.1
        have Lr7 := xr7.2
        clear xr7
        have hX9 : pX (16 * h0_open.toInt - 9) (fun S => S) (sl gpk gpg gpp gpz gpv h0_stepCount.toInt) _ _ := pX_ad hX Lr7 (g := fun S => S) (c := 10) (fun S => sS_11 ⟨rfl, by rcases y59 with z | z; (exact Or.inr ⟨by rw [z.1]; decide, by rw [if_pos z.2]⟩); (exact Or.inl ⟨z.1, by rw [if_neg (by rw [z.2]; decide)]⟩)⟩) (fun S q => lm_s q (by (first | (apply Int.le_antisymm <;> omega) | omega))) (by (first | (apply Int.le_antisymm <;> omega) | omega))
        obtain ⟨hP1, hK1, hD1⟩ := hB
        replace hP1 := va_P.he ht hP1
        obtain ⟨hP, hD⟩ := va_join (wr := (wz_128 wg cwg (fun j => (j42_wg j).map (sg sa)) wp cwp j42_wp sc tr (sg sa j42_sc_sign) j42_sc_place j42_sc_size j42_sc_value ss sp szs sv sc_length j42_sc_at tr tx tr_length ss css (fun j => (gss j).map (sg sa)) sp csp gsp szs cszs gszs sv csv gsv)) (w1 := (wz_114 h0 gl fu pa pf sf pk pg pp pz pv j42_h0_reason j42_h0_place sc n13 j42_h0_open j42_h0_twoSides wg wp j42_h0_waitingCount pk cpk n9 pg cpg (fun j => (n8 j).map (sg sa)) pp cpp n10 pz cpz n12 pv cpv n11)) hP hD [0, 1, 2, 3, 4, 5] [6, 7, 8, 9, 10, 11, 12, 13] rfl rfl (by decide) (by decide) hk1 hFc hP1 hD1
        clear hPc hDc hKc hFc hz1 hk1 hP1 hK1 hD1
        rename Heap => H
        have hP : va_P (dC, dI) cls (wz_129 wg cwg (fun j => (j42_wg j).map (sg sa)) wp cwp j42_wp sc tr (sg sa j42_sc_sign) j42_sc_place j42_sc_size j42_sc_value ss sp szs sv sc_length j42_sc_at tr tx tr_length ss css (fun j => (gss j).map (sg sa)) sp csp gsp szs cszs gszs sv csv gsv h0 gl fu pa pf sf pk pg pp pz pv j42_h0_reason j42_h0_place sc n13 j42_h0_open j42_h0_twoSides wg wp j42_h0_waitingCount pk cpk n9 pg cpg (fun j => (n8 j).map (sg sa)) pp cpp n10 pz cpz n12 pv cpv n11) H := hP
        have hD : va_D A (wz_129 wg cwg (fun j => (j42_wg j).map (sg sa)) wp cwp j42_wp sc tr (sg sa j42_sc_sign) j42_sc_place j42_sc_size j42_sc_value ss sp szs sv sc_length j42_sc_at tr tx tr_length ss css (fun j => (gss j).map (sg sa)) sp csp gsp szs cszs gszs sv csv gsv h0 gl fu pa pf sf pk pg pp pz pv j42_h0_reason j42_h0_place sc n13 j42_h0_open j42_h0_twoSides wg wp j42_h0_waitingCount pk cpk n9 pg cpg (fun j => (n8 j).map (sg sa)) pp cpp n10 pz cpz n12 pv cpv n11) := hD
        refine lv_aload_n hx hb d_PR_readReturn_62 rfl (lv_at hl 0 rfl) ?_
        refine va_gets (C := "WaferForge$Sign") (n := "SEMICOLON") (d := "LWaferForge$Sign;") (v := .ref (sg sa 31)) hx hb ((hSW.2.2.2.1.1 31 (by decide)).1) hS hown (hts _ kF_PR_153) (fun _ h9 => h9) d_PR_readReturn_63 ?_
        have hPc := hP.sb (wq := (wz_112 h0 gl fu pa pf sf pk pg pp pz pv j42_h0_reason j42_h0_place sc n13 j42_h0_open j42_h0_twoSides wg wp j42_h0_waitingCount sc tr (sg sa j42_sc_sign) j42_sc_place j42_sc_size j42_sc_value ss sp szs sv sc_length j42_sc_at tr tx tr_length ss css (fun j => (gss j).map (sg sa)) sp csp gsp szs cszs gszs sv csv gsv)) [8, 2, 3, 4, 5, 6, 7] rfl
        have hDc := hD.sb (wq := (wz_112 h0 gl fu pa pf sf pk pg pp pz pv j42_h0_reason j42_h0_place sc n13 j42_h0_open j42_h0_twoSides wg wp j42_h0_waitingCount sc tr (sg sa j42_sc_sign) j42_sc_place j42_sc_size j42_sc_value ss sp szs sv sc_length j42_sc_at tr tx tr_length ss css (fun j => (gss j).map (sg sa)) sp csp gsp szs cszs gszs sv csv gsv)) [8, 2, 3, 4, 5, 6, 7] (by decide) rfl
        have hKc := hK.sb (tyq := [(css, .object "WaferForge$Sign"), (csp, .int), (cszs, .int), (csv, .long)]) [0, 1, 2, 3] rfl
        have hFc := va_free (wc := (wz_112 h0 gl fu pa pf sf pk pg pp pz pv j42_h0_reason j42_h0_place sc n13 j42_h0_open j42_h0_twoSides wg wp j42_h0_waitingCount sc tr (sg sa j42_sc_sign) j42_sc_place j42_sc_size j42_sc_value ss sp szs sv sc_length j42_sc_at tr tx tr_length ss css (fun j => (gss j).map (sg sa)) sp csp gsp szs cszs gszs sv csv gsv)) hD hS hA [8, 2, 3, 4, 5, 6, 7] rfl
        refine tq_callv (tz_runV (As := [.ref (sg sa 31)]) (rest := []) ⟨hx, hb, hml, hown, hts⟩ (c_PR_take l hlt dC dI H.size sa h0 gl fu pa pf sf pk pg pp pz pv sc wg wp tr ss sp szs sv tx css csp cszs csv j42_h0_reason j42_h0_place n13 j42_h0_open j42_h0_twoSides j42_h0_waitingCount j42_sc_sign j42_sc_place j42_sc_size j42_sc_value sc_length j42_sc_at tr_length gss gsp gszs gsv (b_j42_sc_sign) (b_j42_sc_place) (b_j42_sc_size) (b_sc_length) (b_j42_sc_at) (b_tr_length) 31 ((by decide : 31 < 55)) (hsk) (by decide)) (cwV 1 hts (gV kM_PR_126 kV_PR_take kS_PR_take kI_PR kC_PR_take) rfl rfl rfl (by decide +kernel) ⟨Nat.le_of_ble_eq_true rfl, Nat.le_of_ble_eq_true rfl⟩) ⟨fun a U g mk z => by obtain ⟨z0, z1, zP, zK, zD, zS⟩ := z; exact ⟨z0, z1, zP, va_K.moved (u := U) (U := U.calling g mk a) (Vm.Alike.refl U.vm) zK, zD, sw.same (u := U) (U := U.calling g mk a) rfl zS⟩, va_recv hKc hPc (ci := 6) (q0 := 0) rfl rfl, fun U hU hW => ⟨rfl, by rw [hU], va_P.he hU.symm hPc, va_K.moved hW.alike hKc, hDc.weaken (fun _ _ _ _ => trivial), hSW.call hS hFc hW hU⟩⟩ rfl rfl hl.1 rfl (lv_room (Nat.le_of_ble_eq_true rfl)) d_PR_readReturn_66 ⟨Nat.le_of_ble_eq_true rfl, Nat.le_of_ble_eq_true rfl⟩) hS (fun q _ h => hFc q h) hFc (fun u t H1 locs ht hvm hw hB hz1 hk1 hS => ?_) (fun xx u t H1 locs ht hvm hw hXX hB hz1 hk1 hS => ?_)
        rotate_left
        · skip
          obtain ⟨n15, n16, n17, n18, n19, n20, n21⟩ := u
          try dsimp only at hw
          obtain ⟨bn17, bn18, bn19, bn20⟩ := hw
          obtain ⟨hP1, hK1, hD1⟩ := hB
          replace hP1 := va_P.he ht hP1
          obtain ⟨hP, hD⟩ := va_join (wr := (wz_138 wg cwg (fun j => (j42_wg j).map (sg sa)) wp cwp j42_wp pk cpk n9 pg cpg (fun j => (n8 j).map (sg sa)) pp cpp n10 pz cpz n12 pv cpv n11)) (w1 := (wz_112 h0 gl fu pa pf sf pk pg pp pz pv n16 n15 sc n13 j42_h0_open j42_h0_twoSides wg wp j42_h0_waitingCount sc tr (sg sa n19) n18 n20 n21 ss sp szs sv sc_length n17 tr tx tr_length ss css (fun j => (gss j).map (sg sa)) sp csp gsp szs cszs gszs sv csv gsv)) hP hD [8, 2, 3, 4, 5, 6, 7] [0, 1, 9, 10, 11, 12, 13] rfl rfl (by decide) (by decide) hk1 hFc hP1 hD1
          have hP : va_P (dC, dI) cls (wz_139 wg cwg (fun j => (j42_wg j).map (sg sa)) wp cwp j42_wp pk cpk n9 pg cpg (fun j => (n8 j).map (sg sa)) pp cpp n10 pz cpz n12 pv cpv n11 h0 gl fu pa pf sf pk pg pp pz pv n16 n15 sc n13 j42_h0_open j42_h0_twoSides wg wp j42_h0_waitingCount sc tr (sg sa n19) n18 n20 n21 ss sp szs sv sc_length n17 tr tx tr_length ss css (fun j => (gss j).map (sg sa)) sp csp gsp szs cszs gszs sv csv gsv) H1 := hP
          have hD : va_D A (wz_139 wg cwg (fun j => (j42_wg j).map (sg sa)) wp cwp j42_wp pk cpk n9 pg cpg (fun j => (n8 j).map (sg sa)) pp cpp n10 pz cpz n12 pv cpv n11 h0 gl fu pa pf sf pk pg pp pz pv n16 n15 sc n13 j42_h0_open j42_h0_twoSides wg wp j42_h0_waitingCount sc tr (sg sa n19) n18 n20 n21 ss sp szs sv sc_length n17 tr tx tr_length ss css (fun j => (gss j).map (sg sa)) sp csp gsp szs cszs gszs sv csv gsv) := hD
          have hP9 := hP.sb (wq := (wz_121 h0 gl fu pa pf sf pk pg pp pz pv n16 n15 sc n13 j42_h0_open j42_h0_twoSides wg wp j42_h0_waitingCount sc tr (sg sa n19) n18 n20 n21 ss sp szs sv sc_length n17 tr tx tr_length ss css (fun j => (gss j).map (sg sa)) sp csp gsp szs cszs gszs sv csv gsv pk cpk n9 pg cpg (fun j => (n8 j).map (sg sa)) pp cpp n10 pz cpz n12 pv cpv n11 wg cwg (fun j => (j42_wg j).map (sg sa)) wp cwp j42_wp)) [7, 8, 9, 10, 11, 12, 13, 2, 3, 4, 5, 6, 0, 1] rfl
          have hD9 := hD.sb (wq := (wz_121 h0 gl fu pa pf sf pk pg pp pz pv n16 n15 sc n13 j42_h0_open j42_h0_twoSides wg wp j42_h0_waitingCount sc tr (sg sa n19) n18 n20 n21 ss sp szs sv sc_length n17 tr tx tr_length ss css (fun j => (gss j).map (sg sa)) sp csp gsp szs cszs gszs sv csv gsv pk cpk n9 pg cpg (fun j => (n8 j).map (sg sa)) pp cpp n10 pz cpz n12 pv cpv n11 wg cwg (fun j => (j42_wg j).map (sg sa)) wp cwp j42_wp)) [7, 8, 9, 10, 11, 12, 13, 2, 3, 4, 5, 6, 0, 1] (by decide) rfl
          exact tz_leave rfl hno hlocks (fun t ht hW => ⟨⟨(n8, n9, n10, n11, n12, j42_wg, j42_wp, j42_h0_open, n15, n16, n13, j42_h0_twoSides, j42_h0_waitingCount, n17, n18, n19, n20, n21), ⟨⟨b_j42_h0_open, bn13, b_j42_h0_twoSides, b_j42_h0_waitingCount, bn17, bn18, bn19, bn20⟩, by rw [ht]; exact hXX.moved hW.alike⟩, va_P.he ht.symm hP9, va_K.moved hW.alike hK, hD9⟩, hS.F ht⟩) hS.2.2
        obtain ⟨n22, n23, n24, n25, n26, n27, n28⟩ := u
        try dsimp only at hw
        obtain ⟨bn24, bn25, bn26, bn27, xr14⟩ := hw
        try clear hw
        have or14 := hsk
        have er14 := xr14.1
        have hsk := xr14.2.1
        have mr14 := xr14.2.2.1
        have pr14 := sk_pos or14 (by (first | (apply Int.le_antisymm <;> omega) | omega)) (by (first | (apply Int.le_antisymm <;> omega) | omega))
        clear xr14
        have dr14 := sk_is hsk
        obtain ⟨hP1, hK1, hD1⟩ := hB
        replace hP1 := va_P.he ht hP1
        obtain ⟨hP, hD⟩ := va_join (wr := (wz_138 wg cwg (fun j => (j42_wg j).map (sg sa)) wp cwp j42_wp pk cpk n9 pg cpg (fun j => (n8 j).map (sg sa)) pp cpp n10 pz cpz n12 pv cpv n11)) (w1 := (wz_112 h0 gl fu pa pf sf pk pg pp pz pv n23 n22 sc n13 j42_h0_open j42_h0_twoSides wg wp j42_h0_waitingCount sc tr (sg sa n26) n25 n27 n28 ss sp szs sv sc_length n24 tr tx tr_length ss css (fun j => (gss j).map (sg sa)) sp csp gsp szs cszs gszs sv csv gsv)) hP hD [8, 2, 3, 4, 5, 6, 7] [0, 1, 9, 10, 11, 12, 13] rfl rfl (by decide) (by decide) hk1 hFc hP1 hD1
        clear hPc hDc hKc hFc hz1 hk1 hP1 hK1 hD1
        rename Heap => H
        have hP : va_P (dC, dI) cls (wz_139 wg cwg (fun j => (j42_wg j).map (sg sa)) wp cwp j42_wp pk cpk n9 pg cpg (fun j => (n8 j).map (sg sa)) pp cpp n10 pz cpz n12 pv cpv n11 h0 gl fu pa pf sf pk pg pp pz pv n23 n22 sc n13 j42_h0_open j42_h0_twoSides wg wp j42_h0_waitingCount sc tr (sg sa n26) n25 n27 n28 ss sp szs sv sc_length n24 tr tx tr_length ss css (fun j => (gss j).map (sg sa)) sp csp gsp szs cszs gszs sv csv gsv) H := hP
        have hD : va_D A (wz_139 wg cwg (fun j => (j42_wg j).map (sg sa)) wp cwp j42_wp pk cpk n9 pg cpg (fun j => (n8 j).map (sg sa)) pp cpp n10 pz cpz n12 pv cpv n11 h0 gl fu pa pf sf pk pg pp pz pv n23 n22 sc n13 j42_h0_open j42_h0_twoSides wg wp j42_h0_waitingCount sc tr (sg sa n26) n25 n27 n28 ss sp szs sv sc_length n24 tr tx tr_length ss css (fun j => (gss j).map (sg sa)) sp csp gsp szs cszs gszs sv csv gsv) := hD
        have hP9 := hP.sb (wq := (wz_121 h0 gl fu pa pf sf pk pg pp pz pv n23 n22 sc n13 j42_h0_open j42_h0_twoSides wg wp j42_h0_waitingCount sc tr (sg sa n26) n25 n27 n28 ss sp szs sv sc_length n24 tr tx tr_length ss css (fun j => (gss j).map (sg sa)) sp csp gsp szs cszs gszs sv csv gsv pk cpk n9 pg cpg (fun j => (n8 j).map (sg sa)) pp cpp n10 pz cpz n12 pv cpv n11 wg cwg (fun j => (j42_wg j).map (sg sa)) wp cwp j42_wp)) [7, 8, 9, 10, 11, 12, 13, 2, 3, 4, 5, 6, 0, 1] rfl
        have hD9 := hD.sb (wq := (wz_121 h0 gl fu pa pf sf pk pg pp pz pv n23 n22 sc n13 j42_h0_open j42_h0_twoSides wg wp j42_h0_waitingCount sc tr (sg sa n26) n25 n27 n28 ss sp szs sv sc_length n24 tr tx tr_length ss css (fun j => (gss j).map (sg sa)) sp csp gsp szs cszs gszs sv csv gsv pk cpk n9 pg cpg (fun j => (n8 j).map (sg sa)) pp cpp n10 pz cpz n12 pv cpv n11 wg cwg (fun j => (j42_wg j).map (sg sa)) wp cwp j42_wp)) [7, 8, 9, 10, 11, 12, 13, 2, 3, 4, 5, 6, 0, 1] (by decide) rfl
        exact tz_up (fun _ => rfl) (W.vret hx hb hr (fun t ht hW => ⟨⟨(n8, n9, n10, n11, n12, j42_wg, j42_wp, j42_h0_open, n22, n23, n13, j42_h0_twoSides, j42_h0_waitingCount, n24, n25, n26, n27, n28), ⟨rfl, ⟨b_j42_h0_open, bn13, b_j42_h0_twoSides, b_j42_h0_waitingCount, bn24, bn25, bn26, bn27, ⟨hsk, pX_mono hX9 (by (first | (apply Int.le_antisymm <;> omega) | omega)) (by (try dsimp only) <;> (first | (apply Int.le_antisymm <;> omega) | omega)), by (try dsimp only) <;> (first | (apply Int.le_antisymm <;> omega) | omega), by (try dsimp only) <;> (first | (apply Int.le_antisymm <;> omega) | omega), hwk, by (try dsimp only) <;> (first | (apply Int.le_antisymm <;> omega) | omega)⟩⟩⟩, va_P.he ht.symm hP9, va_K.moved hW.alike hK, hD9⟩, hS.F ht⟩) hS.2.2 d_PR_readReturn_69)
      · skip
        refine lv_if_eq (tgt := 58) hx hb d_PR_readReturn_51 (by decide) (fun c51 => ?_) (fun c51 => ?_)
        · have q51 := eqI c51
          refine lv_lconst (v := 0) hx hb d_PR_readReturn_58 (by decide) ?_
          have kl0 : (0 : Int64).toInt = 0 := by decide
          exact jn59 0 _ _ _ ⟨Or.inr ⟨rfl, c51⟩, hP, hD, hS, lv_sub hl [0] rfl⟩
        · have q51 := neI c51
          refine lv_lconst (v := 1) hx hb d_PR_readReturn_54 (by decide) ?_
          have kl1 : (1 : Int64).toInt = 1 := by decide
          refine lv_goto (tgt := 59) hx hb d_PR_readReturn_55 (by decide) ?_
          exact jn59 1 _ _ _ ⟨Or.inl ⟨rfl, by rcases b_j33_s0 with z | z; (exfalso; rw [z] at q51; exact q51 rfl); exact z⟩, hP, hD, hS, lv_sub hl [0] rfl⟩
    · skip
      refine lv_if_eq (tgt := 42) hx hb d_PR_readReturn_35 (by decide) (fun c35 => ?_) (fun c35 => ?_)
      · have q35 := eqI c35
        exact jn42 (gpg, gpk, gpp, gpv, gpz, gwg, gwp, h0_open, h0_place, h0_reason, h0_stepCount, h0_twoSides, h0_waitingCount, n2, n3, n4, n5, n6) _ _ _ ⟨b_h0_open, b_h0_stepCount, b_h0_twoSides, b_h0_waitingCount, bn2, bn3, bn4, bn5, hsk, by (try dsimp only) <;> (first | (apply Int.le_antisymm <;> omega) | omega), pX_mono (pX_eq pX_nil (fun S => by rw [c35]; rfl)) (Int.le_refl _) (by (try dsimp only) <;> (first | (apply Int.le_antisymm <;> omega) | omega)), wk_refl, hP, hD, hS, lv_sub hl [1, 2, 0] rfl⟩
      · have q35 := neI c35
        have o35 : j33_s0 = 1 := by rcases b_j33_s0 with z | z; (exfalso; rw [z] at q35; exact q35 rfl); exact z
        refine lv_aload_n hx hb d_PR_readReturn_38 rfl (lv_at hl 1 rfl) ?_
        have hPc := hP.sb (wq := (wz_121 h0 gl fu pa pf sf pk pg pp pz pv h0_reason h0_place sc h0_stepCount h0_open h0_twoSides wg wp h0_waitingCount sc tr (sg sa n4) n3 n5 n6 ss sp szs sv sc_length n2 tr tx tr_length ss css (fun j => (gss j).map (sg sa)) sp csp gsp szs cszs gszs sv csv gsv pk cpk gpk pg cpg (fun j => (gpg j).map (sg sa)) pp cpp gpp pz cpz gpz pv cpv gpv wg cwg (fun j => (gwg j).map (sg sa)) wp cwp gwp)) [0, 8, 9, 10, 11, 12, 13, 1, 2, 3, 4, 5, 6, 7] rfl
        have hDc := hD.sb (wq := (wz_121 h0 gl fu pa pf sf pk pg pp pz pv h0_reason h0_place sc h0_stepCount h0_open h0_twoSides wg wp h0_waitingCount sc tr (sg sa n4) n3 n5 n6 ss sp szs sv sc_length n2 tr tx tr_length ss css (fun j => (gss j).map (sg sa)) sp csp gsp szs cszs gszs sv csv gsv pk cpk gpk pg cpg (fun j => (gpg j).map (sg sa)) pp cpp gpp pz cpz gpz pv cpv gpv wg cwg (fun j => (gwg j).map (sg sa)) wp cwp gwp)) [0, 8, 9, 10, 11, 12, 13, 1, 2, 3, 4, 5, 6, 7] (by decide) rfl
        have hKc := hK.sb (tyq := [(css, .object "WaferForge$Sign"), (csp, .int), (cszs, .int), (csv, .long), (cpk, .int), (cpg, .object "WaferForge$Sign"), (cpp, .int), (cpz, .int), (cpv, .long), (cwg, .object "WaferForge$Sign"), (cwp, .int)]) [0, 1, 2, 3, 4, 5, 6, 7, 8, 9, 10] rfl
        have hFc := va_free (wc := (wz_121 h0 gl fu pa pf sf pk pg pp pz pv h0_reason h0_place sc h0_stepCount h0_open h0_twoSides wg wp h0_waitingCount sc tr (sg sa n4) n3 n5 n6 ss sp szs sv sc_length n2 tr tx tr_length ss css (fun j => (gss j).map (sg sa)) sp csp gsp szs cszs gszs sv csv gsv pk cpk gpk pg cpg (fun j => (gpg j).map (sg sa)) pp cpp gpp pz cpz gpz pv cpv gpv wg cwg (fun j => (gwg j).map (sg sa)) wp cwp gwp)) hD hS hA [0, 8, 9, 10, 11, 12, 13, 1, 2, 3, 4, 5, 6, 7] rfl
        refine tq_callv (tz_runV (As := []) (rest := []) ⟨hx, hb, hml, hown, hts⟩ (k_readX l hlt 41 dC dI H.size sa h0 gl fu pa pf sf pk pg pp pz pv sc wg wp tr ss sp szs sv tx css csp cszs csv cpk cpg cpp cpz cpv cwg cwp h0_reason h0_place h0_stepCount h0_open h0_twoSides h0_waitingCount n4 n3 n5 n6 sc_length n2 tr_length gss gsp gszs gsv gpk gpg gpp gpz gpv gwg gwp (b_h0_stepCount) (b_h0_open) (b_h0_twoSides) (b_h0_waitingCount) (bn4) (bn3) (bn5) (b_sc_length) (bn2) (b_tr_length) (hsk) (by (try dsimp only) <;> (first | (apply Int.le_antisymm <;> omega) | omega)) (by (try dsimp only) <;> (first | (apply Int.le_antisymm <;> omega) | omega)) (by (try dsimp only) <;> (first | (apply Int.le_antisymm <;> omega) | omega))) (cwV 0 hts (gV kM_PR_223 kV_PR_readX kS_PR_readX kI_PR kC_PR_readX) rfl rfl rfl (by decide +kernel) ⟨Nat.le_of_ble_eq_true rfl, Nat.le_of_ble_eq_true rfl⟩) ⟨fun a U g mk z => by obtain ⟨z0, z1, zP, zK, zD, zS⟩ := z; exact ⟨z0, z1, zP, va_K.moved (u := U) (U := U.calling g mk a) (Vm.Alike.refl U.vm) zK, zD, sw.same (u := U) (U := U.calling g mk a) rfl zS⟩, va_recv hKc hPc (ci := 6) (q0 := 0) rfl rfl, fun U hU hW => ⟨rfl, by rw [hU], va_P.he hU.symm hPc, va_K.moved hW.alike hKc, hDc.weaken (fun _ _ _ _ => trivial), hSW.call hS hFc hW hU⟩⟩ rfl rfl hl.1 rfl (lv_room (Nat.le_of_ble_eq_true rfl)) d_PR_readReturn_39 ⟨Nat.le_of_ble_eq_true rfl, Nat.le_of_ble_eq_true rfl⟩) hS (fun q _ h => hFc q h) hFc (fun u t H1 locs ht hvm hw hB hz1 hk1 hS => ?_) (fun xx u t H1 locs ht hvm hw hXX hB hz1 hk1 hS => ?_)
        rotate_left
        · skip
          obtain ⟨n30, n31, n32, n33, n34, n35, n36, n37, n38, n39, hq9r⟩ := u
          obtain ⟨n40, n41, n42, n43, n44, n45, n46, n47⟩ := hq9r
          try dsimp only at hw
          obtain ⟨bn37, bn40, bn41, bn42, bn43, bn44, bn45, bn46⟩ := hw
          obtain ⟨hP1, hK1, hD1⟩ := hB
          replace hP1 := va_P.he ht hP1
          obtain ⟨hP, hD⟩ := va_join (wr := []) (w1 := (wz_121 h0 gl fu pa pf sf pk pg pp pz pv n39 n38 sc n40 n37 n41 wg wp n42 sc tr (sg sa n45) n44 n46 n47 ss sp szs sv sc_length n43 tr tx tr_length ss css (fun j => (gss j).map (sg sa)) sp csp gsp szs cszs gszs sv csv gsv pk cpk n31 pg cpg (fun j => (n30 j).map (sg sa)) pp cpp n32 pz cpz n34 pv cpv n33 wg cwg (fun j => (n35 j).map (sg sa)) wp cwp n36)) hP hD [0, 8, 9, 10, 11, 12, 13, 1, 2, 3, 4, 5, 6, 7] [] rfl rfl (by decide) (by decide) hk1 hFc hP1 hD1
          have hP : va_P (dC, dI) cls (wz_121 h0 gl fu pa pf sf pk pg pp pz pv n39 n38 sc n40 n37 n41 wg wp n42 sc tr (sg sa n45) n44 n46 n47 ss sp szs sv sc_length n43 tr tx tr_length ss css (fun j => (gss j).map (sg sa)) sp csp gsp szs cszs gszs sv csv gsv pk cpk n31 pg cpg (fun j => (n30 j).map (sg sa)) pp cpp n32 pz cpz n34 pv cpv n33 wg cwg (fun j => (n35 j).map (sg sa)) wp cwp n36) H1 := hP
          have hD : va_D A (wz_121 h0 gl fu pa pf sf pk pg pp pz pv n39 n38 sc n40 n37 n41 wg wp n42 sc tr (sg sa n45) n44 n46 n47 ss sp szs sv sc_length n43 tr tx tr_length ss css (fun j => (gss j).map (sg sa)) sp csp gsp szs cszs gszs sv csv gsv pk cpk n31 pg cpg (fun j => (n30 j).map (sg sa)) pp cpp n32 pz cpz n34 pv cpv n33 wg cwg (fun j => (n35 j).map (sg sa)) wp cwp n36) := hD
          have hP9 := hP.sb (wq := (wz_121 h0 gl fu pa pf sf pk pg pp pz pv n39 n38 sc n40 n37 n41 wg wp n42 sc tr (sg sa n45) n44 n46 n47 ss sp szs sv sc_length n43 tr tx tr_length ss css (fun j => (gss j).map (sg sa)) sp csp gsp szs cszs gszs sv csv gsv pk cpk n31 pg cpg (fun j => (n30 j).map (sg sa)) pp cpp n32 pz cpz n34 pv cpv n33 wg cwg (fun j => (n35 j).map (sg sa)) wp cwp n36)) [0, 1, 2, 3, 4, 5, 6, 7, 8, 9, 10, 11, 12, 13] rfl
          have hD9 := hD.sb (wq := (wz_121 h0 gl fu pa pf sf pk pg pp pz pv n39 n38 sc n40 n37 n41 wg wp n42 sc tr (sg sa n45) n44 n46 n47 ss sp szs sv sc_length n43 tr tx tr_length ss css (fun j => (gss j).map (sg sa)) sp csp gsp szs cszs gszs sv csv gsv pk cpk n31 pg cpg (fun j => (n30 j).map (sg sa)) pp cpp n32 pz cpz n34 pv cpv n33 wg cwg (fun j => (n35 j).map (sg sa)) wp cwp n36)) [0, 1, 2, 3, 4, 5, 6, 7, 8, 9, 10, 11, 12, 13] (by decide) rfl
          exact tz_leave rfl hno hlocks (fun t ht hW => ⟨⟨(n30, n31, n32, n33, n34, n35, n36, n37, n38, n39, n40, n41, n42, n43, n44, n45, n46, n47), ⟨⟨bn37, bn40, bn41, bn42, bn43, bn44, bn45, bn46⟩, by rw [ht]; exact hXX.moved hW.alike⟩, va_P.he ht.symm hP9, va_K.moved hW.alike hK, hD9⟩, hS.F ht⟩) hS.2.2
        obtain ⟨n48, n49, n50, n51, n52, n53, n54, n55, n56, n57, hq9r⟩ := u
        obtain ⟨n58, n59, n60, n61, n62, n63, n64, n65⟩ := hq9r
        try dsimp only at hw
        obtain ⟨bn55, bn58, bn59, bn60, bn61, bn62, bn63, bn64, xr29⟩ := hw
        try clear hw
        have or29 := hsk
        obtain ⟨hsk, Xr29, ar29, cr29, wr29, mr29⟩ := xr29
        have nr29 := pX_n Xr29 (by (first | (apply Int.le_antisymm <;> omega) | omega)) (by (first | (apply Int.le_antisymm <;> omega) | omega))
        have dr29 := sk_is hsk
        obtain ⟨hP1, hK1, hD1⟩ := hB
        replace hP1 := va_P.he ht hP1
        obtain ⟨hP, hD⟩ := va_join (wr := []) (w1 := (wz_121 h0 gl fu pa pf sf pk pg pp pz pv n57 n56 sc n58 n55 n59 wg wp n60 sc tr (sg sa n63) n62 n64 n65 ss sp szs sv sc_length n61 tr tx tr_length ss css (fun j => (gss j).map (sg sa)) sp csp gsp szs cszs gszs sv csv gsv pk cpk n49 pg cpg (fun j => (n48 j).map (sg sa)) pp cpp n50 pz cpz n52 pv cpv n51 wg cwg (fun j => (n53 j).map (sg sa)) wp cwp n54)) hP hD [0, 8, 9, 10, 11, 12, 13, 1, 2, 3, 4, 5, 6, 7] [] rfl rfl (by decide) (by decide) hk1 hFc hP1 hD1
        clear hPc hDc hKc hFc hz1 hk1 hP1 hK1 hD1
        rename Heap => H
        have hP : va_P (dC, dI) cls (wz_121 h0 gl fu pa pf sf pk pg pp pz pv n57 n56 sc n58 n55 n59 wg wp n60 sc tr (sg sa n63) n62 n64 n65 ss sp szs sv sc_length n61 tr tx tr_length ss css (fun j => (gss j).map (sg sa)) sp csp gsp szs cszs gszs sv csv gsv pk cpk n49 pg cpg (fun j => (n48 j).map (sg sa)) pp cpp n50 pz cpz n52 pv cpv n51 wg cwg (fun j => (n53 j).map (sg sa)) wp cwp n54) H := hP
        have hD : va_D A (wz_121 h0 gl fu pa pf sf pk pg pp pz pv n57 n56 sc n58 n55 n59 wg wp n60 sc tr (sg sa n63) n62 n64 n65 ss sp szs sv sc_length n61 tr tx tr_length ss css (fun j => (gss j).map (sg sa)) sp csp gsp szs cszs gszs sv csv gsv pk cpk n49 pg cpg (fun j => (n48 j).map (sg sa)) pp cpp n50 pz cpz n52 pv cpv n51 wg cwg (fun j => (n53 j).map (sg sa)) wp cwp n54) := hD
        exact jn42 (n48, n49, n50, n51, n52, n53, n54, n55, n56, n57, n58, n59, n60, n61, n62, n63, n64, n65) _ _ _ ⟨bn55, bn58, bn59, bn60, bn61, bn62, bn63, bn64, hsk, by (try dsimp only) <;> (first | (apply Int.le_antisymm <;> omega) | omega), pX_mono (pX_eq Xr29 (fun S => by rw [if_pos o35])) (by (first | (apply Int.le_antisymm <;> omega) | omega)) (by (try dsimp only) <;> (first | (apply Int.le_antisymm <;> omega) | omega)), wr29, hP.sub [0, 7, 8, 9, 10, 11, 12, 13, 1, 2, 3, 4, 5, 6] rfl, hD.sub [0, 7, 8, 9, 10, 11, 12, 13, 1, 2, 3, 4, 5, 6] (by decide) rfl, hS, lv_sub hl [1, 2, 0] rfl⟩
  · skip
    refine lv_acmp_eq (rx := some (sg sa n4)) (ry := some (sg sa 31)) (tgt := 32) hx hb d_PR_readReturn_25 (by decide) (fun c25 => ?_) (fun c25 => ?_)
    · have q25 : n4 = 31 := hSW.2.2.2.1.2 n4 31 bn4 (by decide : 31 < 55) (Option.some.inj c25)
      refine lv_iconst (v := 0) hx hb d_PR_readReturn_32 (by decide) ?_
      exact jn33 0 _ _ _ ⟨Or.inl rfl, hP, hD, hS, lv_sub hl [1, 0] rfl⟩
    · have q25 : n4 ≠ 31 := fun z => c25 (by rw [z])
      refine lv_iconst (v := 1) hx hb d_PR_readReturn_28 (by decide) ?_
      refine lv_goto (tgt := 33) hx hb d_PR_readReturn_29 (by decide) ?_
      exact jn33 1 _ _ _ ⟨Or.inr rfl, hP, hD, hS, lv_sub hl [1, 0] rfl⟩
abbrev b_PR_readPlainStatement : ByteArray := prog_8_method_9_code
def y_PR_readPlainStatement : MethodName := ⟨R_PR, "readPlainStatement", "()V"⟩
abbrev w_PR_readPlainStatement : List Cond := .code y_PR_readPlainStatement b_PR_readPlainStatement 5 none :: lw_g
theorem kC_PR_readPlainStatement : Cond.code y_PR_readPlainStatement b_PR_readPlainStatement 5 none ∈ lw_g := in_c5 108 rfl rfl
theorem d_PR_readPlainStatement_0 : decode b_PR_readPlainStatement 0 = .ok (.aload_n 0, 1) := bz_c42 (by decide +kernel)
theorem d_PR_readPlainStatement_1 : decode b_PR_readPlainStatement 1 = .ok (.getfield 43, 3) := bz_c180 (by decide +kernel)
theorem d_PR_readPlainStatement_4 : decode b_PR_readPlainStatement 4 = .ok (.getfield 93, 3) := bz_c180 (by decide +kernel)
theorem d_PR_readPlainStatement_7 : decode b_PR_readPlainStatement 7 = .ok (.astore_n 1, 1) := bz_c76 (by decide +kernel)
theorem d_PR_readPlainStatement_8 : decode b_PR_readPlainStatement 8 = .ok (.aload_n 0, 1) := bz_c42 (by decide +kernel)
theorem d_PR_readPlainStatement_9 : decode b_PR_readPlainStatement 9 = .ok (.getfield 43, 3) := bz_c180 (by decide +kernel)
theorem d_PR_readPlainStatement_12 : decode b_PR_readPlainStatement 12 = .ok (.getfield 109, 3) := bz_c180 (by decide +kernel)
theorem d_PR_readPlainStatement_15 : decode b_PR_readPlainStatement 15 = .ok (.istore_n 2, 1) := bz_c61 (by decide +kernel)
theorem d_PR_readPlainStatement_16 : decode b_PR_readPlainStatement 16 = .ok (.aload_n 0, 1) := bz_c42 (by decide +kernel)
theorem d_PR_readPlainStatement_17 : decode b_PR_readPlainStatement 17 = .ok (.getfield 43, 3) := bz_c180 (by decide +kernel)
theorem d_PR_readPlainStatement_20 : decode b_PR_readPlainStatement 20 = .ok (.getfield 120, 3) := bz_c180 (by decide +kernel)
theorem d_PR_readPlainStatement_23 : decode b_PR_readPlainStatement 23 = .ok (.istore_n 3, 1) := bz_c62 (by decide +kernel)
theorem d_PR_readPlainStatement_24 : decode b_PR_readPlainStatement 24 = .ok (.aload_n 1, 1) := bz_c43 (by decide +kernel)
theorem d_PR_readPlainStatement_25 : decode b_PR_readPlainStatement 25 = .ok (.getstatic 123, 3) := bz_c178 (by decide +kernel)
theorem d_PR_readPlainStatement_28 : decode b_PR_readPlainStatement 28 = .ok (.if_acmp .ne 17, 3) := bz_c166 (by decide +kernel)
theorem d_PR_readPlainStatement_31 : decode b_PR_readPlainStatement 31 = .ok (.aload_n 0, 1) := bz_c42 (by decide +kernel)
theorem d_PR_readPlainStatement_32 : decode b_PR_readPlainStatement 32 = .ok (.getfield 43, 3) := bz_c180 (by decide +kernel)
theorem d_PR_readPlainStatement_35 : decode b_PR_readPlainStatement 35 = .ok (.invokevirtual 219, 3) := bz_c182 (by decide +kernel)
theorem d_PR_readPlainStatement_38 : decode b_PR_readPlainStatement 38 = .ok (.ifCond .eq 7, 3) := bz_c153 (by decide +kernel)
theorem d_PR_readPlainStatement_41 : decode b_PR_readPlainStatement 41 = .ok (.iconst 1, 1) := bz_c4 (by decide +kernel)
theorem d_PR_readPlainStatement_42 : decode b_PR_readPlainStatement 42 = .ok (.goto 4, 3) := bz_c167 (by decide +kernel)
theorem d_PR_readPlainStatement_45 : decode b_PR_readPlainStatement 45 = .ok (.iconst 0, 1) := bz_c3 (by decide +kernel)
theorem d_PR_readPlainStatement_46 : decode b_PR_readPlainStatement 46 = .ok (.istore 4, 2) := bz_c54 (by decide +kernel)
theorem d_PR_readPlainStatement_48 : decode b_PR_readPlainStatement 48 = .ok (.iload 4, 2) := bz_c21 (by decide +kernel)
theorem d_PR_readPlainStatement_50 : decode b_PR_readPlainStatement 50 = .ok (.ifCond .eq 17, 3) := bz_c153 (by decide +kernel)
theorem d_PR_readPlainStatement_53 : decode b_PR_readPlainStatement 53 = .ok (.aload_n 0, 1) := bz_c42 (by decide +kernel)
theorem d_PR_readPlainStatement_54 : decode b_PR_readPlainStatement 54 = .ok (.getfield 43, 3) := bz_c180 (by decide +kernel)
theorem d_PR_readPlainStatement_57 : decode b_PR_readPlainStatement 57 = .ok (.invokevirtual 114, 3) := bz_c182 (by decide +kernel)
theorem d_PR_readPlainStatement_60 : decode b_PR_readPlainStatement 60 = .ok (.aload_n 0, 1) := bz_c42 (by decide +kernel)
theorem d_PR_readPlainStatement_61 : decode b_PR_readPlainStatement 61 = .ok (.getstatic 137, 3) := bz_c178 (by decide +kernel)
theorem d_PR_readPlainStatement_64 : decode b_PR_readPlainStatement 64 = .ok (.invokevirtual 126, 3) := bz_c182 (by decide +kernel)
theorem d_PR_readPlainStatement_67 : decode b_PR_readPlainStatement 67 = .ok (.aload_n 0, 1) := bz_c42 (by decide +kernel)
theorem d_PR_readPlainStatement_68 : decode b_PR_readPlainStatement 68 = .ok (.invokevirtual 223, 3) := bz_c182 (by decide +kernel)
theorem d_PR_readPlainStatement_71 : decode b_PR_readPlainStatement 71 = .ok (.aload_n 0, 1) := bz_c42 (by decide +kernel)
theorem d_PR_readPlainStatement_72 : decode b_PR_readPlainStatement 72 = .ok (.iload 4, 2) := bz_c21 (by decide +kernel)
theorem d_PR_readPlainStatement_74 : decode b_PR_readPlainStatement 74 = .ok (.ifCond .eq 8, 3) := bz_c153 (by decide +kernel)
theorem d_PR_readPlainStatement_77 : decode b_PR_readPlainStatement 77 = .ok (.bipush 9, 2) := bz_c16 (by decide +kernel)
theorem d_PR_readPlainStatement_79 : decode b_PR_readPlainStatement 79 = .ok (.goto 5, 3) := bz_c167 (by decide +kernel)
theorem d_PR_readPlainStatement_82 : decode b_PR_readPlainStatement 82 = .ok (.bipush 10, 2) := bz_c16 (by decide +kernel)
theorem d_PR_readPlainStatement_84 : decode b_PR_readPlainStatement 84 = .ok (.aload_n 1, 1) := bz_c43 (by decide +kernel)
theorem d_PR_readPlainStatement_85 : decode b_PR_readPlainStatement 85 = .ok (.iload_n 2, 1) := bz_c28 (by decide +kernel)
theorem d_PR_readPlainStatement_86 : decode b_PR_readPlainStatement 86 = .ok (.iload_n 3, 1) := bz_c29 (by decide +kernel)
theorem d_PR_readPlainStatement_87 : decode b_PR_readPlainStatement 87 = .ok (.lconst 0, 1) := bz_c9 (by decide +kernel)
theorem d_PR_readPlainStatement_88 : decode b_PR_readPlainStatement 88 = .ok (.invokevirtual 187, 3) := bz_c182 (by decide +kernel)
theorem d_PR_readPlainStatement_91 : decode b_PR_readPlainStatement 91 = .ok (.aload_n 0, 1) := bz_c42 (by decide +kernel)
theorem d_PR_readPlainStatement_92 : decode b_PR_readPlainStatement 92 = .ok (.getstatic 153, 3) := bz_c178 (by decide +kernel)
theorem d_PR_readPlainStatement_95 : decode b_PR_readPlainStatement 95 = .ok (.invokevirtual 126, 3) := bz_c182 (by decide +kernel)
theorem d_PR_readPlainStatement_98 : decode b_PR_readPlainStatement 98 = .ok (.return_, 1) := bz_c177 (by decide +kernel)
theorem kM_PR_219 : Cond.methodLink R_PR 219 y_SC_isBeforeAssign ∈ lw_g := in_c5 109 rfl rfl
theorem kV_SC_isBeforeAssign : Cond.instanceMethod y_SC_isBeforeAssign ∈ lw_g := in_c5 110 rfl rfl
theorem kS_SC_isBeforeAssign : Cond.selects R_SC y_SC_isBeforeAssign y_SC_isBeforeAssign ∈ lw_g := in_c5 111 rfl rfl
abbrev at_PR_readPlainStatement (dC : Nat → ClassId) (dI : Nat → Nat → Nat) (sa : Nat → Nat) (h0 gl fu pa pf sf pk pg pp pz pv sc wg wp tr ss sp szs sv tx : Nat) (css csp cszs csv cpk cpg cpp cpz cpv cwg cwp : ClassId) (sc_length : Int32) (tr_length : Int32) (gss : Nat → Option Nat) (gsp : Nat → Int32) (gszs : Nat → Int32) (gsv : Nat → Int64) (A : Nat → Prop) (u : (Nat → Option Nat) × (Nat → Int32) × (Nat → Int32) × (Nat → Int64) × (Nat → Int32) × (Nat → Option Nat) × (Nat → Int32) × Int32 × Int32 × Int32 × Int32 × Int32 × Int32 × Int32 × Int32 × Nat × Int32 × Int64) (t : State) : Prop := match u with | (gpg, gpk, gpp, gpv, gpz, gwg, gwp, h0_open, h0_place, h0_reason, h0_stepCount, h0_twoSides, h0_waitingCount, sc_at, sc_place, sc_sign, sc_size, sc_value) => va_P (dC, dI) cls (wz_121 h0 gl fu pa pf sf pk pg pp pz pv h0_reason h0_place sc h0_stepCount h0_open h0_twoSides wg wp h0_waitingCount sc tr (sg sa sc_sign) sc_place sc_size sc_value ss sp szs sv sc_length sc_at tr tx tr_length ss css (fun j => (gss j).map (sg sa)) sp csp gsp szs cszs gszs sv csv gsv pk cpk gpk pg cpg (fun j => (gpg j).map (sg sa)) pp cpp gpp pz cpz gpz pv cpv gpv wg cwg (fun j => (gwg j).map (sg sa)) wp cwp gwp) t.heap ∧ va_K (dC, dI) cls [(css, .object "WaferForge$Sign"), (csp, .int), (cszs, .int), (csv, .long), (cpk, .int), (cpg, .object "WaferForge$Sign"), (cpp, .int), (cpz, .int), (cpv, .long), (cwg, .object "WaferForge$Sign"), (cwp, .int)] t ∧ va_D A (wz_121 h0 gl fu pa pf sf pk pg pp pz pv h0_reason h0_place sc h0_stepCount h0_open h0_twoSides wg wp h0_waitingCount sc tr (sg sa sc_sign) sc_place sc_size sc_value ss sp szs sv sc_length sc_at tr tx tr_length ss css (fun j => (gss j).map (sg sa)) sp csp gsp szs cszs gszs sv csv gsv pk cpk gpk pg cpg (fun j => (gpg j).map (sg sa)) pp cpp gpp pz cpz gpz pv cpv gpv wg cwg (fun j => (gwg j).map (sg sa)) wp cwp gwp)
set_option maxHeartbeats 4000000 in
set_option maxRecDepth 100000 in
theorem c_PR_readPlainStatement (l : Launch) (hlt : l.stackTraces = false) (dC : Nat → ClassId) (dI : Nat → Nat → Nat) (sz : Nat) (sa : Nat → Nat) (h0 gl fu pa pf sf pk pg pp pz pv sc wg wp tr ss sp szs sv tx : Nat) (css csp cszs csv cpk cpg cpp cpz cpv cwg cwp : ClassId) (h0_reason : Int32) (h0_place : Int32) (h0_stepCount : Int32) (h0_open : Int32) (h0_twoSides : Int32) (h0_waitingCount : Int32) (sc_sign : Nat) (sc_place : Int32) (sc_size : Int32) (sc_value : Int64) (sc_length : Int32) (sc_at : Int32) (tr_length : Int32) (gss : Nat → Option Nat) (gsp : Nat → Int32) (gszs : Nat → Int32) (gsv : Nat → Int64) (gpk : Nat → Int32) (gpg : Nat → Option Nat) (gpp : Nat → Int32) (gpz : Nat → Int32) (gpv : Nat → Int64) (gwg : Nat → Option Nat) (gwp : Nat → Int32)  (b_h0_stepCount : 0 ≤ h0_stepCount.toInt ∧ h0_stepCount.toInt ≤ 4100) (b_h0_open : 0 ≤ h0_open.toInt ∧ h0_open.toInt ≤ 40) (b_h0_twoSides : 0 ≤ h0_twoSides.toInt ∧ h0_twoSides.toInt ≤ 400) (b_h0_waitingCount : 0 ≤ h0_waitingCount.toInt ∧ h0_waitingCount.toInt ≤ 360) (b_sc_sign : sc_sign < 55) (b_sc_place : 0 ≤ sc_place.toInt ∧ sc_place.toInt ≤ 2000) (b_sc_size : 0 ≤ sc_size.toInt ∧ sc_size.toInt ≤ 2000) (b_sc_length : 0 ≤ sc_length.toInt ∧ sc_length.toInt ≤ 2001) (b_sc_at : -1 ≤ sc_at.toInt ∧ sc_at.toInt ≤ 2000) (b_tr_length : 0 ≤ tr_length.toInt ∧ tr_length.toInt ≤ 2000)   (hsk : sk tr_length.toInt sc_length.toInt sc_at.toInt sc_sign sc_place sc_size sc_value gss gsp gszs gsv) (hst : 10 * h0_stepCount.toInt ≤ 20 * sc_place.toInt) (hwc : h0_waitingCount.toInt ≤ 8 * h0_open.toInt) : tz_Met l y_PR_readPlainStatement w_PR_readPlainStatement ({ frames := 221, cells := 1, slots := 6, locals := 5242 }) (va_Pc [.ref h0] (fun U => U.heap.size = sz ∧ va_P (dC, dI) cls (wz_121 h0 gl fu pa pf sf pk pg pp pz pv h0_reason h0_place sc h0_stepCount h0_open h0_twoSides wg wp h0_waitingCount sc tr (sg sa sc_sign) sc_place sc_size sc_value ss sp szs sv sc_length sc_at tr tx tr_length ss css (fun j => (gss j).map (sg sa)) sp csp gsp szs cszs gszs sv csv gsv pk cpk gpk pg cpg (fun j => (gpg j).map (sg sa)) pp cpp gpp pz cpz gpz pv cpv gpv wg cwg (fun j => (gwg j).map (sg sa)) wp cwp gwp) U.heap ∧ va_K (dC, dI) cls [(css, .object "WaferForge$Sign"), (csp, .int), (cszs, .int), (csv, .long), (cpk, .int), (cpg, .object "WaferForge$Sign"), (cpp, .int), (cpz, .int), (cpv, .long), (cwg, .object "WaferForge$Sign"), (cwp, .int)] U ∧ va_D (fun _ => True) (wz_121 h0 gl fu pa pf sf pk pg pp pz pv h0_reason h0_place sc h0_stepCount h0_open h0_twoSides wg wp h0_waitingCount sc tr (sg sa sc_sign) sc_place sc_size sc_value ss sp szs sv sc_length sc_at tr tx tr_length ss css (fun j => (gss j).map (sg sa)) sp csp gsp szs cszs gszs sv csv gsv pk cpk gpk pg cpg (fun j => (gpg j).map (sg sa)) pp cpp gpp pz cpz gpz pv cpv gpv wg cwg (fun j => (gwg j).map (sg sa)) wp cwp gwp) ∧ sw sa (va_A (wz_121 h0 gl fu pa pf sf pk pg pp pz pv h0_reason h0_place sc h0_stepCount h0_open h0_twoSides wg wp h0_waitingCount sc tr (sg sa sc_sign) sc_place sc_size sc_value ss sp szs sv sc_length sc_at tr tx tr_length ss css (fun j => (gss j).map (sg sa)) sp csp gsp szs cszs gszs sv csv gsv pk cpk gpk pg cpg (fun j => (gpg j).map (sg sa)) pp cpp gpp pz cpz gpz pv cpv gpv wg cwg (fun j => (gwg j).map (sg sa)) wp cwp gwp) sz) U U.heap)) (tq_Q (tq_v (fun (u : (Nat → Option Nat) × (Nat → Int32) × (Nat → Int32) × (Nat → Int64) × (Nat → Int32) × (Nat → Option Nat) × (Nat → Int32) × Int32 × Int32 × Int32 × Int32 × Int32 × Int32 × Int32 × Int32 × Nat × Int32 × Int64) => match u with | (gpg2, gpk2, gpp2, gpv2, gpz2, gwg2, gwp2, h0_open2, h0_place2, h0_reason2, h0_stepCount2, h0_twoSides2, h0_waitingCount2, sc_at2, sc_place2, sc_sign2, sc_size2, sc_value2) => (0 ≤ h0_open2.toInt ∧ h0_open2.toInt ≤ 40) ∧ (0 ≤ h0_stepCount2.toInt ∧ h0_stepCount2.toInt ≤ 4100) ∧ (0 ≤ h0_twoSides2.toInt ∧ h0_twoSides2.toInt ≤ 400) ∧ (0 ≤ h0_waitingCount2.toInt ∧ h0_waitingCount2.toInt ≤ 360) ∧ (-1 ≤ sc_at2.toInt ∧ sc_at2.toInt ≤ 2000) ∧ (0 ≤ sc_place2.toInt ∧ sc_place2.toInt ≤ 2000) ∧ (sc_sign2 < 55) ∧ (0 ≤ sc_size2.toInt ∧ sc_size2.toInt ≤ 2000) ∧ (sk tr_length.toInt sc_length.toInt sc_at2.toInt sc_sign2 sc_place2 sc_size2 sc_value2 gss gsp gszs gsv ∧ pX (16 * h0_open.toInt - 9) (fun S => S) (sl gpk gpg gpp gpz gpv h0_stepCount.toInt) (sl gpk2 gpg2 gpp2 gpz2 gpv2 h0_stepCount2.toInt) (20 * sc_place2.toInt - 20 * sc_place.toInt - 0) ∧ h0_open2.toInt = h0_open.toInt ∧ h0_waitingCount2.toInt = h0_waitingCount.toInt ∧ wk h0_waitingCount.toInt gwg gwg2 ∧ sc_place.toInt ≤ sc_place2.toInt)) "java/lang/UnsupportedOperationException" (fun (u : (Nat → Option Nat) × (Nat → Int32) × (Nat → Int32) × (Nat → Int64) × (Nat → Int32) × (Nat → Option Nat) × (Nat → Int32) × Int32 × Int32 × Int32 × Int32 × Int32 × Int32 × Int32 × Int32 × Nat × Int32 × Int64) => match u with | (gpg2, gpk2, gpp2, gpv2, gpz2, gwg2, gwp2, h0_open2, h0_place2, h0_reason2, h0_stepCount2, h0_twoSides2, h0_waitingCount2, sc_at2, sc_place2, sc_sign2, sc_size2, sc_value2) => (0 ≤ h0_open2.toInt ∧ h0_open2.toInt ≤ 40) ∧ (0 ≤ h0_stepCount2.toInt ∧ h0_stepCount2.toInt ≤ 4100) ∧ (0 ≤ h0_twoSides2.toInt ∧ h0_twoSides2.toInt ≤ 400) ∧ (0 ≤ h0_waitingCount2.toInt ∧ h0_waitingCount2.toInt ≤ 360) ∧ (-1 ≤ sc_at2.toInt ∧ sc_at2.toInt ≤ 2000) ∧ (0 ≤ sc_place2.toInt ∧ sc_place2.toInt ≤ 2000) ∧ (sc_sign2 < 55) ∧ (0 ≤ sc_size2.toInt ∧ sc_size2.toInt ≤ 2000))) (at_PR_readPlainStatement dC dI sa h0 gl fu pa pf sf pk pg pp pz pv sc wg wp tr ss sp szs sv tx css csp cszs csv cpk cpg cpp cpz cpv cwg cwp sc_length tr_length gss gsp gszs gsv (va_A (wz_121 h0 gl fu pa pf sf pk pg pp pz pv h0_reason h0_place sc h0_stepCount h0_open h0_twoSides wg wp h0_waitingCount sc tr (sg sa sc_sign) sc_place sc_size sc_value ss sp szs sv sc_length sc_at tr tx tr_length ss css (fun j => (gss j).map (sg sa)) sp csp gsp szs cszs gszs sv csv gsv pk cpk gpk pg cpg (fun j => (gpg j).map (sg sa)) pp cpp gpp pz cpz gpz pv cpv gpv wg cwg (fun j => (gwg j).map (sg sa)) wp cwp gwp) sz)) (va_A (wz_121 h0 gl fu pa pf sf pk pg pp pz pv h0_reason h0_place sc h0_stepCount h0_open h0_twoSides wg wp h0_waitingCount sc tr (sg sa sc_sign) sc_place sc_size sc_value ss sp szs sv sc_length sc_at tr tx tr_length ss css (fun j => (gss j).map (sg sa)) sp csp gsp szs cszs gszs sv csv gsv pk cpk gpk pg cpg (fun j => (gpg j).map (sg sa)) pp cpp gpp pz cpz gpz pv cpv gpv wg cwg (fun j => (gwg j).map (sg sa)) wp cwp gwp) sz)) (tz_k 0 0 1 6) (va_A (wz_121 h0 gl fu pa pf sf pk pg pp pz pv h0_reason h0_place sc h0_stepCount h0_open h0_twoSides wg wp h0_waitingCount sc tr (sg sa sc_sign) sc_place sc_size sc_value ss sp szs sv sc_length sc_at tr tx tr_length ss css (fun j => (gss j).map (sg sa)) sp csp gsp szs cszs gszs sv csv gsv pk cpk gpk pg cpg (fun j => (gpg j).map (sg sa)) pp cpp gpp pz cpz gpz pv cpv gpv wg cwg (fun j => (gwg j).map (sg sa)) wp cwp gwp) sz) := by
  refine tz_ofW (cc := b_PR_readPlainStatement) (maxL := 5) (ret := none) (by decide) rfl ?_
  intro p e s m args below meth c s₁ B hml hno hv
  obtain ⟨rfl, hsz, hP, hK, hD0, hSW⟩ := hv
  have hx := B.exec
  have hb := B.bytes
  have hr := B.returns
  have hts0 := atoms_spec (ws := w_PR_readPlainStatement) B.pre
  have hts : ∀ w ∈ lw_g, w.before _ s = true := fun w h => hts0 w (List.mem_cons_of_mem _ h)
  have hown : s.vm.findClass R_PR = some m.cls := findClass_of_methodNamed B.named
  have hlocks := B.notSynchronized
  clear hts0
  subst hsz
  have hD := hD0.self (sz := s.heap.size)
  generalize hAe : va_A (wz_121 h0 gl fu pa pf sf pk pg pp pz pv h0_reason h0_place sc h0_stepCount h0_open h0_twoSides wg wp h0_waitingCount sc tr (sg sa sc_sign) sc_place sc_size sc_value ss sp szs sv sc_length sc_at tr tx tr_length ss css (fun j => (gss j).map (sg sa)) sp csp gsp szs cszs gszs sv csv gsv pk cpk gpk pg cpg (fun j => (gpg j).map (sg sa)) pp cpp gpp pz cpz gpz pv cpv gpv wg cwg (fun j => (gwg j).map (sg sa)) wp cwp gwp) s.heap.size = A at hD hSW ⊢
  have hA : ∀ q : Nat, s.heap.size ≤ q → A q := fun q h => by rw [← hAe]; exact Or.inr h
  clear hAe
  have hP : va_P (dC, dI) cls (wz_121 h0 gl fu pa pf sf pk pg pp pz pv h0_reason h0_place sc h0_stepCount h0_open h0_twoSides wg wp h0_waitingCount sc tr (sg sa sc_sign) sc_place sc_size sc_value ss sp szs sv sc_length sc_at tr tx tr_length ss css (fun j => (gss j).map (sg sa)) sp csp gsp szs cszs gszs sv csv gsv pk cpk gpk pg cpg (fun j => (gpg j).map (sg sa)) pp cpp gpp pz cpz gpz pv cpv gpv wg cwg (fun j => (gwg j).map (sg sa)) wp cwp gwp) s.heap := hP
  have hl := lv_entry ([.ref h0]) (n := 5) (Nat.le_of_ble_eq_true rfl)
  rw [lg_entry_eq]
  generalize (lg_sl ([.ref h0]) ++ List.replicate (5 - (lg_sl ([.ref h0])).length) Slot.unset).toArray = ls at hl ⊢
  have hl : lv_has ls 5 [(0, .ref h0)] := hl
  have k0 : (0 : Int32).toInt = 0 := by decide
  refine w_gen (A := A) hP (fun H locs hP hS => ?_)
  have k1 : (1 : Int32).toInt = 1 := by decide
  have k9 : (9 : Int32).toInt = 9 := by decide
  have k10 : (10 : Int32).toInt = 10 := by decide
  have isk := sk_is hsk
  have isk0 := hsk
  refine lv_aload_n hx hb d_PR_readPlainStatement_0 rfl (lv_at hl 0 rfl) ?_
  refine va_get (D := (dC, dI)) (ci := 6) (v := .ref sc) (C := R_PR) (T := F_PR) (N := 19) hx hb hts i_PR hown hK hP 0 rfl rfl 12 (by decide) (hts _ kF_PR_43) (fun _ h9 => h9) rfl d_PR_readPlainStatement_1 ?_
  refine va_get (D := (dC, dI)) (ci := 8) (v := .ref (sg sa sc_sign)) (C := R_SC) (T := F_SC) (N := 11) hx hb hts i_SC hown hK hP 1 rfl rfl 1 (by decide) (hts _ kF_PR_93) (fun _ h9 => h9) rfl d_PR_readPlainStatement_4 ?_
  refine lv_astore_n (lv' := [(1, .ref (sg sa sc_sign)), (0, .ref h0)]) hx hb d_PR_readPlainStatement_7 rfl hl (by decide) rfl (fun ls hl => ?_)
  refine lv_aload_n hx hb d_PR_readPlainStatement_8 rfl (lv_at hl 1 rfl) ?_
  refine va_get (D := (dC, dI)) (ci := 6) (v := .ref sc) (C := R_PR) (T := F_PR) (N := 19) hx hb hts i_PR hown hK hP 0 rfl rfl 12 (by decide) (hts _ kF_PR_43) (fun _ h9 => h9) rfl d_PR_readPlainStatement_9 ?_
  refine va_get (D := (dC, dI)) (ci := 8) (v := .int sc_place) (C := R_SC) (T := F_SC) (N := 11) hx hb hts i_SC hown hK hP 1 rfl rfl 2 (by decide) (hts _ kF_PR_109) (fun _ h9 => h9) rfl d_PR_readPlainStatement_12 ?_
  refine lv_istore_n (lv' := [(2, .int sc_place), (1, .ref (sg sa sc_sign)), (0, .ref h0)]) hx hb d_PR_readPlainStatement_15 rfl hl (by decide) rfl (fun ls hl => ?_)
  refine lv_aload_n hx hb d_PR_readPlainStatement_16 rfl (lv_at hl 2 rfl) ?_
  refine va_get (D := (dC, dI)) (ci := 6) (v := .ref sc) (C := R_PR) (T := F_PR) (N := 19) hx hb hts i_PR hown hK hP 0 rfl rfl 12 (by decide) (hts _ kF_PR_43) (fun _ h9 => h9) rfl d_PR_readPlainStatement_17 ?_
  refine va_get (D := (dC, dI)) (ci := 8) (v := .int sc_size) (C := R_SC) (T := F_SC) (N := 11) hx hb hts i_SC hown hK hP 1 rfl rfl 3 (by decide) (hts _ kF_PR_120) (fun _ h9 => h9) rfl d_PR_readPlainStatement_20 ?_
  refine lv_istore_n (lv' := [(3, .int sc_size), (2, .int sc_place), (1, .ref (sg sa sc_sign)), (0, .ref h0)]) hx hb d_PR_readPlainStatement_23 rfl hl (by decide) rfl (fun ls hl => ?_)
  refine lv_aload_n hx hb d_PR_readPlainStatement_24 rfl (lv_at hl 2 rfl) ?_
  refine va_gets (C := "WaferForge$Sign") (n := "NAME") (d := "LWaferForge$Sign;") (v := .ref (sg sa 2)) hx hb ((hSW.2.2.2.1.1 2 (by decide)).1) hS hown (hts _ kF_PR_123) (fun _ h9 => h9) d_PR_readPlainStatement_25 ?_
  refine w_cut (pc2 := 46) (σ := Int32) (fun u H locs ls => match u with | j46_s0 => (j46_s0 = 0 ∨ j46_s0 = 1) ∧ (j46_s0 = 1 → sc_sign = 2) ∧ va_P (dC, dI) cls (wz_121 h0 gl fu pa pf sf pk pg pp pz pv h0_reason h0_place sc h0_stepCount h0_open h0_twoSides wg wp h0_waitingCount sc tr (sg sa sc_sign) sc_place sc_size sc_value ss sp szs sv sc_length sc_at tr tx tr_length ss css (fun j => (gss j).map (sg sa)) sp csp gsp szs cszs gszs sv csv gsv pk cpk gpk pg cpg (fun j => (gpg j).map (sg sa)) pp cpp gpp pz cpz gpz pv cpv gpv wg cwg (fun j => (gwg j).map (sg sa)) wp cwp gwp) H ∧ va_D A (wz_121 h0 gl fu pa pf sf pk pg pp pz pv h0_reason h0_place sc h0_stepCount h0_open h0_twoSides wg wp h0_waitingCount sc tr (sg sa sc_sign) sc_place sc_size sc_value ss sp szs sv sc_length sc_at tr tx tr_length ss css (fun j => (gss j).map (sg sa)) sp csp gsp szs cszs gszs sv csv gsv pk cpk gpk pg cpg (fun j => (gpg j).map (sg sa)) pp cpp gpp pz cpz gpz pv cpv gpv wg cwg (fun j => (gwg j).map (sg sa)) wp cwp gwp) ∧ va_S A s.heap H locs ∧ lv_has ls 5 [(0, .ref h0), (1, .ref (sg sa sc_sign)), (2, .int sc_place), (3, .int sc_size)]) (fun u => match u with | j46_s0 => [.int j46_s0]) ?_ (fun jn46 => ?_)
  · intro u H locs ls hI
    obtain ⟨j46_s0, rfl⟩ : ∃ z, z = u := ⟨_, rfl⟩
    obtain ⟨b_j46_s0, y46, hP, hD, hS, hl⟩ := hI
    have tj46_s0 := b01 b_j46_s0
    refine lv_istore (lv' := [(4, .int j46_s0), (0, .ref h0), (1, .ref (sg sa sc_sign)), (2, .int sc_place), (3, .int sc_size)]) hx hb d_PR_readPlainStatement_46 hl (by decide) rfl (fun ls hl => ?_)
    refine lv_iload hx hb d_PR_readPlainStatement_48 (lv_at hl 0 rfl) ?_
    refine w_cut (pc2 := 67) (σ := Int32 × Int32 × Int32 × Int32 × Nat × Int32 × Int64) (fun u H locs ls => match u with | (j67_h0_place, j67_h0_reason, j67_sc_at, j67_sc_place, j67_sc_sign, j67_sc_size, j67_sc_value) => (-1 ≤ j67_sc_at.toInt ∧ j67_sc_at.toInt ≤ 2000) ∧ (0 ≤ j67_sc_place.toInt ∧ j67_sc_place.toInt ≤ 2000) ∧ (j67_sc_sign < 55) ∧ (0 ≤ j67_sc_size.toInt ∧ j67_sc_size.toInt ≤ 2000) ∧ (sk tr_length.toInt sc_length.toInt j67_sc_at.toInt j67_sc_sign j67_sc_place j67_sc_size j67_sc_value gss gsp gszs gsv) ∧ (sc_place.toInt ≤ j67_sc_place.toInt) ∧ va_P (dC, dI) cls (wz_121 h0 gl fu pa pf sf pk pg pp pz pv j67_h0_reason j67_h0_place sc h0_stepCount h0_open h0_twoSides wg wp h0_waitingCount sc tr (sg sa j67_sc_sign) j67_sc_place j67_sc_size j67_sc_value ss sp szs sv sc_length j67_sc_at tr tx tr_length ss css (fun j => (gss j).map (sg sa)) sp csp gsp szs cszs gszs sv csv gsv pk cpk gpk pg cpg (fun j => (gpg j).map (sg sa)) pp cpp gpp pz cpz gpz pv cpv gpv wg cwg (fun j => (gwg j).map (sg sa)) wp cwp gwp) H ∧ va_D A (wz_121 h0 gl fu pa pf sf pk pg pp pz pv j67_h0_reason j67_h0_place sc h0_stepCount h0_open h0_twoSides wg wp h0_waitingCount sc tr (sg sa j67_sc_sign) j67_sc_place j67_sc_size j67_sc_value ss sp szs sv sc_length j67_sc_at tr tx tr_length ss css (fun j => (gss j).map (sg sa)) sp csp gsp szs cszs gszs sv csv gsv pk cpk gpk pg cpg (fun j => (gpg j).map (sg sa)) pp cpp gpp pz cpz gpz pv cpv gpv wg cwg (fun j => (gwg j).map (sg sa)) wp cwp gwp) ∧ va_S A s.heap H locs ∧ lv_has ls 5 [(0, .ref h0), (1, .ref (sg sa sc_sign)), (2, .int sc_place), (3, .int sc_size), (4, .int j46_s0)]) (fun u => match u with | (j67_h0_place, j67_h0_reason, j67_sc_at, j67_sc_place, j67_sc_sign, j67_sc_size, j67_sc_value) => []) ?_ (fun jn67 => ?_)
    · intro u H locs ls hI
      obtain ⟨j67_h0_place, j67_h0_reason, j67_sc_at, j67_sc_place, j67_sc_sign, j67_sc_size, j67_sc_value⟩ := u
      obtain ⟨b_j67_sc_at, b_j67_sc_place, b_j67_sc_sign, b_j67_sc_size, hsk, y67, hP, hD, hS, hl⟩ := hI
      refine lv_aload_n hx hb d_PR_readPlainStatement_67 rfl (lv_at hl 0 rfl) ?_
      have hPc := hP.sb (wq := (wz_121 h0 gl fu pa pf sf pk pg pp pz pv j67_h0_reason j67_h0_place sc h0_stepCount h0_open h0_twoSides wg wp h0_waitingCount sc tr (sg sa j67_sc_sign) j67_sc_place j67_sc_size j67_sc_value ss sp szs sv sc_length j67_sc_at tr tx tr_length ss css (fun j => (gss j).map (sg sa)) sp csp gsp szs cszs gszs sv csv gsv pk cpk gpk pg cpg (fun j => (gpg j).map (sg sa)) pp cpp gpp pz cpz gpz pv cpv gpv wg cwg (fun j => (gwg j).map (sg sa)) wp cwp gwp)) [0, 1, 2, 3, 4, 5, 6, 7, 8, 9, 10, 11, 12, 13] rfl
      have hDc := hD.sb (wq := (wz_121 h0 gl fu pa pf sf pk pg pp pz pv j67_h0_reason j67_h0_place sc h0_stepCount h0_open h0_twoSides wg wp h0_waitingCount sc tr (sg sa j67_sc_sign) j67_sc_place j67_sc_size j67_sc_value ss sp szs sv sc_length j67_sc_at tr tx tr_length ss css (fun j => (gss j).map (sg sa)) sp csp gsp szs cszs gszs sv csv gsv pk cpk gpk pg cpg (fun j => (gpg j).map (sg sa)) pp cpp gpp pz cpz gpz pv cpv gpv wg cwg (fun j => (gwg j).map (sg sa)) wp cwp gwp)) [0, 1, 2, 3, 4, 5, 6, 7, 8, 9, 10, 11, 12, 13] (by decide) rfl
      have hKc := hK.sb (tyq := [(css, .object "WaferForge$Sign"), (csp, .int), (cszs, .int), (csv, .long), (cpk, .int), (cpg, .object "WaferForge$Sign"), (cpp, .int), (cpz, .int), (cpv, .long), (cwg, .object "WaferForge$Sign"), (cwp, .int)]) [0, 1, 2, 3, 4, 5, 6, 7, 8, 9, 10] rfl
      have hFc := va_free (wc := (wz_121 h0 gl fu pa pf sf pk pg pp pz pv j67_h0_reason j67_h0_place sc h0_stepCount h0_open h0_twoSides wg wp h0_waitingCount sc tr (sg sa j67_sc_sign) j67_sc_place j67_sc_size j67_sc_value ss sp szs sv sc_length j67_sc_at tr tx tr_length ss css (fun j => (gss j).map (sg sa)) sp csp gsp szs cszs gszs sv csv gsv pk cpk gpk pg cpg (fun j => (gpg j).map (sg sa)) pp cpp gpp pz cpz gpz pv cpv gpv wg cwg (fun j => (gwg j).map (sg sa)) wp cwp gwp)) hD hS hA [0, 1, 2, 3, 4, 5, 6, 7, 8, 9, 10, 11, 12, 13] rfl
      refine tq_callv (tz_runV (As := []) (rest := []) ⟨hx, hb, hml, hown, hts⟩ (k_readX l hlt 41 dC dI H.size sa h0 gl fu pa pf sf pk pg pp pz pv sc wg wp tr ss sp szs sv tx css csp cszs csv cpk cpg cpp cpz cpv cwg cwp j67_h0_reason j67_h0_place h0_stepCount h0_open h0_twoSides h0_waitingCount j67_sc_sign j67_sc_place j67_sc_size j67_sc_value sc_length j67_sc_at tr_length gss gsp gszs gsv gpk gpg gpp gpz gpv gwg gwp (b_h0_stepCount) (b_h0_open) (b_h0_twoSides) (b_h0_waitingCount) (b_j67_sc_sign) (b_j67_sc_place) (b_j67_sc_size) (b_sc_length) (b_j67_sc_at) (b_tr_length) (hsk) (by (try dsimp only) <;> (first | (apply Int.le_antisymm <;> omega) | omega)) (by (try dsimp only) <;> (first | (apply Int.le_antisymm <;> omega) | omega)) (by (try dsimp only) <;> (first | (apply Int.le_antisymm <;> omega) | omega))) (cwV 0 hts (gV kM_PR_223 kV_PR_readX kS_PR_readX kI_PR kC_PR_readX) rfl rfl rfl (by decide +kernel) ⟨Nat.le_of_ble_eq_true rfl, Nat.le_of_ble_eq_true rfl⟩) ⟨fun a U g mk z => by obtain ⟨z0, z1, zP, zK, zD, zS⟩ := z; exact ⟨z0, z1, zP, va_K.moved (u := U) (U := U.calling g mk a) (Vm.Alike.refl U.vm) zK, zD, sw.same (u := U) (U := U.calling g mk a) rfl zS⟩, va_recv hKc hPc (ci := 6) (q0 := 0) rfl rfl, fun U hU hW => ⟨rfl, by rw [hU], va_P.he hU.symm hPc, va_K.moved hW.alike hKc, hDc.weaken (fun _ _ _ _ => trivial), hSW.call hS hFc hW hU⟩⟩ rfl rfl hl.1 rfl (lv_room (Nat.le_of_ble_eq_true rfl)) d_PR_readPlainStatement_68 ⟨Nat.le_of_ble_eq_true rfl, Nat.le_of_ble_eq_true rfl⟩) hS (fun q _ h => hFc q h) hFc (fun u t H1 locs ht hvm hw hB hz1 hk1 hS => ?_) (fun xx u t H1 locs ht hvm hw hXX hB hz1 hk1 hS => ?_)
      rotate_left
      · skip
        obtain ⟨n2, n3, n4, n5, n6, n7, n8, n9, n10, n11, hq9r⟩ := u
        obtain ⟨n12, n13, n14, n15, n16, n17, n18, n19⟩ := hq9r
        try dsimp only at hw
        obtain ⟨bn9, bn12, bn13, bn14, bn15, bn16, bn17, bn18⟩ := hw
        obtain ⟨hP1, hK1, hD1⟩ := hB
        replace hP1 := va_P.he ht hP1
        obtain ⟨hP, hD⟩ := va_join (wr := []) (w1 := (wz_121 h0 gl fu pa pf sf pk pg pp pz pv n11 n10 sc n12 n9 n13 wg wp n14 sc tr (sg sa n17) n16 n18 n19 ss sp szs sv sc_length n15 tr tx tr_length ss css (fun j => (gss j).map (sg sa)) sp csp gsp szs cszs gszs sv csv gsv pk cpk n3 pg cpg (fun j => (n2 j).map (sg sa)) pp cpp n4 pz cpz n6 pv cpv n5 wg cwg (fun j => (n7 j).map (sg sa)) wp cwp n8)) hP hD [0, 1, 2, 3, 4, 5, 6, 7, 8, 9, 10, 11, 12, 13] [] rfl rfl (by decide) (by decide) hk1 hFc hP1 hD1
        have hP : va_P (dC, dI) cls (wz_121 h0 gl fu pa pf sf pk pg pp pz pv n11 n10 sc n12 n9 n13 wg wp n14 sc tr (sg sa n17) n16 n18 n19 ss sp szs sv sc_length n15 tr tx tr_length ss css (fun j => (gss j).map (sg sa)) sp csp gsp szs cszs gszs sv csv gsv pk cpk n3 pg cpg (fun j => (n2 j).map (sg sa)) pp cpp n4 pz cpz n6 pv cpv n5 wg cwg (fun j => (n7 j).map (sg sa)) wp cwp n8) H1 := hP
        have hD : va_D A (wz_121 h0 gl fu pa pf sf pk pg pp pz pv n11 n10 sc n12 n9 n13 wg wp n14 sc tr (sg sa n17) n16 n18 n19 ss sp szs sv sc_length n15 tr tx tr_length ss css (fun j => (gss j).map (sg sa)) sp csp gsp szs cszs gszs sv csv gsv pk cpk n3 pg cpg (fun j => (n2 j).map (sg sa)) pp cpp n4 pz cpz n6 pv cpv n5 wg cwg (fun j => (n7 j).map (sg sa)) wp cwp n8) := hD
        have hP9 := hP.sb (wq := (wz_121 h0 gl fu pa pf sf pk pg pp pz pv n11 n10 sc n12 n9 n13 wg wp n14 sc tr (sg sa n17) n16 n18 n19 ss sp szs sv sc_length n15 tr tx tr_length ss css (fun j => (gss j).map (sg sa)) sp csp gsp szs cszs gszs sv csv gsv pk cpk n3 pg cpg (fun j => (n2 j).map (sg sa)) pp cpp n4 pz cpz n6 pv cpv n5 wg cwg (fun j => (n7 j).map (sg sa)) wp cwp n8)) [0, 1, 2, 3, 4, 5, 6, 7, 8, 9, 10, 11, 12, 13] rfl
        have hD9 := hD.sb (wq := (wz_121 h0 gl fu pa pf sf pk pg pp pz pv n11 n10 sc n12 n9 n13 wg wp n14 sc tr (sg sa n17) n16 n18 n19 ss sp szs sv sc_length n15 tr tx tr_length ss css (fun j => (gss j).map (sg sa)) sp csp gsp szs cszs gszs sv csv gsv pk cpk n3 pg cpg (fun j => (n2 j).map (sg sa)) pp cpp n4 pz cpz n6 pv cpv n5 wg cwg (fun j => (n7 j).map (sg sa)) wp cwp n8)) [0, 1, 2, 3, 4, 5, 6, 7, 8, 9, 10, 11, 12, 13] (by decide) rfl
        exact tz_leave rfl hno hlocks (fun t ht hW => ⟨⟨(n2, n3, n4, n5, n6, n7, n8, n9, n10, n11, n12, n13, n14, n15, n16, n17, n18, n19), ⟨⟨bn9, bn12, bn13, bn14, bn15, bn16, bn17, bn18⟩, by rw [ht]; exact hXX.moved hW.alike⟩, va_P.he ht.symm hP9, va_K.moved hW.alike hK, hD9⟩, hS.F ht⟩) hS.2.2
      obtain ⟨n20, n21, n22, n23, n24, n25, n26, n27, n28, n29, hq9r⟩ := u
      obtain ⟨n30, n31, n32, n33, n34, n35, n36, n37⟩ := hq9r
      try dsimp only at hw
      obtain ⟨bn27, bn30, bn31, bn32, bn33, bn34, bn35, bn36, xr1⟩ := hw
      try clear hw
      have or1 := hsk
      obtain ⟨hsk, Xr1, ar1, cr1, wr1, mr1⟩ := xr1
      have nr1 := pX_n Xr1 (by (first | (apply Int.le_antisymm <;> omega) | omega)) (by (first | (apply Int.le_antisymm <;> omega) | omega))
      have dr1 := sk_is hsk
      obtain ⟨hP1, hK1, hD1⟩ := hB
      replace hP1 := va_P.he ht hP1
      obtain ⟨hP, hD⟩ := va_join (wr := []) (w1 := (wz_121 h0 gl fu pa pf sf pk pg pp pz pv n29 n28 sc n30 n27 n31 wg wp n32 sc tr (sg sa n35) n34 n36 n37 ss sp szs sv sc_length n33 tr tx tr_length ss css (fun j => (gss j).map (sg sa)) sp csp gsp szs cszs gszs sv csv gsv pk cpk n21 pg cpg (fun j => (n20 j).map (sg sa)) pp cpp n22 pz cpz n24 pv cpv n23 wg cwg (fun j => (n25 j).map (sg sa)) wp cwp n26)) hP hD [0, 1, 2, 3, 4, 5, 6, 7, 8, 9, 10, 11, 12, 13] [] rfl rfl (by decide) (by decide) hk1 hFc hP1 hD1
      clear hPc hDc hKc hFc hz1 hk1 hP1 hK1 hD1
      rename Heap => H
      have hP : va_P (dC, dI) cls (wz_121 h0 gl fu pa pf sf pk pg pp pz pv n29 n28 sc n30 n27 n31 wg wp n32 sc tr (sg sa n35) n34 n36 n37 ss sp szs sv sc_length n33 tr tx tr_length ss css (fun j => (gss j).map (sg sa)) sp csp gsp szs cszs gszs sv csv gsv pk cpk n21 pg cpg (fun j => (n20 j).map (sg sa)) pp cpp n22 pz cpz n24 pv cpv n23 wg cwg (fun j => (n25 j).map (sg sa)) wp cwp n26) H := hP
      have hD : va_D A (wz_121 h0 gl fu pa pf sf pk pg pp pz pv n29 n28 sc n30 n27 n31 wg wp n32 sc tr (sg sa n35) n34 n36 n37 ss sp szs sv sc_length n33 tr tx tr_length ss css (fun j => (gss j).map (sg sa)) sp csp gsp szs cszs gszs sv csv gsv pk cpk n21 pg cpg (fun j => (n20 j).map (sg sa)) pp cpp n22 pz cpz n24 pv cpv n23 wg cwg (fun j => (n25 j).map (sg sa)) wp cwp n26) := hD
      refine lv_aload_n hx hb d_PR_readPlainStatement_71 rfl (lv_at hl 0 rfl) ?_
      refine lv_iload hx hb d_PR_readPlainStatement_72 (lv_at hl 4 rfl) ?_
      refine w_cut (pc2 := 84) (σ := Int32) (fun u H locs ls => match u with | j84_s0 => ((j84_s0 = 9 ∧ sc_sign = 2) ∨ j84_s0 = 10) ∧ va_P (dC, dI) cls (wz_121 h0 gl fu pa pf sf pk pg pp pz pv n29 n28 sc n30 n27 n31 wg wp n32 sc tr (sg sa n35) n34 n36 n37 ss sp szs sv sc_length n33 tr tx tr_length ss css (fun j => (gss j).map (sg sa)) sp csp gsp szs cszs gszs sv csv gsv pk cpk n21 pg cpg (fun j => (n20 j).map (sg sa)) pp cpp n22 pz cpz n24 pv cpv n23 wg cwg (fun j => (n25 j).map (sg sa)) wp cwp n26) H ∧ va_D A (wz_121 h0 gl fu pa pf sf pk pg pp pz pv n29 n28 sc n30 n27 n31 wg wp n32 sc tr (sg sa n35) n34 n36 n37 ss sp szs sv sc_length n33 tr tx tr_length ss css (fun j => (gss j).map (sg sa)) sp csp gsp szs cszs gszs sv csv gsv pk cpk n21 pg cpg (fun j => (n20 j).map (sg sa)) pp cpp n22 pz cpz n24 pv cpv n23 wg cwg (fun j => (n25 j).map (sg sa)) wp cwp n26) ∧ va_S A s.heap H locs ∧ lv_has ls 5 [(0, .ref h0), (1, .ref (sg sa sc_sign)), (2, .int sc_place), (3, .int sc_size)]) (fun u => match u with | j84_s0 => [.int j84_s0, .ref h0]) ?_ (fun jn84 => ?_)
      · intro u H locs ls hI
        obtain ⟨j84_s0, rfl⟩ : ∃ z, z = u := ⟨_, rfl⟩
        obtain ⟨y84, hP, hD, hS, hl⟩ := hI
        refine lv_aload_n hx hb d_PR_readPlainStatement_84 rfl (lv_at hl 1 rfl) ?_
        refine lv_iload_n hx hb d_PR_readPlainStatement_85 rfl (lv_at hl 2 rfl) ?_
        refine lv_iload_n hx hb d_PR_readPlainStatement_86 rfl (lv_at hl 3 rfl) ?_
        refine lv_lconst (v := 0) hx hb d_PR_readPlainStatement_87 (by decide) ?_
        have kl0 : (0 : Int64).toInt = 0 := by decide
        have hPc := hP.sb (wq := (wz_114 h0 gl fu pa pf sf pk pg pp pz pv n29 n28 sc n30 n27 n31 wg wp n32 pk cpk n21 pg cpg (fun j => (n20 j).map (sg sa)) pp cpp n22 pz cpz n24 pv cpv n23)) [0, 7, 8, 9, 10, 11] rfl
        have hDc := hD.sb (wq := (wz_114 h0 gl fu pa pf sf pk pg pp pz pv n29 n28 sc n30 n27 n31 wg wp n32 pk cpk n21 pg cpg (fun j => (n20 j).map (sg sa)) pp cpp n22 pz cpz n24 pv cpv n23)) [0, 7, 8, 9, 10, 11] (by decide) rfl
        have hKc := hK.sb (tyq := [(cpk, .int), (cpg, .object "WaferForge$Sign"), (cpp, .int), (cpz, .int), (cpv, .long)]) [4, 5, 6, 7, 8] rfl
        have hFc := va_free (wc := (wz_114 h0 gl fu pa pf sf pk pg pp pz pv n29 n28 sc n30 n27 n31 wg wp n32 pk cpk n21 pg cpg (fun j => (n20 j).map (sg sa)) pp cpp n22 pz cpz n24 pv cpv n23)) hD hS hA [0, 7, 8, 9, 10, 11] rfl
        refine va_callv (va_runV (As := [.int j84_s0, .ref (sg sa sc_sign), .int sc_place, .int sc_size, .long 0]) (rest := []) ⟨hx, hb, hml, hown, hts⟩ (c_PR_add l dC dI H.size sa h0 gl fu pa pf sf pk pg pp pz pv sc wg wp cpk cpg cpp cpz cpv n29 n28 n30 n27 n31 n32 n21 n20 n22 n24 n23 (bn30) j84_s0 sc_sign sc_place sc_size 0 (b_sc_sign) (by (try dsimp only) <;> (first | (apply Int.le_antisymm <;> omega) | omega))) (cwV 5 hts (gV kM_PR_187 kV_PR_add kS_PR_add kI_PR kC_PR_add) rfl rfl rfl (by decide +kernel) ⟨Nat.le_of_ble_eq_true rfl, Nat.le_of_ble_eq_true rfl⟩) ⟨fun a U g mk z => by obtain ⟨z0, z1, zP, zK, zD, zS⟩ := z; exact ⟨z0, z1, zP, va_K.moved (u := U) (U := U.calling g mk a) (Vm.Alike.refl U.vm) zK, zD, sw.same (u := U) (U := U.calling g mk a) rfl zS⟩, va_recv hKc hPc (ci := 6) (q0 := 0) rfl rfl, fun U hU hW => ⟨rfl, by rw [hU], va_P.he hU.symm hPc, va_K.moved hW.alike hKc, hDc.weaken (fun _ _ _ _ => trivial), hSW.call hS hFc hW hU⟩⟩ rfl rfl hl.1 rfl (lv_room (Nat.le_of_ble_eq_true rfl)) d_PR_readPlainStatement_88 ⟨(Nat.zero_le _), (Nat.zero_le _)⟩) hS (fun q _ h => hFc q h) hFc (fun u t H1 locs ht hvm hw hB hz1 hk1 hS => ?_)
        obtain ⟨n39, n40, n41, n42, n43, n44⟩ := u
        try dsimp only at hw
        obtain ⟨bn44, xr38⟩ := hw
        try clear hw
        have sr38 := xr38.1
        have Lr38 := xr38.2
        clear xr38
        have hX9 : pX (16 * h0_open.toInt - 9) (fun S => S) (sl gpk gpg gpp gpz gpv h0_stepCount.toInt) _ _ := pX_ad (pX_mono (B2 := 16 * h0_open.toInt - 9) Xr1 (by (first | (apply Int.le_antisymm <;> omega) | omega)) (Int.le_refl _)) Lr38 (g := fun S => S) (c := 10) (fun S => by rcases y84 with z | z; (rw [z.1]; exact sS_9 ⟨z.2, ⟨(sk_name isk0 z.2).2.1, (sk_name isk0 z.2).2.2.1⟩, rfl, rfl⟩); (rw [z]; exact sS_10 ⟨rfl, rfl⟩)) (fun S q => lm_s q (by (first | (apply Int.le_antisymm <;> omega) | omega))) (by (first | (apply Int.le_antisymm <;> omega) | omega))
        obtain ⟨hP1, hK1, hD1⟩ := hB
        replace hP1 := va_P.he ht hP1
        obtain ⟨hP, hD⟩ := va_join (wr := (wz_130 sc tr (sg sa n35) n34 n36 n37 ss sp szs sv sc_length n33 tr tx tr_length ss css (fun j => (gss j).map (sg sa)) sp csp gsp szs cszs gszs sv csv gsv wg cwg (fun j => (n25 j).map (sg sa)) wp cwp n26)) (w1 := (wz_114 h0 gl fu pa pf sf pk pg pp pz pv n29 n28 sc n44 n27 n31 wg wp n32 pk cpk n40 pg cpg (fun j => (n39 j).map (sg sa)) pp cpp n41 pz cpz n43 pv cpv n42)) hP hD [0, 7, 8, 9, 10, 11] [1, 2, 3, 4, 5, 6, 12, 13] rfl rfl (by decide) (by decide) hk1 hFc hP1 hD1
        clear hPc hDc hKc hFc hz1 hk1 hP1 hK1 hD1
        rename Heap => H
        have hP : va_P (dC, dI) cls (wz_131 sc tr (sg sa n35) n34 n36 n37 ss sp szs sv sc_length n33 tr tx tr_length ss css (fun j => (gss j).map (sg sa)) sp csp gsp szs cszs gszs sv csv gsv wg cwg (fun j => (n25 j).map (sg sa)) wp cwp n26 h0 gl fu pa pf sf pk pg pp pz pv n29 n28 sc n44 n27 n31 wg wp n32 pk cpk n40 pg cpg (fun j => (n39 j).map (sg sa)) pp cpp n41 pz cpz n43 pv cpv n42) H := hP
        have hD : va_D A (wz_131 sc tr (sg sa n35) n34 n36 n37 ss sp szs sv sc_length n33 tr tx tr_length ss css (fun j => (gss j).map (sg sa)) sp csp gsp szs cszs gszs sv csv gsv wg cwg (fun j => (n25 j).map (sg sa)) wp cwp n26 h0 gl fu pa pf sf pk pg pp pz pv n29 n28 sc n44 n27 n31 wg wp n32 pk cpk n40 pg cpg (fun j => (n39 j).map (sg sa)) pp cpp n41 pz cpz n43 pv cpv n42) := hD
        refine lv_aload_n hx hb d_PR_readPlainStatement_91 rfl (lv_at hl 0 rfl) ?_
        refine va_gets (C := "WaferForge$Sign") (n := "SEMICOLON") (d := "LWaferForge$Sign;") (v := .ref (sg sa 31)) hx hb ((hSW.2.2.2.1.1 31 (by decide)).1) hS hown (hts _ kF_PR_153) (fun _ h9 => h9) d_PR_readPlainStatement_92 ?_
        have hPc := hP.sb (wq := (wz_112 h0 gl fu pa pf sf pk pg pp pz pv n29 n28 sc n44 n27 n31 wg wp n32 sc tr (sg sa n35) n34 n36 n37 ss sp szs sv sc_length n33 tr tx tr_length ss css (fun j => (gss j).map (sg sa)) sp csp gsp szs cszs gszs sv csv gsv)) [8, 0, 1, 2, 3, 4, 5] rfl
        have hDc := hD.sb (wq := (wz_112 h0 gl fu pa pf sf pk pg pp pz pv n29 n28 sc n44 n27 n31 wg wp n32 sc tr (sg sa n35) n34 n36 n37 ss sp szs sv sc_length n33 tr tx tr_length ss css (fun j => (gss j).map (sg sa)) sp csp gsp szs cszs gszs sv csv gsv)) [8, 0, 1, 2, 3, 4, 5] (by decide) rfl
        have hKc := hK.sb (tyq := [(css, .object "WaferForge$Sign"), (csp, .int), (cszs, .int), (csv, .long)]) [0, 1, 2, 3] rfl
        have hFc := va_free (wc := (wz_112 h0 gl fu pa pf sf pk pg pp pz pv n29 n28 sc n44 n27 n31 wg wp n32 sc tr (sg sa n35) n34 n36 n37 ss sp szs sv sc_length n33 tr tx tr_length ss css (fun j => (gss j).map (sg sa)) sp csp gsp szs cszs gszs sv csv gsv)) hD hS hA [8, 0, 1, 2, 3, 4, 5] rfl
        refine tq_callv (tz_runV (As := [.ref (sg sa 31)]) (rest := []) ⟨hx, hb, hml, hown, hts⟩ (c_PR_take l hlt dC dI H.size sa h0 gl fu pa pf sf pk pg pp pz pv sc wg wp tr ss sp szs sv tx css csp cszs csv n29 n28 n44 n27 n31 n32 n35 n34 n36 n37 sc_length n33 tr_length gss gsp gszs gsv (bn35) (bn34) (bn36) (b_sc_length) (bn33) (b_tr_length) 31 ((by decide : 31 < 55)) (hsk) (by decide)) (cwV 1 hts (gV kM_PR_126 kV_PR_take kS_PR_take kI_PR kC_PR_take) rfl rfl rfl (by decide +kernel) ⟨Nat.le_of_ble_eq_true rfl, Nat.le_of_ble_eq_true rfl⟩) ⟨fun a U g mk z => by obtain ⟨z0, z1, zP, zK, zD, zS⟩ := z; exact ⟨z0, z1, zP, va_K.moved (u := U) (U := U.calling g mk a) (Vm.Alike.refl U.vm) zK, zD, sw.same (u := U) (U := U.calling g mk a) rfl zS⟩, va_recv hKc hPc (ci := 6) (q0 := 0) rfl rfl, fun U hU hW => ⟨rfl, by rw [hU], va_P.he hU.symm hPc, va_K.moved hW.alike hKc, hDc.weaken (fun _ _ _ _ => trivial), hSW.call hS hFc hW hU⟩⟩ rfl rfl hl.1 rfl (lv_room (Nat.le_of_ble_eq_true rfl)) d_PR_readPlainStatement_95 ⟨Nat.le_of_ble_eq_true rfl, Nat.le_of_ble_eq_true rfl⟩) hS (fun q _ h => hFc q h) hFc (fun u t H1 locs ht hvm hw hB hz1 hk1 hS => ?_) (fun xx u t H1 locs ht hvm hw hXX hB hz1 hk1 hS => ?_)
        rotate_left
        · skip
          obtain ⟨n46, n47, n48, n49, n50, n51, n52⟩ := u
          try dsimp only at hw
          obtain ⟨bn48, bn49, bn50, bn51⟩ := hw
          obtain ⟨hP1, hK1, hD1⟩ := hB
          replace hP1 := va_P.he ht hP1
          obtain ⟨hP, hD⟩ := va_join (wr := (wz_138 wg cwg (fun j => (n25 j).map (sg sa)) wp cwp n26 pk cpk n40 pg cpg (fun j => (n39 j).map (sg sa)) pp cpp n41 pz cpz n43 pv cpv n42)) (w1 := (wz_112 h0 gl fu pa pf sf pk pg pp pz pv n47 n46 sc n44 n27 n31 wg wp n32 sc tr (sg sa n50) n49 n51 n52 ss sp szs sv sc_length n48 tr tx tr_length ss css (fun j => (gss j).map (sg sa)) sp csp gsp szs cszs gszs sv csv gsv)) hP hD [8, 0, 1, 2, 3, 4, 5] [6, 7, 9, 10, 11, 12, 13] rfl rfl (by decide) (by decide) hk1 hFc hP1 hD1
          have hP : va_P (dC, dI) cls (wz_139 wg cwg (fun j => (n25 j).map (sg sa)) wp cwp n26 pk cpk n40 pg cpg (fun j => (n39 j).map (sg sa)) pp cpp n41 pz cpz n43 pv cpv n42 h0 gl fu pa pf sf pk pg pp pz pv n47 n46 sc n44 n27 n31 wg wp n32 sc tr (sg sa n50) n49 n51 n52 ss sp szs sv sc_length n48 tr tx tr_length ss css (fun j => (gss j).map (sg sa)) sp csp gsp szs cszs gszs sv csv gsv) H1 := hP
          have hD : va_D A (wz_139 wg cwg (fun j => (n25 j).map (sg sa)) wp cwp n26 pk cpk n40 pg cpg (fun j => (n39 j).map (sg sa)) pp cpp n41 pz cpz n43 pv cpv n42 h0 gl fu pa pf sf pk pg pp pz pv n47 n46 sc n44 n27 n31 wg wp n32 sc tr (sg sa n50) n49 n51 n52 ss sp szs sv sc_length n48 tr tx tr_length ss css (fun j => (gss j).map (sg sa)) sp csp gsp szs cszs gszs sv csv gsv) := hD
          have hP9 := hP.sb (wq := (wz_121 h0 gl fu pa pf sf pk pg pp pz pv n47 n46 sc n44 n27 n31 wg wp n32 sc tr (sg sa n50) n49 n51 n52 ss sp szs sv sc_length n48 tr tx tr_length ss css (fun j => (gss j).map (sg sa)) sp csp gsp szs cszs gszs sv csv gsv pk cpk n40 pg cpg (fun j => (n39 j).map (sg sa)) pp cpp n41 pz cpz n43 pv cpv n42 wg cwg (fun j => (n25 j).map (sg sa)) wp cwp n26)) [7, 8, 9, 10, 11, 12, 13, 2, 3, 4, 5, 6, 0, 1] rfl
          have hD9 := hD.sb (wq := (wz_121 h0 gl fu pa pf sf pk pg pp pz pv n47 n46 sc n44 n27 n31 wg wp n32 sc tr (sg sa n50) n49 n51 n52 ss sp szs sv sc_length n48 tr tx tr_length ss css (fun j => (gss j).map (sg sa)) sp csp gsp szs cszs gszs sv csv gsv pk cpk n40 pg cpg (fun j => (n39 j).map (sg sa)) pp cpp n41 pz cpz n43 pv cpv n42 wg cwg (fun j => (n25 j).map (sg sa)) wp cwp n26)) [7, 8, 9, 10, 11, 12, 13, 2, 3, 4, 5, 6, 0, 1] (by decide) rfl
          exact tz_leave rfl hno hlocks (fun t ht hW => ⟨⟨(n39, n40, n41, n42, n43, n25, n26, n27, n46, n47, n44, n31, n32, n48, n49, n50, n51, n52), ⟨⟨bn27, bn44, bn31, bn32, bn48, bn49, bn50, bn51⟩, by rw [ht]; exact hXX.moved hW.alike⟩, va_P.he ht.symm hP9, va_K.moved hW.alike hK, hD9⟩, hS.F ht⟩) hS.2.2
        obtain ⟨n53, n54, n55, n56, n57, n58, n59⟩ := u
        try dsimp only at hw
        obtain ⟨bn55, bn56, bn57, bn58, xr45⟩ := hw
        try clear hw
        have or45 := hsk
        have er45 := xr45.1
        have hsk := xr45.2.1
        have mr45 := xr45.2.2.1
        have pr45 := sk_pos or45 (by (first | (apply Int.le_antisymm <;> omega) | omega)) (by (first | (apply Int.le_antisymm <;> omega) | omega))
        clear xr45
        have dr45 := sk_is hsk
        obtain ⟨hP1, hK1, hD1⟩ := hB
        replace hP1 := va_P.he ht hP1
        obtain ⟨hP, hD⟩ := va_join (wr := (wz_138 wg cwg (fun j => (n25 j).map (sg sa)) wp cwp n26 pk cpk n40 pg cpg (fun j => (n39 j).map (sg sa)) pp cpp n41 pz cpz n43 pv cpv n42)) (w1 := (wz_112 h0 gl fu pa pf sf pk pg pp pz pv n54 n53 sc n44 n27 n31 wg wp n32 sc tr (sg sa n57) n56 n58 n59 ss sp szs sv sc_length n55 tr tx tr_length ss css (fun j => (gss j).map (sg sa)) sp csp gsp szs cszs gszs sv csv gsv)) hP hD [8, 0, 1, 2, 3, 4, 5] [6, 7, 9, 10, 11, 12, 13] rfl rfl (by decide) (by decide) hk1 hFc hP1 hD1
        clear hPc hDc hKc hFc hz1 hk1 hP1 hK1 hD1
        rename Heap => H
        have hP : va_P (dC, dI) cls (wz_139 wg cwg (fun j => (n25 j).map (sg sa)) wp cwp n26 pk cpk n40 pg cpg (fun j => (n39 j).map (sg sa)) pp cpp n41 pz cpz n43 pv cpv n42 h0 gl fu pa pf sf pk pg pp pz pv n54 n53 sc n44 n27 n31 wg wp n32 sc tr (sg sa n57) n56 n58 n59 ss sp szs sv sc_length n55 tr tx tr_length ss css (fun j => (gss j).map (sg sa)) sp csp gsp szs cszs gszs sv csv gsv) H := hP
        have hD : va_D A (wz_139 wg cwg (fun j => (n25 j).map (sg sa)) wp cwp n26 pk cpk n40 pg cpg (fun j => (n39 j).map (sg sa)) pp cpp n41 pz cpz n43 pv cpv n42 h0 gl fu pa pf sf pk pg pp pz pv n54 n53 sc n44 n27 n31 wg wp n32 sc tr (sg sa n57) n56 n58 n59 ss sp szs sv sc_length n55 tr tx tr_length ss css (fun j => (gss j).map (sg sa)) sp csp gsp szs cszs gszs sv csv gsv) := hD
        have hP9 := hP.sb (wq := (wz_121 h0 gl fu pa pf sf pk pg pp pz pv n54 n53 sc n44 n27 n31 wg wp n32 sc tr (sg sa n57) n56 n58 n59 ss sp szs sv sc_length n55 tr tx tr_length ss css (fun j => (gss j).map (sg sa)) sp csp gsp szs cszs gszs sv csv gsv pk cpk n40 pg cpg (fun j => (n39 j).map (sg sa)) pp cpp n41 pz cpz n43 pv cpv n42 wg cwg (fun j => (n25 j).map (sg sa)) wp cwp n26)) [7, 8, 9, 10, 11, 12, 13, 2, 3, 4, 5, 6, 0, 1] rfl
        have hD9 := hD.sb (wq := (wz_121 h0 gl fu pa pf sf pk pg pp pz pv n54 n53 sc n44 n27 n31 wg wp n32 sc tr (sg sa n57) n56 n58 n59 ss sp szs sv sc_length n55 tr tx tr_length ss css (fun j => (gss j).map (sg sa)) sp csp gsp szs cszs gszs sv csv gsv pk cpk n40 pg cpg (fun j => (n39 j).map (sg sa)) pp cpp n41 pz cpz n43 pv cpv n42 wg cwg (fun j => (n25 j).map (sg sa)) wp cwp n26)) [7, 8, 9, 10, 11, 12, 13, 2, 3, 4, 5, 6, 0, 1] (by decide) rfl
        exact tz_up (fun _ => rfl) (W.vret hx hb hr (fun t ht hW => ⟨⟨(n39, n40, n41, n42, n43, n25, n26, n27, n53, n54, n44, n31, n32, n55, n56, n57, n58, n59), ⟨rfl, ⟨bn27, bn44, bn31, bn32, bn55, bn56, bn57, bn58, ⟨hsk, pX_mono hX9 (by (first | (apply Int.le_antisymm <;> omega) | omega)) (by (try dsimp only) <;> (first | (apply Int.le_antisymm <;> omega) | omega)), by (try dsimp only) <;> (first | (apply Int.le_antisymm <;> omega) | omega), by (try dsimp only) <;> (first | (apply Int.le_antisymm <;> omega) | omega), wr1, by (try dsimp only) <;> (first | (apply Int.le_antisymm <;> omega) | omega)⟩⟩⟩, va_P.he ht.symm hP9, va_K.moved hW.alike hK, hD9⟩, hS.F ht⟩) hS.2.2 d_PR_readPlainStatement_98)
      · skip
        refine lv_if_eq (tgt := 82) hx hb d_PR_readPlainStatement_74 (by decide) (fun c74 => ?_) (fun c74 => ?_)
        · have q74 := eqI c74
          refine lv_bipush (v := 10) hx hb d_PR_readPlainStatement_82 (by decide) ?_
          exact jn84 10 _ _ _ ⟨Or.inr rfl, hP, hD, hS, lv_sub hl [0, 1, 2, 3] rfl⟩
        · have q74 := neI c74
          refine lv_bipush (v := 9) hx hb d_PR_readPlainStatement_77 (by decide) ?_
          refine lv_goto (tgt := 84) hx hb d_PR_readPlainStatement_79 (by decide) ?_
          exact jn84 9 _ _ _ ⟨Or.inl ⟨rfl, y46 (by rcases b_j46_s0 with z | z; (exfalso; rw [z] at q74; exact q74 rfl); exact z)⟩, hP, hD, hS, lv_sub hl [0, 1, 2, 3] rfl⟩
    · skip
      refine lv_if_eq (tgt := 67) hx hb d_PR_readPlainStatement_50 (by decide) (fun c50 => ?_) (fun c50 => ?_)
      · have q50 := eqI c50
        exact jn67 (h0_place, h0_reason, sc_at, sc_place, sc_sign, sc_size, sc_value) _ _ _ ⟨b_sc_at, b_sc_place, b_sc_sign, b_sc_size, hsk, by (try dsimp only) <;> (first | (apply Int.le_antisymm <;> omega) | omega), hP, hD, hS, lv_sub hl [1, 2, 3, 4, 0] rfl⟩
      · have q50 := neI c50
        have k53 : sc_sign = 2 := y46 (by rcases b_j46_s0 with z | z; (exfalso; rw [z] at q50; exact q50 rfl); exact z)
        clear y46
        refine lv_aload_n hx hb d_PR_readPlainStatement_53 rfl (lv_at hl 1 rfl) ?_
        refine va_get (D := (dC, dI)) (ci := 6) (v := .ref sc) (C := R_PR) (T := F_PR) (N := 19) hx hb hts i_PR hown hK hP 0 rfl rfl 12 (by decide) (hts _ kF_PR_43) (fun _ h9 => h9) rfl d_PR_readPlainStatement_54 ?_
        have hPc := hP.sb (wq := (wz_107 sc tr (sg sa sc_sign) sc_place sc_size sc_value ss sp szs sv sc_length sc_at tr tx tr_length ss css (fun j => (gss j).map (sg sa)) sp csp gsp szs cszs gszs sv csv gsv)) [1, 2, 3, 4, 5, 6] rfl
        have hDc := hD.sb (wq := (wz_107 sc tr (sg sa sc_sign) sc_place sc_size sc_value ss sp szs sv sc_length sc_at tr tx tr_length ss css (fun j => (gss j).map (sg sa)) sp csp gsp szs cszs gszs sv csv gsv)) [1, 2, 3, 4, 5, 6] (by decide) rfl
        have hKc := hK.sb (tyq := [(css, .object "WaferForge$Sign"), (csp, .int), (cszs, .int), (csv, .long)]) [0, 1, 2, 3] rfl
        have hFc := va_free (wc := (wz_107 sc tr (sg sa sc_sign) sc_place sc_size sc_value ss sp szs sv sc_length sc_at tr tx tr_length ss css (fun j => (gss j).map (sg sa)) sp csp gsp szs cszs gszs sv csv gsv)) hD hS hA [1, 2, 3, 4, 5, 6] rfl
        refine va_callv (va_runV (As := []) (rest := []) ⟨hx, hb, hml, hown, hts⟩ (c_SC_next l dC dI H.size sa sc tr ss sp szs sv tx css csp cszs csv sc_sign sc_place sc_size sc_value sc_length sc_at tr_length gss gsp gszs gsv (b_sc_sign) (b_sc_place) (b_sc_size) (b_sc_length) (b_sc_at) (b_tr_length) (hsk.1.2.1)) (cwV 0 hts (gV kM_PR_114 kV_SC_next kS_SC_next kI_SC kC_SC_next) rfl rfl rfl (by decide +kernel) ⟨Nat.le_of_ble_eq_true rfl, Nat.le_of_ble_eq_true rfl⟩) ⟨fun a U g mk z => by obtain ⟨z0, z1, zP, zK, zD, zS⟩ := z; exact ⟨z0, z1, zP, va_K.moved (u := U) (U := U.calling g mk a) (Vm.Alike.refl U.vm) zK, zD, sw.same (u := U) (U := U.calling g mk a) rfl zS⟩, va_recv hKc hPc (ci := 8) (q0 := 0) rfl rfl, fun U hU hW => ⟨rfl, by rw [hU], va_P.he hU.symm hPc, va_K.moved hW.alike hKc, hDc.weaken (fun _ _ _ _ => trivial), hSW.call hS hFc hW hU⟩⟩ rfl rfl hl.1 rfl (lv_room (Nat.le_of_ble_eq_true rfl)) d_PR_readPlainStatement_57 ⟨(Nat.zero_le _), (Nat.zero_le _)⟩) hS (fun q _ h => hFc q h) hFc (fun u t H1 locs ht hvm hw hB hz1 hk1 hS => ?_)
        obtain ⟨n61, n62, n63, n64, n65⟩ := u
        try dsimp only at hw
        obtain ⟨bn61, bn62, bn63, bn64, xr60⟩ := hw
        try clear hw
        have or60 := hsk
        have zr60 := sk_next hsk xr60.1 xr60.2
        have hsk := zr60.1
        have mr60 := zr60.2.1
        have fr60 := zr60.2.2.1
        clear xr60 zr60
        have mr60 := (fr60 (by (first | (apply Int.le_antisymm <;> omega) | omega)) (by (first | (apply Int.le_antisymm <;> omega) | omega))).2
        have zr60 := sk_pos or60 (by (first | (apply Int.le_antisymm <;> omega) | omega)) (by (first | (apply Int.le_antisymm <;> omega) | omega))
        have dr60 := sk_is hsk
        clear fr60
        obtain ⟨hP1, hK1, hD1⟩ := hB
        replace hP1 := va_P.he ht hP1
        obtain ⟨hP, hD⟩ := va_join (wr := (wz_122 h0 gl fu pa pf sf pk pg pp pz pv h0_reason h0_place sc h0_stepCount h0_open h0_twoSides wg wp h0_waitingCount pk cpk gpk pg cpg (fun j => (gpg j).map (sg sa)) pp cpp gpp pz cpz gpz pv cpv gpv wg cwg (fun j => (gwg j).map (sg sa)) wp cwp gwp)) (w1 := (wz_107 sc tr (sg sa n63) n62 n64 n65 ss sp szs sv sc_length n61 tr tx tr_length ss css (fun j => (gss j).map (sg sa)) sp csp gsp szs cszs gszs sv csv gsv)) hP hD [1, 2, 3, 4, 5, 6] [0, 7, 8, 9, 10, 11, 12, 13] rfl rfl (by decide) (by decide) hk1 hFc hP1 hD1
        clear hPc hDc hKc hFc hz1 hk1 hP1 hK1 hD1
        rename Heap => H
        have hP : va_P (dC, dI) cls (wz_123 h0 gl fu pa pf sf pk pg pp pz pv h0_reason h0_place sc h0_stepCount h0_open h0_twoSides wg wp h0_waitingCount pk cpk gpk pg cpg (fun j => (gpg j).map (sg sa)) pp cpp gpp pz cpz gpz pv cpv gpv wg cwg (fun j => (gwg j).map (sg sa)) wp cwp gwp sc tr (sg sa n63) n62 n64 n65 ss sp szs sv sc_length n61 tr tx tr_length ss css (fun j => (gss j).map (sg sa)) sp csp gsp szs cszs gszs sv csv gsv) H := hP
        have hD : va_D A (wz_123 h0 gl fu pa pf sf pk pg pp pz pv h0_reason h0_place sc h0_stepCount h0_open h0_twoSides wg wp h0_waitingCount pk cpk gpk pg cpg (fun j => (gpg j).map (sg sa)) pp cpp gpp pz cpz gpz pv cpv gpv wg cwg (fun j => (gwg j).map (sg sa)) wp cwp gwp sc tr (sg sa n63) n62 n64 n65 ss sp szs sv sc_length n61 tr tx tr_length ss css (fun j => (gss j).map (sg sa)) sp csp gsp szs cszs gszs sv csv gsv) := hD
        refine lv_aload_n hx hb d_PR_readPlainStatement_60 rfl (lv_at hl 1 rfl) ?_
        refine va_gets (C := "WaferForge$Sign") (n := "ASSIGN") (d := "LWaferForge$Sign;") (v := .ref (sg sa 33)) hx hb ((hSW.2.2.2.1.1 33 (by decide)).1) hS hown (hts _ kF_PR_137) (fun _ h9 => h9) d_PR_readPlainStatement_61 ?_
        have hPc := hP.sb (wq := (wz_112 h0 gl fu pa pf sf pk pg pp pz pv h0_reason h0_place sc h0_stepCount h0_open h0_twoSides wg wp h0_waitingCount sc tr (sg sa n63) n62 n64 n65 ss sp szs sv sc_length n61 tr tx tr_length ss css (fun j => (gss j).map (sg sa)) sp csp gsp szs cszs gszs sv csv gsv)) [0, 8, 9, 10, 11, 12, 13] rfl
        have hDc := hD.sb (wq := (wz_112 h0 gl fu pa pf sf pk pg pp pz pv h0_reason h0_place sc h0_stepCount h0_open h0_twoSides wg wp h0_waitingCount sc tr (sg sa n63) n62 n64 n65 ss sp szs sv sc_length n61 tr tx tr_length ss css (fun j => (gss j).map (sg sa)) sp csp gsp szs cszs gszs sv csv gsv)) [0, 8, 9, 10, 11, 12, 13] (by decide) rfl
        have hKc := hK.sb (tyq := [(css, .object "WaferForge$Sign"), (csp, .int), (cszs, .int), (csv, .long)]) [0, 1, 2, 3] rfl
        have hFc := va_free (wc := (wz_112 h0 gl fu pa pf sf pk pg pp pz pv h0_reason h0_place sc h0_stepCount h0_open h0_twoSides wg wp h0_waitingCount sc tr (sg sa n63) n62 n64 n65 ss sp szs sv sc_length n61 tr tx tr_length ss css (fun j => (gss j).map (sg sa)) sp csp gsp szs cszs gszs sv csv gsv)) hD hS hA [0, 8, 9, 10, 11, 12, 13] rfl
        refine tq_callv (tz_runV (As := [.ref (sg sa 33)]) (rest := []) ⟨hx, hb, hml, hown, hts⟩ (c_PR_take l hlt dC dI H.size sa h0 gl fu pa pf sf pk pg pp pz pv sc wg wp tr ss sp szs sv tx css csp cszs csv h0_reason h0_place h0_stepCount h0_open h0_twoSides h0_waitingCount n63 n62 n64 n65 sc_length n61 tr_length gss gsp gszs gsv (bn63) (bn62) (bn64) (b_sc_length) (bn61) (b_tr_length) 33 ((by decide : 33 < 55)) (hsk) (by decide)) (cwV 1 hts (gV kM_PR_126 kV_PR_take kS_PR_take kI_PR kC_PR_take) rfl rfl rfl (by decide +kernel) ⟨Nat.le_of_ble_eq_true rfl, Nat.le_of_ble_eq_true rfl⟩) ⟨fun a U g mk z => by obtain ⟨z0, z1, zP, zK, zD, zS⟩ := z; exact ⟨z0, z1, zP, va_K.moved (u := U) (U := U.calling g mk a) (Vm.Alike.refl U.vm) zK, zD, sw.same (u := U) (U := U.calling g mk a) rfl zS⟩, va_recv hKc hPc (ci := 6) (q0 := 0) rfl rfl, fun U hU hW => ⟨rfl, by rw [hU], va_P.he hU.symm hPc, va_K.moved hW.alike hKc, hDc.weaken (fun _ _ _ _ => trivial), hSW.call hS hFc hW hU⟩⟩ rfl rfl hl.1 rfl (lv_room (Nat.le_of_ble_eq_true rfl)) d_PR_readPlainStatement_64 ⟨Nat.le_of_ble_eq_true rfl, Nat.le_of_ble_eq_true rfl⟩) hS (fun q _ h => hFc q h) hFc (fun u t H1 locs ht hvm hw hB hz1 hk1 hS => ?_) (fun xx u t H1 locs ht hvm hw hXX hB hz1 hk1 hS => ?_)
        rotate_left
        · skip
          obtain ⟨n67, n68, n69, n70, n71, n72, n73⟩ := u
          try dsimp only at hw
          obtain ⟨bn69, bn70, bn71, bn72⟩ := hw
          obtain ⟨hP1, hK1, hD1⟩ := hB
          replace hP1 := va_P.he ht hP1
          obtain ⟨hP, hD⟩ := va_join (wr := (wz_126 pk cpk gpk pg cpg (fun j => (gpg j).map (sg sa)) pp cpp gpp pz cpz gpz pv cpv gpv wg cwg (fun j => (gwg j).map (sg sa)) wp cwp gwp)) (w1 := (wz_112 h0 gl fu pa pf sf pk pg pp pz pv n68 n67 sc h0_stepCount h0_open h0_twoSides wg wp h0_waitingCount sc tr (sg sa n71) n70 n72 n73 ss sp szs sv sc_length n69 tr tx tr_length ss css (fun j => (gss j).map (sg sa)) sp csp gsp szs cszs gszs sv csv gsv)) hP hD [0, 8, 9, 10, 11, 12, 13] [1, 2, 3, 4, 5, 6, 7] rfl rfl (by decide) (by decide) hk1 hFc hP1 hD1
          have hP : va_P (dC, dI) cls (wz_127 pk cpk gpk pg cpg (fun j => (gpg j).map (sg sa)) pp cpp gpp pz cpz gpz pv cpv gpv wg cwg (fun j => (gwg j).map (sg sa)) wp cwp gwp h0 gl fu pa pf sf pk pg pp pz pv n68 n67 sc h0_stepCount h0_open h0_twoSides wg wp h0_waitingCount sc tr (sg sa n71) n70 n72 n73 ss sp szs sv sc_length n69 tr tx tr_length ss css (fun j => (gss j).map (sg sa)) sp csp gsp szs cszs gszs sv csv gsv) H1 := hP
          have hD : va_D A (wz_127 pk cpk gpk pg cpg (fun j => (gpg j).map (sg sa)) pp cpp gpp pz cpz gpz pv cpv gpv wg cwg (fun j => (gwg j).map (sg sa)) wp cwp gwp h0 gl fu pa pf sf pk pg pp pz pv n68 n67 sc h0_stepCount h0_open h0_twoSides wg wp h0_waitingCount sc tr (sg sa n71) n70 n72 n73 ss sp szs sv sc_length n69 tr tx tr_length ss css (fun j => (gss j).map (sg sa)) sp csp gsp szs cszs gszs sv csv gsv) := hD
          have hP9 := hP.sb (wq := (wz_121 h0 gl fu pa pf sf pk pg pp pz pv n68 n67 sc h0_stepCount h0_open h0_twoSides wg wp h0_waitingCount sc tr (sg sa n71) n70 n72 n73 ss sp szs sv sc_length n69 tr tx tr_length ss css (fun j => (gss j).map (sg sa)) sp csp gsp szs cszs gszs sv csv gsv pk cpk gpk pg cpg (fun j => (gpg j).map (sg sa)) pp cpp gpp pz cpz gpz pv cpv gpv wg cwg (fun j => (gwg j).map (sg sa)) wp cwp gwp)) [7, 8, 9, 10, 11, 12, 13, 0, 1, 2, 3, 4, 5, 6] rfl
          have hD9 := hD.sb (wq := (wz_121 h0 gl fu pa pf sf pk pg pp pz pv n68 n67 sc h0_stepCount h0_open h0_twoSides wg wp h0_waitingCount sc tr (sg sa n71) n70 n72 n73 ss sp szs sv sc_length n69 tr tx tr_length ss css (fun j => (gss j).map (sg sa)) sp csp gsp szs cszs gszs sv csv gsv pk cpk gpk pg cpg (fun j => (gpg j).map (sg sa)) pp cpp gpp pz cpz gpz pv cpv gpv wg cwg (fun j => (gwg j).map (sg sa)) wp cwp gwp)) [7, 8, 9, 10, 11, 12, 13, 0, 1, 2, 3, 4, 5, 6] (by decide) rfl
          exact tz_leave rfl hno hlocks (fun t ht hW => ⟨⟨(gpg, gpk, gpp, gpv, gpz, gwg, gwp, h0_open, n67, n68, h0_stepCount, h0_twoSides, h0_waitingCount, n69, n70, n71, n72, n73), ⟨⟨b_h0_open, b_h0_stepCount, b_h0_twoSides, b_h0_waitingCount, bn69, bn70, bn71, bn72⟩, by rw [ht]; exact hXX.moved hW.alike⟩, va_P.he ht.symm hP9, va_K.moved hW.alike hK, hD9⟩, hS.F ht⟩) hS.2.2
        obtain ⟨n74, n75, n76, n77, n78, n79, n80⟩ := u
        try dsimp only at hw
        obtain ⟨bn76, bn77, bn78, bn79, xr66⟩ := hw
        try clear hw
        have or66 := hsk
        have er66 := xr66.1
        have hsk := xr66.2.1
        have mr66 := xr66.2.2.1
        have pr66 := sk_pos or66 (by (first | (apply Int.le_antisymm <;> omega) | omega)) (by (first | (apply Int.le_antisymm <;> omega) | omega))
        clear xr66
        have dr66 := sk_is hsk
        obtain ⟨hP1, hK1, hD1⟩ := hB
        replace hP1 := va_P.he ht hP1
        obtain ⟨hP, hD⟩ := va_join (wr := (wz_126 pk cpk gpk pg cpg (fun j => (gpg j).map (sg sa)) pp cpp gpp pz cpz gpz pv cpv gpv wg cwg (fun j => (gwg j).map (sg sa)) wp cwp gwp)) (w1 := (wz_112 h0 gl fu pa pf sf pk pg pp pz pv n75 n74 sc h0_stepCount h0_open h0_twoSides wg wp h0_waitingCount sc tr (sg sa n78) n77 n79 n80 ss sp szs sv sc_length n76 tr tx tr_length ss css (fun j => (gss j).map (sg sa)) sp csp gsp szs cszs gszs sv csv gsv)) hP hD [0, 8, 9, 10, 11, 12, 13] [1, 2, 3, 4, 5, 6, 7] rfl rfl (by decide) (by decide) hk1 hFc hP1 hD1
        clear hPc hDc hKc hFc hz1 hk1 hP1 hK1 hD1
        rename Heap => H
        have hP : va_P (dC, dI) cls (wz_127 pk cpk gpk pg cpg (fun j => (gpg j).map (sg sa)) pp cpp gpp pz cpz gpz pv cpv gpv wg cwg (fun j => (gwg j).map (sg sa)) wp cwp gwp h0 gl fu pa pf sf pk pg pp pz pv n75 n74 sc h0_stepCount h0_open h0_twoSides wg wp h0_waitingCount sc tr (sg sa n78) n77 n79 n80 ss sp szs sv sc_length n76 tr tx tr_length ss css (fun j => (gss j).map (sg sa)) sp csp gsp szs cszs gszs sv csv gsv) H := hP
        have hD : va_D A (wz_127 pk cpk gpk pg cpg (fun j => (gpg j).map (sg sa)) pp cpp gpp pz cpz gpz pv cpv gpv wg cwg (fun j => (gwg j).map (sg sa)) wp cwp gwp h0 gl fu pa pf sf pk pg pp pz pv n75 n74 sc h0_stepCount h0_open h0_twoSides wg wp h0_waitingCount sc tr (sg sa n78) n77 n79 n80 ss sp szs sv sc_length n76 tr tx tr_length ss css (fun j => (gss j).map (sg sa)) sp csp gsp szs cszs gszs sv csv gsv) := hD
        exact jn67 (n74, n75, n76, n77, n78, n79, n80) _ _ _ ⟨bn76, bn77, bn78, bn79, hsk, by (try dsimp only) <;> (first | (apply Int.le_antisymm <;> omega) | omega), hP.sub [7, 8, 9, 10, 11, 12, 13, 0, 1, 2, 3, 4, 5, 6] rfl, hD.sub [7, 8, 9, 10, 11, 12, 13, 0, 1, 2, 3, 4, 5, 6] (by decide) rfl, hS, lv_sub hl [1, 2, 3, 4, 0] rfl⟩
  · skip
    refine w_cut (pc2 := 45) (σ := Unit) (fun u H locs ls => match u with | _ => va_P (dC, dI) cls (wz_121 h0 gl fu pa pf sf pk pg pp pz pv h0_reason h0_place sc h0_stepCount h0_open h0_twoSides wg wp h0_waitingCount sc tr (sg sa sc_sign) sc_place sc_size sc_value ss sp szs sv sc_length sc_at tr tx tr_length ss css (fun j => (gss j).map (sg sa)) sp csp gsp szs cszs gszs sv csv gsv pk cpk gpk pg cpg (fun j => (gpg j).map (sg sa)) pp cpp gpp pz cpz gpz pv cpv gpv wg cwg (fun j => (gwg j).map (sg sa)) wp cwp gwp) H ∧ va_D A (wz_121 h0 gl fu pa pf sf pk pg pp pz pv h0_reason h0_place sc h0_stepCount h0_open h0_twoSides wg wp h0_waitingCount sc tr (sg sa sc_sign) sc_place sc_size sc_value ss sp szs sv sc_length sc_at tr tx tr_length ss css (fun j => (gss j).map (sg sa)) sp csp gsp szs cszs gszs sv csv gsv pk cpk gpk pg cpg (fun j => (gpg j).map (sg sa)) pp cpp gpp pz cpz gpz pv cpv gpv wg cwg (fun j => (gwg j).map (sg sa)) wp cwp gwp) ∧ va_S A s.heap H locs ∧ lv_has ls 5 [(0, .ref h0), (1, .ref (sg sa sc_sign)), (2, .int sc_place), (3, .int sc_size)]) (fun u => match u with | _ => []) ?_ (fun jn45 => ?_)
    · intro u H locs ls hI
      obtain ⟨hP, hD, hS, hl⟩ := hI
      refine lv_iconst (v := 0) hx hb d_PR_readPlainStatement_45 (by decide) ?_
      exact jn46 0 _ _ _ ⟨Or.inl rfl, fun z => absurd z (by decide), hP, hD, hS, lv_sub hl [0, 1, 2, 3] rfl⟩
    · skip
      refine lv_acmp_ne (rx := some (sg sa sc_sign)) (ry := some (sg sa 2)) (tgt := 45) hx hb d_PR_readPlainStatement_28 (by decide) (fun c28 => ?_) (fun c28 => ?_)
      · have q28 : sc_sign ≠ 2 := fun z => c28 (by rw [z])
        exact jn45 () _ _ _ ⟨hP, hD, hS, lv_sub hl [3, 2, 1, 0] rfl⟩
      · have q28 : sc_sign = 2 := hSW.2.2.2.1.2 sc_sign 2 b_sc_sign (by decide : 2 < 55) (Option.some.inj c28)
        refine lv_aload_n hx hb d_PR_readPlainStatement_31 rfl (lv_at hl 3 rfl) ?_
        refine va_get (D := (dC, dI)) (ci := 6) (v := .ref sc) (C := R_PR) (T := F_PR) (N := 19) hx hb hts i_PR hown hK hP 0 rfl rfl 12 (by decide) (hts _ kF_PR_43) (fun _ h9 => h9) rfl d_PR_readPlainStatement_32 ?_
        have hPc := hP.sb (wq := (wz_107 sc tr (sg sa sc_sign) sc_place sc_size sc_value ss sp szs sv sc_length sc_at tr tx tr_length ss css (fun j => (gss j).map (sg sa)) sp csp gsp szs cszs gszs sv csv gsv)) [1, 2, 3, 4, 5, 6] rfl
        have hDc := hD.sb (wq := (wz_107 sc tr (sg sa sc_sign) sc_place sc_size sc_value ss sp szs sv sc_length sc_at tr tx tr_length ss css (fun j => (gss j).map (sg sa)) sp csp gsp szs cszs gszs sv csv gsv)) [1, 2, 3, 4, 5, 6] (by decide) rfl
        have hKc := hK.sb (tyq := [(css, .object "WaferForge$Sign"), (csp, .int), (cszs, .int), (csv, .long)]) [0, 1, 2, 3] rfl
        have hFc := va_free (wc := (wz_107 sc tr (sg sa sc_sign) sc_place sc_size sc_value ss sp szs sv sc_length sc_at tr tx tr_length ss css (fun j => (gss j).map (sg sa)) sp csp gsp szs cszs gszs sv csv gsv)) hD hS hA [1, 2, 3, 4, 5, 6] rfl
        refine va_calli (va_runV (As := []) (rest := []) ⟨hx, hb, hml, hown, hts⟩ (c_SC_isBeforeAssign l dC dI H.size sa sc tr ss sp szs sv tx css csp cszs csv sc_sign sc_place sc_size sc_value sc_length sc_at tr_length gss gsp gszs gsv (b_sc_length) (b_sc_at) (b_tr_length) (hsk.1.2.1)) (cwV 0 hts (gV kM_PR_219 kV_SC_isBeforeAssign kS_SC_isBeforeAssign kI_SC kC_SC_isBeforeAssign) rfl rfl rfl (by decide +kernel) ⟨Nat.le_of_ble_eq_true rfl, Nat.le_of_ble_eq_true rfl⟩) ⟨fun a U g mk z => by obtain ⟨z0, z1, zP, zK, zD, zS⟩ := z; exact ⟨z0, z1, zP, va_K.moved (u := U) (U := U.calling g mk a) (Vm.Alike.refl U.vm) zK, zD, sw.same (u := U) (U := U.calling g mk a) rfl zS⟩, va_recv hKc hPc (ci := 8) (q0 := 0) rfl rfl, fun U hU hW => ⟨rfl, by rw [hU], va_P.he hU.symm hPc, va_K.moved hW.alike hKc, hDc.weaken (fun _ _ _ _ => trivial), hSW.call hS hFc hW hU⟩⟩ rfl rfl hl.1 rfl (lv_room (Nat.le_of_ble_eq_true rfl)) d_PR_readPlainStatement_35 ⟨(Nat.zero_le _), (Nat.zero_le _)⟩) hS (fun q _ h => hFc q h) hFc (fun r81 u t H1 locs ht hvm hw hB hz1 hk1 hS => ?_)
        try dsimp only at hw
        obtain ⟨br81, xr81⟩ := hw
        try clear hw
        have tr81 := b01 br81
        obtain ⟨hP1, hK1, hD1⟩ := hB
        replace hP1 := va_P.he ht hP1
        obtain ⟨hP, hD⟩ := va_join (wr := (wz_122 h0 gl fu pa pf sf pk pg pp pz pv h0_reason h0_place sc h0_stepCount h0_open h0_twoSides wg wp h0_waitingCount pk cpk gpk pg cpg (fun j => (gpg j).map (sg sa)) pp cpp gpp pz cpz gpz pv cpv gpv wg cwg (fun j => (gwg j).map (sg sa)) wp cwp gwp)) (w1 := (wz_107 sc tr (sg sa sc_sign) sc_place sc_size sc_value ss sp szs sv sc_length sc_at tr tx tr_length ss css (fun j => (gss j).map (sg sa)) sp csp gsp szs cszs gszs sv csv gsv)) hP hD [1, 2, 3, 4, 5, 6] [0, 7, 8, 9, 10, 11, 12, 13] rfl rfl (by decide) (by decide) hk1 hFc hP1 hD1
        clear hPc hDc hKc hFc hz1 hk1 hP1 hK1 hD1
        rename Heap => H
        have hP : va_P (dC, dI) cls (wz_123 h0 gl fu pa pf sf pk pg pp pz pv h0_reason h0_place sc h0_stepCount h0_open h0_twoSides wg wp h0_waitingCount pk cpk gpk pg cpg (fun j => (gpg j).map (sg sa)) pp cpp gpp pz cpz gpz pv cpv gpv wg cwg (fun j => (gwg j).map (sg sa)) wp cwp gwp sc tr (sg sa sc_sign) sc_place sc_size sc_value ss sp szs sv sc_length sc_at tr tx tr_length ss css (fun j => (gss j).map (sg sa)) sp csp gsp szs cszs gszs sv csv gsv) H := hP
        have hD : va_D A (wz_123 h0 gl fu pa pf sf pk pg pp pz pv h0_reason h0_place sc h0_stepCount h0_open h0_twoSides wg wp h0_waitingCount pk cpk gpk pg cpg (fun j => (gpg j).map (sg sa)) pp cpp gpp pz cpz gpz pv cpv gpv wg cwg (fun j => (gwg j).map (sg sa)) wp cwp gwp sc tr (sg sa sc_sign) sc_place sc_size sc_value ss sp szs sv sc_length sc_at tr tx tr_length ss css (fun j => (gss j).map (sg sa)) sp csp gsp szs cszs gszs sv csv gsv) := hD
        refine lv_if_eq (tgt := 45) hx hb d_PR_readPlainStatement_38 (by decide) (fun c38 => ?_) (fun c38 => ?_)
        · have q38 := eqI c38
          exact jn45 () _ _ _ ⟨hP.sub [0, 8, 9, 10, 11, 12, 13, 1, 2, 3, 4, 5, 6, 7] rfl, hD.sub [0, 8, 9, 10, 11, 12, 13, 1, 2, 3, 4, 5, 6, 7] (by decide) rfl, hS, lv_sub hl [3, 2, 1, 0] rfl⟩
        · have q38 := neI c38
          refine lv_iconst (v := 1) hx hb d_PR_readPlainStatement_41 (by decide) ?_
          refine lv_goto (tgt := 46) hx hb d_PR_readPlainStatement_42 (by decide) ?_
          exact jn46 1 _ _ _ ⟨Or.inr rfl, fun _ => q28, hP.sub [0, 8, 9, 10, 11, 12, 13, 1, 2, 3, 4, 5, 6, 7] rfl, hD.sub [0, 8, 9, 10, 11, 12, 13, 1, 2, 3, 4, 5, 6, 7] (by decide) rfl, hS, lv_sub hl [3, 2, 1, 0] rfl⟩

/-! Program: the sign that is read, the steps as a list -/
def sk (L len a : Int) (k : Nat) (p z : Int32) (v : Int64) (ss : Nat → Option Nat) (sp sz : Nat → Int32) (sv : Nat → Int64) : Prop :=
  tkOK L len ss sp sz sv ∧ 0 ≤ a ∧ a < len ∧ ss a.toNat = some k ∧ p = sp a.toNat ∧ z = sz a.toNat ∧ v = sv a.toNat
theorem sk_is {L len a : Int} {k : Nat} {p z : Int32} {v : Int64} {ss : Nat → Option Nat} {sp sz : Nat → Int32} {sv : Nat → Int64} (h : sk L len a k p z v ss sp sz sv) :
    k < 55 ∧ 0 ≤ p.toInt ∧ 0 ≤ z.toInt ∧ p.toInt + z.toInt ≤ L ∧ tkT k z.toInt v.toInt := by
  obtain ⟨⟨h1, h2, h3⟩, ha, hb, hs, rfl, rfl, rfl⟩ := h
  obtain ⟨k1, q1, q2, q3, q4, q5, q6, q7⟩ := h2 a.toNat (by omega)
  rw [hs] at q2
  obtain rfl := Option.some.inj q2
  exact ⟨q1, q3, q4, q5, q6⟩
theorem sk_next {L len : Int} {a a2 : Int32} {k k2 : Nat} {p z p2 z2 : Int32} {v v2 : Int64} {ss : Nat → Option Nat} {sp sz : Nat → Int32} {sv : Nat → Int64} (h : sk L len a.toInt k p z v ss sp sz sv)
    (h1 : a.toInt + 1 < len → a2.toInt = a.toInt + 1 ∧ ss a2.toNatClampNeg = some k2 ∧ p2 = sp a2.toNatClampNeg ∧ z2 = sz a2.toNatClampNeg ∧ v2 = sv a2.toNatClampNeg) (h2 : len ≤ a.toInt + 1 → a2 = a ∧ k2 = k ∧ p2 = p ∧ z2 = z ∧ v2 = v) :
    sk L len a2.toInt k2 p2 z2 v2 ss sp sz sv ∧ p.toInt ≤ p2.toInt ∧ (k ≠ 0 → k ≠ 1 → a2.toInt = a.toInt + 1 ∧ p.toInt + z.toInt ≤ p2.toInt) ∧ (k = 0 ∨ k = 1 → a2 = a ∧ k2 = k ∧ p2 = p) := by
  have h0 := h
  obtain ⟨⟨t1, t2, t3⟩, ha, hb, hs, hp, hz, hv⟩ := h
  obtain ⟨k1, q1, q2, q3, q4, q5, q6, q7⟩ := t2 a.toInt.toNat (by omega)
  rw [hs] at q2
  obtain rfl := Option.some.inj q2
  by_cases e : a.toInt + 1 < len
  · obtain ⟨b1, b2, b3, b4, b5⟩ := h1 e
    have c := q7 (by omega)
    have e2 : a.toInt.toNat + 1 = a2.toInt.toNat := by omega
    have b3' : p2 = sp a2.toInt.toNat := b3
    rw [e2, ← b3', ← hp, ← hz] at c
    rw [← hz] at q4
    refine ⟨⟨⟨t1, t2, t3⟩, by omega, by omega, b2, b3, b4, b5⟩, by omega, fun _ _ => ⟨b1, c.2.2⟩, fun z => by omega⟩
  · obtain ⟨b1, b2, b3, b4, b5⟩ := h2 (by omega)
    subst b1; subst b2; subst b3; subst b4; subst b5
    have c := t3 a2.toInt.toNat (by omega)
    rw [hs] at c
    refine ⟨h0, by omega, fun z1 z2 => ?_, fun _ => ⟨rfl, rfl, rfl⟩⟩
    rcases c with c | c
    · exact absurd (Option.some.inj c) z1
    · exact absurd (Option.some.inj c) z2
abbrev pS := Int32 × Option Nat × Int32 × Int32 × Int64
def sl (K : Nat → Int32) (G : Nat → Option Nat) (Pp Z : Nat → Int32) (V : Nat → Int64) (n : Int) : List pS := (List.range n.toNat).map fun i => (K i, G i, Pp i, Z i, V i)
theorem sl_len {K : Nat → Int32} {G : Nat → Option Nat} {Pp Z : Nat → Int32} {V : Nat → Int64} {n : Int} : (sl K G Pp Z V n).length = n.toNat := by
  unfold sl
  rw [List.length_map, List.length_range]
theorem sl_add {K K2 : Nat → Int32} {G G2 : Nat → Option Nat} {Pp P2 Z Z2 : Nat → Int32} {V V2 : Nat → Int64} {n : Nat} {m m2 : Int} {k : Int32} {g : Option Nat} {p z : Int32} {v : Int64}
    (hm : m = n) (hm2 : m2 = m + 1) (h1 : K2 = upd K n k) (h2 : G2 = va_up G n g) (h3 : P2 = upd Pp n p) (h4 : Z2 = upd Z n z) (h5 : V2 = vp_updL V n v) : sl K2 G2 P2 Z2 V2 m2 = sl K G Pp Z V m ++ [(k, g, p, z, v)] := by
  subst h1; subst h2; subst h3; subst h4; subst h5; subst hm; subst hm2
  unfold sl
  rw [show ((n : Int) + 1).toNat = n + 1 by omega, show ((n : Int)).toNat = n by omega, List.range_succ, List.map_append]
  congr 1
  · apply List.map_congr_left
    intro i hi
    have q := List.mem_range.mp hi
    rw [pk_un (by omega), va_un (by omega), pk_un (by omega), pk_un (by omega), pk_uLn (by omega)]
  · rw [List.map_cons, List.map_nil, pk_us, va_us, pk_us, pk_us, pk_uLs]
abbrev b_PR_take : ByteArray := prog_8_method_24_code
def y_PR_take : MethodName := ⟨R_PR, "take", "(LWaferForge$Sign;)V"⟩
abbrev w_PR_take : List Cond := .code y_PR_take b_PR_take 2 none :: lw_g
theorem kC_PR_take : Cond.code y_PR_take b_PR_take 2 none ∈ lw_g := in_g 919 (by decide +kernel) rfl
theorem d_PR_take_0 : decode b_PR_take 0 = .ok (.aload_n 0, 1) := by decide +kernel
theorem d_PR_take_1 : decode b_PR_take 1 = .ok (.getfield 43, 3) := by decide +kernel
theorem d_PR_take_4 : decode b_PR_take 4 = .ok (.getfield 93, 3) := by decide +kernel
theorem d_PR_take_7 : decode b_PR_take 7 = .ok (.aload_n 1, 1) := by decide +kernel
theorem d_PR_take_8 : decode b_PR_take 8 = .ok (.if_acmp .eq 15, 3) := by decide +kernel
theorem d_PR_take_11 : decode b_PR_take 11 = .ok (.aload_n 0, 1) := by decide +kernel
theorem d_PR_take_12 : decode b_PR_take 12 = .ok (.iconst 1, 1) := by decide +kernel
theorem d_PR_take_13 : decode b_PR_take 13 = .ok (.aload_n 0, 1) := by decide +kernel
theorem d_PR_take_14 : decode b_PR_take 14 = .ok (.getfield 43, 3) := by decide +kernel
theorem d_PR_take_17 : decode b_PR_take 17 = .ok (.getfield 109, 3) := by decide +kernel
theorem d_PR_take_20 : decode b_PR_take 20 = .ok (.invokevirtual 110, 3) := by decide +kernel
theorem d_PR_take_23 : decode b_PR_take 23 = .ok (.aload_n 0, 1) := by decide +kernel
theorem d_PR_take_24 : decode b_PR_take 24 = .ok (.getfield 43, 3) := by decide +kernel
theorem d_PR_take_27 : decode b_PR_take 27 = .ok (.invokevirtual 114, 3) := by decide +kernel
theorem d_PR_take_30 : decode b_PR_take 30 = .ok (.return_, 1) := by decide +kernel
theorem kM_PR_114 : Cond.methodLink R_PR 114 y_SC_next ∈ lw_g := in_g 890 (by decide +kernel) rfl
abbrev at_PR_take (dC : Nat → ClassId) (dI : Nat → Nat → Nat) (sa : Nat → Nat) (h0 gl fu pa pf sf pk pg pp pz pv sc wg wp tr ss sp szs sv tx : Nat) (css csp cszs csv : ClassId) (h0_stepCount : Int32) (h0_open : Int32) (h0_twoSides : Int32) (h0_waitingCount : Int32) (sc_length : Int32) (tr_length : Int32) (gss : Nat → Option Nat) (gsp : Nat → Int32) (gszs : Nat → Int32) (gsv : Nat → Int64) (A : Nat → Prop) (u : Int32 × Int32 × Int32 × Int32 × Nat × Int32 × Int64) (t : State) : Prop := match u with | (h0_place, h0_reason, sc_at, sc_place, sc_sign, sc_size, sc_value) => va_P (dC, dI) cls [(h0, .inr (6, [.ref gl, .ref fu, .ref pa, .ref pf, .ref sf, .ref pk, .ref pg, .ref pp, .ref pz, .ref pv, .int h0_reason, .int h0_place, .ref sc, .int h0_stepCount, .int h0_open, .int h0_twoSides, .ref wg, .ref wp, .int h0_waitingCount])), (sc, .inr (8, [.ref tr, .ref (sg sa sc_sign), .int sc_place, .int sc_size, .long sc_value, .ref ss, .ref sp, .ref szs, .ref sv, .int sc_length, .int sc_at])), (tr, .inr (1, [.ref tx, .int tr_length])), (ss, .inl (css, 2001, .inr (.inr (.inr (.inr (fun j => (gss j).map (sg sa))))))), (sp, .inl (csp, 2001, .inl gsp)), (szs, .inl (cszs, 2001, .inl gszs)), (sv, .inl (csv, 2001, .inr (.inl gsv)))] t.heap ∧ va_K (dC, dI) cls [(css, .object "WaferForge$Sign"), (csp, .int), (cszs, .int), (csv, .long)] t ∧ va_D A [(h0, .inr (6, [.ref gl, .ref fu, .ref pa, .ref pf, .ref sf, .ref pk, .ref pg, .ref pp, .ref pz, .ref pv, .int h0_reason, .int h0_place, .ref sc, .int h0_stepCount, .int h0_open, .int h0_twoSides, .ref wg, .ref wp, .int h0_waitingCount])), (sc, .inr (8, [.ref tr, .ref (sg sa sc_sign), .int sc_place, .int sc_size, .long sc_value, .ref ss, .ref sp, .ref szs, .ref sv, .int sc_length, .int sc_at])), (tr, .inr (1, [.ref tx, .int tr_length])), (ss, .inl (css, 2001, .inr (.inr (.inr (.inr (fun j => (gss j).map (sg sa))))))), (sp, .inl (csp, 2001, .inl gsp)), (szs, .inl (cszs, 2001, .inl gszs)), (sv, .inl (csv, 2001, .inr (.inl gsv)))]
set_option maxHeartbeats 4000000 in
set_option maxRecDepth 100000 in
theorem c_PR_take (l : Launch) (hlt : l.stackTraces = false) (dC : Nat → ClassId) (dI : Nat → Nat → Nat) (sz : Nat) (sa : Nat → Nat) (h0 gl fu pa pf sf pk pg pp pz pv sc wg wp tr ss sp szs sv tx : Nat) (css csp cszs csv : ClassId) (h0_reason : Int32) (h0_place : Int32) (h0_stepCount : Int32) (h0_open : Int32) (h0_twoSides : Int32) (h0_waitingCount : Int32) (sc_sign : Nat) (sc_place : Int32) (sc_size : Int32) (sc_value : Int64) (sc_length : Int32) (sc_at : Int32) (tr_length : Int32) (gss : Nat → Option Nat) (gsp : Nat → Int32) (gszs : Nat → Int32) (gsv : Nat → Int64)  (b_sc_sign : sc_sign < 55) (b_sc_place : 0 ≤ sc_place.toInt ∧ sc_place.toInt ≤ 2000) (b_sc_size : 0 ≤ sc_size.toInt ∧ sc_size.toInt ≤ 2000) (b_sc_length : 0 ≤ sc_length.toInt ∧ sc_length.toInt ≤ 2001) (b_sc_at : -1 ≤ sc_at.toInt ∧ sc_at.toInt ≤ 2000) (b_tr_length : 0 ≤ tr_length.toInt ∧ tr_length.toInt ≤ 2000) (ka : Nat) (ba0 : ka < 55) (hsk : sk tr_length.toInt sc_length.toInt sc_at.toInt sc_sign sc_place sc_size sc_value gss gsp gszs gsv) (hk1 : ka ≠ 0 ∧ ka ≠ 1) : tz_Met l y_PR_take w_PR_take ({ frames := 7, cells := 1, slots := 6, locals := 112 }) (va_Pc [.ref h0, .ref (sg sa ka)] (fun U => U.heap.size = sz ∧ va_P (dC, dI) cls [(h0, .inr (6, [.ref gl, .ref fu, .ref pa, .ref pf, .ref sf, .ref pk, .ref pg, .ref pp, .ref pz, .ref pv, .int h0_reason, .int h0_place, .ref sc, .int h0_stepCount, .int h0_open, .int h0_twoSides, .ref wg, .ref wp, .int h0_waitingCount])), (sc, .inr (8, [.ref tr, .ref (sg sa sc_sign), .int sc_place, .int sc_size, .long sc_value, .ref ss, .ref sp, .ref szs, .ref sv, .int sc_length, .int sc_at])), (tr, .inr (1, [.ref tx, .int tr_length])), (ss, .inl (css, 2001, .inr (.inr (.inr (.inr (fun j => (gss j).map (sg sa))))))), (sp, .inl (csp, 2001, .inl gsp)), (szs, .inl (cszs, 2001, .inl gszs)), (sv, .inl (csv, 2001, .inr (.inl gsv)))] U.heap ∧ va_K (dC, dI) cls [(css, .object "WaferForge$Sign"), (csp, .int), (cszs, .int), (csv, .long)] U ∧ va_D (fun _ => True) [(h0, .inr (6, [.ref gl, .ref fu, .ref pa, .ref pf, .ref sf, .ref pk, .ref pg, .ref pp, .ref pz, .ref pv, .int h0_reason, .int h0_place, .ref sc, .int h0_stepCount, .int h0_open, .int h0_twoSides, .ref wg, .ref wp, .int h0_waitingCount])), (sc, .inr (8, [.ref tr, .ref (sg sa sc_sign), .int sc_place, .int sc_size, .long sc_value, .ref ss, .ref sp, .ref szs, .ref sv, .int sc_length, .int sc_at])), (tr, .inr (1, [.ref tx, .int tr_length])), (ss, .inl (css, 2001, .inr (.inr (.inr (.inr (fun j => (gss j).map (sg sa))))))), (sp, .inl (csp, 2001, .inl gsp)), (szs, .inl (cszs, 2001, .inl gszs)), (sv, .inl (csv, 2001, .inr (.inl gsv)))] ∧ sw sa (va_A [(h0, .inr (6, [.ref gl, .ref fu, .ref pa, .ref pf, .ref sf, .ref pk, .ref pg, .ref pp, .ref pz, .ref pv, .int h0_reason, .int h0_place, .ref sc, .int h0_stepCount, .int h0_open, .int h0_twoSides, .ref wg, .ref wp, .int h0_waitingCount])), (sc, .inr (8, [.ref tr, .ref (sg sa sc_sign), .int sc_place, .int sc_size, .long sc_value, .ref ss, .ref sp, .ref szs, .ref sv, .int sc_length, .int sc_at])), (tr, .inr (1, [.ref tx, .int tr_length])), (ss, .inl (css, 2001, .inr (.inr (.inr (.inr (fun j => (gss j).map (sg sa))))))), (sp, .inl (csp, 2001, .inl gsp)), (szs, .inl (cszs, 2001, .inl gszs)), (sv, .inl (csv, 2001, .inr (.inl gsv)))] sz) U U.heap)) (tq_Q (tq_v (fun (u : Int32 × Int32 × Int32 × Int32 × Nat × Int32 × Int64) => match u with | (h0_place2, h0_reason2, sc_at2, sc_place2, sc_sign2, sc_size2, sc_value2) => (-1 ≤ sc_at2.toInt ∧ sc_at2.toInt ≤ 2000) ∧ (0 ≤ sc_place2.toInt ∧ sc_place2.toInt ≤ 2000) ∧ (sc_sign2 < 55) ∧ (0 ≤ sc_size2.toInt ∧ sc_size2.toInt ≤ 2000) ∧ (sc_sign = ka ∧ sk tr_length.toInt sc_length.toInt sc_at2.toInt sc_sign2 sc_place2 sc_size2 sc_value2 gss gsp gszs gsv ∧ sc_place.toInt + sc_size.toInt ≤ sc_place2.toInt ∧ sc_at2.toInt = sc_at.toInt + 1)) "java/lang/UnsupportedOperationException" (fun (u : Int32 × Int32 × Int32 × Int32 × Nat × Int32 × Int64) => match u with | (h0_place2, h0_reason2, sc_at2, sc_place2, sc_sign2, sc_size2, sc_value2) => (-1 ≤ sc_at2.toInt ∧ sc_at2.toInt ≤ 2000) ∧ (0 ≤ sc_place2.toInt ∧ sc_place2.toInt ≤ 2000) ∧ (sc_sign2 < 55) ∧ (0 ≤ sc_size2.toInt ∧ sc_size2.toInt ≤ 2000))) (at_PR_take dC dI sa h0 gl fu pa pf sf pk pg pp pz pv sc wg wp tr ss sp szs sv tx css csp cszs csv h0_stepCount h0_open h0_twoSides h0_waitingCount sc_length tr_length gss gsp gszs gsv (va_A [(h0, .inr (6, [.ref gl, .ref fu, .ref pa, .ref pf, .ref sf, .ref pk, .ref pg, .ref pp, .ref pz, .ref pv, .int h0_reason, .int h0_place, .ref sc, .int h0_stepCount, .int h0_open, .int h0_twoSides, .ref wg, .ref wp, .int h0_waitingCount])), (sc, .inr (8, [.ref tr, .ref (sg sa sc_sign), .int sc_place, .int sc_size, .long sc_value, .ref ss, .ref sp, .ref szs, .ref sv, .int sc_length, .int sc_at])), (tr, .inr (1, [.ref tx, .int tr_length])), (ss, .inl (css, 2001, .inr (.inr (.inr (.inr (fun j => (gss j).map (sg sa))))))), (sp, .inl (csp, 2001, .inl gsp)), (szs, .inl (cszs, 2001, .inl gszs)), (sv, .inl (csv, 2001, .inr (.inl gsv)))] sz)) (va_A [(h0, .inr (6, [.ref gl, .ref fu, .ref pa, .ref pf, .ref sf, .ref pk, .ref pg, .ref pp, .ref pz, .ref pv, .int h0_reason, .int h0_place, .ref sc, .int h0_stepCount, .int h0_open, .int h0_twoSides, .ref wg, .ref wp, .int h0_waitingCount])), (sc, .inr (8, [.ref tr, .ref (sg sa sc_sign), .int sc_place, .int sc_size, .long sc_value, .ref ss, .ref sp, .ref szs, .ref sv, .int sc_length, .int sc_at])), (tr, .inr (1, [.ref tx, .int tr_length])), (ss, .inl (css, 2001, .inr (.inr (.inr (.inr (fun j => (gss j).map (sg sa))))))), (sp, .inl (csp, 2001, .inl gsp)), (szs, .inl (cszs, 2001, .inl gszs)), (sv, .inl (csv, 2001, .inr (.inl gsv)))] sz)) (tz_k 0 0 1 6) (va_A [(h0, .inr (6, [.ref gl, .ref fu, .ref pa, .ref pf, .ref sf, .ref pk, .ref pg, .ref pp, .ref pz, .ref pv, .int h0_reason, .int h0_place, .ref sc, .int h0_stepCount, .int h0_open, .int h0_twoSides, .ref wg, .ref wp, .int h0_waitingCount])), (sc, .inr (8, [.ref tr, .ref (sg sa sc_sign), .int sc_place, .int sc_size, .long sc_value, .ref ss, .ref sp, .ref szs, .ref sv, .int sc_length, .int sc_at])), (tr, .inr (1, [.ref tx, .int tr_length])), (ss, .inl (css, 2001, .inr (.inr (.inr (.inr (fun j => (gss j).map (sg sa))))))), (sp, .inl (csp, 2001, .inl gsp)), (szs, .inl (cszs, 2001, .inl gszs)), (sv, .inl (csv, 2001, .inr (.inl gsv)))] sz) := by
  refine tz_ofW (cc := b_PR_take) (maxL := 2) (ret := none) (by decide) rfl ?_
  intro p e s m args below meth c s₁ B hml hno hv
  obtain ⟨rfl, hsz, hP, hK, hD0, hSW⟩ := hv
  have hx := B.exec
  have hb := B.bytes
  have hr := B.returns
  have hts0 := atoms_spec (ws := w_PR_take) B.pre
  have hts : ∀ w ∈ lw_g, w.before _ s = true := fun w h => hts0 w (List.mem_cons_of_mem _ h)
  have hown : s.vm.findClass R_PR = some m.cls := findClass_of_methodNamed B.named
  have hlocks := B.notSynchronized
  clear hts0
  subst hsz
  have hD := hD0.self (sz := s.heap.size)
  generalize hAe : va_A [(h0, .inr (6, [.ref gl, .ref fu, .ref pa, .ref pf, .ref sf, .ref pk, .ref pg, .ref pp, .ref pz, .ref pv, .int h0_reason, .int h0_place, .ref sc, .int h0_stepCount, .int h0_open, .int h0_twoSides, .ref wg, .ref wp, .int h0_waitingCount])), (sc, .inr (8, [.ref tr, .ref (sg sa sc_sign), .int sc_place, .int sc_size, .long sc_value, .ref ss, .ref sp, .ref szs, .ref sv, .int sc_length, .int sc_at])), (tr, .inr (1, [.ref tx, .int tr_length])), (ss, .inl (css, 2001, .inr (.inr (.inr (.inr (fun j => (gss j).map (sg sa))))))), (sp, .inl (csp, 2001, .inl gsp)), (szs, .inl (cszs, 2001, .inl gszs)), (sv, .inl (csv, 2001, .inr (.inl gsv)))] s.heap.size = A at hD hSW ⊢
  have hA : ∀ q : Nat, s.heap.size ≤ q → A q := fun q h => by rw [← hAe]; exact Or.inr h
  clear hAe
  have hP : va_P (dC, dI) cls [(h0, .inr (6, [.ref gl, .ref fu, .ref pa, .ref pf, .ref sf, .ref pk, .ref pg, .ref pp, .ref pz, .ref pv, .int h0_reason, .int h0_place, .ref sc, .int h0_stepCount, .int h0_open, .int h0_twoSides, .ref wg, .ref wp, .int h0_waitingCount])), (sc, .inr (8, [.ref tr, .ref (sg sa sc_sign), .int sc_place, .int sc_size, .long sc_value, .ref ss, .ref sp, .ref szs, .ref sv, .int sc_length, .int sc_at])), (tr, .inr (1, [.ref tx, .int tr_length])), (ss, .inl (css, 2001, .inr (.inr (.inr (.inr (fun j => (gss j).map (sg sa))))))), (sp, .inl (csp, 2001, .inl gsp)), (szs, .inl (cszs, 2001, .inl gszs)), (sv, .inl (csv, 2001, .inr (.inl gsv)))] s.heap := hP
  have hl := lv_entry ([.ref h0, .ref (sg sa ka)]) (n := 2) (Nat.le_of_ble_eq_true rfl)
  rw [lg_entry_eq]
  generalize (lg_sl ([.ref h0, .ref (sg sa ka)]) ++ List.replicate (2 - (lg_sl ([.ref h0, .ref (sg sa ka)])).length) Slot.unset).toArray = ls at hl ⊢
  have hl : lv_has ls 2 [(0, .ref h0), (1, .ref (sg sa ka))] := hl
  have k0 : (0 : Int32).toInt = 0 := by decide
  refine w_gen (A := A) hP (fun H locs hP hS => ?_)
  have k1 : (1 : Int32).toInt = 1 := by decide
  refine lv_aload_n hx hb d_PR_take_0 rfl (lv_at hl 0 rfl) ?_
  refine va_get (D := (dC, dI)) (ci := 6) (v := .ref sc) (C := R_PR) (T := F_PR) (N := 19) hx hb hts i_PR hown hK hP 0 rfl rfl 12 (by decide) (hts _ kF_PR_43) (fun _ h9 => h9) rfl d_PR_take_1 ?_
  refine va_get (D := (dC, dI)) (ci := 8) (v := .ref (sg sa sc_sign)) (C := R_SC) (T := F_SC) (N := 11) hx hb hts i_SC hown hK hP 1 rfl rfl 1 (by decide) (hts _ kF_PR_93) (fun _ h9 => h9) rfl d_PR_take_4 ?_
  refine lv_aload_n hx hb d_PR_take_7 rfl (lv_at hl 1 rfl) ?_
  refine lv_acmp_eq (rx := some (sg sa sc_sign)) (ry := some (sg sa ka)) (tgt := 23) hx hb d_PR_take_8 (by decide) (fun c8 => ?_) (fun c8 => ?_)
  · have q8 : sc_sign = ka := hSW.2.2.2.1.2 sc_sign ka b_sc_sign ba0 (Option.some.inj c8)
    refine lv_aload_n hx hb d_PR_take_23 rfl (lv_at hl 0 rfl) ?_
    refine va_get (D := (dC, dI)) (ci := 6) (v := .ref sc) (C := R_PR) (T := F_PR) (N := 19) hx hb hts i_PR hown hK hP 0 rfl rfl 12 (by decide) (hts _ kF_PR_43) (fun _ h9 => h9) rfl d_PR_take_24 ?_
    have hPc := hP.sub (ws' := [(sc, .inr (8, [.ref tr, .ref (sg sa sc_sign), .int sc_place, .int sc_size, .long sc_value, .ref ss, .ref sp, .ref szs, .ref sv, .int sc_length, .int sc_at])), (tr, .inr (1, [.ref tx, .int tr_length])), (ss, .inl (css, 2001, .inr (.inr (.inr (.inr (fun j => (gss j).map (sg sa))))))), (sp, .inl (csp, 2001, .inl gsp)), (szs, .inl (cszs, 2001, .inl gszs)), (sv, .inl (csv, 2001, .inr (.inl gsv)))]) [1, 2, 3, 4, 5, 6] rfl
    have hDc := hD.sub (ws' := [(sc, .inr (8, [.ref tr, .ref (sg sa sc_sign), .int sc_place, .int sc_size, .long sc_value, .ref ss, .ref sp, .ref szs, .ref sv, .int sc_length, .int sc_at])), (tr, .inr (1, [.ref tx, .int tr_length])), (ss, .inl (css, 2001, .inr (.inr (.inr (.inr (fun j => (gss j).map (sg sa))))))), (sp, .inl (csp, 2001, .inl gsp)), (szs, .inl (cszs, 2001, .inl gszs)), (sv, .inl (csv, 2001, .inr (.inl gsv)))]) [1, 2, 3, 4, 5, 6] (by decide) rfl
    have hKc := hK.sub (tys' := [(css, .object "WaferForge$Sign"), (csp, .int), (cszs, .int), (csv, .long)]) [0, 1, 2, 3] rfl
    have hFc := va_free (wc := [(sc, .inr (8, [.ref tr, .ref (sg sa sc_sign), .int sc_place, .int sc_size, .long sc_value, .ref ss, .ref sp, .ref szs, .ref sv, .int sc_length, .int sc_at])), (tr, .inr (1, [.ref tx, .int tr_length])), (ss, .inl (css, 2001, .inr (.inr (.inr (.inr (fun j => (gss j).map (sg sa))))))), (sp, .inl (csp, 2001, .inl gsp)), (szs, .inl (cszs, 2001, .inl gszs)), (sv, .inl (csv, 2001, .inr (.inl gsv)))]) hD hS hA [1, 2, 3, 4, 5, 6] rfl
    refine va_callv (va_runV (As := []) (rest := []) ⟨hx, hb, hml, hown, hts⟩ (c_SC_next l dC dI H.size sa sc tr ss sp szs sv tx css csp cszs csv sc_sign sc_place sc_size sc_value sc_length sc_at tr_length gss gsp gszs gsv (b_sc_sign) (b_sc_place) (b_sc_size) (b_sc_length) (b_sc_at) (b_tr_length) (hsk.1.2.1)) (cwV 0 hts (gV kM_PR_114 kV_SC_next kS_SC_next kI_SC kC_SC_next) rfl rfl rfl (by decide +kernel) ⟨Nat.le_of_ble_eq_true rfl, Nat.le_of_ble_eq_true rfl⟩) ⟨fun a U g mk z => by obtain ⟨z0, z1, zP, zK, zD, zS⟩ := z; exact ⟨z0, z1, zP, va_K.moved (u := U) (U := U.calling g mk a) (Vm.Alike.refl U.vm) zK, zD, sw.same (u := U) (U := U.calling g mk a) rfl zS⟩, va_recv hKc hPc (ci := 8) (q0 := 0) rfl rfl, fun U hU hW => ⟨rfl, by rw [hU], by rw [hU]; exact hPc, va_K.moved hW.alike hKc, hDc.weaken (fun _ _ _ _ => trivial), hSW.call hS hFc hW hU⟩⟩ rfl rfl hl.1 rfl (lv_room (Nat.le_of_ble_eq_true rfl)) d_PR_take_27 ⟨(Nat.zero_le _), (Nat.zero_le _)⟩) hS (fun q _ h => hFc q h) hFc (fun u t H1 locs ht hvm hw hB hz1 hk1 hS => ?_)
    obtain ⟨n2, n3, n4, n5, n6⟩ := u
    try dsimp only at hw
    obtain ⟨bn2, bn3, bn4, bn5, xr1⟩ := hw
    try clear hw
    obtain ⟨hP1, hK1, hD1⟩ := hB
    rw [ht] at hP1
    obtain ⟨hP, hD⟩ := va_join (wr := [(h0, .inr (6, [.ref gl, .ref fu, .ref pa, .ref pf, .ref sf, .ref pk, .ref pg, .ref pp, .ref pz, .ref pv, .int h0_reason, .int h0_place, .ref sc, .int h0_stepCount, .int h0_open, .int h0_twoSides, .ref wg, .ref wp, .int h0_waitingCount]))]) (w1 := [(sc, .inr (8, [.ref tr, .ref (sg sa n4), .int n3, .int n5, .long n6, .ref ss, .ref sp, .ref szs, .ref sv, .int sc_length, .int n2])), (tr, .inr (1, [.ref tx, .int tr_length])), (ss, .inl (css, 2001, .inr (.inr (.inr (.inr (fun j => (gss j).map (sg sa))))))), (sp, .inl (csp, 2001, .inl gsp)), (szs, .inl (cszs, 2001, .inl gszs)), (sv, .inl (csv, 2001, .inr (.inl gsv)))]) hP hD [1, 2, 3, 4, 5, 6] [0] rfl rfl (by decide) (by decide) hk1 hFc hP1 hD1
    clear hPc hDc hKc hFc hz1 hk1 hP1 hK1 hD1
    generalize H1 = H at hP hS ⊢
    have hP : va_P (dC, dI) cls [(h0, .inr (6, [.ref gl, .ref fu, .ref pa, .ref pf, .ref sf, .ref pk, .ref pg, .ref pp, .ref pz, .ref pv, .int h0_reason, .int h0_place, .ref sc, .int h0_stepCount, .int h0_open, .int h0_twoSides, .ref wg, .ref wp, .int h0_waitingCount])), (sc, .inr (8, [.ref tr, .ref (sg sa n4), .int n3, .int n5, .long n6, .ref ss, .ref sp, .ref szs, .ref sv, .int sc_length, .int n2])), (tr, .inr (1, [.ref tx, .int tr_length])), (ss, .inl (css, 2001, .inr (.inr (.inr (.inr (fun j => (gss j).map (sg sa))))))), (sp, .inl (csp, 2001, .inl gsp)), (szs, .inl (cszs, 2001, .inl gszs)), (sv, .inl (csv, 2001, .inr (.inl gsv)))] H := hP
    have hD : va_D A [(h0, .inr (6, [.ref gl, .ref fu, .ref pa, .ref pf, .ref sf, .ref pk, .ref pg, .ref pp, .ref pz, .ref pv, .int h0_reason, .int h0_place, .ref sc, .int h0_stepCount, .int h0_open, .int h0_twoSides, .ref wg, .ref wp, .int h0_waitingCount])), (sc, .inr (8, [.ref tr, .ref (sg sa n4), .int n3, .int n5, .long n6, .ref ss, .ref sp, .ref szs, .ref sv, .int sc_length, .int n2])), (tr, .inr (1, [.ref tx, .int tr_length])), (ss, .inl (css, 2001, .inr (.inr (.inr (.inr (fun j => (gss j).map (sg sa))))))), (sp, .inl (csp, 2001, .inl gsp)), (szs, .inl (cszs, 2001, .inl gszs)), (sv, .inl (csv, 2001, .inr (.inl gsv)))] := hD
    have hP9 := hP.sub (ws' := [(h0, .inr (6, [.ref gl, .ref fu, .ref pa, .ref pf, .ref sf, .ref pk, .ref pg, .ref pp, .ref pz, .ref pv, .int h0_reason, .int h0_place, .ref sc, .int h0_stepCount, .int h0_open, .int h0_twoSides, .ref wg, .ref wp, .int h0_waitingCount])), (sc, .inr (8, [.ref tr, .ref (sg sa n4), .int n3, .int n5, .long n6, .ref ss, .ref sp, .ref szs, .ref sv, .int sc_length, .int n2])), (tr, .inr (1, [.ref tx, .int tr_length])), (ss, .inl (css, 2001, .inr (.inr (.inr (.inr (fun j => (gss j).map (sg sa))))))), (sp, .inl (csp, 2001, .inl gsp)), (szs, .inl (cszs, 2001, .inl gszs)), (sv, .inl (csv, 2001, .inr (.inl gsv)))]) [0, 1, 2, 3, 4, 5, 6] rfl
    have hD9 := hD.sub (ws' := [(h0, .inr (6, [.ref gl, .ref fu, .ref pa, .ref pf, .ref sf, .ref pk, .ref pg, .ref pp, .ref pz, .ref pv, .int h0_reason, .int h0_place, .ref sc, .int h0_stepCount, .int h0_open, .int h0_twoSides, .ref wg, .ref wp, .int h0_waitingCount])), (sc, .inr (8, [.ref tr, .ref (sg sa n4), .int n3, .int n5, .long n6, .ref ss, .ref sp, .ref szs, .ref sv, .int sc_length, .int n2])), (tr, .inr (1, [.ref tx, .int tr_length])), (ss, .inl (css, 2001, .inr (.inr (.inr (.inr (fun j => (gss j).map (sg sa))))))), (sp, .inl (csp, 2001, .inl gsp)), (szs, .inl (cszs, 2001, .inl gszs)), (sv, .inl (csv, 2001, .inr (.inl gsv)))]) [0, 1, 2, 3, 4, 5, 6] (by decide) rfl
    exact tz_up (fun _ => rfl) (W.vret hx hb hr (fun t ht hW => ⟨⟨(h0_place, h0_reason, n2, n3, n4, n5, n6), ⟨rfl, ⟨bn2, bn3, bn4, bn5, by have z := sk_next hsk xr1.1 xr1.2; have z2 := z.2.2.1 (by rw [q8]; exact hk1.1) (by rw [q8]; exact hk1.2); exact ⟨q8, z.1, z2.2, z2.1⟩⟩⟩, by rw [ht]; exact hP9, va_K.moved hW.alike hK, hD9⟩, hS.F ht⟩) hS.2.2 d_PR_take_30)
  · have q8 : sc_sign ≠ ka := fun z => c8 (by rw [z])
    refine lv_aload_n hx hb d_PR_take_11 rfl (lv_at hl 0 rfl) ?_
    refine lv_iconst (v := 1) hx hb d_PR_take_12 (by decide) ?_
    refine lv_aload_n hx hb d_PR_take_13 rfl (lv_at hl 0 rfl) ?_
    refine va_get (D := (dC, dI)) (ci := 6) (v := .ref sc) (C := R_PR) (T := F_PR) (N := 19) hx hb hts i_PR hown hK hP 0 rfl rfl 12 (by decide) (hts _ kF_PR_43) (fun _ h9 => h9) rfl d_PR_take_14 ?_
    refine va_get (D := (dC, dI)) (ci := 8) (v := .int sc_place) (C := R_SC) (T := F_SC) (N := 11) hx hb hts i_SC hown hK hP 1 rfl rfl 2 (by decide) (hts _ kF_PR_109) (fun _ h9 => h9) rfl d_PR_take_17 ?_
    have hPc := hP.sub (ws' := [(h0, .inr (6, [.ref gl, .ref fu, .ref pa, .ref pf, .ref sf, .ref pk, .ref pg, .ref pp, .ref pz, .ref pv, .int h0_reason, .int h0_place, .ref sc, .int h0_stepCount, .int h0_open, .int h0_twoSides, .ref wg, .ref wp, .int h0_waitingCount]))]) [0] rfl
    have hDc := hD.sub (ws' := [(h0, .inr (6, [.ref gl, .ref fu, .ref pa, .ref pf, .ref sf, .ref pk, .ref pg, .ref pp, .ref pz, .ref pv, .int h0_reason, .int h0_place, .ref sc, .int h0_stepCount, .int h0_open, .int h0_twoSides, .ref wg, .ref wp, .int h0_waitingCount]))]) [0] (by decide) rfl
    have hKc := hK.sub (tys' := []) [] rfl
    have hFc := va_free (wc := [(h0, .inr (6, [.ref gl, .ref fu, .ref pa, .ref pf, .ref sf, .ref pk, .ref pg, .ref pp, .ref pz, .ref pv, .int h0_reason, .int h0_place, .ref sc, .int h0_stepCount, .int h0_open, .int h0_twoSides, .ref wg, .ref wp, .int h0_waitingCount]))]) hD hS hA [0] rfl
    refine tq_callv (tz_runV (As := [.int 1, .int sc_place]) (rest := []) ⟨hx, hb, hml, hown, hts⟩ (c_PR_refuse l hlt dC dI H.size sa h0 gl fu pa pf sf pk pg pp pz pv sc wg wp h0_reason h0_place h0_stepCount h0_open h0_twoSides h0_waitingCount 1 sc_place) (cwV 2 hts (gV kM_PR_110 kV_PR_refuse kS_PR_refuse kI_PR kC_PR_refuse) rfl rfl rfl (by decide +kernel) ⟨Nat.le_of_ble_eq_true rfl, Nat.le_of_ble_eq_true rfl⟩) ⟨fun a U g mk z => by obtain ⟨z0, z1, zP, zK, zD, zS⟩ := z; exact ⟨z0, z1, zP, va_K.moved (u := U) (U := U.calling g mk a) (Vm.Alike.refl U.vm) zK, zD, sw.same (u := U) (U := U.calling g mk a) rfl zS⟩, va_recv hKc hPc (ci := 6) (q0 := 0) rfl rfl, fun U hU hW => ⟨rfl, by rw [hU], by rw [hU]; exact hPc, va_K.moved hW.alike hKc, hDc.weaken (fun _ _ _ _ => trivial), hSW.call hS hFc hW hU⟩⟩ rfl rfl hl.1 rfl (lv_room (Nat.le_of_ble_eq_true rfl)) d_PR_take_20 ⟨Nat.le_of_ble_eq_true rfl, Nat.le_of_ble_eq_true rfl⟩) hS (fun q _ h => hFc q h) hFc (fun u t H1 locs ht hvm hw hB hz1 hk1 hS => ?_) (fun xx u t H1 locs ht hvm hw hXX hB hz1 hk1 hS => ?_)
    rotate_left
    · skip
      obtain ⟨n8, n9⟩ := u
      try dsimp only at hw
      obtain ⟨hP1, hK1, hD1⟩ := hB
      rw [ht] at hP1
      obtain ⟨hP, hD⟩ := va_join (wr := [(sc, .inr (8, [.ref tr, .ref (sg sa sc_sign), .int sc_place, .int sc_size, .long sc_value, .ref ss, .ref sp, .ref szs, .ref sv, .int sc_length, .int sc_at])), (tr, .inr (1, [.ref tx, .int tr_length])), (ss, .inl (css, 2001, .inr (.inr (.inr (.inr (fun j => (gss j).map (sg sa))))))), (sp, .inl (csp, 2001, .inl gsp)), (szs, .inl (cszs, 2001, .inl gszs)), (sv, .inl (csv, 2001, .inr (.inl gsv)))]) (w1 := [(h0, .inr (6, [.ref gl, .ref fu, .ref pa, .ref pf, .ref sf, .ref pk, .ref pg, .ref pp, .ref pz, .ref pv, .int n9, .int n8, .ref sc, .int h0_stepCount, .int h0_open, .int h0_twoSides, .ref wg, .ref wp, .int h0_waitingCount]))]) hP hD [0] [1, 2, 3, 4, 5, 6] rfl rfl (by decide) (by decide) hk1 hFc hP1 hD1
      have hP : va_P (dC, dI) cls [(sc, .inr (8, [.ref tr, .ref (sg sa sc_sign), .int sc_place, .int sc_size, .long sc_value, .ref ss, .ref sp, .ref szs, .ref sv, .int sc_length, .int sc_at])), (tr, .inr (1, [.ref tx, .int tr_length])), (ss, .inl (css, 2001, .inr (.inr (.inr (.inr (fun j => (gss j).map (sg sa))))))), (sp, .inl (csp, 2001, .inl gsp)), (szs, .inl (cszs, 2001, .inl gszs)), (sv, .inl (csv, 2001, .inr (.inl gsv))), (h0, .inr (6, [.ref gl, .ref fu, .ref pa, .ref pf, .ref sf, .ref pk, .ref pg, .ref pp, .ref pz, .ref pv, .int n9, .int n8, .ref sc, .int h0_stepCount, .int h0_open, .int h0_twoSides, .ref wg, .ref wp, .int h0_waitingCount]))] H1 := hP
      have hD : va_D A [(sc, .inr (8, [.ref tr, .ref (sg sa sc_sign), .int sc_place, .int sc_size, .long sc_value, .ref ss, .ref sp, .ref szs, .ref sv, .int sc_length, .int sc_at])), (tr, .inr (1, [.ref tx, .int tr_length])), (ss, .inl (css, 2001, .inr (.inr (.inr (.inr (fun j => (gss j).map (sg sa))))))), (sp, .inl (csp, 2001, .inl gsp)), (szs, .inl (cszs, 2001, .inl gszs)), (sv, .inl (csv, 2001, .inr (.inl gsv))), (h0, .inr (6, [.ref gl, .ref fu, .ref pa, .ref pf, .ref sf, .ref pk, .ref pg, .ref pp, .ref pz, .ref pv, .int n9, .int n8, .ref sc, .int h0_stepCount, .int h0_open, .int h0_twoSides, .ref wg, .ref wp, .int h0_waitingCount]))] := hD
      have hP9 := hP.sub (ws' := [(h0, .inr (6, [.ref gl, .ref fu, .ref pa, .ref pf, .ref sf, .ref pk, .ref pg, .ref pp, .ref pz, .ref pv, .int n9, .int n8, .ref sc, .int h0_stepCount, .int h0_open, .int h0_twoSides, .ref wg, .ref wp, .int h0_waitingCount])), (sc, .inr (8, [.ref tr, .ref (sg sa sc_sign), .int sc_place, .int sc_size, .long sc_value, .ref ss, .ref sp, .ref szs, .ref sv, .int sc_length, .int sc_at])), (tr, .inr (1, [.ref tx, .int tr_length])), (ss, .inl (css, 2001, .inr (.inr (.inr (.inr (fun j => (gss j).map (sg sa))))))), (sp, .inl (csp, 2001, .inl gsp)), (szs, .inl (cszs, 2001, .inl gszs)), (sv, .inl (csv, 2001, .inr (.inl gsv)))]) [6, 0, 1, 2, 3, 4, 5] rfl
      have hD9 := hD.sub (ws' := [(h0, .inr (6, [.ref gl, .ref fu, .ref pa, .ref pf, .ref sf, .ref pk, .ref pg, .ref pp, .ref pz, .ref pv, .int n9, .int n8, .ref sc, .int h0_stepCount, .int h0_open, .int h0_twoSides, .ref wg, .ref wp, .int h0_waitingCount])), (sc, .inr (8, [.ref tr, .ref (sg sa sc_sign), .int sc_place, .int sc_size, .long sc_value, .ref ss, .ref sp, .ref szs, .ref sv, .int sc_length, .int sc_at])), (tr, .inr (1, [.ref tx, .int tr_length])), (ss, .inl (css, 2001, .inr (.inr (.inr (.inr (fun j => (gss j).map (sg sa))))))), (sp, .inl (csp, 2001, .inl gsp)), (szs, .inl (cszs, 2001, .inl gszs)), (sv, .inl (csv, 2001, .inr (.inl gsv)))]) [6, 0, 1, 2, 3, 4, 5] (by decide) rfl
      exact tz_leave rfl hno hlocks (fun t ht hW => ⟨⟨(n8, n9, sc_at, sc_place, sc_sign, sc_size, sc_value), ⟨⟨b_sc_at, b_sc_place, b_sc_sign, b_sc_size⟩, by rw [ht]; exact hXX.moved hW.alike⟩, by rw [ht]; exact hP9, va_K.moved hW.alike hK, hD9⟩, hS.F ht⟩) hS.2.2
    exact (show False from hw).elim
abbrev b_PR_hold : ByteArray := prog_8_method_26_code
def y_PR_hold : MethodName := ⟨R_PR, "hold", "(LWaferForge$Sign;I)V"⟩
abbrev w_PR_hold : List Cond := .code y_PR_hold b_PR_hold 3 none :: lw_g
theorem kC_PR_hold : Cond.code y_PR_hold b_PR_hold 3 none ∈ lw_g := in_g 1016 (by decide +kernel) rfl
theorem d_PR_hold_0 : decode b_PR_hold 0 = .ok (.aload_n 0, 1) := by decide +kernel
theorem d_PR_hold_1 : decode b_PR_hold 1 = .ok (.getfield 87, 3) := by decide +kernel
theorem d_PR_hold_4 : decode b_PR_hold 4 = .ok (.aload_n 0, 1) := by decide +kernel
theorem d_PR_hold_5 : decode b_PR_hold 5 = .ok (.getfield 37, 3) := by decide +kernel
theorem d_PR_hold_8 : decode b_PR_hold 8 = .ok (.arraylength, 1) := by decide +kernel
theorem d_PR_hold_9 : decode b_PR_hold 9 = .ok (.if_icmp .ge 33, 3) := by decide +kernel
theorem d_PR_hold_12 : decode b_PR_hold 12 = .ok (.aload_n 0, 1) := by decide +kernel
theorem d_PR_hold_13 : decode b_PR_hold 13 = .ok (.getfield 37, 3) := by decide +kernel
theorem d_PR_hold_16 : decode b_PR_hold 16 = .ok (.aload_n 0, 1) := by decide +kernel
theorem d_PR_hold_17 : decode b_PR_hold 17 = .ok (.getfield 87, 3) := by decide +kernel
theorem d_PR_hold_20 : decode b_PR_hold 20 = .ok (.aload_n 1, 1) := by decide +kernel
theorem d_PR_hold_21 : decode b_PR_hold 21 = .ok (.aastore, 1) := by decide +kernel
theorem d_PR_hold_22 : decode b_PR_hold 22 = .ok (.aload_n 0, 1) := by decide +kernel
theorem d_PR_hold_23 : decode b_PR_hold 23 = .ok (.getfield 40, 3) := by decide +kernel
theorem d_PR_hold_26 : decode b_PR_hold 26 = .ok (.aload_n 0, 1) := by decide +kernel
theorem d_PR_hold_27 : decode b_PR_hold 27 = .ok (.getfield 87, 3) := by decide +kernel
theorem d_PR_hold_30 : decode b_PR_hold 30 = .ok (.iload_n 2, 1) := by decide +kernel
theorem d_PR_hold_31 : decode b_PR_hold 31 = .ok (.iastore, 1) := by decide +kernel
theorem d_PR_hold_32 : decode b_PR_hold 32 = .ok (.aload_n 0, 1) := by decide +kernel
theorem d_PR_hold_33 : decode b_PR_hold 33 = .ok (.dup, 1) := by decide +kernel
theorem d_PR_hold_34 : decode b_PR_hold 34 = .ok (.getfield 87, 3) := by decide +kernel
theorem d_PR_hold_37 : decode b_PR_hold 37 = .ok (.iconst 1, 1) := by decide +kernel
theorem d_PR_hold_38 : decode b_PR_hold 38 = .ok (.iadd, 1) := by decide +kernel
theorem d_PR_hold_39 : decode b_PR_hold 39 = .ok (.putfield 87, 3) := by decide +kernel
theorem d_PR_hold_42 : decode b_PR_hold 42 = .ok (.return_, 1) := by decide +kernel
theorem kF_PR_87 : Cond.fieldLink R_PR 87 "WaferForge$Program" "waitingCount" "I" ∈ lw_g := in_g 370 (by decide +kernel) rfl
theorem kF_PR_37 : Cond.fieldLink R_PR 37 "WaferForge$Program" "waiting" "[LWaferForge$Sign;" ∈ lw_g := in_g 368 (by decide +kernel) rfl
theorem kF_PR_40 : Cond.fieldLink R_PR 40 "WaferForge$Program" "waitingPlaces" "[I" ∈ lw_g := in_g 369 (by decide +kernel) rfl
abbrev at_PR_hold (dC : Nat → ClassId) (dI : Nat → Nat → Nat) (sa : Nat → Nat) (h0 gl fu pa pf sf pk pg pp pz pv sc wg wp : Nat) (cwg cwp : ClassId) (h0_reason : Int32) (h0_place : Int32) (h0_stepCount : Int32) (h0_open : Int32) (h0_twoSides : Int32) (A : Nat → Prop) (u : (Nat → Option Nat) × (Nat → Int32) × Int32) (t : State) : Prop := match u with | (gwg, gwp, h0_waitingCount) => va_P (dC, dI) cls [(h0, .inr (6, [.ref gl, .ref fu, .ref pa, .ref pf, .ref sf, .ref pk, .ref pg, .ref pp, .ref pz, .ref pv, .int h0_reason, .int h0_place, .ref sc, .int h0_stepCount, .int h0_open, .int h0_twoSides, .ref wg, .ref wp, .int h0_waitingCount])), (wg, .inl (cwg, 360, .inr (.inr (.inr (.inr (fun j => (gwg j).map (sg sa))))))), (wp, .inl (cwp, 360, .inl gwp))] t.heap ∧ va_K (dC, dI) cls [(cwg, .object "WaferForge$Sign"), (cwp, .int)] t ∧ va_D A [(h0, .inr (6, [.ref gl, .ref fu, .ref pa, .ref pf, .ref sf, .ref pk, .ref pg, .ref pp, .ref pz, .ref pv, .int h0_reason, .int h0_place, .ref sc, .int h0_stepCount, .int h0_open, .int h0_twoSides, .ref wg, .ref wp, .int h0_waitingCount])), (wg, .inl (cwg, 360, .inr (.inr (.inr (.inr (fun j => (gwg j).map (sg sa))))))), (wp, .inl (cwp, 360, .inl gwp))]
set_option maxHeartbeats 4000000 in
set_option maxRecDepth 100000 in
theorem c_PR_hold (l : Launch) (dC : Nat → ClassId) (dI : Nat → Nat → Nat) (sz : Nat) (sa : Nat → Nat) (h0 gl fu pa pf sf pk pg pp pz pv sc wg wp : Nat) (cwg cwp : ClassId) (h0_reason : Int32) (h0_place : Int32) (h0_stepCount : Int32) (h0_open : Int32) (h0_twoSides : Int32) (h0_waitingCount : Int32) (gwg : Nat → Option Nat) (gwp : Nat → Int32)  (b_h0_waitingCount : 0 ≤ h0_waitingCount.toInt ∧ h0_waitingCount.toInt ≤ 360) (ka : Nat) (p1 : Int32) (ba0 : ka < 55) (hwc : h0_waitingCount.toInt < 360) : Met l y_PR_hold w_PR_hold ({ frames := 0, cells := 0, slots := 0, locals := 0 }) (va_Pc [.ref h0, .ref (sg sa ka), .int p1] (fun U => U.heap.size = sz ∧ va_P (dC, dI) cls [(h0, .inr (6, [.ref gl, .ref fu, .ref pa, .ref pf, .ref sf, .ref pk, .ref pg, .ref pp, .ref pz, .ref pv, .int h0_reason, .int h0_place, .ref sc, .int h0_stepCount, .int h0_open, .int h0_twoSides, .ref wg, .ref wp, .int h0_waitingCount])), (wg, .inl (cwg, 360, .inr (.inr (.inr (.inr (fun j => (gwg j).map (sg sa))))))), (wp, .inl (cwp, 360, .inl gwp))] U.heap ∧ va_K (dC, dI) cls [(cwg, .object "WaferForge$Sign"), (cwp, .int)] U ∧ va_D (fun _ => True) [(h0, .inr (6, [.ref gl, .ref fu, .ref pa, .ref pf, .ref sf, .ref pk, .ref pg, .ref pp, .ref pz, .ref pv, .int h0_reason, .int h0_place, .ref sc, .int h0_stepCount, .int h0_open, .int h0_twoSides, .ref wg, .ref wp, .int h0_waitingCount])), (wg, .inl (cwg, 360, .inr (.inr (.inr (.inr (fun j => (gwg j).map (sg sa))))))), (wp, .inl (cwp, 360, .inl gwp))] ∧ sw sa (va_A [(h0, .inr (6, [.ref gl, .ref fu, .ref pa, .ref pf, .ref sf, .ref pk, .ref pg, .ref pp, .ref pz, .ref pv, .int h0_reason, .int h0_place, .ref sc, .int h0_stepCount, .int h0_open, .int h0_twoSides, .ref wg, .ref wp, .int h0_waitingCount])), (wg, .inl (cwg, 360, .inr (.inr (.inr (.inr (fun j => (gwg j).map (sg sa))))))), (wp, .inl (cwp, 360, .inl gwp))] sz) U U.heap)) (va_Qv (fun (u : (Nat → Option Nat) × (Nat → Int32) × Int32) => match u with | (gwg2, gwp2, h0_waitingCount2) => (0 ≤ h0_waitingCount2.toInt ∧ h0_waitingCount2.toInt ≤ 360) ∧ (h0_waitingCount2.toInt = h0_waitingCount.toInt + 1 ∧ gwg2 = va_up gwg h0_waitingCount.toNatClampNeg (some ka) ∧ gwp2 = upd gwp h0_waitingCount.toNatClampNeg p1)) (at_PR_hold dC dI sa h0 gl fu pa pf sf pk pg pp pz pv sc wg wp cwg cwp h0_reason h0_place h0_stepCount h0_open h0_twoSides (va_A [(h0, .inr (6, [.ref gl, .ref fu, .ref pa, .ref pf, .ref sf, .ref pk, .ref pg, .ref pp, .ref pz, .ref pv, .int h0_reason, .int h0_place, .ref sc, .int h0_stepCount, .int h0_open, .int h0_twoSides, .ref wg, .ref wp, .int h0_waitingCount])), (wg, .inl (cwg, 360, .inr (.inr (.inr (.inr (fun j => (gwg j).map (sg sa))))))), (wp, .inl (cwp, 360, .inl gwp))] sz)) (va_A [(h0, .inr (6, [.ref gl, .ref fu, .ref pa, .ref pf, .ref sf, .ref pk, .ref pg, .ref pp, .ref pz, .ref pv, .int h0_reason, .int h0_place, .ref sc, .int h0_stepCount, .int h0_open, .int h0_twoSides, .ref wg, .ref wp, .int h0_waitingCount])), (wg, .inl (cwg, 360, .inr (.inr (.inr (.inr (fun j => (gwg j).map (sg sa))))))), (wp, .inl (cwp, 360, .inl gwp))] sz)) 0 0 (va_A [(h0, .inr (6, [.ref gl, .ref fu, .ref pa, .ref pf, .ref sf, .ref pk, .ref pg, .ref pp, .ref pz, .ref pv, .int h0_reason, .int h0_place, .ref sc, .int h0_stepCount, .int h0_open, .int h0_twoSides, .ref wg, .ref wp, .int h0_waitingCount])), (wg, .inl (cwg, 360, .inr (.inr (.inr (.inr (fun j => (gwg j).map (sg sa))))))), (wp, .inl (cwp, 360, .inl gwp))] sz) := by
  refine Met.ofW (cc := b_PR_hold) (maxL := 3) (ret := none) (by decide) rfl ?_
  intro p e s m args below meth c s₁ B hml hv
  obtain ⟨rfl, hsz, hP, hK, hD0, hSW⟩ := hv
  have hx := B.exec
  have hb := B.bytes
  have hr := B.returns
  have hts0 := atoms_spec (ws := w_PR_hold) B.pre
  have hts : ∀ w ∈ lw_g, w.before _ s = true := fun w h => hts0 w (List.mem_cons_of_mem _ h)
  have hown : s.vm.findClass R_PR = some m.cls := findClass_of_methodNamed B.named
  have hlocks := B.notSynchronized
  clear hts0
  subst hsz
  have hD := hD0.self (sz := s.heap.size)
  generalize hAe : va_A [(h0, .inr (6, [.ref gl, .ref fu, .ref pa, .ref pf, .ref sf, .ref pk, .ref pg, .ref pp, .ref pz, .ref pv, .int h0_reason, .int h0_place, .ref sc, .int h0_stepCount, .int h0_open, .int h0_twoSides, .ref wg, .ref wp, .int h0_waitingCount])), (wg, .inl (cwg, 360, .inr (.inr (.inr (.inr (fun j => (gwg j).map (sg sa))))))), (wp, .inl (cwp, 360, .inl gwp))] s.heap.size = A at hD hSW ⊢
  have hA : ∀ q : Nat, s.heap.size ≤ q → A q := fun q h => by rw [← hAe]; exact Or.inr h
  clear hAe
  have hP : va_P (dC, dI) cls [(h0, .inr (6, [.ref gl, .ref fu, .ref pa, .ref pf, .ref sf, .ref pk, .ref pg, .ref pp, .ref pz, .ref pv, .int h0_reason, .int h0_place, .ref sc, .int h0_stepCount, .int h0_open, .int h0_twoSides, .ref wg, .ref wp, .int h0_waitingCount])), (wg, .inl (cwg, 360, .inr (.inr (.inr (.inr (fun j => (gwg j).map (sg sa))))))), (wp, .inl (cwp, 360, .inl gwp))] s.heap := hP
  have hl := lv_entry ([.ref h0, .ref (sg sa ka), .int p1]) (n := 3) (Nat.le_of_ble_eq_true rfl)
  rw [lg_entry_eq]
  generalize (lg_sl ([.ref h0, .ref (sg sa ka), .int p1]) ++ List.replicate (3 - (lg_sl ([.ref h0, .ref (sg sa ka), .int p1])).length) Slot.unset).toArray = ls at hl ⊢
  have hl : lv_has ls 3 [(0, .ref h0), (1, .ref (sg sa ka)), (2, .int p1)] := hl
  have k0 : (0 : Int32).toInt = 0 := by decide
  refine w_gen (A := A) hP (fun H locs hP hS => ?_)
  have k1 : (1 : Int32).toInt = 1 := by decide
  have lo_p1 := i32_lo p1
  have hi_p1 := i32_hi p1
  refine lv_aload_n hx hb d_PR_hold_0 rfl (lv_at hl 0 rfl) ?_
  refine va_get (D := (dC, dI)) (ci := 6) (v := .int h0_waitingCount) (C := R_PR) (T := F_PR) (N := 19) hx hb hts i_PR hown hK hP 0 rfl rfl 18 (by decide) (hts _ kF_PR_87) (fun _ h9 => h9) rfl d_PR_hold_1 ?_
  refine lv_aload_n hx hb d_PR_hold_4 rfl (lv_at hl 0 rfl) ?_
  refine va_get (D := (dC, dI)) (ci := 6) (v := .ref wg) (C := R_PR) (T := F_PR) (N := 19) hx hb hts i_PR hown hK hP 0 rfl rfl 16 (by decide) (hts _ kF_PR_37) (fun _ h9 => h9) rfl d_PR_hold_5 ?_
  refine va_alen hx hb hK hP 1 0 rfl rfl rfl d_PR_hold_8 ?_
  refine lv_topi (fun x1 ex1 => ?_)
  have tx1 : x1.toInt = 360 := by rw [ex1]; exact i32_len (by omega)
  refine lv_icmp_ge (tgt := 42) hx hb d_PR_hold_9 (by decide) (fun c9 => absurd (leI c9) (by omega)) (fun c9 => ?_)
  have q9 := nleI c9
  refine lv_aload_n hx hb d_PR_hold_12 rfl (lv_at hl 0 rfl) ?_
  refine va_get (D := (dC, dI)) (ci := 6) (v := .ref wg) (C := R_PR) (T := F_PR) (N := 19) hx hb hts i_PR hown hK hP 0 rfl rfl 16 (by decide) (hts _ kF_PR_37) (fun _ h9 => h9) rfl d_PR_hold_13 ?_
  refine lv_aload_n hx hb d_PR_hold_16 rfl (lv_at hl 0 rfl) ?_
  refine va_get (D := (dC, dI)) (ci := 6) (v := .int h0_waitingCount) (C := R_PR) (T := F_PR) (N := 19) hx hb hts i_PR hown hK hP 0 rfl rfl 18 (by decide) (hts _ kF_PR_87) (fun _ h9 => h9) rfl d_PR_hold_17 ?_
  refine lv_aload_n hx hb d_PR_hold_20 rfl (lv_at hl 1 rfl) ?_
  have g21 : vp_in h0_waitingCount 360 := vp_in_iff.mpr ⟨by omega, by omega⟩
  refine va_astqM hx hb hK hP hD hS 1 0 rfl rfl (sg_any hSW hS ba0) g21 d_PR_hold_21 (fun H locs hP hD hS => ?_)
  rw [sg_up] at hP hD
  have hP : va_P (dC, dI) cls [(h0, .inr (6, [.ref gl, .ref fu, .ref pa, .ref pf, .ref sf, .ref pk, .ref pg, .ref pp, .ref pz, .ref pv, .int h0_reason, .int h0_place, .ref sc, .int h0_stepCount, .int h0_open, .int h0_twoSides, .ref wg, .ref wp, .int h0_waitingCount])), (wg, .inl (cwg, 360, .inr (.inr (.inr (.inr (fun j => (((va_up gwg h0_waitingCount.toNatClampNeg (some ka))) j).map (sg sa))))))), (wp, .inl (cwp, 360, .inl gwp))] H := hP
  have hD : va_D A [(h0, .inr (6, [.ref gl, .ref fu, .ref pa, .ref pf, .ref sf, .ref pk, .ref pg, .ref pp, .ref pz, .ref pv, .int h0_reason, .int h0_place, .ref sc, .int h0_stepCount, .int h0_open, .int h0_twoSides, .ref wg, .ref wp, .int h0_waitingCount])), (wg, .inl (cwg, 360, .inr (.inr (.inr (.inr (fun j => (((va_up gwg h0_waitingCount.toNatClampNeg (some ka))) j).map (sg sa))))))), (wp, .inl (cwp, 360, .inl gwp))] := hD
  generalize ef2 : va_up gwg h0_waitingCount.toNatClampNeg (some ka) = f2 at hP hD
  refine lv_aload_n hx hb d_PR_hold_22 rfl (lv_at hl 0 rfl) ?_
  refine va_get (D := (dC, dI)) (ci := 6) (v := .ref wp) (C := R_PR) (T := F_PR) (N := 19) hx hb hts i_PR hown hK hP 0 rfl rfl 17 (by decide) (hts _ kF_PR_40) (fun _ h9 => h9) rfl d_PR_hold_23 ?_
  refine lv_aload_n hx hb d_PR_hold_26 rfl (lv_at hl 0 rfl) ?_
  refine va_get (D := (dC, dI)) (ci := 6) (v := .int h0_waitingCount) (C := R_PR) (T := F_PR) (N := 19) hx hb hts i_PR hown hK hP 0 rfl rfl 18 (by decide) (hts _ kF_PR_87) (fun _ h9 => h9) rfl d_PR_hold_27 ?_
  refine lv_iload_n hx hb d_PR_hold_30 rfl (lv_at hl 2 rfl) ?_
  have g31 : vp_in h0_waitingCount 360 := vp_in_iff.mpr ⟨by omega, by omega⟩
  refine va_iast hx hb hK hP hD hS 2 1 rfl rfl g31 d_PR_hold_31 (fun H locs hP hD hS => ?_)
  generalize ef3 : upd gwp h0_waitingCount.toNatClampNeg p1 = f3 at hP hD
  refine lv_aload_n hx hb d_PR_hold_32 rfl (lv_at hl 0 rfl) ?_
  refine lv_dup hx hb d_PR_hold_33 rfl ?_
  refine va_get (D := (dC, dI)) (ci := 6) (v := .int h0_waitingCount) (C := R_PR) (T := F_PR) (N := 19) hx hb hts i_PR hown hK hP 0 rfl rfl 18 (by decide) (hts _ kF_PR_87) (fun _ h9 => h9) rfl d_PR_hold_34 ?_
  refine lv_iconst (v := 1) hx hb d_PR_hold_37 (by decide) ?_
  refine lv_iadd hx hb d_PR_hold_38 ?_
  refine lv_topi (fun x4 ex4 => ?_)
  have tx4 : x4.toInt = h0_waitingCount.toInt + 1 := by have z := i32_add ex4 (by omega) (by omega); omega
  refine va_put (D := (dC, dI)) (ci := 6) (v := .int x4) (ty := .int) (C := R_PR) (T := F_PR) (N := 19) hx hb hts i_PR t_PR t_PR_ok n_PR hown hK hP hD hS 0 rfl rfl 18 (by decide) (hts _ kF_PR_87) (fun _ h9 => h9) rfl (by decide +kernel) rfl rfl (Nat.le_of_ble_eq_true rfl) d_PR_hold_39 (fun H locs hP hD hS => ?_)
  have hP9 := hP.sub (ws' := [(h0, .inr (6, [.ref gl, .ref fu, .ref pa, .ref pf, .ref sf, .ref pk, .ref pg, .ref pp, .ref pz, .ref pv, .int h0_reason, .int h0_place, .ref sc, .int h0_stepCount, .int h0_open, .int h0_twoSides, .ref wg, .ref wp, .int x4])), (wg, .inl (cwg, 360, .inr (.inr (.inr (.inr (fun j => (f2 j).map (sg sa))))))), (wp, .inl (cwp, 360, .inl f3))]) [0, 1, 2] rfl
  have hD9 := hD.sub (ws' := [(h0, .inr (6, [.ref gl, .ref fu, .ref pa, .ref pf, .ref sf, .ref pk, .ref pg, .ref pp, .ref pz, .ref pv, .int h0_reason, .int h0_place, .ref sc, .int h0_stepCount, .int h0_open, .int h0_twoSides, .ref wg, .ref wp, .int x4])), (wg, .inl (cwg, 360, .inr (.inr (.inr (.inr (fun j => (f2 j).map (sg sa))))))), (wp, .inl (cwp, 360, .inl f3))]) [0, 1, 2] (by decide) rfl
  exact W.vret hx hb hr (fun t ht hW => ⟨⟨(f2, f3, x4), rfl, ⟨by (try dsimp only) <;> omega, ⟨by (try dsimp only); omega, by (try dsimp only) <;> exact ef2.symm, by (try dsimp only) <;> exact ef3.symm⟩⟩, by rw [ht]; exact hP9, va_K.moved hW.alike hK, hD9⟩, hS.F ht⟩) hS.2.2 d_PR_hold_42
abbrev b_PR_add : ByteArray := prog_8_method_27_code
def y_PR_add : MethodName := ⟨R_PR, "add", "(ILWaferForge$Sign;IIJ)V"⟩
abbrev w_PR_add : List Cond := .code y_PR_add b_PR_add 7 none :: lw_g
theorem kC_PR_add : Cond.code y_PR_add b_PR_add 7 none ∈ lw_g := in_g 977 (by decide +kernel) rfl
theorem d_PR_add_0 : decode b_PR_add 0 = .ok (.aload_n 0, 1) := by decide +kernel
theorem d_PR_add_1 : decode b_PR_add 1 = .ok (.getfield 81, 3) := by decide +kernel
theorem d_PR_add_4 : decode b_PR_add 4 = .ok (.sipush 4100, 3) := by decide +kernel
theorem d_PR_add_7 : decode b_PR_add 7 = .ok (.if_icmp .ge 65, 3) := by decide +kernel
theorem d_PR_add_10 : decode b_PR_add 10 = .ok (.aload_n 0, 1) := by decide +kernel
theorem d_PR_add_11 : decode b_PR_add 11 = .ok (.getfield 18, 3) := by decide +kernel
theorem d_PR_add_14 : decode b_PR_add 14 = .ok (.aload_n 0, 1) := by decide +kernel
theorem d_PR_add_15 : decode b_PR_add 15 = .ok (.getfield 81, 3) := by decide +kernel
theorem d_PR_add_18 : decode b_PR_add 18 = .ok (.iload_n 1, 1) := by decide +kernel
theorem d_PR_add_19 : decode b_PR_add 19 = .ok (.iastore, 1) := by decide +kernel
theorem d_PR_add_20 : decode b_PR_add 20 = .ok (.aload_n 0, 1) := by decide +kernel
theorem d_PR_add_21 : decode b_PR_add 21 = .ok (.getfield 23, 3) := by decide +kernel
theorem d_PR_add_24 : decode b_PR_add 24 = .ok (.aload_n 0, 1) := by decide +kernel
theorem d_PR_add_25 : decode b_PR_add 25 = .ok (.getfield 81, 3) := by decide +kernel
theorem d_PR_add_28 : decode b_PR_add 28 = .ok (.aload_n 2, 1) := by decide +kernel
theorem d_PR_add_29 : decode b_PR_add 29 = .ok (.aastore, 1) := by decide +kernel
theorem d_PR_add_30 : decode b_PR_add 30 = .ok (.aload_n 0, 1) := by decide +kernel
theorem d_PR_add_31 : decode b_PR_add 31 = .ok (.getfield 27, 3) := by decide +kernel
theorem d_PR_add_34 : decode b_PR_add 34 = .ok (.aload_n 0, 1) := by decide +kernel
theorem d_PR_add_35 : decode b_PR_add 35 = .ok (.getfield 81, 3) := by decide +kernel
theorem d_PR_add_38 : decode b_PR_add 38 = .ok (.iload_n 3, 1) := by decide +kernel
theorem d_PR_add_39 : decode b_PR_add 39 = .ok (.iastore, 1) := by decide +kernel
theorem d_PR_add_40 : decode b_PR_add 40 = .ok (.aload_n 0, 1) := by decide +kernel
theorem d_PR_add_41 : decode b_PR_add 41 = .ok (.getfield 30, 3) := by decide +kernel
theorem d_PR_add_44 : decode b_PR_add 44 = .ok (.aload_n 0, 1) := by decide +kernel
theorem d_PR_add_45 : decode b_PR_add 45 = .ok (.getfield 81, 3) := by decide +kernel
theorem d_PR_add_48 : decode b_PR_add 48 = .ok (.iload 4, 2) := by decide +kernel
theorem d_PR_add_50 : decode b_PR_add 50 = .ok (.iastore, 1) := by decide +kernel
theorem d_PR_add_51 : decode b_PR_add 51 = .ok (.aload_n 0, 1) := by decide +kernel
theorem d_PR_add_52 : decode b_PR_add 52 = .ok (.getfield 33, 3) := by decide +kernel
theorem d_PR_add_55 : decode b_PR_add 55 = .ok (.aload_n 0, 1) := by decide +kernel
theorem d_PR_add_56 : decode b_PR_add 56 = .ok (.getfield 81, 3) := by decide +kernel
theorem d_PR_add_59 : decode b_PR_add 59 = .ok (.lload 5, 2) := by decide +kernel
theorem d_PR_add_61 : decode b_PR_add 61 = .ok (.lastore, 1) := by decide +kernel
theorem d_PR_add_62 : decode b_PR_add 62 = .ok (.aload_n 0, 1) := by decide +kernel
theorem d_PR_add_63 : decode b_PR_add 63 = .ok (.dup, 1) := by decide +kernel
theorem d_PR_add_64 : decode b_PR_add 64 = .ok (.getfield 81, 3) := by decide +kernel
theorem d_PR_add_67 : decode b_PR_add 67 = .ok (.iconst 1, 1) := by decide +kernel
theorem d_PR_add_68 : decode b_PR_add 68 = .ok (.iadd, 1) := by decide +kernel
theorem d_PR_add_69 : decode b_PR_add 69 = .ok (.putfield 81, 3) := by decide +kernel
theorem d_PR_add_72 : decode b_PR_add 72 = .ok (.return_, 1) := by decide +kernel
theorem kF_PR_81 : Cond.fieldLink R_PR 81 "WaferForge$Program" "stepCount" "I" ∈ lw_g := in_g 365 (by decide +kernel) rfl
theorem kF_PR_18 : Cond.fieldLink R_PR 18 "WaferForge$Program" "kinds" "[I" ∈ lw_g := in_g 350 (by decide +kernel) rfl
theorem kF_PR_23 : Cond.fieldLink R_PR 23 "WaferForge$Program" "signs" "[LWaferForge$Sign;" ∈ lw_g := in_g 352 (by decide +kernel) rfl
theorem kF_PR_27 : Cond.fieldLink R_PR 27 "WaferForge$Program" "places" "[I" ∈ lw_g := in_g 354 (by decide +kernel) rfl
theorem kF_PR_30 : Cond.fieldLink R_PR 30 "WaferForge$Program" "sizes" "[I" ∈ lw_g := in_g 356 (by decide +kernel) rfl
theorem kF_PR_33 : Cond.fieldLink R_PR 33 "WaferForge$Program" "values" "[J" ∈ lw_g := in_g 358 (by decide +kernel) rfl
abbrev at_PR_add (dC : Nat → ClassId) (dI : Nat → Nat → Nat) (sa : Nat → Nat) (h0 gl fu pa pf sf pk pg pp pz pv sc wg wp : Nat) (cpk cpg cpp cpz cpv : ClassId) (h0_reason : Int32) (h0_place : Int32) (h0_open : Int32) (h0_twoSides : Int32) (h0_waitingCount : Int32) (A : Nat → Prop) (u : (Nat → Option Nat) × (Nat → Int32) × (Nat → Int32) × (Nat → Int64) × (Nat → Int32) × Int32) (t : State) : Prop := match u with | (gpg, gpk, gpp, gpv, gpz, h0_stepCount) => va_P (dC, dI) cls [(h0, .inr (6, [.ref gl, .ref fu, .ref pa, .ref pf, .ref sf, .ref pk, .ref pg, .ref pp, .ref pz, .ref pv, .int h0_reason, .int h0_place, .ref sc, .int h0_stepCount, .int h0_open, .int h0_twoSides, .ref wg, .ref wp, .int h0_waitingCount])), (pk, .inl (cpk, 4100, .inl gpk)), (pg, .inl (cpg, 4100, .inr (.inr (.inr (.inr (fun j => (gpg j).map (sg sa))))))), (pp, .inl (cpp, 4100, .inl gpp)), (pz, .inl (cpz, 4100, .inl gpz)), (pv, .inl (cpv, 4100, .inr (.inl gpv)))] t.heap ∧ va_K (dC, dI) cls [(cpk, .int), (cpg, .object "WaferForge$Sign"), (cpp, .int), (cpz, .int), (cpv, .long)] t ∧ va_D A [(h0, .inr (6, [.ref gl, .ref fu, .ref pa, .ref pf, .ref sf, .ref pk, .ref pg, .ref pp, .ref pz, .ref pv, .int h0_reason, .int h0_place, .ref sc, .int h0_stepCount, .int h0_open, .int h0_twoSides, .ref wg, .ref wp, .int h0_waitingCount])), (pk, .inl (cpk, 4100, .inl gpk)), (pg, .inl (cpg, 4100, .inr (.inr (.inr (.inr (fun j => (gpg j).map (sg sa))))))), (pp, .inl (cpp, 4100, .inl gpp)), (pz, .inl (cpz, 4100, .inl gpz)), (pv, .inl (cpv, 4100, .inr (.inl gpv)))]
set_option maxHeartbeats 4000000 in
set_option maxRecDepth 100000 in
theorem c_PR_add (l : Launch) (dC : Nat → ClassId) (dI : Nat → Nat → Nat) (sz : Nat) (sa : Nat → Nat) (h0 gl fu pa pf sf pk pg pp pz pv sc wg wp : Nat) (cpk cpg cpp cpz cpv : ClassId) (h0_reason : Int32) (h0_place : Int32) (h0_stepCount : Int32) (h0_open : Int32) (h0_twoSides : Int32) (h0_waitingCount : Int32) (gpk : Nat → Int32) (gpg : Nat → Option Nat) (gpp : Nat → Int32) (gpz : Nat → Int32) (gpv : Nat → Int64)  (b_h0_stepCount : 0 ≤ h0_stepCount.toInt ∧ h0_stepCount.toInt ≤ 4100) (p0 : Int32) (ka : Nat) (p2 : Int32) (p3 : Int32) (p4 : Int64) (ba1 : ka < 55) (hst : h0_stepCount.toInt < 4100) : Met l y_PR_add w_PR_add ({ frames := 0, cells := 0, slots := 0, locals := 0 }) (va_Pc [.ref h0, .int p0, .ref (sg sa ka), .int p2, .int p3, .long p4] (fun U => U.heap.size = sz ∧ va_P (dC, dI) cls [(h0, .inr (6, [.ref gl, .ref fu, .ref pa, .ref pf, .ref sf, .ref pk, .ref pg, .ref pp, .ref pz, .ref pv, .int h0_reason, .int h0_place, .ref sc, .int h0_stepCount, .int h0_open, .int h0_twoSides, .ref wg, .ref wp, .int h0_waitingCount])), (pk, .inl (cpk, 4100, .inl gpk)), (pg, .inl (cpg, 4100, .inr (.inr (.inr (.inr (fun j => (gpg j).map (sg sa))))))), (pp, .inl (cpp, 4100, .inl gpp)), (pz, .inl (cpz, 4100, .inl gpz)), (pv, .inl (cpv, 4100, .inr (.inl gpv)))] U.heap ∧ va_K (dC, dI) cls [(cpk, .int), (cpg, .object "WaferForge$Sign"), (cpp, .int), (cpz, .int), (cpv, .long)] U ∧ va_D (fun _ => True) [(h0, .inr (6, [.ref gl, .ref fu, .ref pa, .ref pf, .ref sf, .ref pk, .ref pg, .ref pp, .ref pz, .ref pv, .int h0_reason, .int h0_place, .ref sc, .int h0_stepCount, .int h0_open, .int h0_twoSides, .ref wg, .ref wp, .int h0_waitingCount])), (pk, .inl (cpk, 4100, .inl gpk)), (pg, .inl (cpg, 4100, .inr (.inr (.inr (.inr (fun j => (gpg j).map (sg sa))))))), (pp, .inl (cpp, 4100, .inl gpp)), (pz, .inl (cpz, 4100, .inl gpz)), (pv, .inl (cpv, 4100, .inr (.inl gpv)))] ∧ sw sa (va_A [(h0, .inr (6, [.ref gl, .ref fu, .ref pa, .ref pf, .ref sf, .ref pk, .ref pg, .ref pp, .ref pz, .ref pv, .int h0_reason, .int h0_place, .ref sc, .int h0_stepCount, .int h0_open, .int h0_twoSides, .ref wg, .ref wp, .int h0_waitingCount])), (pk, .inl (cpk, 4100, .inl gpk)), (pg, .inl (cpg, 4100, .inr (.inr (.inr (.inr (fun j => (gpg j).map (sg sa))))))), (pp, .inl (cpp, 4100, .inl gpp)), (pz, .inl (cpz, 4100, .inl gpz)), (pv, .inl (cpv, 4100, .inr (.inl gpv)))] sz) U U.heap)) (va_Qv (fun (u : (Nat → Option Nat) × (Nat → Int32) × (Nat → Int32) × (Nat → Int64) × (Nat → Int32) × Int32) => match u with | (gpg2, gpk2, gpp2, gpv2, gpz2, h0_stepCount2) => (0 ≤ h0_stepCount2.toInt ∧ h0_stepCount2.toInt ≤ 4100) ∧ (h0_stepCount2.toInt = h0_stepCount.toInt + 1 ∧ sl gpk2 gpg2 gpp2 gpz2 gpv2 h0_stepCount2.toInt = sl gpk gpg gpp gpz gpv h0_stepCount.toInt ++ [(p0, some ka, p2, p3, p4)])) (at_PR_add dC dI sa h0 gl fu pa pf sf pk pg pp pz pv sc wg wp cpk cpg cpp cpz cpv h0_reason h0_place h0_open h0_twoSides h0_waitingCount (va_A [(h0, .inr (6, [.ref gl, .ref fu, .ref pa, .ref pf, .ref sf, .ref pk, .ref pg, .ref pp, .ref pz, .ref pv, .int h0_reason, .int h0_place, .ref sc, .int h0_stepCount, .int h0_open, .int h0_twoSides, .ref wg, .ref wp, .int h0_waitingCount])), (pk, .inl (cpk, 4100, .inl gpk)), (pg, .inl (cpg, 4100, .inr (.inr (.inr (.inr (fun j => (gpg j).map (sg sa))))))), (pp, .inl (cpp, 4100, .inl gpp)), (pz, .inl (cpz, 4100, .inl gpz)), (pv, .inl (cpv, 4100, .inr (.inl gpv)))] sz)) (va_A [(h0, .inr (6, [.ref gl, .ref fu, .ref pa, .ref pf, .ref sf, .ref pk, .ref pg, .ref pp, .ref pz, .ref pv, .int h0_reason, .int h0_place, .ref sc, .int h0_stepCount, .int h0_open, .int h0_twoSides, .ref wg, .ref wp, .int h0_waitingCount])), (pk, .inl (cpk, 4100, .inl gpk)), (pg, .inl (cpg, 4100, .inr (.inr (.inr (.inr (fun j => (gpg j).map (sg sa))))))), (pp, .inl (cpp, 4100, .inl gpp)), (pz, .inl (cpz, 4100, .inl gpz)), (pv, .inl (cpv, 4100, .inr (.inl gpv)))] sz)) 0 0 (va_A [(h0, .inr (6, [.ref gl, .ref fu, .ref pa, .ref pf, .ref sf, .ref pk, .ref pg, .ref pp, .ref pz, .ref pv, .int h0_reason, .int h0_place, .ref sc, .int h0_stepCount, .int h0_open, .int h0_twoSides, .ref wg, .ref wp, .int h0_waitingCount])), (pk, .inl (cpk, 4100, .inl gpk)), (pg, .inl (cpg, 4100, .inr (.inr (.inr (.inr (fun j => (gpg j).map (sg sa))))))), (pp, .inl (cpp, 4100, .inl gpp)), (pz, .inl (cpz, 4100, .inl gpz)), (pv, .inl (cpv, 4100, .inr (.inl gpv)))] sz) := by
  refine Met.ofW (cc := b_PR_add) (maxL := 7) (ret := none) (by decide) rfl ?_
  intro p e s m args below meth c s₁ B hml hv
  obtain ⟨rfl, hsz, hP, hK, hD0, hSW⟩ := hv
  have hx := B.exec
  have hb := B.bytes
  have hr := B.returns
  have hts0 := atoms_spec (ws := w_PR_add) B.pre
  have hts : ∀ w ∈ lw_g, w.before _ s = true := fun w h => hts0 w (List.mem_cons_of_mem _ h)
  have hown : s.vm.findClass R_PR = some m.cls := findClass_of_methodNamed B.named
  have hlocks := B.notSynchronized
  clear hts0
  subst hsz
  have hD := hD0.self (sz := s.heap.size)
  generalize hAe : va_A [(h0, .inr (6, [.ref gl, .ref fu, .ref pa, .ref pf, .ref sf, .ref pk, .ref pg, .ref pp, .ref pz, .ref pv, .int h0_reason, .int h0_place, .ref sc, .int h0_stepCount, .int h0_open, .int h0_twoSides, .ref wg, .ref wp, .int h0_waitingCount])), (pk, .inl (cpk, 4100, .inl gpk)), (pg, .inl (cpg, 4100, .inr (.inr (.inr (.inr (fun j => (gpg j).map (sg sa))))))), (pp, .inl (cpp, 4100, .inl gpp)), (pz, .inl (cpz, 4100, .inl gpz)), (pv, .inl (cpv, 4100, .inr (.inl gpv)))] s.heap.size = A at hD hSW ⊢
  have hA : ∀ q : Nat, s.heap.size ≤ q → A q := fun q h => by rw [← hAe]; exact Or.inr h
  clear hAe
  have hP : va_P (dC, dI) cls [(h0, .inr (6, [.ref gl, .ref fu, .ref pa, .ref pf, .ref sf, .ref pk, .ref pg, .ref pp, .ref pz, .ref pv, .int h0_reason, .int h0_place, .ref sc, .int h0_stepCount, .int h0_open, .int h0_twoSides, .ref wg, .ref wp, .int h0_waitingCount])), (pk, .inl (cpk, 4100, .inl gpk)), (pg, .inl (cpg, 4100, .inr (.inr (.inr (.inr (fun j => (gpg j).map (sg sa))))))), (pp, .inl (cpp, 4100, .inl gpp)), (pz, .inl (cpz, 4100, .inl gpz)), (pv, .inl (cpv, 4100, .inr (.inl gpv)))] s.heap := hP
  have hl := lv_entry ([.ref h0, .int p0, .ref (sg sa ka), .int p2, .int p3, .long p4]) (n := 7) (Nat.le_of_ble_eq_true rfl)
  rw [lg_entry_eq]
  generalize (lg_sl ([.ref h0, .int p0, .ref (sg sa ka), .int p2, .int p3, .long p4]) ++ List.replicate (7 - (lg_sl ([.ref h0, .int p0, .ref (sg sa ka), .int p2, .int p3, .long p4])).length) Slot.unset).toArray = ls at hl ⊢
  have hl : lv_has ls 7 [(0, .ref h0), (1, .int p0), (2, .ref (sg sa ka)), (3, .int p2), (4, .int p3), (5, .long p4)] := hl
  have k0 : (0 : Int32).toInt = 0 := by decide
  refine w_gen (A := A) hP (fun H locs hP hS => ?_)
  have k1 : (1 : Int32).toInt = 1 := by decide
  have k4100 : (4100 : Int32).toInt = 4100 := by decide
  have lo_p0 := i32_lo p0
  have hi_p0 := i32_hi p0
  have lo_p2 := i32_lo p2
  have hi_p2 := i32_hi p2
  have lo_p3 := i32_lo p3
  have hi_p3 := i32_hi p3
  refine lv_aload_n hx hb d_PR_add_0 rfl (lv_at hl 0 rfl) ?_
  refine va_get (D := (dC, dI)) (ci := 6) (v := .int h0_stepCount) (C := R_PR) (T := F_PR) (N := 19) hx hb hts i_PR hown hK hP 0 rfl rfl 13 (by decide) (hts _ kF_PR_81) (fun _ h9 => h9) rfl d_PR_add_1 ?_
  refine lv_sipush (v := 4100) hx hb d_PR_add_4 (by decide) ?_
  refine lv_icmp_ge (tgt := 72) hx hb d_PR_add_7 (by decide) (fun c7 => absurd (leI c7) (by omega)) (fun c7 => ?_)
  have q7 := nleI c7
  refine lv_aload_n hx hb d_PR_add_10 rfl (lv_at hl 0 rfl) ?_
  refine va_get (D := (dC, dI)) (ci := 6) (v := .ref pk) (C := R_PR) (T := F_PR) (N := 19) hx hb hts i_PR hown hK hP 0 rfl rfl 5 (by decide) (hts _ kF_PR_18) (fun _ h9 => h9) rfl d_PR_add_11 ?_
  refine lv_aload_n hx hb d_PR_add_14 rfl (lv_at hl 0 rfl) ?_
  refine va_get (D := (dC, dI)) (ci := 6) (v := .int h0_stepCount) (C := R_PR) (T := F_PR) (N := 19) hx hb hts i_PR hown hK hP 0 rfl rfl 13 (by decide) (hts _ kF_PR_81) (fun _ h9 => h9) rfl d_PR_add_15 ?_
  refine lv_iload_n hx hb d_PR_add_18 rfl (lv_at hl 1 rfl) ?_
  have g19 : vp_in h0_stepCount 4100 := vp_in_iff.mpr ⟨by omega, by omega⟩
  refine va_iast hx hb hK hP hD hS 1 0 rfl rfl g19 d_PR_add_19 (fun H locs hP hD hS => ?_)
  generalize ef1 : upd gpk h0_stepCount.toNatClampNeg p0 = f1 at hP hD
  refine lv_aload_n hx hb d_PR_add_20 rfl (lv_at hl 0 rfl) ?_
  refine va_get (D := (dC, dI)) (ci := 6) (v := .ref pg) (C := R_PR) (T := F_PR) (N := 19) hx hb hts i_PR hown hK hP 0 rfl rfl 6 (by decide) (hts _ kF_PR_23) (fun _ h9 => h9) rfl d_PR_add_21 ?_
  refine lv_aload_n hx hb d_PR_add_24 rfl (lv_at hl 0 rfl) ?_
  refine va_get (D := (dC, dI)) (ci := 6) (v := .int h0_stepCount) (C := R_PR) (T := F_PR) (N := 19) hx hb hts i_PR hown hK hP 0 rfl rfl 13 (by decide) (hts _ kF_PR_81) (fun _ h9 => h9) rfl d_PR_add_25 ?_
  refine lv_aload_n hx hb d_PR_add_28 rfl (lv_at hl 2 rfl) ?_
  have g29 : vp_in h0_stepCount 4100 := vp_in_iff.mpr ⟨by omega, by omega⟩
  refine va_astqM hx hb hK hP hD hS 2 1 rfl rfl (sg_any hSW hS ba1) g29 d_PR_add_29 (fun H locs hP hD hS => ?_)
  rw [sg_up] at hP hD
  have hP : va_P (dC, dI) cls [(h0, .inr (6, [.ref gl, .ref fu, .ref pa, .ref pf, .ref sf, .ref pk, .ref pg, .ref pp, .ref pz, .ref pv, .int h0_reason, .int h0_place, .ref sc, .int h0_stepCount, .int h0_open, .int h0_twoSides, .ref wg, .ref wp, .int h0_waitingCount])), (pk, .inl (cpk, 4100, .inl f1)), (pg, .inl (cpg, 4100, .inr (.inr (.inr (.inr (fun j => (((va_up gpg h0_stepCount.toNatClampNeg (some ka))) j).map (sg sa))))))), (pp, .inl (cpp, 4100, .inl gpp)), (pz, .inl (cpz, 4100, .inl gpz)), (pv, .inl (cpv, 4100, .inr (.inl gpv)))] H := hP
  have hD : va_D A [(h0, .inr (6, [.ref gl, .ref fu, .ref pa, .ref pf, .ref sf, .ref pk, .ref pg, .ref pp, .ref pz, .ref pv, .int h0_reason, .int h0_place, .ref sc, .int h0_stepCount, .int h0_open, .int h0_twoSides, .ref wg, .ref wp, .int h0_waitingCount])), (pk, .inl (cpk, 4100, .inl f1)), (pg, .inl (cpg, 4100, .inr (.inr (.inr (.inr (fun j => (((va_up gpg h0_stepCount.toNatClampNeg (some ka))) j).map (sg sa))))))), (pp, .inl (cpp, 4100, .inl gpp)), (pz, .inl (cpz, 4100, .inl gpz)), (pv, .inl (cpv, 4100, .inr (.inl gpv)))] := hD
  generalize ef2 : va_up gpg h0_stepCount.toNatClampNeg (some ka) = f2 at hP hD
  refine lv_aload_n hx hb d_PR_add_30 rfl (lv_at hl 0 rfl) ?_
  refine va_get (D := (dC, dI)) (ci := 6) (v := .ref pp) (C := R_PR) (T := F_PR) (N := 19) hx hb hts i_PR hown hK hP 0 rfl rfl 7 (by decide) (hts _ kF_PR_27) (fun _ h9 => h9) rfl d_PR_add_31 ?_
  refine lv_aload_n hx hb d_PR_add_34 rfl (lv_at hl 0 rfl) ?_
  refine va_get (D := (dC, dI)) (ci := 6) (v := .int h0_stepCount) (C := R_PR) (T := F_PR) (N := 19) hx hb hts i_PR hown hK hP 0 rfl rfl 13 (by decide) (hts _ kF_PR_81) (fun _ h9 => h9) rfl d_PR_add_35 ?_
  refine lv_iload_n hx hb d_PR_add_38 rfl (lv_at hl 3 rfl) ?_
  have g39 : vp_in h0_stepCount 4100 := vp_in_iff.mpr ⟨by omega, by omega⟩
  refine va_iast hx hb hK hP hD hS 3 2 rfl rfl g39 d_PR_add_39 (fun H locs hP hD hS => ?_)
  generalize ef3 : upd gpp h0_stepCount.toNatClampNeg p2 = f3 at hP hD
  refine lv_aload_n hx hb d_PR_add_40 rfl (lv_at hl 0 rfl) ?_
  refine va_get (D := (dC, dI)) (ci := 6) (v := .ref pz) (C := R_PR) (T := F_PR) (N := 19) hx hb hts i_PR hown hK hP 0 rfl rfl 8 (by decide) (hts _ kF_PR_30) (fun _ h9 => h9) rfl d_PR_add_41 ?_
  refine lv_aload_n hx hb d_PR_add_44 rfl (lv_at hl 0 rfl) ?_
  refine va_get (D := (dC, dI)) (ci := 6) (v := .int h0_stepCount) (C := R_PR) (T := F_PR) (N := 19) hx hb hts i_PR hown hK hP 0 rfl rfl 13 (by decide) (hts _ kF_PR_81) (fun _ h9 => h9) rfl d_PR_add_45 ?_
  refine lv_iload hx hb d_PR_add_48 (lv_at hl 4 rfl) ?_
  have g50 : vp_in h0_stepCount 4100 := vp_in_iff.mpr ⟨by omega, by omega⟩
  refine va_iast hx hb hK hP hD hS 4 3 rfl rfl g50 d_PR_add_50 (fun H locs hP hD hS => ?_)
  generalize ef4 : upd gpz h0_stepCount.toNatClampNeg p3 = f4 at hP hD
  refine lv_aload_n hx hb d_PR_add_51 rfl (lv_at hl 0 rfl) ?_
  refine va_get (D := (dC, dI)) (ci := 6) (v := .ref pv) (C := R_PR) (T := F_PR) (N := 19) hx hb hts i_PR hown hK hP 0 rfl rfl 9 (by decide) (hts _ kF_PR_33) (fun _ h9 => h9) rfl d_PR_add_52 ?_
  refine lv_aload_n hx hb d_PR_add_55 rfl (lv_at hl 0 rfl) ?_
  refine va_get (D := (dC, dI)) (ci := 6) (v := .int h0_stepCount) (C := R_PR) (T := F_PR) (N := 19) hx hb hts i_PR hown hK hP 0 rfl rfl 13 (by decide) (hts _ kF_PR_81) (fun _ h9 => h9) rfl d_PR_add_56 ?_
  refine lv_lload hx hb d_PR_add_59 (lv_at hl 5 rfl) ?_
  have g61 : vp_in h0_stepCount 4100 := vp_in_iff.mpr ⟨by omega, by omega⟩
  refine va_last hx hb hK hP hD hS 5 4 rfl rfl g61 d_PR_add_61 (fun H locs hP hD hS => ?_)
  generalize ef5 : vp_updL gpv h0_stepCount.toNatClampNeg p4 = f5 at hP hD
  refine lv_aload_n hx hb d_PR_add_62 rfl (lv_at hl 0 rfl) ?_
  refine lv_dup hx hb d_PR_add_63 rfl ?_
  refine va_get (D := (dC, dI)) (ci := 6) (v := .int h0_stepCount) (C := R_PR) (T := F_PR) (N := 19) hx hb hts i_PR hown hK hP 0 rfl rfl 13 (by decide) (hts _ kF_PR_81) (fun _ h9 => h9) rfl d_PR_add_64 ?_
  refine lv_iconst (v := 1) hx hb d_PR_add_67 (by decide) ?_
  refine lv_iadd hx hb d_PR_add_68 ?_
  refine lv_topi (fun x6 ex6 => ?_)
  have tx6 : x6.toInt = h0_stepCount.toInt + 1 := by have z := i32_add ex6 (by omega) (by omega); omega
  refine va_put (D := (dC, dI)) (ci := 6) (v := .int x6) (ty := .int) (C := R_PR) (T := F_PR) (N := 19) hx hb hts i_PR t_PR t_PR_ok n_PR hown hK hP hD hS 0 rfl rfl 13 (by decide) (hts _ kF_PR_81) (fun _ h9 => h9) rfl (by decide +kernel) rfl rfl (Nat.le_of_ble_eq_true rfl) d_PR_add_69 (fun H locs hP hD hS => ?_)
  have hP9 := hP.sub (ws' := [(h0, .inr (6, [.ref gl, .ref fu, .ref pa, .ref pf, .ref sf, .ref pk, .ref pg, .ref pp, .ref pz, .ref pv, .int h0_reason, .int h0_place, .ref sc, .int x6, .int h0_open, .int h0_twoSides, .ref wg, .ref wp, .int h0_waitingCount])), (pk, .inl (cpk, 4100, .inl f1)), (pg, .inl (cpg, 4100, .inr (.inr (.inr (.inr (fun j => (f2 j).map (sg sa))))))), (pp, .inl (cpp, 4100, .inl f3)), (pz, .inl (cpz, 4100, .inl f4)), (pv, .inl (cpv, 4100, .inr (.inl f5)))]) [0, 1, 2, 3, 4, 5] rfl
  have hD9 := hD.sub (ws' := [(h0, .inr (6, [.ref gl, .ref fu, .ref pa, .ref pf, .ref sf, .ref pk, .ref pg, .ref pp, .ref pz, .ref pv, .int h0_reason, .int h0_place, .ref sc, .int x6, .int h0_open, .int h0_twoSides, .ref wg, .ref wp, .int h0_waitingCount])), (pk, .inl (cpk, 4100, .inl f1)), (pg, .inl (cpg, 4100, .inr (.inr (.inr (.inr (fun j => (f2 j).map (sg sa))))))), (pp, .inl (cpp, 4100, .inl f3)), (pz, .inl (cpz, 4100, .inl f4)), (pv, .inl (cpv, 4100, .inr (.inl f5)))]) [0, 1, 2, 3, 4, 5] (by decide) rfl
  exact W.vret hx hb hr (fun t ht hW => ⟨⟨(f2, f1, f3, f5, f4, x6), rfl, ⟨by (try dsimp only) <;> omega, ⟨by (try dsimp only); omega, sl_add (n := h0_stepCount.toNatClampNeg) (by have := i32_clamp (x := h0_stepCount) (by omega); omega) (by (try dsimp only); omega) (by (try dsimp only) <;> exact ef1.symm) (by (try dsimp only) <;> exact ef2.symm) (by (try dsimp only) <;> exact ef3.symm) (by (try dsimp only) <;> exact ef4.symm) (by (try dsimp only) <;> exact ef5.symm)⟩⟩, by rw [ht]; exact hP9, va_K.moved hW.alike hK, hD9⟩, hS.F ht⟩) hS.2.2 d_PR_add_72
abbrev b_PR_takeType : ByteArray := prog_8_method_25_code
def y_PR_takeType : MethodName := ⟨R_PR, "takeType", "()I"⟩
abbrev w_PR_takeType : List Cond := .code y_PR_takeType b_PR_takeType 2 (Option.some .int) :: lw_g
theorem kC_PR_takeType : Cond.code y_PR_takeType b_PR_takeType 2 (Option.some .int) ∈ lw_g := in_g 925 (by decide +kernel) rfl
theorem d_PR_takeType_0 : decode b_PR_takeType 0 = .ok (.aload_n 0, 1) := by decide +kernel
theorem d_PR_takeType_1 : decode b_PR_takeType 1 = .ok (.getfield 43, 3) := by decide +kernel
theorem d_PR_takeType_4 : decode b_PR_takeType 4 = .ok (.getfield 93, 3) := by decide +kernel
theorem d_PR_takeType_7 : decode b_PR_takeType 7 = .ok (.astore_n 1, 1) := by decide +kernel
theorem d_PR_takeType_8 : decode b_PR_takeType 8 = .ok (.aload_n 0, 1) := by decide +kernel
theorem d_PR_takeType_9 : decode b_PR_takeType 9 = .ok (.aload_n 1, 1) := by decide +kernel
theorem d_PR_takeType_10 : decode b_PR_takeType 10 = .ok (.getstatic 280, 3) := by decide +kernel
theorem d_PR_takeType_13 : decode b_PR_takeType 13 = .ok (.if_acmp .ne 9, 3) := by decide +kernel
theorem d_PR_takeType_16 : decode b_PR_takeType 16 = .ok (.getstatic 280, 3) := by decide +kernel
theorem d_PR_takeType_19 : decode b_PR_takeType 19 = .ok (.goto 6, 3) := by decide +kernel
theorem d_PR_takeType_22 : decode b_PR_takeType 22 = .ok (.getstatic 283, 3) := by decide +kernel
theorem d_PR_takeType_25 : decode b_PR_takeType 25 = .ok (.invokevirtual 126, 3) := by decide +kernel
theorem d_PR_takeType_28 : decode b_PR_takeType 28 = .ok (.aload_n 1, 1) := by decide +kernel
theorem d_PR_takeType_29 : decode b_PR_takeType 29 = .ok (.invokevirtual 286, 3) := by decide +kernel
theorem d_PR_takeType_32 : decode b_PR_takeType 32 = .ok (.ireturn, 1) := by decide +kernel
theorem kM_PR_126 : Cond.methodLink R_PR 126 y_PR_take ∈ lw_g := in_g 916 (by decide +kernel) rfl
theorem kV_PR_take : Cond.instanceMethod y_PR_take ∈ lw_g := in_g 918 (by decide +kernel) rfl
theorem kS_PR_take : Cond.selects R_PR y_PR_take y_PR_take ∈ lw_g := in_s 10 (by decide +kernel) rfl
theorem kM_PR_286 : Cond.methodLink R_PR 286 y_SG_type ∈ lw_g := in_g 930 (by decide +kernel) rfl
theorem kV_SG_type : Cond.instanceMethod y_SG_type ∈ lw_g := in_g 931 (by decide +kernel) rfl
theorem kS_SG_type : Cond.selects R_SG y_SG_type y_SG_type ∈ lw_g := in_g 932 (by decide +kernel) rfl
theorem kF_PR_280 : Cond.fieldLink R_PR 280 "WaferForge$Sign" "I64" "LWaferForge$Sign;" ∈ lw_g := in_g 926 (by decide +kernel) rfl
theorem kF_PR_283 : Cond.fieldLink R_PR 283 "WaferForge$Sign" "I32" "LWaferForge$Sign;" ∈ lw_g := in_g 928 (by decide +kernel) rfl
abbrev at_PR_takeType (dC : Nat → ClassId) (dI : Nat → Nat → Nat) (sa : Nat → Nat) (h0 gl fu pa pf sf pk pg pp pz pv sc wg wp tr ss sp szs sv tx : Nat) (css csp cszs csv : ClassId) (h0_stepCount : Int32) (h0_open : Int32) (h0_twoSides : Int32) (h0_waitingCount : Int32) (sc_length : Int32) (tr_length : Int32) (gss : Nat → Option Nat) (gsp : Nat → Int32) (gszs : Nat → Int32) (gsv : Nat → Int64) (A : Nat → Prop) (u : Int32 × Int32 × Int32 × Int32 × Nat × Int32 × Int64) (t : State) : Prop := match u with | (h0_place, h0_reason, sc_at, sc_place, sc_sign, sc_size, sc_value) => va_P (dC, dI) cls [(h0, .inr (6, [.ref gl, .ref fu, .ref pa, .ref pf, .ref sf, .ref pk, .ref pg, .ref pp, .ref pz, .ref pv, .int h0_reason, .int h0_place, .ref sc, .int h0_stepCount, .int h0_open, .int h0_twoSides, .ref wg, .ref wp, .int h0_waitingCount])), (sc, .inr (8, [.ref tr, .ref (sg sa sc_sign), .int sc_place, .int sc_size, .long sc_value, .ref ss, .ref sp, .ref szs, .ref sv, .int sc_length, .int sc_at])), (tr, .inr (1, [.ref tx, .int tr_length])), (ss, .inl (css, 2001, .inr (.inr (.inr (.inr (fun j => (gss j).map (sg sa))))))), (sp, .inl (csp, 2001, .inl gsp)), (szs, .inl (cszs, 2001, .inl gszs)), (sv, .inl (csv, 2001, .inr (.inl gsv)))] t.heap ∧ va_K (dC, dI) cls [(css, .object "WaferForge$Sign"), (csp, .int), (cszs, .int), (csv, .long)] t ∧ va_D A [(h0, .inr (6, [.ref gl, .ref fu, .ref pa, .ref pf, .ref sf, .ref pk, .ref pg, .ref pp, .ref pz, .ref pv, .int h0_reason, .int h0_place, .ref sc, .int h0_stepCount, .int h0_open, .int h0_twoSides, .ref wg, .ref wp, .int h0_waitingCount])), (sc, .inr (8, [.ref tr, .ref (sg sa sc_sign), .int sc_place, .int sc_size, .long sc_value, .ref ss, .ref sp, .ref szs, .ref sv, .int sc_length, .int sc_at])), (tr, .inr (1, [.ref tx, .int tr_length])), (ss, .inl (css, 2001, .inr (.inr (.inr (.inr (fun j => (gss j).map (sg sa))))))), (sp, .inl (csp, 2001, .inl gsp)), (szs, .inl (cszs, 2001, .inl gszs)), (sv, .inl (csv, 2001, .inr (.inl gsv)))]
set_option maxHeartbeats 4000000 in
set_option maxRecDepth 100000 in
theorem c_PR_takeType (l : Launch) (hlt : l.stackTraces = false) (dC : Nat → ClassId) (dI : Nat → Nat → Nat) (sz : Nat) (sa : Nat → Nat) (h0 gl fu pa pf sf pk pg pp pz pv sc wg wp tr ss sp szs sv tx : Nat) (css csp cszs csv : ClassId) (h0_reason : Int32) (h0_place : Int32) (h0_stepCount : Int32) (h0_open : Int32) (h0_twoSides : Int32) (h0_waitingCount : Int32) (sc_sign : Nat) (sc_place : Int32) (sc_size : Int32) (sc_value : Int64) (sc_length : Int32) (sc_at : Int32) (tr_length : Int32) (gss : Nat → Option Nat) (gsp : Nat → Int32) (gszs : Nat → Int32) (gsv : Nat → Int64)  (b_sc_sign : sc_sign < 55) (b_sc_place : 0 ≤ sc_place.toInt ∧ sc_place.toInt ≤ 2000) (b_sc_size : 0 ≤ sc_size.toInt ∧ sc_size.toInt ≤ 2000) (b_sc_length : 0 ≤ sc_length.toInt ∧ sc_length.toInt ≤ 2001) (b_sc_at : -1 ≤ sc_at.toInt ∧ sc_at.toInt ≤ 2000) (b_tr_length : 0 ≤ tr_length.toInt ∧ tr_length.toInt ≤ 2000)   (hsk : sk tr_length.toInt sc_length.toInt sc_at.toInt sc_sign sc_place sc_size sc_value gss gsp gszs gsv) : tz_Met l y_PR_takeType w_PR_takeType ({ frames := 8, cells := 1, slots := 6, locals := 133 }) (va_Pc [.ref h0] (fun U => U.heap.size = sz ∧ va_P (dC, dI) cls [(h0, .inr (6, [.ref gl, .ref fu, .ref pa, .ref pf, .ref sf, .ref pk, .ref pg, .ref pp, .ref pz, .ref pv, .int h0_reason, .int h0_place, .ref sc, .int h0_stepCount, .int h0_open, .int h0_twoSides, .ref wg, .ref wp, .int h0_waitingCount])), (sc, .inr (8, [.ref tr, .ref (sg sa sc_sign), .int sc_place, .int sc_size, .long sc_value, .ref ss, .ref sp, .ref szs, .ref sv, .int sc_length, .int sc_at])), (tr, .inr (1, [.ref tx, .int tr_length])), (ss, .inl (css, 2001, .inr (.inr (.inr (.inr (fun j => (gss j).map (sg sa))))))), (sp, .inl (csp, 2001, .inl gsp)), (szs, .inl (cszs, 2001, .inl gszs)), (sv, .inl (csv, 2001, .inr (.inl gsv)))] U.heap ∧ va_K (dC, dI) cls [(css, .object "WaferForge$Sign"), (csp, .int), (cszs, .int), (csv, .long)] U ∧ va_D (fun _ => True) [(h0, .inr (6, [.ref gl, .ref fu, .ref pa, .ref pf, .ref sf, .ref pk, .ref pg, .ref pp, .ref pz, .ref pv, .int h0_reason, .int h0_place, .ref sc, .int h0_stepCount, .int h0_open, .int h0_twoSides, .ref wg, .ref wp, .int h0_waitingCount])), (sc, .inr (8, [.ref tr, .ref (sg sa sc_sign), .int sc_place, .int sc_size, .long sc_value, .ref ss, .ref sp, .ref szs, .ref sv, .int sc_length, .int sc_at])), (tr, .inr (1, [.ref tx, .int tr_length])), (ss, .inl (css, 2001, .inr (.inr (.inr (.inr (fun j => (gss j).map (sg sa))))))), (sp, .inl (csp, 2001, .inl gsp)), (szs, .inl (cszs, 2001, .inl gszs)), (sv, .inl (csv, 2001, .inr (.inl gsv)))] ∧ sw sa (va_A [(h0, .inr (6, [.ref gl, .ref fu, .ref pa, .ref pf, .ref sf, .ref pk, .ref pg, .ref pp, .ref pz, .ref pv, .int h0_reason, .int h0_place, .ref sc, .int h0_stepCount, .int h0_open, .int h0_twoSides, .ref wg, .ref wp, .int h0_waitingCount])), (sc, .inr (8, [.ref tr, .ref (sg sa sc_sign), .int sc_place, .int sc_size, .long sc_value, .ref ss, .ref sp, .ref szs, .ref sv, .int sc_length, .int sc_at])), (tr, .inr (1, [.ref tx, .int tr_length])), (ss, .inl (css, 2001, .inr (.inr (.inr (.inr (fun j => (gss j).map (sg sa))))))), (sp, .inl (csp, 2001, .inl gsp)), (szs, .inl (cszs, 2001, .inl gszs)), (sv, .inl (csv, 2001, .inr (.inl gsv)))] sz) U U.heap)) (tq_Q (tq_i (fun (r : Int32) (u : Int32 × Int32 × Int32 × Int32 × Nat × Int32 × Int64) => match u with | (h0_place2, h0_reason2, sc_at2, sc_place2, sc_sign2, sc_size2, sc_value2) => (126 ≤ r.toInt ∧ r.toInt ≤ 127) ∧ (-1 ≤ sc_at2.toInt ∧ sc_at2.toInt ≤ 2000) ∧ (0 ≤ sc_place2.toInt ∧ sc_place2.toInt ≤ 2000) ∧ (sc_sign2 < 55) ∧ (0 ≤ sc_size2.toInt ∧ sc_size2.toInt ≤ 2000) ∧ (((sc_sign = 14 ∧ r.toInt = 127) ∨ (sc_sign = 15 ∧ r.toInt = 126)) ∧ sk tr_length.toInt sc_length.toInt sc_at2.toInt sc_sign2 sc_place2 sc_size2 sc_value2 gss gsp gszs gsv ∧ sc_place.toInt + sc_size.toInt ≤ sc_place2.toInt ∧ sc_at2.toInt = sc_at.toInt + 1)) "java/lang/UnsupportedOperationException" (fun (u : Int32 × Int32 × Int32 × Int32 × Nat × Int32 × Int64) => match u with | (h0_place2, h0_reason2, sc_at2, sc_place2, sc_sign2, sc_size2, sc_value2) => (-1 ≤ sc_at2.toInt ∧ sc_at2.toInt ≤ 2000) ∧ (0 ≤ sc_place2.toInt ∧ sc_place2.toInt ≤ 2000) ∧ (sc_sign2 < 55) ∧ (0 ≤ sc_size2.toInt ∧ sc_size2.toInt ≤ 2000))) (at_PR_takeType dC dI sa h0 gl fu pa pf sf pk pg pp pz pv sc wg wp tr ss sp szs sv tx css csp cszs csv h0_stepCount h0_open h0_twoSides h0_waitingCount sc_length tr_length gss gsp gszs gsv (va_A [(h0, .inr (6, [.ref gl, .ref fu, .ref pa, .ref pf, .ref sf, .ref pk, .ref pg, .ref pp, .ref pz, .ref pv, .int h0_reason, .int h0_place, .ref sc, .int h0_stepCount, .int h0_open, .int h0_twoSides, .ref wg, .ref wp, .int h0_waitingCount])), (sc, .inr (8, [.ref tr, .ref (sg sa sc_sign), .int sc_place, .int sc_size, .long sc_value, .ref ss, .ref sp, .ref szs, .ref sv, .int sc_length, .int sc_at])), (tr, .inr (1, [.ref tx, .int tr_length])), (ss, .inl (css, 2001, .inr (.inr (.inr (.inr (fun j => (gss j).map (sg sa))))))), (sp, .inl (csp, 2001, .inl gsp)), (szs, .inl (cszs, 2001, .inl gszs)), (sv, .inl (csv, 2001, .inr (.inl gsv)))] sz)) (va_A [(h0, .inr (6, [.ref gl, .ref fu, .ref pa, .ref pf, .ref sf, .ref pk, .ref pg, .ref pp, .ref pz, .ref pv, .int h0_reason, .int h0_place, .ref sc, .int h0_stepCount, .int h0_open, .int h0_twoSides, .ref wg, .ref wp, .int h0_waitingCount])), (sc, .inr (8, [.ref tr, .ref (sg sa sc_sign), .int sc_place, .int sc_size, .long sc_value, .ref ss, .ref sp, .ref szs, .ref sv, .int sc_length, .int sc_at])), (tr, .inr (1, [.ref tx, .int tr_length])), (ss, .inl (css, 2001, .inr (.inr (.inr (.inr (fun j => (gss j).map (sg sa))))))), (sp, .inl (csp, 2001, .inl gsp)), (szs, .inl (cszs, 2001, .inl gszs)), (sv, .inl (csv, 2001, .inr (.inl gsv)))] sz)) (tz_k 0 0 1 6) (va_A [(h0, .inr (6, [.ref gl, .ref fu, .ref pa, .ref pf, .ref sf, .ref pk, .ref pg, .ref pp, .ref pz, .ref pv, .int h0_reason, .int h0_place, .ref sc, .int h0_stepCount, .int h0_open, .int h0_twoSides, .ref wg, .ref wp, .int h0_waitingCount])), (sc, .inr (8, [.ref tr, .ref (sg sa sc_sign), .int sc_place, .int sc_size, .long sc_value, .ref ss, .ref sp, .ref szs, .ref sv, .int sc_length, .int sc_at])), (tr, .inr (1, [.ref tx, .int tr_length])), (ss, .inl (css, 2001, .inr (.inr (.inr (.inr (fun j => (gss j).map (sg sa))))))), (sp, .inl (csp, 2001, .inl gsp)), (szs, .inl (cszs, 2001, .inl gszs)), (sv, .inl (csv, 2001, .inr (.inl gsv)))] sz) := by
  refine tz_ofW (cc := b_PR_takeType) (maxL := 2) (ret := (Option.some .int)) (by decide) rfl ?_
  intro p e s m args below meth c s₁ B hml hno hv
  obtain ⟨rfl, hsz, hP, hK, hD0, hSW⟩ := hv
  have hx := B.exec
  have hb := B.bytes
  have hr := B.returns
  have hts0 := atoms_spec (ws := w_PR_takeType) B.pre
  have hts : ∀ w ∈ lw_g, w.before _ s = true := fun w h => hts0 w (List.mem_cons_of_mem _ h)
  have hown : s.vm.findClass R_PR = some m.cls := findClass_of_methodNamed B.named
  have hlocks := B.notSynchronized
  clear hts0
  subst hsz
  have hD := hD0.self (sz := s.heap.size)
  generalize hAe : va_A [(h0, .inr (6, [.ref gl, .ref fu, .ref pa, .ref pf, .ref sf, .ref pk, .ref pg, .ref pp, .ref pz, .ref pv, .int h0_reason, .int h0_place, .ref sc, .int h0_stepCount, .int h0_open, .int h0_twoSides, .ref wg, .ref wp, .int h0_waitingCount])), (sc, .inr (8, [.ref tr, .ref (sg sa sc_sign), .int sc_place, .int sc_size, .long sc_value, .ref ss, .ref sp, .ref szs, .ref sv, .int sc_length, .int sc_at])), (tr, .inr (1, [.ref tx, .int tr_length])), (ss, .inl (css, 2001, .inr (.inr (.inr (.inr (fun j => (gss j).map (sg sa))))))), (sp, .inl (csp, 2001, .inl gsp)), (szs, .inl (cszs, 2001, .inl gszs)), (sv, .inl (csv, 2001, .inr (.inl gsv)))] s.heap.size = A at hD hSW ⊢
  have hA : ∀ q : Nat, s.heap.size ≤ q → A q := fun q h => by rw [← hAe]; exact Or.inr h
  clear hAe
  have hP : va_P (dC, dI) cls [(h0, .inr (6, [.ref gl, .ref fu, .ref pa, .ref pf, .ref sf, .ref pk, .ref pg, .ref pp, .ref pz, .ref pv, .int h0_reason, .int h0_place, .ref sc, .int h0_stepCount, .int h0_open, .int h0_twoSides, .ref wg, .ref wp, .int h0_waitingCount])), (sc, .inr (8, [.ref tr, .ref (sg sa sc_sign), .int sc_place, .int sc_size, .long sc_value, .ref ss, .ref sp, .ref szs, .ref sv, .int sc_length, .int sc_at])), (tr, .inr (1, [.ref tx, .int tr_length])), (ss, .inl (css, 2001, .inr (.inr (.inr (.inr (fun j => (gss j).map (sg sa))))))), (sp, .inl (csp, 2001, .inl gsp)), (szs, .inl (cszs, 2001, .inl gszs)), (sv, .inl (csv, 2001, .inr (.inl gsv)))] s.heap := hP
  have hl := lv_entry ([.ref h0]) (n := 2) (Nat.le_of_ble_eq_true rfl)
  rw [lg_entry_eq]
  generalize (lg_sl ([.ref h0]) ++ List.replicate (2 - (lg_sl ([.ref h0])).length) Slot.unset).toArray = ls at hl ⊢
  have hl : lv_has ls 2 [(0, .ref h0)] := hl
  have k0 : (0 : Int32).toInt = 0 := by decide
  refine w_gen (A := A) hP (fun H locs hP hS => ?_)
  refine lv_aload_n hx hb d_PR_takeType_0 rfl (lv_at hl 0 rfl) ?_
  refine va_get (D := (dC, dI)) (ci := 6) (v := .ref sc) (C := R_PR) (T := F_PR) (N := 19) hx hb hts i_PR hown hK hP 0 rfl rfl 12 (by decide) (hts _ kF_PR_43) (fun _ h9 => h9) rfl d_PR_takeType_1 ?_
  refine va_get (D := (dC, dI)) (ci := 8) (v := .ref (sg sa sc_sign)) (C := R_SC) (T := F_SC) (N := 11) hx hb hts i_SC hown hK hP 1 rfl rfl 1 (by decide) (hts _ kF_PR_93) (fun _ h9 => h9) rfl d_PR_takeType_4 ?_
  refine lv_astore_n (lv' := [(1, .ref (sg sa sc_sign)), (0, .ref h0)]) hx hb d_PR_takeType_7 rfl hl (by decide) rfl (fun ls hl => ?_)
  refine lv_aload_n hx hb d_PR_takeType_8 rfl (lv_at hl 1 rfl) ?_
  refine lv_aload_n hx hb d_PR_takeType_9 rfl (lv_at hl 0 rfl) ?_
  refine va_gets (C := "WaferForge$Sign") (n := "I64") (d := "LWaferForge$Sign;") (v := .ref (sg sa 15)) hx hb ((hSW.2.2.2.1.1 15 (by decide)).1) hS hown (hts _ kF_PR_280) (fun _ h9 => h9) d_PR_takeType_10 ?_
  refine w_cut (pc2 := 25) (σ := Nat) (fun u H locs ls => match u with | j25_s0 => (j25_s0 < 55) ∧ (j25_s0 = 15 ∨ j25_s0 = 14) ∧ (j25_s0 = 14 → sc_sign ≠ 15) ∧ va_P (dC, dI) cls [(h0, .inr (6, [.ref gl, .ref fu, .ref pa, .ref pf, .ref sf, .ref pk, .ref pg, .ref pp, .ref pz, .ref pv, .int h0_reason, .int h0_place, .ref sc, .int h0_stepCount, .int h0_open, .int h0_twoSides, .ref wg, .ref wp, .int h0_waitingCount])), (sc, .inr (8, [.ref tr, .ref (sg sa sc_sign), .int sc_place, .int sc_size, .long sc_value, .ref ss, .ref sp, .ref szs, .ref sv, .int sc_length, .int sc_at])), (tr, .inr (1, [.ref tx, .int tr_length])), (ss, .inl (css, 2001, .inr (.inr (.inr (.inr (fun j => (gss j).map (sg sa))))))), (sp, .inl (csp, 2001, .inl gsp)), (szs, .inl (cszs, 2001, .inl gszs)), (sv, .inl (csv, 2001, .inr (.inl gsv)))] H ∧ va_D A [(h0, .inr (6, [.ref gl, .ref fu, .ref pa, .ref pf, .ref sf, .ref pk, .ref pg, .ref pp, .ref pz, .ref pv, .int h0_reason, .int h0_place, .ref sc, .int h0_stepCount, .int h0_open, .int h0_twoSides, .ref wg, .ref wp, .int h0_waitingCount])), (sc, .inr (8, [.ref tr, .ref (sg sa sc_sign), .int sc_place, .int sc_size, .long sc_value, .ref ss, .ref sp, .ref szs, .ref sv, .int sc_length, .int sc_at])), (tr, .inr (1, [.ref tx, .int tr_length])), (ss, .inl (css, 2001, .inr (.inr (.inr (.inr (fun j => (gss j).map (sg sa))))))), (sp, .inl (csp, 2001, .inl gsp)), (szs, .inl (cszs, 2001, .inl gszs)), (sv, .inl (csv, 2001, .inr (.inl gsv)))] ∧ va_S A s.heap H locs ∧ lv_has ls 2 [(1, .ref (sg sa sc_sign))]) (fun u => match u with | j25_s0 => [.ref (sg sa j25_s0), .ref h0]) ?_ (fun jn25 => ?_)
  · intro u H locs ls hI
    obtain ⟨j25_s0, rfl⟩ : ∃ z, z = u := ⟨_, rfl⟩
    obtain ⟨b_j25_s0, y25, y26, hP, hD, hS, hl⟩ := hI
    have hPc := hP.sub (ws' := [(h0, .inr (6, [.ref gl, .ref fu, .ref pa, .ref pf, .ref sf, .ref pk, .ref pg, .ref pp, .ref pz, .ref pv, .int h0_reason, .int h0_place, .ref sc, .int h0_stepCount, .int h0_open, .int h0_twoSides, .ref wg, .ref wp, .int h0_waitingCount])), (sc, .inr (8, [.ref tr, .ref (sg sa sc_sign), .int sc_place, .int sc_size, .long sc_value, .ref ss, .ref sp, .ref szs, .ref sv, .int sc_length, .int sc_at])), (tr, .inr (1, [.ref tx, .int tr_length])), (ss, .inl (css, 2001, .inr (.inr (.inr (.inr (fun j => (gss j).map (sg sa))))))), (sp, .inl (csp, 2001, .inl gsp)), (szs, .inl (cszs, 2001, .inl gszs)), (sv, .inl (csv, 2001, .inr (.inl gsv)))]) [0, 1, 2, 3, 4, 5, 6] rfl
    have hDc := hD.sub (ws' := [(h0, .inr (6, [.ref gl, .ref fu, .ref pa, .ref pf, .ref sf, .ref pk, .ref pg, .ref pp, .ref pz, .ref pv, .int h0_reason, .int h0_place, .ref sc, .int h0_stepCount, .int h0_open, .int h0_twoSides, .ref wg, .ref wp, .int h0_waitingCount])), (sc, .inr (8, [.ref tr, .ref (sg sa sc_sign), .int sc_place, .int sc_size, .long sc_value, .ref ss, .ref sp, .ref szs, .ref sv, .int sc_length, .int sc_at])), (tr, .inr (1, [.ref tx, .int tr_length])), (ss, .inl (css, 2001, .inr (.inr (.inr (.inr (fun j => (gss j).map (sg sa))))))), (sp, .inl (csp, 2001, .inl gsp)), (szs, .inl (cszs, 2001, .inl gszs)), (sv, .inl (csv, 2001, .inr (.inl gsv)))]) [0, 1, 2, 3, 4, 5, 6] (by decide) rfl
    have hKc := hK.sub (tys' := [(css, .object "WaferForge$Sign"), (csp, .int), (cszs, .int), (csv, .long)]) [0, 1, 2, 3] rfl
    have hFc := va_free (wc := [(h0, .inr (6, [.ref gl, .ref fu, .ref pa, .ref pf, .ref sf, .ref pk, .ref pg, .ref pp, .ref pz, .ref pv, .int h0_reason, .int h0_place, .ref sc, .int h0_stepCount, .int h0_open, .int h0_twoSides, .ref wg, .ref wp, .int h0_waitingCount])), (sc, .inr (8, [.ref tr, .ref (sg sa sc_sign), .int sc_place, .int sc_size, .long sc_value, .ref ss, .ref sp, .ref szs, .ref sv, .int sc_length, .int sc_at])), (tr, .inr (1, [.ref tx, .int tr_length])), (ss, .inl (css, 2001, .inr (.inr (.inr (.inr (fun j => (gss j).map (sg sa))))))), (sp, .inl (csp, 2001, .inl gsp)), (szs, .inl (cszs, 2001, .inl gszs)), (sv, .inl (csv, 2001, .inr (.inl gsv)))]) hD hS hA [0, 1, 2, 3, 4, 5, 6] rfl
    refine tq_callv (tz_runV (As := [.ref (sg sa j25_s0)]) (rest := []) ⟨hx, hb, hml, hown, hts⟩ (c_PR_take l hlt dC dI H.size sa h0 gl fu pa pf sf pk pg pp pz pv sc wg wp tr ss sp szs sv tx css csp cszs csv h0_reason h0_place h0_stepCount h0_open h0_twoSides h0_waitingCount sc_sign sc_place sc_size sc_value sc_length sc_at tr_length gss gsp gszs gsv (b_sc_sign) (b_sc_place) (b_sc_size) (b_sc_length) (b_sc_at) (b_tr_length) j25_s0 (b_j25_s0) (hsk) (by omega)) (cwV 1 hts (gV kM_PR_126 kV_PR_take kS_PR_take kI_PR kC_PR_take) rfl rfl rfl (by decide +kernel) ⟨Nat.le_of_ble_eq_true rfl, Nat.le_of_ble_eq_true rfl⟩) ⟨fun a U g mk z => by obtain ⟨z0, z1, zP, zK, zD, zS⟩ := z; exact ⟨z0, z1, zP, va_K.moved (u := U) (U := U.calling g mk a) (Vm.Alike.refl U.vm) zK, zD, sw.same (u := U) (U := U.calling g mk a) rfl zS⟩, va_recv hKc hPc (ci := 6) (q0 := 0) rfl rfl, fun U hU hW => ⟨rfl, by rw [hU], by rw [hU]; exact hPc, va_K.moved hW.alike hKc, hDc.weaken (fun _ _ _ _ => trivial), hSW.call hS hFc hW hU⟩⟩ rfl rfl hl.1 rfl (lv_room (Nat.le_of_ble_eq_true rfl)) d_PR_takeType_25 ⟨Nat.le_of_ble_eq_true rfl, Nat.le_of_ble_eq_true rfl⟩) hS (fun q _ h => hFc q h) hFc (fun u t H1 locs ht hvm hw hB hz1 hk1 hS => ?_) (fun xx u t H1 locs ht hvm hw hXX hB hz1 hk1 hS => ?_)
    rotate_left
    · skip
      obtain ⟨n2, n3, n4, n5, n6, n7, n8⟩ := u
      try dsimp only at hw
      obtain ⟨bn4, bn5, bn6, bn7⟩ := hw
      obtain ⟨hP1, hK1, hD1⟩ := hB
      rw [ht] at hP1
      obtain ⟨hP, hD⟩ := va_join (wr := []) (w1 := [(h0, .inr (6, [.ref gl, .ref fu, .ref pa, .ref pf, .ref sf, .ref pk, .ref pg, .ref pp, .ref pz, .ref pv, .int n3, .int n2, .ref sc, .int h0_stepCount, .int h0_open, .int h0_twoSides, .ref wg, .ref wp, .int h0_waitingCount])), (sc, .inr (8, [.ref tr, .ref (sg sa n6), .int n5, .int n7, .long n8, .ref ss, .ref sp, .ref szs, .ref sv, .int sc_length, .int n4])), (tr, .inr (1, [.ref tx, .int tr_length])), (ss, .inl (css, 2001, .inr (.inr (.inr (.inr (fun j => (gss j).map (sg sa))))))), (sp, .inl (csp, 2001, .inl gsp)), (szs, .inl (cszs, 2001, .inl gszs)), (sv, .inl (csv, 2001, .inr (.inl gsv)))]) hP hD [0, 1, 2, 3, 4, 5, 6] [] rfl rfl (by decide) (by decide) hk1 hFc hP1 hD1
      have hP : va_P (dC, dI) cls [(h0, .inr (6, [.ref gl, .ref fu, .ref pa, .ref pf, .ref sf, .ref pk, .ref pg, .ref pp, .ref pz, .ref pv, .int n3, .int n2, .ref sc, .int h0_stepCount, .int h0_open, .int h0_twoSides, .ref wg, .ref wp, .int h0_waitingCount])), (sc, .inr (8, [.ref tr, .ref (sg sa n6), .int n5, .int n7, .long n8, .ref ss, .ref sp, .ref szs, .ref sv, .int sc_length, .int n4])), (tr, .inr (1, [.ref tx, .int tr_length])), (ss, .inl (css, 2001, .inr (.inr (.inr (.inr (fun j => (gss j).map (sg sa))))))), (sp, .inl (csp, 2001, .inl gsp)), (szs, .inl (cszs, 2001, .inl gszs)), (sv, .inl (csv, 2001, .inr (.inl gsv)))] H1 := hP
      have hD : va_D A [(h0, .inr (6, [.ref gl, .ref fu, .ref pa, .ref pf, .ref sf, .ref pk, .ref pg, .ref pp, .ref pz, .ref pv, .int n3, .int n2, .ref sc, .int h0_stepCount, .int h0_open, .int h0_twoSides, .ref wg, .ref wp, .int h0_waitingCount])), (sc, .inr (8, [.ref tr, .ref (sg sa n6), .int n5, .int n7, .long n8, .ref ss, .ref sp, .ref szs, .ref sv, .int sc_length, .int n4])), (tr, .inr (1, [.ref tx, .int tr_length])), (ss, .inl (css, 2001, .inr (.inr (.inr (.inr (fun j => (gss j).map (sg sa))))))), (sp, .inl (csp, 2001, .inl gsp)), (szs, .inl (cszs, 2001, .inl gszs)), (sv, .inl (csv, 2001, .inr (.inl gsv)))] := hD
      have hP9 := hP.sub (ws' := [(h0, .inr (6, [.ref gl, .ref fu, .ref pa, .ref pf, .ref sf, .ref pk, .ref pg, .ref pp, .ref pz, .ref pv, .int n3, .int n2, .ref sc, .int h0_stepCount, .int h0_open, .int h0_twoSides, .ref wg, .ref wp, .int h0_waitingCount])), (sc, .inr (8, [.ref tr, .ref (sg sa n6), .int n5, .int n7, .long n8, .ref ss, .ref sp, .ref szs, .ref sv, .int sc_length, .int n4])), (tr, .inr (1, [.ref tx, .int tr_length])), (ss, .inl (css, 2001, .inr (.inr (.inr (.inr (fun j => (gss j).map (sg sa))))))), (sp, .inl (csp, 2001, .inl gsp)), (szs, .inl (cszs, 2001, .inl gszs)), (sv, .inl (csv, 2001, .inr (.inl gsv)))]) [0, 1, 2, 3, 4, 5, 6] rfl
      have hD9 := hD.sub (ws' := [(h0, .inr (6, [.ref gl, .ref fu, .ref pa, .ref pf, .ref sf, .ref pk, .ref pg, .ref pp, .ref pz, .ref pv, .int n3, .int n2, .ref sc, .int h0_stepCount, .int h0_open, .int h0_twoSides, .ref wg, .ref wp, .int h0_waitingCount])), (sc, .inr (8, [.ref tr, .ref (sg sa n6), .int n5, .int n7, .long n8, .ref ss, .ref sp, .ref szs, .ref sv, .int sc_length, .int n4])), (tr, .inr (1, [.ref tx, .int tr_length])), (ss, .inl (css, 2001, .inr (.inr (.inr (.inr (fun j => (gss j).map (sg sa))))))), (sp, .inl (csp, 2001, .inl gsp)), (szs, .inl (cszs, 2001, .inl gszs)), (sv, .inl (csv, 2001, .inr (.inl gsv)))]) [0, 1, 2, 3, 4, 5, 6] (by decide) rfl
      exact tz_leave rfl hno hlocks (fun t ht hW => ⟨⟨(n2, n3, n4, n5, n6, n7, n8), ⟨⟨bn4, bn5, bn6, bn7⟩, by rw [ht]; exact hXX.moved hW.alike⟩, by rw [ht]; exact hP9, va_K.moved hW.alike hK, hD9⟩, hS.F ht⟩) hS.2.2
    obtain ⟨n9, n10, n11, n12, n13, n14, n15⟩ := u
    try dsimp only at hw
    obtain ⟨bn11, bn12, bn13, bn14, xr1⟩ := hw
    try clear hw
    have w25 := xr1
    clear xr1
    have v25 := w25.1
    obtain ⟨hP1, hK1, hD1⟩ := hB
    rw [ht] at hP1
    obtain ⟨hP, hD⟩ := va_join (wr := []) (w1 := [(h0, .inr (6, [.ref gl, .ref fu, .ref pa, .ref pf, .ref sf, .ref pk, .ref pg, .ref pp, .ref pz, .ref pv, .int n10, .int n9, .ref sc, .int h0_stepCount, .int h0_open, .int h0_twoSides, .ref wg, .ref wp, .int h0_waitingCount])), (sc, .inr (8, [.ref tr, .ref (sg sa n13), .int n12, .int n14, .long n15, .ref ss, .ref sp, .ref szs, .ref sv, .int sc_length, .int n11])), (tr, .inr (1, [.ref tx, .int tr_length])), (ss, .inl (css, 2001, .inr (.inr (.inr (.inr (fun j => (gss j).map (sg sa))))))), (sp, .inl (csp, 2001, .inl gsp)), (szs, .inl (cszs, 2001, .inl gszs)), (sv, .inl (csv, 2001, .inr (.inl gsv)))]) hP hD [0, 1, 2, 3, 4, 5, 6] [] rfl rfl (by decide) (by decide) hk1 hFc hP1 hD1
    clear hPc hDc hKc hFc hz1 hk1 hP1 hK1 hD1
    generalize H1 = H at hP hS ⊢
    have hP : va_P (dC, dI) cls [(h0, .inr (6, [.ref gl, .ref fu, .ref pa, .ref pf, .ref sf, .ref pk, .ref pg, .ref pp, .ref pz, .ref pv, .int n10, .int n9, .ref sc, .int h0_stepCount, .int h0_open, .int h0_twoSides, .ref wg, .ref wp, .int h0_waitingCount])), (sc, .inr (8, [.ref tr, .ref (sg sa n13), .int n12, .int n14, .long n15, .ref ss, .ref sp, .ref szs, .ref sv, .int sc_length, .int n11])), (tr, .inr (1, [.ref tx, .int tr_length])), (ss, .inl (css, 2001, .inr (.inr (.inr (.inr (fun j => (gss j).map (sg sa))))))), (sp, .inl (csp, 2001, .inl gsp)), (szs, .inl (cszs, 2001, .inl gszs)), (sv, .inl (csv, 2001, .inr (.inl gsv)))] H := hP
    have hD : va_D A [(h0, .inr (6, [.ref gl, .ref fu, .ref pa, .ref pf, .ref sf, .ref pk, .ref pg, .ref pp, .ref pz, .ref pv, .int n10, .int n9, .ref sc, .int h0_stepCount, .int h0_open, .int h0_twoSides, .ref wg, .ref wp, .int h0_waitingCount])), (sc, .inr (8, [.ref tr, .ref (sg sa n13), .int n12, .int n14, .long n15, .ref ss, .ref sp, .ref szs, .ref sv, .int sc_length, .int n11])), (tr, .inr (1, [.ref tx, .int tr_length])), (ss, .inl (css, 2001, .inr (.inr (.inr (.inr (fun j => (gss j).map (sg sa))))))), (sp, .inl (csp, 2001, .inl gsp)), (szs, .inl (cszs, 2001, .inl gszs)), (sv, .inl (csv, 2001, .inr (.inl gsv)))] := hD
    refine lv_aload_n hx hb d_PR_takeType_28 rfl (lv_at hl 0 rfl) ?_
    have hPc := hP.sub (ws' := []) [] rfl
    have hDc := hD.sub (ws' := []) [] (by decide) rfl
    have hKc := hK.sub (tys' := []) [] rfl
    have hFc := va_free (wc := []) hD hS hA [] rfl
    refine va_calli (va_runV (As := []) (rest := []) ⟨hx, hb, hml, hown, hts⟩ (c_SG_type l dC dI H.size sa sc_sign b_sc_sign ) (cwV 0 hts (gV kM_PR_286 kV_SG_type kS_SG_type kI_SG kC_SG_type) rfl rfl rfl (by decide +kernel) ⟨Nat.le_of_ble_eq_true rfl, Nat.le_of_ble_eq_true rfl⟩) ⟨fun a U g mk z => by obtain ⟨z0, z1, zP, zK, zD, zS⟩ := z; exact ⟨z0, z1, zP, va_K.moved (u := U) (U := U.calling g mk a) (Vm.Alike.refl U.vm) zK, zD, sw.same (u := U) (U := U.calling g mk a) rfl zS⟩, va_recvE (i := sc_sign) hSW.2.2.2.1 b_sc_sign hS, fun U hU hW => ⟨rfl, by rw [hU], by rw [hU]; exact hPc, va_K.moved hW.alike hKc, hDc.weaken (fun _ _ _ _ => trivial), hSW.call hS hFc hW hU⟩⟩ rfl rfl hl.1 rfl (lv_room (Nat.le_of_ble_eq_true rfl)) d_PR_takeType_29 ⟨(Nat.zero_le _), (Nat.zero_le _)⟩) hS (fun q _ h => hFc q h) hFc (fun r16 u t H1 locs ht hvm hw hB hz1 hk1 hS => ?_)
    try dsimp only at hw
    have xr16 := hw
    try clear hw
    obtain ⟨hP1, hK1, hD1⟩ := hB
    rw [ht] at hP1
    obtain ⟨hP, hD⟩ := va_join (wr := [(h0, .inr (6, [.ref gl, .ref fu, .ref pa, .ref pf, .ref sf, .ref pk, .ref pg, .ref pp, .ref pz, .ref pv, .int n10, .int n9, .ref sc, .int h0_stepCount, .int h0_open, .int h0_twoSides, .ref wg, .ref wp, .int h0_waitingCount])), (sc, .inr (8, [.ref tr, .ref (sg sa n13), .int n12, .int n14, .long n15, .ref ss, .ref sp, .ref szs, .ref sv, .int sc_length, .int n11])), (tr, .inr (1, [.ref tx, .int tr_length])), (ss, .inl (css, 2001, .inr (.inr (.inr (.inr (fun j => (gss j).map (sg sa))))))), (sp, .inl (csp, 2001, .inl gsp)), (szs, .inl (cszs, 2001, .inl gszs)), (sv, .inl (csv, 2001, .inr (.inl gsv)))]) (w1 := []) hP hD [] [0, 1, 2, 3, 4, 5, 6] rfl rfl (by decide) (by decide) hk1 hFc hP1 hD1
    clear hPc hDc hKc hFc hz1 hk1 hP1 hK1 hD1
    generalize H1 = H at hP hS ⊢
    have hP : va_P (dC, dI) cls [(h0, .inr (6, [.ref gl, .ref fu, .ref pa, .ref pf, .ref sf, .ref pk, .ref pg, .ref pp, .ref pz, .ref pv, .int n10, .int n9, .ref sc, .int h0_stepCount, .int h0_open, .int h0_twoSides, .ref wg, .ref wp, .int h0_waitingCount])), (sc, .inr (8, [.ref tr, .ref (sg sa n13), .int n12, .int n14, .long n15, .ref ss, .ref sp, .ref szs, .ref sv, .int sc_length, .int n11])), (tr, .inr (1, [.ref tx, .int tr_length])), (ss, .inl (css, 2001, .inr (.inr (.inr (.inr (fun j => (gss j).map (sg sa))))))), (sp, .inl (csp, 2001, .inl gsp)), (szs, .inl (cszs, 2001, .inl gszs)), (sv, .inl (csv, 2001, .inr (.inl gsv)))] H := hP
    have hD : va_D A [(h0, .inr (6, [.ref gl, .ref fu, .ref pa, .ref pf, .ref sf, .ref pk, .ref pg, .ref pp, .ref pz, .ref pv, .int n10, .int n9, .ref sc, .int h0_stepCount, .int h0_open, .int h0_twoSides, .ref wg, .ref wp, .int h0_waitingCount])), (sc, .inr (8, [.ref tr, .ref (sg sa n13), .int n12, .int n14, .long n15, .ref ss, .ref sp, .ref szs, .ref sv, .int sc_length, .int n11])), (tr, .inr (1, [.ref tx, .int tr_length])), (ss, .inl (css, 2001, .inr (.inr (.inr (.inr (fun j => (gss j).map (sg sa))))))), (sp, .inl (csp, 2001, .inl gsp)), (szs, .inl (cszs, 2001, .inl gszs)), (sv, .inl (csv, 2001, .inr (.inl gsv)))] := hD
    have hP9 := hP.sub (ws' := [(h0, .inr (6, [.ref gl, .ref fu, .ref pa, .ref pf, .ref sf, .ref pk, .ref pg, .ref pp, .ref pz, .ref pv, .int n10, .int n9, .ref sc, .int h0_stepCount, .int h0_open, .int h0_twoSides, .ref wg, .ref wp, .int h0_waitingCount])), (sc, .inr (8, [.ref tr, .ref (sg sa n13), .int n12, .int n14, .long n15, .ref ss, .ref sp, .ref szs, .ref sv, .int sc_length, .int n11])), (tr, .inr (1, [.ref tx, .int tr_length])), (ss, .inl (css, 2001, .inr (.inr (.inr (.inr (fun j => (gss j).map (sg sa))))))), (sp, .inl (csp, 2001, .inl gsp)), (szs, .inl (cszs, 2001, .inl gszs)), (sv, .inl (csv, 2001, .inr (.inl gsv)))]) [0, 1, 2, 3, 4, 5, 6] rfl
    have hD9 := hD.sub (ws' := [(h0, .inr (6, [.ref gl, .ref fu, .ref pa, .ref pf, .ref sf, .ref pk, .ref pg, .ref pp, .ref pz, .ref pv, .int n10, .int n9, .ref sc, .int h0_stepCount, .int h0_open, .int h0_twoSides, .ref wg, .ref wp, .int h0_waitingCount])), (sc, .inr (8, [.ref tr, .ref (sg sa n13), .int n12, .int n14, .long n15, .ref ss, .ref sp, .ref szs, .ref sv, .int sc_length, .int n11])), (tr, .inr (1, [.ref tx, .int tr_length])), (ss, .inl (css, 2001, .inr (.inr (.inr (.inr (fun j => (gss j).map (sg sa))))))), (sp, .inl (csp, 2001, .inl gsp)), (szs, .inl (cszs, 2001, .inl gszs)), (sv, .inl (csv, 2001, .inr (.inl gsv)))]) [0, 1, 2, 3, 4, 5, 6] (by decide) rfl
    exact tz_up (fun _ => rfl) (W.iret (v := r16) hx hb hr (fun t ht hW => ⟨⟨(n9, n10, n11, n12, n13, n14, n15), ⟨r16, rfl, ⟨by (try dsimp only) <;> omega, bn11, bn12, bn13, bn14, ⟨by (try dsimp only); omega, w25.2⟩⟩⟩, by rw [ht]; exact hP9, va_K.moved hW.alike hK, hD9⟩, hS.F ht⟩) hS.2.2 d_PR_takeType_32)
  · skip
    refine lv_acmp_ne (rx := some (sg sa sc_sign)) (ry := some (sg sa 15)) (tgt := 22) hx hb d_PR_takeType_13 (by decide) (fun c13 => ?_) (fun c13 => ?_)
    · have q13 : sc_sign ≠ 15 := fun z => c13 (by rw [z])
      refine va_gets (C := "WaferForge$Sign") (n := "I32") (d := "LWaferForge$Sign;") (v := .ref (sg sa 14)) hx hb ((hSW.2.2.2.1.1 14 (by decide)).1) hS hown (hts _ kF_PR_283) (fun _ h9 => h9) d_PR_takeType_22 ?_
      exact jn25 14 _ _ _ ⟨(by decide : 14 < 55), by (try dsimp only) <;> omega, by (try dsimp only) <;> omega, hP, hD, hS, lv_sub hl [0] rfl⟩
    · have q13 : sc_sign = 15 := hSW.2.2.2.1.2 sc_sign 15 b_sc_sign (by decide : 15 < 55) (Option.some.inj c13)
      refine va_gets (C := "WaferForge$Sign") (n := "I64") (d := "LWaferForge$Sign;") (v := .ref (sg sa 15)) hx hb ((hSW.2.2.2.1.1 15 (by decide)).1) hS hown (hts _ kF_PR_280) (fun _ h9 => h9) d_PR_takeType_16 ?_
      refine lv_goto (tgt := 25) hx hb d_PR_takeType_19 (by decide) ?_
      exact jn25 15 _ _ _ ⟨(by decide : 15 < 55), by (try dsimp only) <;> omega, by (try dsimp only) <;> omega, hP, hD, hS, lv_sub hl [0] rfl⟩

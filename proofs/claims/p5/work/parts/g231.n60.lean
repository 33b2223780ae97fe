/-! the start: the static world -/
theorem tw {args : Array Value} {s : State} (hts : ∀ w ∈ lw_tbl, w.before args s = true) {i : Nat} {w : Cond} (h : tables_1[i]? = some w) : w.before args s = true := hts w (List.mem_append_right _ (List.mem_of_getElem? h))
def tm9 (n : Nat) : Term := match n / 100 with
  | 0 => (match n with | 0 => (.static "WaferForge" "HEAD" "[B") | 1 => (.static "WaferForge" "SIGNS" "[LWaferForge$Sign;") | _ => (.static "WaferForge$1" "$SwitchMap$WaferForge$Sign" "[I"))
  | 1 => .static "WaferForge$Sign" (sgN.getD (n % 100) "") "LWaferForge$Sign;"
  | 2 => .string "WaferForge$Sign" (sgt9.getD (n % 100) 0)
  | 3 => .field (.string "WaferForge$Sign" (sgt9.getD (n % 100) 0)) "java/lang/String" "value" "[B"
  | 4 => .string "WaferForgeModel" (lti9.getD (n % 100) 0)
  | _ => .field (.string "WaferForgeModel" (lti9.getD (n % 100) 0)) "java/lang/String" "value" "[B"
def sa9 (args : Array Value) (s : State) (n : Nat) : Nat := match (tm9 n).eval args s none [] s with
  | some (.ref t) => t
  | _ => 0
theorem sa_ev {args : Array Value} {s : State} {n t : Nat} (h : (tm9 n).eval args s none [] s = some (.ref t)) : sa9 args s n = t := by
  unfold sa9
  rw [h]
theorem tm_1 {k : Nat} (h : k < 100) : tm9 (100 + k) = .static "WaferForge$Sign" (sgN.getD k "") "LWaferForge$Sign;" := by
  unfold tm9
  rw [show (100 + k) / 100 = 1 by (first | (apply Int.le_antisymm <;> omega) | omega), show (100 + k) % 100 = k by (first | (apply Int.le_antisymm <;> omega) | omega)]
  rfl
theorem tm_2 {k : Nat} (h : k < 100) : tm9 (200 + k) = .string "WaferForge$Sign" (sgt9.getD k 0) := by
  unfold tm9
  rw [show (200 + k) / 100 = 2 by (first | (apply Int.le_antisymm <;> omega) | omega), show (200 + k) % 100 = k by (first | (apply Int.le_antisymm <;> omega) | omega)]
  rfl
theorem tm_3 {k : Nat} (h : k < 100) : tm9 (300 + k) = .field (.string "WaferForge$Sign" (sgt9.getD k 0)) "java/lang/String" "value" "[B" := by
  unfold tm9
  rw [show (300 + k) / 100 = 3 by (first | (apply Int.le_antisymm <;> omega) | omega), show (300 + k) % 100 = k by (first | (apply Int.le_antisymm <;> omega) | omega)]
  rfl
theorem tm_4 {k : Nat} (h : k < 100) : tm9 (400 + k) = .string "WaferForgeModel" (lti9.getD k 0) := by
  unfold tm9
  rw [show (400 + k) / 100 = 4 by (first | (apply Int.le_antisymm <;> omega) | omega), show (400 + k) % 100 = k by (first | (apply Int.le_antisymm <;> omega) | omega)]
  rfl
theorem tm_5 {k : Nat} (h : k < 100) : tm9 (500 + k) = .field (.string "WaferForgeModel" (lti9.getD k 0)) "java/lang/String" "value" "[B" := by
  unfold tm9
  rw [show (500 + k) / 100 = 5 by (first | (apply Int.le_antisymm <;> omega) | omega), show (500 + k) % 100 = k by (first | (apply Int.le_antisymm <;> omega) | omega)]
  rfl
theorem str_of {args : Array Value} {s : State} {tm : Term} {b : List Int32} {A : Nat → Prop} (hN : b.length < 2 ^ 31) (hex : (Cond.exactly tm "java/lang/String").before args s = true) (hco : (Cond.eq (.field tm "java/lang/String" "coder" "B") (.int 0)).before args s = true) (har : (Cond.arrayOf (.field tm "java/lang/String" "value" "[B") .byte).before args s = true) (hle : (Cond.eq (.length (.field tm "java/lang/String" "value" "[B")) (.int (Int32.ofNat b.length))).before args s = true)
    (hel : ∀ j : Nat, j < b.length → (Cond.eq (.elem (.field tm "java/lang/String" "value" "[B") (.int (Int32.ofNat j))) (.int (b.getD j 0))).before args s = true) (hA : ∀ a : Nat, a < s.heap.size → ¬ A a) : ∃ t v : Nat, tm.eval args s none [] s = some (.ref t) ∧ (Term.field tm "java/lang/String" "value" "[B").eval args s none [] s = some (.ref v) ∧ sw_str t v b A s s.heap := by
  obtain ⟨a, c, cA, kA, q1, q2, q3, q4, q5, q6, -⟩ := Cond.exactly_spec (args := args) (first := s) (o := none) (s := s) (idx := []) (t := tm) (cls := "java/lang/String") hex
  obtain ⟨t, ht, hT⟩ := va_Tof (f := fun j => .int (b.getD j 0)) (A := A) hN har (va_eqt hle) (fun j hj => va_eqt (hel j hj)) hA
  exact ⟨a, t, q1, ht, ⟨cA, q3, q5, by rw [q6]; exact q2, hA a (Array.getElem?_eq_some_iff.mp q3).1⟩, vk_OFof q1 (va_eqt hco) hA, vk_OFof q1 ht hA, hT⟩
theorem ls_of {args : Array Value} {s : State} {C n d : String} {A : Nat → Prop} (h : (Cond.laysStatic C n d).before args s = true) (hA : ∀ a : Nat, a < s.heap.size → ¬ A a) : ls_Z C n d A s s.heap := by
  obtain ⟨c, k, i, f, a, cell, hc, hi, hst, ha, hcell, hs, hcls, hlt, hty⟩ := Cond.laysStatic_spec h
  exact ⟨c, k, i, f, a, cell, hc, hi, hst, ha, hcell, hs, hcls, hlt, hty, hA a (Array.getElem?_eq_some_iff.mp hcell).1⟩
theorem ord_inj : ∀ i, i < 55 → ∀ j, j < 55 → sg_ord.getD i 0 = sg_ord.getD j 0 → i = j := by decide +kernel
theorem t_s_len : ∀ k, k < 55 → (sgB.getD k []).length < 2 ^ 31 := by decide +kernel
theorem t_l_len : ∀ k, k < 53 → (litB.getD k []).length < 2 ^ 31 := by decide +kernel
theorem sgs_start {args : Array Value} {s : State} {A : Nat → Prop} (hgv : (Jvm.Cond.and given_1 narrow_1).before args s = true) (hA : ∀ a : Nat, a < s.heap.size → ¬ A a) : ∀ k, k < 55 → (Term.string "WaferForge$Sign" (sgt9.getD k 0)).eval args s none [] s = some (.ref (sa9 args s (200 + k))) ∧ sw_str (sa9 args s (200 + k)) (sa9 args s (300 + k)) (sgB.getD k []) A s s.heap := by
  intro k hk
  obtain ⟨t, v, ht, hv, h⟩ := str_of (tm := .string "WaferForge$Sign" (sgt9.getD k 0)) (b := sgB.getD k []) (t_s_len k hk) (np_all hgv (t_s_ex k hk)) (np_all hgv (t_s_co k hk)) (np_all hgv (t_s_ar k hk)) (np_all hgv (t_s_le k hk)) (fun j hj => np_all hgv (t_s_el k hk j hj)) hA
  have e1 : sa9 args s (200 + k) = t := sa_ev (by rw [tm_2 (by (first | (apply Int.le_antisymm <;> omega) | omega))]; exact ht)
  have e2 : sa9 args s (300 + k) = v := sa_ev (by rw [tm_3 (by (first | (apply Int.le_antisymm <;> omega) | omega))]; exact hv)
  rw [e1, e2]
  exact ⟨ht, h⟩
theorem lit_start {args : Array Value} {s : State} {A : Nat → Prop} (hgv : (Jvm.Cond.and given_1 narrow_1).before args s = true) (hA : ∀ a : Nat, a < s.heap.size → ¬ A a) : ∀ k, k < 53 → (Term.string "WaferForgeModel" (lti9.getD k 0)).eval args s none [] s = some (.ref (sa9 args s (400 + k))) ∧ sw_str (sa9 args s (400 + k)) (sa9 args s (500 + k)) (litB.getD k []) A s s.heap := by
  intro k hk
  obtain ⟨t, v, ht, hv, h⟩ := str_of (tm := .string "WaferForgeModel" (lti9.getD k 0)) (b := litB.getD k []) (t_l_len k hk) (np_all hgv (t_l_ex k hk)) (np_all hgv (t_l_co k hk)) (np_all hgv (t_l_ar k hk)) (np_all hgv (t_l_le k hk)) (fun j hj => np_all hgv (t_l_el k hk j hj)) hA
  have e1 : sa9 args s (400 + k) = t := sa_ev (by rw [tm_4 (by (first | (apply Int.le_antisymm <;> omega) | omega))]; exact ht)
  have e2 : sa9 args s (500 + k) = v := sa_ev (by rw [tm_5 (by (first | (apply Int.le_antisymm <;> omega) | omega))]; exact hv)
  rw [e1, e2]
  exact ⟨ht, h⟩
theorem en_start {args : Array Value} {s : State} {A : Nat → Prop} (hgv : (Jvm.Cond.and given_1 narrow_1).before args s = true) (hts : ∀ w ∈ lw_tbl, w.before args s = true) (hA : ∀ a : Nat, a < s.heap.size → ¬ A a) : (∀ k, k < 55 → (Term.static "WaferForge$Sign" (sgN.getD k "") "LWaferForge$Sign;").eval args s none [] s = some (.ref (sg (sa9 args s) k))) ∧ va_En "WaferForge$Sign" "LWaferForge$Sign;" sgN sgF (sg (sa9 args s)) A s s.heap := by
  have hev : ∀ k, k < 55 → (Term.static "WaferForge$Sign" (sgN.getD k "") "LWaferForge$Sign;").eval args s none [] s = some (.ref (sg (sa9 args s) k)) ∧ va_O "WaferForge$Sign" (sg (sa9 args s) k) A s s.heap := by
    intro k hk
    obtain ⟨a, c, cell, kk, q1, q2, q3, q4, q5, q6, -⟩ := Cond.exactly_spec (args := args) (first := s) (o := none) (s := s) (idx := []) (t := .static "WaferForge$Sign" (sgN.getD k "") "LWaferForge$Sign;") (cls := "WaferForge$Sign") (np_all hgv (e_ex k hk))
    have e : sg (sa9 args s) k = a := sa_ev (by rw [tm_1 (by (first | (apply Int.le_antisymm <;> omega) | omega))]; exact q1)
    rw [e]
    exact ⟨q1, cell, q3, q5, by rw [q6]; exact q2, hA a (Array.getElem?_eq_some_iff.mp q3).1⟩
  have hOF : ∀ q ∈ sgF, ∀ k, k < 55 → va_OF q.1 q.2.1 q.2.2.1 (.int (q.2.2.2.getD k 0)) (sg (sa9 args s) k) A s s.heap := by
    intro q hq k hk
    simp only [sgF, List.mem_cons, List.not_mem_nil, or_false] at hq
    rcases hq with rfl | rfl | rfl | rfl | rfl | rfl | rfl
    · exact vk_OFof (hev k hk).1 (va_eqt (np_all hgv (e_ordinal k hk))) hA
    · exact vk_OFof (hev k hk).1 (va_eqt (np_all hgv (e_level k hk))) hA
    · exact vk_OFof (hev k hk).1 (va_eqt (np_all hgv (e_code32 k hk))) hA
    · exact vk_OFof (hev k hk).1 (va_eqt (np_all hgv (e_code64 k hk))) hA
    · exact vk_OFof (hev k hk).1 (va_eqt (np_all hgv (e_takesFirst k hk))) hA
    · exact vk_OFof (hev k hk).1 (va_eqt (np_all hgv (e_takesSecond k hk))) hA
    · exact vk_OFof (hev k hk).1 (va_eqt (np_all hgv (e_gives k hk))) hA
  refine ⟨fun k hk => (hev k hk).1, fun i hi => ⟨va_Zof (tw hts (e_lay i hi)) (tw (i := 8) hts (by decide +kernel)) (hev i hi).1 hA, (hev i hi).2, fun q hq => hOF q hq i hi⟩, fun i j hi hj e => ?_⟩
  have h1 := hOF ("java/lang/Enum", "ordinal", "I", sg_ord) List.mem_cons_self i hi
  have h2 := hOF ("java/lang/Enum", "ordinal", "I", sg_ord) List.mem_cons_self j hj
  rw [e] at h1
  obtain ⟨c1, k1, i1, f1, cell1, a1, a2, a3, a4, a5, a6⟩ := h1
  obtain ⟨c2, k2, i2, f2, cell2, b1, b2, b3, b4, b5, b6⟩ := h2
  cases a1.symm.trans b1
  cases a3.symm.trans b3
  exact ord_inj i hi j hj (Value.int.inj (Option.some.inj (a5.symm.trans b5)))
theorem nest_start {args : Array Value} {s : State} (hts : ∀ w ∈ lw_tbl, w.before args s = true) : sw_nest s := by
  refine ⟨fun q hq => ?_, fun q hq => ?_, fun q hq => ?_, fun q hq => ?_⟩
  · obtain ⟨k, hk⟩ := List.getElem?_of_mem hq
    have h := n_F k (List.getElem?_eq_some_iff.mp hk).1
    rw [hk] at h
    exact va_Nw.of rfl (tw hts h)
  · obtain ⟨k, hk⟩ := List.getElem?_of_mem hq
    have h := n_M k (List.getElem?_eq_some_iff.mp hk).1
    rw [hk] at h
    exact va_Nw.of rfl (tw hts h)
  · obtain ⟨k, hk⟩ := List.getElem?_of_mem hq
    have h := n_D k (List.getElem?_eq_some_iff.mp hk).1
    rw [hk] at h
    exact va_Nw.of rfl (tw hts h)
  · obtain ⟨k, hk⟩ := List.getElem?_of_mem hq
    have h := n_C k (List.getElem?_eq_some_iff.mp hk).1
    rw [hk] at h
    exact va_Nw.of rfl (tw hts h)
theorem sw_start {args : Array Value} {s : State} {A : Nat → Prop} (hgv : (Jvm.Cond.and given_1 narrow_1).before args s = true) (hts : ∀ w ∈ lw_tbl, w.before args s = true) (hA : ∀ a : Nat, a < s.heap.size → ¬ A a) : sw (sa9 args s) A s s.heap := by
  obtain ⟨hev, hEn⟩ := en_start hgv hts hA
  obtain ⟨t0, h0, T0⟩ := va_Tof (tm := (.static "WaferForge" "HEAD" "[B")) (ty := .byte) (N := 8) (f := fun j => .int (sgH.getD j 0)) (A := A) (by decide) (np_all hgv (p := 380) (by decide +kernel)) (va_eqt (np_all hgv (p := 381) (by decide +kernel))) (fun j hj => va_eqt (np_all hgv (e_hd j hj))) hA
  have e0 : sa9 args s 0 = t0 := sa_ev h0
  obtain ⟨t1, h1, T1⟩ := va_Tof (tm := (.static "WaferForge" "SIGNS" "[LWaferForge$Sign;")) (ty := .object "WaferForge$Sign") (N := 55) (f := fun j => .ref (sg (sa9 args s) j)) (A := A) (by decide) (np_all hgv (p := 33) (by decide +kernel)) (va_eqt (np_all hgv (p := 34) (by decide +kernel))) (fun j hj => va_eqv (np_all hgv (e_sg j hj)) (hev j hj)) hA
  have e1 : sa9 args s 1 = t1 := sa_ev h1
  obtain ⟨t2, h2, T2⟩ := va_Tof (tm := (.static "WaferForge$1" "$SwitchMap$WaferForge$Sign" "[I")) (ty := .int) (N := 55) (f := fun j => .int (sgM.getD j 0)) (A := A) (by decide) (np_all hgv (p := 232) (by decide +kernel)) (va_eqt (np_all hgv (p := 233) (by decide +kernel))) (fun j hj => va_eqt (np_all hgv (e_sw j hj))) hA
  have e2 : sa9 args s 2 = t2 := sa_ev h2
  refine ⟨⟨va_Zof (tw (i := 1222) hts (by decide +kernel)) (tw (i := 1) hts (by decide +kernel)) (by rw [e0]; exact h0) hA, by rw [e0]; exact T0⟩, ⟨va_Zof (tw (i := 805) hts (by decide +kernel)) (tw (i := 1) hts (by decide +kernel)) (by rw [e1]; exact h1) hA, by rw [e1]; exact T1⟩, ⟨va_Zof (tw (i := 985) hts (by decide +kernel)) (tw (i := 27) hts (by decide +kernel)) (by rw [e2]; exact h2) hA, by rw [e2]; exact T2⟩, hEn, ?_, fun k hk => (sgs_start hgv hA k hk).2, va_Zqof (tw (i := 686) hts (by decide +kernel)) (tw (i := 15) hts (by decide +kernel)) (np_all hgv (p := 11) (by decide +kernel)) hA, va_Zqof (tw (i := 688) hts (by decide +kernel)) (tw (i := 15) hts (by decide +kernel)) (np_all hgv (p := 12) (by decide +kernel)) hA, nest_start hts, ls_of (tw (i := 686) hts (by decide +kernel)) hA, ls_of (tw (i := 688) hts (by decide +kernel)) hA, va_Zof (tw (i := 815) hts (by decide +kernel)) (tw (i := 22) hts (by decide +kernel)) (va_eqt (np_all hgv (p := 91) (by decide +kernel))) hA, va_Zqof (tw (i := 837) hts (by decide +kernel)) (tw (i := 24) hts (by decide +kernel)) (np_all hgv (p := 92) (by decide +kernel)) hA⟩
  exact va_Efof (nm := sgN) (tm := fun k => .string "WaferForge$Sign" (sgt9.getD k 0)) hev (fun k hk => np_all hgv (e_tx k hk)) (fun k hk => (sgs_start (A := A) hgv hA k hk).1) hA
theorem sm_start {args : Array Value} {s : State} {A : Nat → Prop} (hgv : (Jvm.Cond.and given_1 narrow_1).before args s = true) (hts : ∀ w ∈ lw_tbl, w.before args s = true) (hA : ∀ a : Nat, a < s.heap.size → ¬ A a) : sm (sa9 args s) A s s.heap := by
  refine ⟨sw_start hgv hts hA, fun k hk => (lit_start hgv hA k hk).2, fun q hq => ?_, va_Nw.of rfl (tw (i := 2203) hts (by decide +kernel)), va_AO.of (tw (i := 2587) hts (by decide +kernel)), va_AO.of (tw (i := 1773) hts (by decide +kernel)), fun y hy => ?_⟩
  · obtain ⟨k, hk⟩ := List.getElem?_of_mem hq
    have h := t_rf k (List.getElem?_eq_some_iff.mp hk).1
    rw [hk] at h
    obtain ⟨i1, i2⟩ := t_ix q hq
    have ev := (lit_start (A := A) hgv hA q.2.2 i2).1
    rw [← i1] at ev
    exact vk_R.of (tw hts h) ev
  · simp only [sm_sel, List.mem_cons, List.not_mem_nil, or_false] at hy
    rcases hy with rfl | rfl | rfl | rfl
    · exact sel_priv (args := args) (n := 4) ⟨by decide, by decide⟩ (tw (i := 2137) hts (by decide +kernel)) (tw (i := 2177) hts (by decide +kernel)) (tw (i := 2178) hts (by decide +kernel)) (tw (i := 3102) hts (by decide +kernel))
    · exact sel_priv (args := args) (n := 4) ⟨by decide, by decide⟩ (tw (i := 2137) hts (by decide +kernel)) (tw (i := 2181) hts (by decide +kernel)) (tw (i := 2182) hts (by decide +kernel)) (tw (i := 3103) hts (by decide +kernel))
    · exact sel_priv (args := args) (n := 4) ⟨by decide, by decide⟩ (tw (i := 2137) hts (by decide +kernel)) (tw (i := 2334) hts (by decide +kernel)) (tw (i := 2335) hts (by decide +kernel)) (tw (i := 3108) hts (by decide +kernel))
    · exact sel_priv (args := args) (n := 4) ⟨by decide, by decide⟩ (tw (i := 2137) hts (by decide +kernel)) (tw (i := 2338) hts (by decide +kernel)) (tw (i := 2339) hts (by decide +kernel)) (tw (i := 3109) hts (by decide +kernel))

/-! Reader: a function's code as it was put -/
def oS (gop gel go : Nat → Int32) : Nat → Int → List Nat → Prop
  | 0, _, st => st = []
  | oc + 1, b, st => ∃ x r, st = x :: r ∧ (0 ≤ (go oc).toInt ∧ (go oc).toInt < b) ∧ (x = 4 → (gop (go oc).toNatClampNeg).toInt = 4 ∧ (gel (go oc).toNatClampNeg).toInt < 0) ∧ oS gop gel go oc (go oc).toInt r
theorem oS_len {gop gel go : Nat → Int32} : ∀ {oc : Nat} {b : Int} {st : List Nat}, oS gop gel go oc b st → st.length = oc := by
  intro oc
  induction oc with
  | zero => intro b st h; rw [show st = [] from h]; rfl
  | succ oc ih =>
    intro b st h
    obtain ⟨x, r, e, -, -, h⟩ := h
    rw [e, List.length_cons, ih h]
theorem oS_mono {gop gel go : Nat → Int32} : ∀ {oc : Nat} {b b2 : Int} {st : List Nat}, oS gop gel go oc b st → b ≤ b2 → oS gop gel go oc b2 st := by
  intro oc b b2 st h hb
  cases oc with
  | zero => exact h
  | succ oc =>
    obtain ⟨x, r, e, h1, h2, h3⟩ := h
    exact ⟨x, r, e, by omega, h2, h3⟩
theorem oS_go {gop gel go : Nat → Int32} : ∀ {oc : Nat} {b : Int} {st : List Nat}, oS gop gel go oc b st → ∀ j, j < oc → 0 ≤ (go j).toInt ∧ (go j).toInt < b := by
  intro oc
  induction oc with
  | zero => intro b st _ j hj; omega
  | succ oc ih =>
    intro b st h j hj
    obtain ⟨x, r, e, h1, h2, h3⟩ := h
    by_cases q : j = oc
    · rw [q]; exact h1
    · have := ih h3 j (by omega)
      omega
theorem oS_ext {gop gel go gop2 gel2 go2 : Nat → Int32} : ∀ {oc : Nat} {b : Int} {st : List Nat}, oS gop gel go oc b st → (∀ k : Nat, (k : Int) < b → gop2 k = gop k ∧ gel2 k = gel k) → (∀ j, j < oc → go2 j = go j) → oS gop2 gel2 go2 oc b st := by
  intro oc
  induction oc with
  | zero => intro b st h _ _; exact h
  | succ oc ih =>
    intro b st h he hg
    obtain ⟨x, r, e, h1, h2, h3⟩ := h
    have c := i32_clamp (x := go oc) h1.1
    have w := he (go oc).toNatClampNeg (by omega)
    refine ⟨x, r, e, ?_, ?_, ?_⟩
    · rw [hg oc (by omega)]; exact h1
    · rw [hg oc (by omega), w.1, w.2]; exact h2
    · rw [hg oc (by omega)]
      exact ih h3 (fun k hk => he k (by omega)) (fun j hj => hg j (by omega))
section OS
variable {cl o oc lc r oc2 lc2 : Int32} {gop gpt gel glb go gop2 gpt2 gel2 glb2 go2 : Nat → Int32} {gva gva2 : Nat → Int64}
theorem oS_step {o9 v9 : Int} {st st2 : List Nat} (hc : 0 ≤ cl.toInt) (hoc : 0 ≤ oc.toInt ∧ oc.toInt ≤ 100) (h : oS gop gel go oc.toNatClampNeg cl.toInt st) (ho : o.toInt = o9) (hd : d1 (o9, v9) st = some st2) (hr : r.toInt = 1) (hn : o9 ≠ 14)
    (st_ : rstep cl o oc lc r oc2 lc2 gop gpt gel glb go gop2 gpt2 gel2 glb2 go2 gva gva2) : oS gop2 gel2 go2 oc2.toNatClampNeg (cl.toInt + 1) st2 := by
  have zc := i32_clamp (x := cl) hc
  have zo := i32_clamp (x := oc) hoc.1
  obtain ⟨eo, st_⟩ := st_
  have keep : ∀ {g2 : Nat → Int32}, gel2 = upd gel cl.toNatClampNeg (-1) → go2 = go → oc2 = oc → st2 = st → oS gop2 gel2 go2 oc2.toNatClampNeg (cl.toInt + 1) st2 := by
    intro g2 e1 e2 e3 e4
    subst e1; subst e2; subst e3; subst e4; subst eo
    exact oS_mono (oS_ext h (fun k hk => ⟨pk_un (by omega), pk_un (by omega)⟩) (fun j _ => rfl)) (by omega)
  rcases st_ with ⟨c0, c1, c2, c3, c4, -, -, -, c8, -⟩ | ⟨c0, c1, c2, c3, -, -, -, -, c8, c9, c10, c11⟩ | ⟨c0, c1, c2, c3, c4, c5, c6, c7⟩ | ⟨c0, c1, c2, c3, c4, c5, c6, c7, -⟩ | ⟨c0, -⟩ | ⟨c0, c1, c2, c3, c4, c5, c6, c7, -⟩ | ⟨c0, c1, c2, c3, c4, c5, c6, c7, -⟩ | ⟨c0, c1, c2, c3, c4, c5, c6, -⟩
  · have e2 : oc2.toNatClampNeg = oc.toNatClampNeg + 1 := clampN (by omega)
    unfold d1 at hd
    rw [if_pos (by dsimp only; omega)] at hd
    split at hd
    · have e := Option.some.inj hd
      rw [e2, ← e]
      subst eo; subst c8; subst c4
      refine ⟨_, st, rfl, ?_, ?_, ?_⟩
      · rw [pk_us]; omega
      · rw [pk_us, pk_us, pk_us]
        intro z
        dsimp only at z
        exact ⟨by omega, by decide⟩
      · rw [pk_us]
        exact oS_ext h (fun k hk => ⟨pk_un (by omega), pk_un (by omega)⟩) (fun j hj => pk_un (by omega))
    · cases hd
  · unfold d1 at hd
    rw [if_neg (by dsimp only; omega), if_pos (by dsimp only; omega)] at hd
    split at hd
    · rename_i r' 
      have e := Option.some.inj hd
      rw [c2, ← e]
      obtain ⟨k, ek⟩ : ∃ k, oc.toNatClampNeg = k + 1 := ⟨oc.toNatClampNeg - 1, by omega⟩
      rw [ek] at h ⊢
      obtain ⟨x, r2, e1, h1, h2, h3⟩ := h
      injection e1 with e3 e4
      have ez : oc.toNatClampNeg - 1 = k := by omega
      rw [ez] at c11
      have zt := i32_clamp (x := go k) h1.1
      subst eo; subst c3; subst c11
      refine ⟨5, r', rfl, by omega, fun z => absurd z (by decide), ?_⟩
      rw [e4]
      exact oS_ext h3 (fun j hj => ⟨pk_un (by omega), by rw [pk_un (by omega), pk_un (by omega)]⟩) (fun j _ => rfl)
    · cases hd
  · unfold d1 at hd
    rw [if_neg (by dsimp only; omega), if_neg (by dsimp only; omega), if_pos (by dsimp only; omega)] at hd
    obtain ⟨w1, w2, -⟩ := c7 hr
    split at hd
    · have e := Option.some.inj hd
      rw [show oc2.toNatClampNeg = oc.toNatClampNeg - 1 from by have := i32_clamp (x := oc2) (by omega); omega, ← e]
      obtain ⟨k, ek⟩ : ∃ k, oc.toNatClampNeg = k + 1 := ⟨oc.toNatClampNeg - 1, by omega⟩
      rw [ek] at h ⊢
      obtain ⟨x, r2, e1, h1, h2, h3⟩ := h
      injection e1 with e3 e4
      subst eo; subst c1; subst c4
      rw [show k + 1 - 1 = k from by omega, e4]
      exact oS_mono (oS_ext h3 (fun j hj => ⟨pk_un (by omega), pk_un (by omega)⟩) (fun j _ => rfl)) (by omega)
    · cases hd
  · exact keep (g2 := go) c7 c3 c2 (Option.some.inj ((d1_0 (by dsimp only; omega)).symm.trans hd)).symm
  · exact absurd (ho ▸ c0) hn
  · exact keep (g2 := go) c7 c3 c2 (Option.some.inj ((d1_0 (by dsimp only; omega)).symm.trans hd)).symm
  · exact keep (g2 := go) c7 c3 c2 (Option.some.inj ((d1_0 (by dsimp only; omega)).symm.trans hd)).symm
  · exact keep (g2 := go) c6 c3 c2 (Option.some.inj ((d1_0 (by dsimp only; omega)).symm.trans hd)).symm
theorem rs_va (st_ : rstep cl o oc lc r oc2 lc2 gop gpt gel glb go gop2 gpt2 gel2 glb2 go2 gva gva2) : ∀ j, j ≠ cl.toNatClampNeg → gop2 j = gop j ∧ gva2 j = gva j := by
  intro j hj
  obtain ⟨eo, st_⟩ := st_
  refine ⟨by rw [eo, pk_un hj], ?_⟩
  rcases st_ with ⟨-, -, -, -, -, -, -, -, -, v, -, e⟩ | ⟨-, -, -, -, -, -, -, e, -⟩ | ⟨-, -, -, -, -, e, -⟩ | ⟨-, -, -, -, -, -, -, -, v, -, -, e⟩ | ⟨-, -, -, -, -, b, x, -, -, -, -, e, -⟩ | ⟨-, -, -, -, -, -, -, -, e⟩ | ⟨-, -, -, -, -, -, -, -, v, e⟩ | ⟨-, -, -, -, -, -, -, b, x, -, -, -, -, e⟩
  all_goals
    rw [e]
    simp only [uL_un hj]
theorem rs_el (st_ : rstep cl o oc lc r oc2 lc2 gop gpt gel glb go gop2 gpt2 gel2 glb2 go2 gva gva2) (h : ∀ j : Nat, (gel j).toInt < 5000) (hc : cl.toInt < 5000) : ∀ j : Nat, (gel2 j).toInt < 5000 := by
  obtain ⟨-, st_⟩ := st_
  have k : ∀ j : Nat, (upd gel cl.toNatClampNeg (-1) j).toInt < 5000 := upd_lt h (by decide)
  rcases st_ with ⟨-, -, -, -, -, -, -, -, e, -⟩ | ⟨-, -, -, -, -, -, -, -, -, -, -, e⟩ | ⟨-, -, -, -, e, -⟩ | ⟨-, -, -, -, -, -, -, e, -⟩ | ⟨-, -, -, -, e, -⟩ | ⟨-, -, -, -, -, -, -, e, -⟩ | ⟨-, -, -, -, -, -, -, e, -⟩ | ⟨-, -, -, -, -, -, e, -⟩
  all_goals rw [e]
  all_goals first | exact k | exact upd_lt k hc
end OS
/-- the instructions from n0 on are these -/
def mtc (gop : Nat → Int32) (gva : Nat → Int64) (n0 : Nat) (D : List ci) : Prop := ∀ (i : Nat) (x : ci), D[i]? = some x → (gop (n0 + i)).toInt = x.1 ∧ (x.1 ≠ 65 → x.1 ≠ 66 → ¬ (x.1 = 40 ∨ x.1 = 41 ∨ x.1 = 44 ∨ x.1 = 45 ∨ x.1 = 54 ∨ x.1 = 55 ∨ x.1 = 58) → (gva (n0 + i)).toInt = x.2)
theorem mtc_snoc {gop gop2 : Nat → Int32} {gva gva2 : Nat → Int64} {n0 n : Nat} {D : List ci} {x : ci} (h : mtc gop gva n0 D) (hn : n = n0 + D.length) (he : ∀ j, j ≠ n → gop2 j = gop j ∧ gva2 j = gva j) (h1 : (gop2 n).toInt = x.1) (h2 : x.1 ≠ 65 → x.1 ≠ 66 → ¬ (x.1 = 40 ∨ x.1 = 41 ∨ x.1 = 44 ∨ x.1 = 45 ∨ x.1 = 54 ∨ x.1 = 55 ∨ x.1 = 58) → (gva2 n).toInt = x.2) : mtc gop2 gva2 n0 (D ++ [x]) := by
  intro i y hy
  rcases Nat.lt_or_ge i D.length with w | w
  · rw [List.getElem?_append_left w] at hy
    have q := he (n0 + i) (by omega)
    rw [q.1, q.2]
    exact h i y hy
  · rw [List.getElem?_append_right w] at hy
    have z : i = D.length := by
      rcases Nat.lt_or_ge (i - D.length) 1 with q | q
      · omega
      · rw [List.getElem?_eq_none (by rw [List.length_singleton]; exact q)] at hy
        cases hy
    subst z
    rw [Nat.sub_self] at hy
    have e : x = y := by simpa using hy
    subst e
    rw [← hn]
    exact ⟨h1, h2⟩
/-- k instructions are read, more are to come -/
def cdI (gax gop gel go : Nat → Int32) (gva : Nat → Int64) (l : List ci) (n0 k a oc : Nat) (n E : Int) : Prop :=
  ∃ (D T : List ci) (st : List Nat), l = D ++ T ∧ D.length = k ∧ bq gax a (enl (T ++ [(11, 0)])) ∧ (a : Int) + ((enl (T ++ [(11, 0)])).length : Int) = E ∧ dl T st = some [] ∧ oS gop gel go oc n st ∧ mtc gop gva n0 D ∧ iokl T
theorem dl_hd {x : ci} {l : List ci} {a b : List Nat} (h : dl (x :: l) a = some b) : ∃ c, d1 x a = some c ∧ dl l c = some b := by
  cases e : d1 x a with
  | none =>
    have h : (match d1 x a with | some c => dl l c | none => none) = some b := h
    rw [e] at h
    cases h
  | some c =>
    rw [dl_go e] at h
    exact ⟨c, rfl, h⟩
theorem cd_hd {gax gop gel go : Nat → Int32} {gva : Nat → Int64} {l : List ci} {n0 k a : Nat} {oc : Int32} {n E : Int} (hoc : 0 ≤ oc.toInt) (h : cdI gax gop gel go gva l n0 k a oc.toNatClampNeg n E) : ∃ (o v : Int), iok (o, v) ∧ bq gax a (en (o, v)) ∧ (a : Int) + ((en (o, v)).length : Int) ≤ E ∧ (o = 2 ∨ o = 3 ∨ o = 4 → oc.toInt < 100) ∧ (o = 5 → 0 < oc.toInt ∧ (gop (go (oc.toNatClampNeg - 1)).toNatClampNeg).toInt = 4 ∧ (gel (go (oc.toNatClampNeg - 1)).toNatClampNeg).toInt < 0) ∧ (∀ j : Nat, (j : Int) < oc.toInt → 0 ≤ (go j).toInt ∧ (go j).toInt < n) ∧ k ≤ l.length ∧
    ((k < l.length ∧ (o = 11 → 0 < oc.toInt)) ∨ (k = l.length ∧ o = 11 ∧ oc.toInt = 0)) ∧
    (∀ (cl o2 lc r oc2 lc2 : Int32) (gpt glb gop2 gpt2 gel2 glb2 go2 : Nat → Int32) (gva2 : Nat → Int64), 0 ≤ cl.toInt → oc.toInt ≤ 100 → cl.toInt = n → cl.toNatClampNeg = n0 + k → o2.toInt = o → (r.toInt = 0 ↔ o = 11 ∧ oc.toInt = 0) → (r.toInt = 0 ∨ r.toInt = 1) → rstep cl o2 oc lc r oc2 lc2 gop gpt gel glb go gop2 gpt2 gel2 glb2 go2 gva gva2 → (o ≠ 65 → o ≠ 66 → ¬ (o = 40 ∨ o = 41 ∨ o = 44 ∨ o = 45 ∨ o = 54 ∨ o = 55 ∨ o = 58) → (gva2 cl.toNatClampNeg).toInt = v) →
      (r.toInt = 1 → cdI gax gop2 gel2 go2 gva2 l n0 (k + 1) (a + (en (o, v)).length) oc2.toNatClampNeg (n + 1) E) ∧ (r.toInt = 0 → k = l.length ∧ mtc gop2 gva2 n0 (l ++ [(11, 0)]) ∧ (a : Int) + ((en (o, v)).length : Int) = E)) := by
  obtain ⟨D, T, st, e1, e2, e3, e4, e5, e6, e7, e8⟩ := h
  have zo := i32_clamp (x := oc) hoc
  have hlen := oS_len e6
  have hgo := oS_go e6
  cases T with
  | nil =>
    have est : st = [] := Option.some.inj e5
    subst est
    have o0 : oc.toInt = 0 := by rw [List.length_nil] at hlen; omega
    rw [List.nil_append, enl_one] at e3 e4
    rw [List.append_nil] at e1
    refine ⟨11, 0, by simp [iok, two], e3, by omega, fun z => by omega, fun z => by omega, fun j hj => by omega, by rw [e1]; omega, Or.inr ⟨by rw [e1]; exact e2.symm, rfl, o0⟩, ?_⟩
    intro cl o2 lc r oc2 lc2 gpt glb gop2 gpt2 gel2 glb2 go2 gva2 z1 z2 z3 z4 z5 z6 z7 z8 z9
    have r0 : r.toInt = 0 := z6.mpr ⟨rfl, o0⟩
    refine ⟨fun z => by omega, fun _ => ⟨by rw [e1]; exact e2.symm, ?_, e4⟩⟩
    rw [e1]
    exact mtc_snoc e7 (by rw [e2]; exact z4) (rs_va z8) (by rw [z8.1, pk_us]; exact z5) z9
  | cons x T =>
    obtain ⟨o, v⟩ := x
    obtain ⟨st2, d1e, d2e⟩ := dl_hd e5
    have e3' : bq gax a (en (o, v) ++ enl (T ++ [(11, 0)])) := e3
    obtain ⟨b1, b2⟩ := bq_app e3'
    have e4' : (a : Int) + (((en (o, v)).length : Int) + ((enl (T ++ [(11, 0)])).length : Int)) = E := by
      have : (enl ((o, v) :: T ++ [(11, 0)])).length = (en (o, v)).length + (enl (T ++ [(11, 0)])).length := List.length_append
      omega
    have hk : k < l.length := by rw [e1, List.length_append, List.length_cons]; omega
    have q5 : o = 5 → 0 < oc.toInt ∧ (gop (go (oc.toNatClampNeg - 1)).toNatClampNeg).toInt = 4 ∧ (gel (go (oc.toNatClampNeg - 1)).toNatClampNeg).toInt < 0 := by
      intro z
      subst z
      unfold d1 at d1e
      rw [if_neg (by dsimp only; omega), if_pos rfl] at d1e
      split at d1e
      · rename_i r'
        obtain ⟨m, em⟩ : ∃ m, oc.toNatClampNeg = m + 1 := ⟨oc.toNatClampNeg - 1, by rw [List.length_cons] at hlen; omega⟩
        rw [em] at e6
        obtain ⟨x, r2, f1, f2, f3, f4⟩ := e6
        injection f1 with f5 f6
        rw [show oc.toNatClampNeg - 1 = m from by omega]
        exact ⟨by omega, f3 f5.symm⟩
      · cases d1e
    have q11 : o = 11 → 0 < oc.toInt := by
      intro z
      subst z
      unfold d1 at d1e
      rw [if_neg (by dsimp only; omega), if_neg (by dsimp only; omega), if_pos rfl] at d1e
      split at d1e
      · rw [List.length_cons] at hlen; omega
      · cases d1e
    have q2 : o = 2 ∨ o = 3 ∨ o = 4 → oc.toInt < 100 := by
      intro z
      unfold d1 at d1e
      rw [if_pos z] at d1e
      split at d1e
      · omega
      · cases d1e
    refine ⟨o, v, e8.1, b1, by omega, q2, q5, fun j hj => hgo j (by omega), by omega, Or.inl ⟨hk, q11⟩, ?_⟩
    intro cl o2 lc r oc2 lc2 gpt glb gop2 gpt2 gel2 glb2 go2 gva2 z1 z2 z3 z4 z5 z6 z7 z8 z9
    have n14 : o ≠ 14 := by have h := e8.1; unfold iok two at h; dsimp only at h; omega
    refine ⟨fun z => ?_, fun z => ?_⟩
    · subst z3
      exact ⟨D ++ [(o, v)], T, st2, by rw [e1, List.append_assoc]; rfl, by rw [List.length_append, List.length_singleton, e2], b2, by omega, d2e, oS_step z1 ⟨hoc, z2⟩ e6 z5 d1e z n14 z8, mtc_snoc e7 (by rw [e2]; exact z4) (rs_va z8) (by rw [z8.1, pk_us]; exact z5) z9, e8.2⟩
    · have w := z6.mp z
      have := q11 w.1
      omega
abbrev at_RE_readCodex (dC : Nat → ClassId) (dI : Nat → Nat → Nat) (h0 aw ac ob ab wat wap wag waf wgt wft wfv wgc wek wei wes wez ax cfi clk clt cop cva cpt cel cla : Nat) (cax cob ccfi cclk cclt ccop ccva ccpt ccel : ClassId) (h0_codeCount : Int32) (aw_typeCount : Int32) (aw_functionCount : Int32) (aw_hasMemory : Int32) (aw_pagesLeast : Int64) (aw_pagesMost : Int64) (aw_globalCount : Int32) (aw_exportCount : Int32) (ab_length : Int32) (ac_labelCount : Int32) (gax : Nat → Int32) (A : Nat → Prop) (u : (Nat → Int32) × (Nat → Int32) × (Nat → Int32) × (Nat → Int32) × (Nat → Int32) × (Nat → Int32) × (Nat → Int64) × (Nat → Int32) × Int32 × Int32 × Int32 × Int32 × Int32) (t : State) : Prop := match u with | (gcel, gcfi, gclk, gclt, gcop, gcpt, gcva, gob, ac_length, h0_at, h0_limit, h0_openCount, h0_sound) => va_P (dC, dI) cls [(h0, .inr (7, [.ref aw, .ref ac, .int h0_at, .int h0_limit, .int h0_sound, .int h0_codeCount, .ref ob, .int h0_openCount])), (aw, .inr (10, [.ref ab, .ref ac, .int aw_typeCount, .ref wat, .ref wap, .ref wag, .int aw_functionCount, .ref waf, .int aw_hasMemory, .long aw_pagesLeast, .long aw_pagesMost, .int aw_globalCount, .ref wgt, .ref wft, .ref wfv, .ref wgc, .int aw_exportCount, .ref wek, .ref wei, .ref wes, .ref wez])), (ab, .inr (1, [.ref ax, .int ab_length])), (ac, .inr (3, [.ref cfi, .ref clk, .ref clt, .int ac_length, .ref cop, .ref cva, .ref cpt, .ref cel, .int ac_labelCount, .ref cla])), (ax, .inl (cax, 8192, .inl gax)), (ob, .inl (cob, 100, .inl gob)), (cfi, .inl (ccfi, 31, .inl gcfi)), (clk, .inl (cclk, 30, .inl gclk)), (clt, .inl (cclt, 1800, .inl gclt)), (cop, .inl (ccop, 5000, .inl gcop)), (cva, .inl (ccva, 5000, .inr (.inl gcva))), (cpt, .inl (ccpt, 5000, .inl gcpt)), (cel, .inl (ccel, 5000, .inl gcel))] t.heap ∧ va_K (dC, dI) cls [(cax, .byte), (cob, .int), (ccfi, .int), (cclk, .int), (cclt, .int), (ccop, .int), (ccva, .long), (ccpt, .int), (ccel, .int)] t ∧ va_D A [(h0, .inr (7, [.ref aw, .ref ac, .int h0_at, .int h0_limit, .int h0_sound, .int h0_codeCount, .ref ob, .int h0_openCount])), (aw, .inr (10, [.ref ab, .ref ac, .int aw_typeCount, .ref wat, .ref wap, .ref wag, .int aw_functionCount, .ref waf, .int aw_hasMemory, .long aw_pagesLeast, .long aw_pagesMost, .int aw_globalCount, .ref wgt, .ref wft, .ref wfv, .ref wgc, .int aw_exportCount, .ref wek, .ref wei, .ref wes, .ref wez])), (ab, .inr (1, [.ref ax, .int ab_length])), (ac, .inr (3, [.ref cfi, .ref clk, .ref clt, .int ac_length, .ref cop, .ref cva, .ref cpt, .ref cel, .int ac_labelCount, .ref cla])), (ax, .inl (cax, 8192, .inl gax)), (ob, .inl (cob, 100, .inl gob)), (cfi, .inl (ccfi, 31, .inl gcfi)), (clk, .inl (cclk, 30, .inl gclk)), (clt, .inl (cclt, 1800, .inl gclt)), (cop, .inl (ccop, 5000, .inl gcop)), (cva, .inl (ccva, 5000, .inr (.inl gcva))), (cpt, .inl (ccpt, 5000, .inl gcpt)), (cel, .inl (ccel, 5000, .inl gcel))]
set_option maxHeartbeats 4000000 in
set_option maxRecDepth 100000 in
theorem c_RE_readCodex (l : Launch) (dC : Nat → ClassId) (dI : Nat → Nat → Nat) (sz : Nat) (h0 aw ac ob ab wat wap wag waf wgt wft wfv wgc wek wei wes wez ax cfi clk clt cop cva cpt cel cla : Nat) (cax cob ccfi cclk cclt ccop ccva ccpt ccel : ClassId) (h0_at : Int32) (h0_limit : Int32) (h0_sound : Int32) (h0_codeCount : Int32) (h0_openCount : Int32) (aw_typeCount : Int32) (aw_functionCount : Int32) (aw_hasMemory : Int32) (aw_pagesLeast : Int64) (aw_pagesMost : Int64) (aw_globalCount : Int32) (aw_exportCount : Int32) (ab_length : Int32) (ac_length : Int32) (ac_labelCount : Int32) (gax : Nat → Int32) (gob : Nat → Int32) (gcfi : Nat → Int32) (gclk : Nat → Int32) (gclt : Nat → Int32) (gcop : Nat → Int32) (gcva : Nat → Int64) (gcpt : Nat → Int32) (gcel : Nat → Int32) (gR : List (Nat × Nat)) (gl9 : List ci)  (b_h0_sound : h0_sound = 0 ∨ h0_sound = 1) (b_h0_openCount : 0 ≤ h0_openCount.toInt ∧ h0_openCount.toInt ≤ 100) (b_ac_length : 0 ≤ ac_length.toInt ∧ ac_length.toInt ≤ 5000) (b_ac_labelCount : 0 ≤ ac_labelCount.toInt ∧ ac_labelCount.toInt ≤ 2000) (p0 : Int32)  (hs : h0_sound.toInt = 1) (ha : 0 ≤ h0_at.toInt ∧ h0_limit.toInt ≤ ab_length.toInt ∧ ab_length.toInt ≤ 8192) (hp : 0 ≤ p0.toInt ∧ p0.toInt < 30) (hrk : bx (rok gR)) (hrl : (rsum gR : Int) ≤ 50 ∧ gR.length ≤ 50) (hdl : bx (dl gl9 [] = some [])) (hio : bx (iokl gl9)) (hbq : bx (bq gax h0_at.toNatClampNeg (leb 5 ((gR.length :: rb gR).length + (enl (gl9 ++ [(11, 0)])).length) ++ ((gR.length :: rb gR) ++ enl (gl9 ++ [(11, 0)]))))) (hlm : h0_at.toInt + (((leb 5 ((gR.length :: rb gR).length + (enl (gl9 ++ [(11, 0)])).length) ++ ((gR.length :: rb gR) ++ enl (gl9 ++ [(11, 0)])))).length : Int) ≤ h0_limit.toInt) (hcl : ac_length.toInt + (gl9.length : Int) + 1 ≤ 5000) (hel : bx (∀ j : Nat, (gcel j).toInt < 5000)) : Met l y_RE_readCode w_RE_readCode ({ frames := 4, cells := 0, slots := 0, locals := 90 }) (va_Pc [.ref h0, .int p0] (fun U => U.heap.size = sz ∧ va_P (dC, dI) cls [(h0, .inr (7, [.ref aw, .ref ac, .int h0_at, .int h0_limit, .int h0_sound, .int h0_codeCount, .ref ob, .int h0_openCount])), (aw, .inr (10, [.ref ab, .ref ac, .int aw_typeCount, .ref wat, .ref wap, .ref wag, .int aw_functionCount, .ref waf, .int aw_hasMemory, .long aw_pagesLeast, .long aw_pagesMost, .int aw_globalCount, .ref wgt, .ref wft, .ref wfv, .ref wgc, .int aw_exportCount, .ref wek, .ref wei, .ref wes, .ref wez])), (ab, .inr (1, [.ref ax, .int ab_length])), (ac, .inr (3, [.ref cfi, .ref clk, .ref clt, .int ac_length, .ref cop, .ref cva, .ref cpt, .ref cel, .int ac_labelCount, .ref cla])), (ax, .inl (cax, 8192, .inl gax)), (ob, .inl (cob, 100, .inl gob)), (cfi, .inl (ccfi, 31, .inl gcfi)), (clk, .inl (cclk, 30, .inl gclk)), (clt, .inl (cclt, 1800, .inl gclt)), (cop, .inl (ccop, 5000, .inl gcop)), (cva, .inl (ccva, 5000, .inr (.inl gcva))), (cpt, .inl (ccpt, 5000, .inl gcpt)), (cel, .inl (ccel, 5000, .inl gcel))] U.heap ∧ va_K (dC, dI) cls [(cax, .byte), (cob, .int), (ccfi, .int), (cclk, .int), (cclt, .int), (ccop, .int), (ccva, .long), (ccpt, .int), (ccel, .int)] U ∧ va_D (fun _ => True) [(h0, .inr (7, [.ref aw, .ref ac, .int h0_at, .int h0_limit, .int h0_sound, .int h0_codeCount, .ref ob, .int h0_openCount])), (aw, .inr (10, [.ref ab, .ref ac, .int aw_typeCount, .ref wat, .ref wap, .ref wag, .int aw_functionCount, .ref waf, .int aw_hasMemory, .long aw_pagesLeast, .long aw_pagesMost, .int aw_globalCount, .ref wgt, .ref wft, .ref wfv, .ref wgc, .int aw_exportCount, .ref wek, .ref wei, .ref wes, .ref wez])), (ab, .inr (1, [.ref ax, .int ab_length])), (ac, .inr (3, [.ref cfi, .ref clk, .ref clt, .int ac_length, .ref cop, .ref cva, .ref cpt, .ref cel, .int ac_labelCount, .ref cla])), (ax, .inl (cax, 8192, .inl gax)), (ob, .inl (cob, 100, .inl gob)), (cfi, .inl (ccfi, 31, .inl gcfi)), (clk, .inl (cclk, 30, .inl gclk)), (clt, .inl (cclt, 1800, .inl gclt)), (cop, .inl (ccop, 5000, .inl gcop)), (cva, .inl (ccva, 5000, .inr (.inl gcva))), (cpt, .inl (ccpt, 5000, .inl gcpt)), (cel, .inl (ccel, 5000, .inl gcel))])) (va_Qv (fun (u : (Nat → Int32) × (Nat → Int32) × (Nat → Int32) × (Nat → Int32) × (Nat → Int32) × (Nat → Int32) × (Nat → Int64) × (Nat → Int32) × Int32 × Int32 × Int32 × Int32 × Int32) => match u with | (gcel2, gcfi2, gclk2, gclt2, gcop2, gcpt2, gcva2, gob2, ac_length2, h0_at2, h0_limit2, h0_openCount2, h0_sound2) => (0 ≤ ac_length2.toInt ∧ ac_length2.toInt ≤ 5000) ∧ (0 ≤ h0_openCount2.toInt ∧ h0_openCount2.toInt ≤ 100) ∧ (h0_sound2 = 0 ∨ h0_sound2 = 1) ∧ (h0_at2.toInt = h0_at.toInt + (((leb 5 ((gR.length :: rb gR).length + (enl (gl9 ++ [(11, 0)])).length) ++ ((gR.length :: rb gR) ++ enl (gl9 ++ [(11, 0)])))).length : Int) ∧ h0_limit2.toInt = h0_limit.toInt ∧ h0_sound2.toInt = 1 ∧ ac_length2.toInt = ac_length.toInt + (gl9.length : Int) + 1 ∧ gcfi2 = upd (upd gcfi p0.toNatClampNeg ac_length) (p0.toNatClampNeg + 1) ac_length2 ∧ (∀ j : Nat, ((j : Int) < 60 * p0.toInt ∨ 60 * p0.toInt + 60 ≤ (j : Int)) → gclt2 j = gclt j) ∧ ∃ t : Int32, t.toInt = (rsum gR : Int) ∧ gclk2 = upd gclk p0.toNatClampNeg t ∧ (∀ j : Nat, (60 * p0.toInt ≤ (j : Int) ∧ (j : Int) < 60 * p0.toInt + t.toInt) → (gclt2 j).toInt = 127 ∨ (gclt2 j).toInt = 126) ∧ mtc gcop2 gcva2 ac_length.toNatClampNeg (gl9 ++ [(11, 0)]) ∧ rc_fin ac_length.toNatClampNeg ac_length2.toNatClampNeg gcop2 gcpt2 gcel2 gcva2 ac_labelCount.toInt ∧ rc_same ac_length.toNatClampNeg gcop gcpt gcel gcop2 gcpt2 gcel2 gcva gcva2 ∧ (∀ j : Nat, (gcel2 j).toInt < 5000))) (at_RE_readCodex dC dI h0 aw ac ob ab wat wap wag waf wgt wft wfv wgc wek wei wes wez ax cfi clk clt cop cva cpt cel cla cax cob ccfi cclk cclt ccop ccva ccpt ccel h0_codeCount aw_typeCount aw_functionCount aw_hasMemory aw_pagesLeast aw_pagesMost aw_globalCount aw_exportCount ab_length ac_labelCount gax (va_A [(h0, .inr (7, [.ref aw, .ref ac, .int h0_at, .int h0_limit, .int h0_sound, .int h0_codeCount, .ref ob, .int h0_openCount])), (aw, .inr (10, [.ref ab, .ref ac, .int aw_typeCount, .ref wat, .ref wap, .ref wag, .int aw_functionCount, .ref waf, .int aw_hasMemory, .long aw_pagesLeast, .long aw_pagesMost, .int aw_globalCount, .ref wgt, .ref wft, .ref wfv, .ref wgc, .int aw_exportCount, .ref wek, .ref wei, .ref wes, .ref wez])), (ab, .inr (1, [.ref ax, .int ab_length])), (ac, .inr (3, [.ref cfi, .ref clk, .ref clt, .int ac_length, .ref cop, .ref cva, .ref cpt, .ref cel, .int ac_labelCount, .ref cla])), (ax, .inl (cax, 8192, .inl gax)), (ob, .inl (cob, 100, .inl gob)), (cfi, .inl (ccfi, 31, .inl gcfi)), (clk, .inl (cclk, 30, .inl gclk)), (clt, .inl (cclt, 1800, .inl gclt)), (cop, .inl (ccop, 5000, .inl gcop)), (cva, .inl (ccva, 5000, .inr (.inl gcva))), (cpt, .inl (ccpt, 5000, .inl gcpt)), (cel, .inl (ccel, 5000, .inl gcel))] sz)) (va_A [(h0, .inr (7, [.ref aw, .ref ac, .int h0_at, .int h0_limit, .int h0_sound, .int h0_codeCount, .ref ob, .int h0_openCount])), (aw, .inr (10, [.ref ab, .ref ac, .int aw_typeCount, .ref wat, .ref wap, .ref wag, .int aw_functionCount, .ref waf, .int aw_hasMemory, .long aw_pagesLeast, .long aw_pagesMost, .int aw_globalCount, .ref wgt, .ref wft, .ref wfv, .ref wgc, .int aw_exportCount, .ref wek, .ref wei, .ref wes, .ref wez])), (ab, .inr (1, [.ref ax, .int ab_length])), (ac, .inr (3, [.ref cfi, .ref clk, .ref clt, .int ac_length, .ref cop, .ref cva, .ref cpt, .ref cel, .int ac_labelCount, .ref cla])), (ax, .inl (cax, 8192, .inl gax)), (ob, .inl (cob, 100, .inl gob)), (cfi, .inl (ccfi, 31, .inl gcfi)), (clk, .inl (cclk, 30, .inl gclk)), (clt, .inl (cclt, 1800, .inl gclt)), (cop, .inl (ccop, 5000, .inl gcop)), (cva, .inl (ccva, 5000, .inr (.inl gcva))), (cpt, .inl (ccpt, 5000, .inl gcpt)), (cel, .inl (ccel, 5000, .inl gcel))] sz)) 0 0 (va_A [(h0, .inr (7, [.ref aw, .ref ac, .int h0_at, .int h0_limit, .int h0_sound, .int h0_codeCount, .ref ob, .int h0_openCount])), (aw, .inr (10, [.ref ab, .ref ac, .int aw_typeCount, .ref wat, .ref wap, .ref wag, .int aw_functionCount, .ref waf, .int aw_hasMemory, .long aw_pagesLeast, .long aw_pagesMost, .int aw_globalCount, .ref wgt, .ref wft, .ref wfv, .ref wgc, .int aw_exportCount, .ref wek, .ref wei, .ref wes, .ref wez])), (ab, .inr (1, [.ref ax, .int ab_length])), (ac, .inr (3, [.ref cfi, .ref clk, .ref clt, .int ac_length, .ref cop, .ref cva, .ref cpt, .ref cel, .int ac_labelCount, .ref cla])), (ax, .inl (cax, 8192, .inl gax)), (ob, .inl (cob, 100, .inl gob)), (cfi, .inl (ccfi, 31, .inl gcfi)), (clk, .inl (cclk, 30, .inl gclk)), (clt, .inl (cclt, 1800, .inl gclt)), (cop, .inl (ccop, 5000, .inl gcop)), (cva, .inl (ccva, 5000, .inr (.inl gcva))), (cpt, .inl (ccpt, 5000, .inl gcpt)), (cel, .inl (ccel, 5000, .inl gcel))] sz) := by
  refine Met.ofW (cc := b_RE_readCode) (maxL := 6) (ret := none) (by decide) rfl ?_
  intro p e s m args below meth c s₁ B hml hv
  obtain ⟨rfl, hsz, hP, hK, hD0⟩ := hv
  have hx := B.exec
  have hb := B.bytes
  have hr := B.returns
  have hts0 := atoms_spec (ws := w_RE_readCode) B.pre
  have hts : ∀ w ∈ lw_g, w.before _ s = true := fun w h => hts0 w (List.mem_cons_of_mem _ h)
  have hown : s.vm.findClass R_RE = some m.cls := findClass_of_methodNamed B.named
  have hlocks := B.notSynchronized
  clear hts0
  subst hsz
  have hD := hD0.self (sz := s.heap.size)
  generalize hAe : va_A [(h0, .inr (7, [.ref aw, .ref ac, .int h0_at, .int h0_limit, .int h0_sound, .int h0_codeCount, .ref ob, .int h0_openCount])), (aw, .inr (10, [.ref ab, .ref ac, .int aw_typeCount, .ref wat, .ref wap, .ref wag, .int aw_functionCount, .ref waf, .int aw_hasMemory, .long aw_pagesLeast, .long aw_pagesMost, .int aw_globalCount, .ref wgt, .ref wft, .ref wfv, .ref wgc, .int aw_exportCount, .ref wek, .ref wei, .ref wes, .ref wez])), (ab, .inr (1, [.ref ax, .int ab_length])), (ac, .inr (3, [.ref cfi, .ref clk, .ref clt, .int ac_length, .ref cop, .ref cva, .ref cpt, .ref cel, .int ac_labelCount, .ref cla])), (ax, .inl (cax, 8192, .inl gax)), (ob, .inl (cob, 100, .inl gob)), (cfi, .inl (ccfi, 31, .inl gcfi)), (clk, .inl (cclk, 30, .inl gclk)), (clt, .inl (cclt, 1800, .inl gclt)), (cop, .inl (ccop, 5000, .inl gcop)), (cva, .inl (ccva, 5000, .inr (.inl gcva))), (cpt, .inl (ccpt, 5000, .inl gcpt)), (cel, .inl (ccel, 5000, .inl gcel))] s.heap.size = A at hD ⊢
  have hA : ∀ q : Nat, s.heap.size ≤ q → A q := fun q h => by rw [← hAe]; exact Or.inr h
  clear hAe
  have hP : va_P (dC, dI) cls [(h0, .inr (7, [.ref aw, .ref ac, .int h0_at, .int h0_limit, .int h0_sound, .int h0_codeCount, .ref ob, .int h0_openCount])), (aw, .inr (10, [.ref ab, .ref ac, .int aw_typeCount, .ref wat, .ref wap, .ref wag, .int aw_functionCount, .ref waf, .int aw_hasMemory, .long aw_pagesLeast, .long aw_pagesMost, .int aw_globalCount, .ref wgt, .ref wft, .ref wfv, .ref wgc, .int aw_exportCount, .ref wek, .ref wei, .ref wes, .ref wez])), (ab, .inr (1, [.ref ax, .int ab_length])), (ac, .inr (3, [.ref cfi, .ref clk, .ref clt, .int ac_length, .ref cop, .ref cva, .ref cpt, .ref cel, .int ac_labelCount, .ref cla])), (ax, .inl (cax, 8192, .inl gax)), (ob, .inl (cob, 100, .inl gob)), (cfi, .inl (ccfi, 31, .inl gcfi)), (clk, .inl (cclk, 30, .inl gclk)), (clt, .inl (cclt, 1800, .inl gclt)), (cop, .inl (ccop, 5000, .inl gcop)), (cva, .inl (ccva, 5000, .inr (.inl gcva))), (cpt, .inl (ccpt, 5000, .inl gcpt)), (cel, .inl (ccel, 5000, .inl gcel))] s.heap := hP
  have hl := lv_entry ([.ref h0, .int p0]) (n := 6) (Nat.le_of_ble_eq_true rfl)
  rw [lg_entry_eq]
  generalize (lg_sl ([.ref h0, .int p0]) ++ List.replicate (6 - (lg_sl ([.ref h0, .int p0])).length) Slot.unset).toArray = ls at hl ⊢
  have hl : lv_has ls 6 [(0, .ref h0), (1, .int p0)] := hl
  have k0 : (0 : Int32).toInt = 0 := by decide
  refine w_gen (A := A) hP (fun H locs hP hS => ?_)
  have k1 : (1 : Int32).toInt = 1 := by decide
  have k5000 : (5000 : Int32).toInt = 5000 := by decide
  have lo_p0 := i32_lo p0
  have hi_p0 := i32_hi p0
  have th0_sound := b01 b_h0_sound
  have za := i32_clamp (x := h0_at) (by omega)
  have zp := i32_clamp (x := p0) (by omega)
  have zn := i32_clamp (x := ac_length) (by omega)
  have l0 : (gR.length :: rb gR).length = 1 + 2 * gR.length := by rw [List.length_cons, rb_len]; omega
  obtain ⟨qn9, hqn9⟩ : ∃ m, m = ((leb 5 ((gR.length :: rb gR).length + (enl (gl9 ++ [(11, 0)])).length) ++ ((gR.length :: rb gR) ++ enl (gl9 ++ [(11, 0)])))).length := ⟨_, rfl⟩
  have lE : (qn9 : Int) = ((leb 5 ((gR.length :: rb gR).length + (enl (gl9 ++ [(11, 0)])).length)).length : Int) + ((gR.length :: rb gR).length + (enl (gl9 ++ [(11, 0)])).length) := by rw [hqn9, List.length_append, List.length_append]; omega
  rw [← hqn9] at hlm
  have b7 := bq_app hbq.out
  have b8 := bq_app b7.2
  replace b7 := b7.1
  replace b7 : bx _ := b7
  have b9 := b8.2
  replace b8 := b8.1
  replace b8 : bx _ := b8
  replace b9 : bx _ := b9
  have lv9 := leb_len 5 ((gR.length :: rb gR).length + (enl (gl9 ++ [(11, 0)])).length)
  obtain ⟨m9, hm9⟩ : ∃ m, m = (enl (gl9 ++ [(11, 0)])).length := ⟨_, rfl⟩
  obtain ⟨s9, hs9⟩ : ∃ m, m = ((gR.length :: rb gR).length + (enl (gl9 ++ [(11, 0)])).length) := ⟨_, rfl⟩
  rw [← hs9] at lE lv9 b7 b8 b9
  rw [← hm9] at hs9
  refine lv_aload_n hx hb d_RE_readCode_0 rfl (lv_at hl 0 rfl) ?_
  refine va_get (D := (dC, dI)) (ci := 7) (v := .int h0_limit) (C := R_RE) (T := F_RE) (N := 8) hx hb hts i_RE hown hK hP 0 rfl rfl 3 (by decide) (hts _ kF_RE_42) (fun _ h9 => h9) rfl d_RE_readCode_1 ?_
  refine lv_istore_n (lv' := [(2, .int h0_limit), (0, .ref h0), (1, .int p0)]) hx hb d_RE_readCode_4 rfl hl (by decide) rfl (fun ls hl => ?_)
  refine lv_aload_n hx hb d_RE_readCode_5 rfl (lv_at hl 1 rfl) ?_
  refine lv_aload_n hx hb d_RE_readCode_6 rfl (lv_at hl 1 rfl) ?_
  refine va_get (D := (dC, dI)) (ci := 7) (v := .ref aw) (C := R_RE) (T := F_RE) (N := 8) hx hb hts i_RE hown hK hP 0 rfl rfl 0 (by decide) (hts _ kF_RE_15) (fun _ h9 => h9) rfl d_RE_readCode_7 ?_
  refine va_get (D := (dC, dI)) (ci := 10) (v := .ref ab) (C := R_WA) (T := F_WA) (N := 21) hx hb hts i_WA hown hK hP 1 rfl rfl 0 (by decide) (hts _ kF_RE_33) (fun _ h9 => h9) rfl d_RE_readCode_10 ?_
  refine va_get (D := (dC, dI)) (ci := 1) (v := .int ab_length) (C := R_BR) (T := F_BR) (N := 2) hx hb hts i_BR hown hK hP 2 rfl rfl 1 (by decide) (hts _ kF_RE_37) (fun _ h9 => h9) rfl d_RE_readCode_13 ?_
  refine lv_i2l hx hb d_RE_readCode_16 rfl ?_
  refine lv_topl (fun x1 ex1 => ?_)
  have tx1 := i2l_t ex1
  have hPc := hP.sub (ws' := [(h0, .inr (7, [.ref aw, .ref ac, .int h0_at, .int h0_limit, .int h0_sound, .int h0_codeCount, .ref ob, .int h0_openCount])), (aw, .inr (10, [.ref ab, .ref ac, .int aw_typeCount, .ref wat, .ref wap, .ref wag, .int aw_functionCount, .ref waf, .int aw_hasMemory, .long aw_pagesLeast, .long aw_pagesMost, .int aw_globalCount, .ref wgt, .ref wft, .ref wfv, .ref wgc, .int aw_exportCount, .ref wek, .ref wei, .ref wes, .ref wez])), (ab, .inr (1, [.ref ax, .int ab_length])), (ax, .inl (cax, 8192, .inl gax))]) [0, 1, 2, 4] rfl
  have hDc := hD.sub (ws' := [(h0, .inr (7, [.ref aw, .ref ac, .int h0_at, .int h0_limit, .int h0_sound, .int h0_codeCount, .ref ob, .int h0_openCount])), (aw, .inr (10, [.ref ab, .ref ac, .int aw_typeCount, .ref wat, .ref wap, .ref wag, .int aw_functionCount, .ref waf, .int aw_hasMemory, .long aw_pagesLeast, .long aw_pagesMost, .int aw_globalCount, .ref wgt, .ref wft, .ref wfv, .ref wgc, .int aw_exportCount, .ref wek, .ref wei, .ref wes, .ref wez])), (ab, .inr (1, [.ref ax, .int ab_length])), (ax, .inl (cax, 8192, .inl gax))]) [0, 1, 2, 4] (by decide) rfl
  have hKc := hK.sub (tys' := [(cax, .byte)]) [0] rfl
  have hFc := va_free (wc := [(h0, .inr (7, [.ref aw, .ref ac, .int h0_at, .int h0_limit, .int h0_sound, .int h0_codeCount, .ref ob, .int h0_openCount])), (aw, .inr (10, [.ref ab, .ref ac, .int aw_typeCount, .ref wat, .ref wap, .ref wag, .int aw_functionCount, .ref waf, .int aw_hasMemory, .long aw_pagesLeast, .long aw_pagesMost, .int aw_globalCount, .ref wgt, .ref wft, .ref wfv, .ref wgc, .int aw_exportCount, .ref wek, .ref wei, .ref wes, .ref wez])), (ab, .inr (1, [.ref ax, .int ab_length])), (ax, .inl (cax, 8192, .inl gax))]) hD hS hA [0, 1, 2, 4] rfl
  refine va_calll (va_runV (As := [.long x1]) (rest := []) ⟨hx, hb, hml, hown, hts⟩ (c_RE_readUnsignedx l dC dI H.size h0 aw ac ob ab wat wap wag waf wgt wft wfv wgc wek wei wes wez ax cax h0_at h0_limit h0_sound h0_codeCount h0_openCount aw_typeCount aw_functionCount aw_hasMemory aw_pagesLeast aw_pagesMost aw_globalCount aw_exportCount ab_length gax s9 (b_h0_sound) x1 (by omega) (by omega) (by omega) (b7.out) (by omega)) (cwV 1 hts (gV kM_RE_64 kV_RE_readUnsigned kS_RE_readUnsigned kI_RE kC_RE_readUnsigned) rfl rfl rfl (by decide +kernel) ⟨Nat.le_of_ble_eq_true rfl, Nat.le_of_ble_eq_true rfl⟩) ⟨fun a U g mk z => by obtain ⟨z0, z1, zP, zK, zD⟩ := z; exact ⟨z0, z1, zP, va_K.moved (u := U) (U := U.calling g mk a) (Vm.Alike.refl U.vm) zK, zD⟩, va_recv hKc hPc (ci := 7) (q0 := 0) rfl rfl, fun U hU hW => ⟨rfl, by rw [hU], by rw [hU]; exact hPc, va_K.moved hW.alike hKc, hDc.weaken (fun _ _ _ _ => trivial)⟩⟩ rfl rfl hl.1 rfl (lv_room (Nat.le_of_ble_eq_true rfl)) d_RE_readCode_17 ⟨(Nat.zero_le _), (Nat.zero_le _)⟩) hS (fun q _ h => hFc q h) hFc (fun r2 u t H1 locs ht hvm hw hB hz1 hk1 hS => ?_)
  obtain ⟨n3, n4⟩ := u
  try dsimp only at hw
  obtain ⟨bn4, xr2⟩ := hw
  try clear hw
  have tn4 := b01 bn4
  have z17 := i32_clamp (x := n3) (by omega)
  obtain ⟨hP1, hK1, hD1⟩ := hB
  rw [ht] at hP1
  obtain ⟨hP, hD⟩ := va_join (wr := [(ac, .inr (3, [.ref cfi, .ref clk, .ref clt, .int ac_length, .ref cop, .ref cva, .ref cpt, .ref cel, .int ac_labelCount, .ref cla])), (ob, .inl (cob, 100, .inl gob)), (cfi, .inl (ccfi, 31, .inl gcfi)), (clk, .inl (cclk, 30, .inl gclk)), (clt, .inl (cclt, 1800, .inl gclt)), (cop, .inl (ccop, 5000, .inl gcop)), (cva, .inl (ccva, 5000, .inr (.inl gcva))), (cpt, .inl (ccpt, 5000, .inl gcpt)), (cel, .inl (ccel, 5000, .inl gcel))]) (w1 := [(h0, .inr (7, [.ref aw, .ref ac, .int n3, .int h0_limit, .int n4, .int h0_codeCount, .ref ob, .int h0_openCount])), (aw, .inr (10, [.ref ab, .ref ac, .int aw_typeCount, .ref wat, .ref wap, .ref wag, .int aw_functionCount, .ref waf, .int aw_hasMemory, .long aw_pagesLeast, .long aw_pagesMost, .int aw_globalCount, .ref wgt, .ref wft, .ref wfv, .ref wgc, .int aw_exportCount, .ref wek, .ref wei, .ref wes, .ref wez])), (ab, .inr (1, [.ref ax, .int ab_length])), (ax, .inl (cax, 8192, .inl gax))]) hP hD [0, 1, 2, 4] [3, 5, 6, 7, 8, 9, 10, 11, 12] rfl rfl (by decide) (by decide) hk1 hFc hP1 hD1
  clear hPc hDc hKc hFc hz1 hk1 hP1 hK1 hD1
  generalize H1 = H at hP hS ⊢
  have hP : va_P (dC, dI) cls [(ac, .inr (3, [.ref cfi, .ref clk, .ref clt, .int ac_length, .ref cop, .ref cva, .ref cpt, .ref cel, .int ac_labelCount, .ref cla])), (ob, .inl (cob, 100, .inl gob)), (cfi, .inl (ccfi, 31, .inl gcfi)), (clk, .inl (cclk, 30, .inl gclk)), (clt, .inl (cclt, 1800, .inl gclt)), (cop, .inl (ccop, 5000, .inl gcop)), (cva, .inl (ccva, 5000, .inr (.inl gcva))), (cpt, .inl (ccpt, 5000, .inl gcpt)), (cel, .inl (ccel, 5000, .inl gcel)), (h0, .inr (7, [.ref aw, .ref ac, .int n3, .int h0_limit, .int n4, .int h0_codeCount, .ref ob, .int h0_openCount])), (aw, .inr (10, [.ref ab, .ref ac, .int aw_typeCount, .ref wat, .ref wap, .ref wag, .int aw_functionCount, .ref waf, .int aw_hasMemory, .long aw_pagesLeast, .long aw_pagesMost, .int aw_globalCount, .ref wgt, .ref wft, .ref wfv, .ref wgc, .int aw_exportCount, .ref wek, .ref wei, .ref wes, .ref wez])), (ab, .inr (1, [.ref ax, .int ab_length])), (ax, .inl (cax, 8192, .inl gax))] H := hP
  have hD : va_D A [(ac, .inr (3, [.ref cfi, .ref clk, .ref clt, .int ac_length, .ref cop, .ref cva, .ref cpt, .ref cel, .int ac_labelCount, .ref cla])), (ob, .inl (cob, 100, .inl gob)), (cfi, .inl (ccfi, 31, .inl gcfi)), (clk, .inl (cclk, 30, .inl gclk)), (clt, .inl (cclt, 1800, .inl gclt)), (cop, .inl (ccop, 5000, .inl gcop)), (cva, .inl (ccva, 5000, .inr (.inl gcva))), (cpt, .inl (ccpt, 5000, .inl gcpt)), (cel, .inl (ccel, 5000, .inl gcel)), (h0, .inr (7, [.ref aw, .ref ac, .int n3, .int h0_limit, .int n4, .int h0_codeCount, .ref ob, .int h0_openCount])), (aw, .inr (10, [.ref ab, .ref ac, .int aw_typeCount, .ref wat, .ref wap, .ref wag, .int aw_functionCount, .ref waf, .int aw_hasMemory, .long aw_pagesLeast, .long aw_pagesMost, .int aw_globalCount, .ref wgt, .ref wft, .ref wfv, .ref wgc, .int aw_exportCount, .ref wek, .ref wei, .ref wes, .ref wez])), (ab, .inr (1, [.ref ax, .int ab_length])), (ax, .inl (cax, 8192, .inl gax))] := hD
  refine lv_l2i hx hb d_RE_readCode_20 rfl ?_
  refine lv_topi (fun x5 ex5 => ?_)
  have tx5 := l2i_t ex5 (by omega) (by omega)
  refine lv_istore_n (lv' := [(3, .int x5), (2, .int h0_limit), (0, .ref h0), (1, .int p0)]) hx hb d_RE_readCode_21 rfl hl (by decide) rfl (fun ls hl => ?_)
  refine lv_aload_n hx hb d_RE_readCode_22 rfl (lv_at hl 2 rfl) ?_
  refine lv_aload_n hx hb d_RE_readCode_23 rfl (lv_at hl 2 rfl) ?_
  refine va_get (D := (dC, dI)) (ci := 7) (v := .int n4) (C := R_RE) (T := F_RE) (N := 8) hx hb hts i_RE hown hK hP 9 rfl rfl 4 (by decide) (hts _ kF_RE_45) (fun _ h9 => h9) rfl d_RE_readCode_24 ?_
  refine lv_if_eq (tgt := 47) hx hb d_RE_readCode_27 (by decide) (fun c27 => absurd (eqI c27) (by omega)) (fun c27 => ?_)
  have q27 := neI c27
  refine lv_iload_n hx hb d_RE_readCode_30 rfl (lv_at hl 0 rfl) ?_
  refine lv_aload_n hx hb d_RE_readCode_31 rfl (lv_at hl 2 rfl) ?_
  refine va_get (D := (dC, dI)) (ci := 7) (v := .int h0_limit) (C := R_RE) (T := F_RE) (N := 8) hx hb hts i_RE hown hK hP 9 rfl rfl 3 (by decide) (hts _ kF_RE_42) (fun _ h9 => h9) rfl d_RE_readCode_32 ?_
  refine lv_aload_n hx hb d_RE_readCode_35 rfl (lv_at hl 2 rfl) ?_
  refine va_get (D := (dC, dI)) (ci := 7) (v := .int n3) (C := R_RE) (T := F_RE) (N := 8) hx hb hts i_RE hown hK hP 9 rfl rfl 2 (by decide) (hts _ kF_RE_29) (fun _ h9 => h9) rfl d_RE_readCode_36 ?_
  refine lv_isub hx hb d_RE_readCode_39 ?_
  refine lv_topi (fun x6 ex6 => ?_)
  have tx6 : x6.toInt = h0_limit.toInt - n3.toInt := by have z := i32_sub ex6 (by omega) (by omega); omega
  refine lv_icmp_gt (tgt := 47) hx hb d_RE_readCode_40 (by decide) (fun c40 => absurd (ltI c40) (by omega)) (fun c40 => ?_)
  have q40 := nltI c40
  refine lv_iconst (v := 1) hx hb d_RE_readCode_43 (by decide) ?_
  refine lv_goto (tgt := 48) hx hb d_RE_readCode_44 (by decide) ?_
  refine va_put (D := (dC, dI)) (ci := 7) (v := .int 1) (ty := .boolean) (C := R_RE) (T := F_RE) (N := 8) hx hb hts i_RE t_RE t_RE_ok n_RE hown hK hP hD hS 9 rfl rfl 4 (by decide) (hts _ kF_RE_45) (fun _ h9 => h9) rfl (by decide +kernel) rfl rfl (Nat.le_of_ble_eq_true rfl) d_RE_readCode_48 (fun H locs hP hD hS => ?_)
  refine lv_aload_n hx hb d_RE_readCode_51 rfl (lv_at hl 2 rfl) ?_
  refine va_get (D := (dC, dI)) (ci := 7) (v := .int 1) (C := R_RE) (T := F_RE) (N := 8) hx hb hts i_RE hown hK hP 9 rfl rfl 4 (by decide) (hts _ kF_RE_45) (fun _ h9 => h9) rfl d_RE_readCode_52 ?_
  refine lv_if_ne (tgt := 59) hx hb d_RE_readCode_55 (by decide) (fun c55 => ?_) (fun c55 => absurd (eqI c55) (by omega))
  have q55 := neI c55
  refine lv_aload_n hx hb d_RE_readCode_59 rfl (lv_at hl 2 rfl) ?_
  refine lv_aload_n hx hb d_RE_readCode_60 rfl (lv_at hl 2 rfl) ?_
  refine va_get (D := (dC, dI)) (ci := 7) (v := .int n3) (C := R_RE) (T := F_RE) (N := 8) hx hb hts i_RE hown hK hP 9 rfl rfl 2 (by decide) (hts _ kF_RE_29) (fun _ h9 => h9) rfl d_RE_readCode_61 ?_
  refine lv_iload_n hx hb d_RE_readCode_64 rfl (lv_at hl 0 rfl) ?_
  refine lv_iadd hx hb d_RE_readCode_65 ?_
  refine lv_topi (fun x7 ex7 => ?_)
  have tx7 : x7.toInt = n3.toInt + x5.toInt := by have z := i32_add ex7 (by omega) (by omega); omega
  refine va_put (D := (dC, dI)) (ci := 7) (v := .int x7) (ty := .int) (C := R_RE) (T := F_RE) (N := 8) hx hb hts i_RE t_RE t_RE_ok n_RE hown hK hP hD hS 9 rfl rfl 3 (by decide) (hts _ kF_RE_42) (fun _ h9 => h9) rfl (by decide +kernel) rfl rfl (Nat.le_of_ble_eq_true rfl) d_RE_readCode_66 (fun H locs hP hD hS => ?_)
  refine lv_aload_n hx hb d_RE_readCode_69 rfl (lv_at hl 2 rfl) ?_
  refine va_get (D := (dC, dI)) (ci := 7) (v := .ref ac) (C := R_RE) (T := F_RE) (N := 8) hx hb hts i_RE hown hK hP 9 rfl rfl 1 (by decide) (hts _ kF_RE_25) (fun _ h9 => h9) rfl d_RE_readCode_70 ?_
  refine va_get (D := (dC, dI)) (ci := 3) (v := .ref cfi) (C := R_CD) (T := F_CD) (N := 10) hx hb hts i_CD hown hK hP 0 rfl rfl 0 (by decide) (hts _ kF_RE_170) (fun _ h9 => h9) rfl d_RE_readCode_73 ?_
  refine lv_iload_n hx hb d_RE_readCode_76 rfl (lv_at hl 3 rfl) ?_
  refine lv_aload_n hx hb d_RE_readCode_77 rfl (lv_at hl 2 rfl) ?_
  refine va_get (D := (dC, dI)) (ci := 7) (v := .ref ac) (C := R_RE) (T := F_RE) (N := 8) hx hb hts i_RE hown hK hP 9 rfl rfl 1 (by decide) (hts _ kF_RE_25) (fun _ h9 => h9) rfl d_RE_readCode_78 ?_
  refine va_get (D := (dC, dI)) (ci := 3) (v := .int ac_length) (C := R_CD) (T := F_CD) (N := 10) hx hb hts i_CD hown hK hP 0 rfl rfl 3 (by decide) (hts _ kF_RE_175) (fun _ h9 => h9) rfl d_RE_readCode_81 ?_
  have g84 : vp_in p0 31 := vp_in_iff.mpr ⟨by omega, by omega⟩
  refine va_iast hx hb hK hP hD hS 2 2 rfl rfl g84 d_RE_readCode_84 (fun H locs hP hD hS => ?_)
  generalize ef8 : upd gcfi p0.toNatClampNeg ac_length = f8 at hP hD
  refine lv_aload_n hx hb d_RE_readCode_85 rfl (lv_at hl 2 rfl) ?_
  refine lv_iload_n hx hb d_RE_readCode_86 rfl (lv_at hl 3 rfl) ?_
  have hPc := hP.sub (ws' := [(h0, .inr (7, [.ref aw, .ref ac, .int n3, .int x7, .int 1, .int h0_codeCount, .ref ob, .int h0_openCount])), (aw, .inr (10, [.ref ab, .ref ac, .int aw_typeCount, .ref wat, .ref wap, .ref wag, .int aw_functionCount, .ref waf, .int aw_hasMemory, .long aw_pagesLeast, .long aw_pagesMost, .int aw_globalCount, .ref wgt, .ref wft, .ref wfv, .ref wgc, .int aw_exportCount, .ref wek, .ref wei, .ref wes, .ref wez])), (ab, .inr (1, [.ref ax, .int ab_length])), (ac, .inr (3, [.ref cfi, .ref clk, .ref clt, .int ac_length, .ref cop, .ref cva, .ref cpt, .ref cel, .int ac_labelCount, .ref cla])), (ax, .inl (cax, 8192, .inl gax)), (clk, .inl (cclk, 30, .inl gclk)), (clt, .inl (cclt, 1800, .inl gclt))]) [9, 10, 11, 0, 12, 3, 4] rfl
  have hDc := hD.sub (ws' := [(h0, .inr (7, [.ref aw, .ref ac, .int n3, .int x7, .int 1, .int h0_codeCount, .ref ob, .int h0_openCount])), (aw, .inr (10, [.ref ab, .ref ac, .int aw_typeCount, .ref wat, .ref wap, .ref wag, .int aw_functionCount, .ref waf, .int aw_hasMemory, .long aw_pagesLeast, .long aw_pagesMost, .int aw_globalCount, .ref wgt, .ref wft, .ref wfv, .ref wgc, .int aw_exportCount, .ref wek, .ref wei, .ref wes, .ref wez])), (ab, .inr (1, [.ref ax, .int ab_length])), (ac, .inr (3, [.ref cfi, .ref clk, .ref clt, .int ac_length, .ref cop, .ref cva, .ref cpt, .ref cel, .int ac_labelCount, .ref cla])), (ax, .inl (cax, 8192, .inl gax)), (clk, .inl (cclk, 30, .inl gclk)), (clt, .inl (cclt, 1800, .inl gclt))]) [9, 10, 11, 0, 12, 3, 4] (by decide) rfl
  have hKc := hK.sub (tys' := [(cax, .byte), (cclk, .int), (cclt, .int)]) [0, 3, 4] rfl
  have hFc := va_free (wc := [(h0, .inr (7, [.ref aw, .ref ac, .int n3, .int x7, .int 1, .int h0_codeCount, .ref ob, .int h0_openCount])), (aw, .inr (10, [.ref ab, .ref ac, .int aw_typeCount, .ref wat, .ref wap, .ref wag, .int aw_functionCount, .ref waf, .int aw_hasMemory, .long aw_pagesLeast, .long aw_pagesMost, .int aw_globalCount, .ref wgt, .ref wft, .ref wfv, .ref wgc, .int aw_exportCount, .ref wek, .ref wei, .ref wes, .ref wez])), (ab, .inr (1, [.ref ax, .int ab_length])), (ac, .inr (3, [.ref cfi, .ref clk, .ref clt, .int ac_length, .ref cop, .ref cva, .ref cpt, .ref cel, .int ac_labelCount, .ref cla])), (ax, .inl (cax, 8192, .inl gax)), (clk, .inl (cclk, 30, .inl gclk)), (clt, .inl (cclt, 1800, .inl gclt))]) hD hS hA [9, 10, 11, 0, 12, 3, 4] rfl
  refine va_callv (va_runV (As := [.int p0]) (rest := []) ⟨hx, hb, hml, hown, hts⟩ (c_RE_readLocalsx l dC dI H.size h0 aw ac ob ab wat wap wag waf wgt wft wfv wgc wek wei wes wez ax cfi clk clt cop cva cpt cel cla cax cclk cclt n3 x7 1 h0_codeCount h0_openCount aw_typeCount aw_functionCount aw_hasMemory aw_pagesLeast aw_pagesMost aw_globalCount aw_exportCount ab_length ac_length ac_labelCount gax gclk gclt gR (Or.inr rfl) p0 (by omega) (by omega) (hp) (hrk) (hrl) ((bq_at b8.out (by omega))) (by omega)) (cwV 1 hts (gV kM_RE_176 kV_RE_readLocals kS_RE_readLocals kI_RE kC_RE_readLocals) rfl rfl rfl (by decide +kernel) ⟨Nat.le_of_ble_eq_true rfl, Nat.le_of_ble_eq_true rfl⟩) ⟨fun a U g mk z => by obtain ⟨z0, z1, zP, zK, zD⟩ := z; exact ⟨z0, z1, zP, va_K.moved (u := U) (U := U.calling g mk a) (Vm.Alike.refl U.vm) zK, zD⟩, va_recv hKc hPc (ci := 7) (q0 := 0) rfl rfl, fun U hU hW => ⟨rfl, by rw [hU], by rw [hU]; exact hPc, va_K.moved hW.alike hKc, hDc.weaken (fun _ _ _ _ => trivial)⟩⟩ rfl rfl hl.1 rfl (lv_room (Nat.le_of_ble_eq_true rfl)) d_RE_readCode_87 ⟨(Nat.zero_le _), (Nat.zero_le _)⟩) hS (fun q _ h => hFc q h) hFc (fun u t H1 locs ht hvm hw hB hz1 hk1 hS => ?_)
  obtain ⟨n10, n11, n12, n13⟩ := u
  try dsimp only at hw
  obtain ⟨bn13, xr9⟩ := hw
  try clear hw
  have tn13 := b01 bn13
  have z87 := i32_clamp (x := n12) (by omega)
  obtain ⟨w1, w2, w3, w4⟩ := xr9
  replace w3 : bx _ := w3
  replace w4 : bx _ := w4
  obtain ⟨hP1, hK1, hD1⟩ := hB
  rw [ht] at hP1
  obtain ⟨hP, hD⟩ := va_join (wr := [(ob, .inl (cob, 100, .inl gob)), (cfi, .inl (ccfi, 31, .inl f8)), (cop, .inl (ccop, 5000, .inl gcop)), (cva, .inl (ccva, 5000, .inr (.inl gcva))), (cpt, .inl (ccpt, 5000, .inl gcpt)), (cel, .inl (ccel, 5000, .inl gcel))]) (w1 := [(h0, .inr (7, [.ref aw, .ref ac, .int n12, .int x7, .int n13, .int h0_codeCount, .ref ob, .int h0_openCount])), (aw, .inr (10, [.ref ab, .ref ac, .int aw_typeCount, .ref wat, .ref wap, .ref wag, .int aw_functionCount, .ref waf, .int aw_hasMemory, .long aw_pagesLeast, .long aw_pagesMost, .int aw_globalCount, .ref wgt, .ref wft, .ref wfv, .ref wgc, .int aw_exportCount, .ref wek, .ref wei, .ref wes, .ref wez])), (ab, .inr (1, [.ref ax, .int ab_length])), (ac, .inr (3, [.ref cfi, .ref clk, .ref clt, .int ac_length, .ref cop, .ref cva, .ref cpt, .ref cel, .int ac_labelCount, .ref cla])), (ax, .inl (cax, 8192, .inl gax)), (clk, .inl (cclk, 30, .inl n10)), (clt, .inl (cclt, 1800, .inl n11))]) hP hD [9, 10, 11, 0, 12, 3, 4] [1, 2, 5, 6, 7, 8] rfl rfl (by decide) (by decide) hk1 hFc hP1 hD1
  clear hPc hDc hKc hFc hz1 hk1 hP1 hK1 hD1
  generalize H1 = H at hP hS ⊢
  have hP : va_P (dC, dI) cls [(ob, .inl (cob, 100, .inl gob)), (cfi, .inl (ccfi, 31, .inl f8)), (cop, .inl (ccop, 5000, .inl gcop)), (cva, .inl (ccva, 5000, .inr (.inl gcva))), (cpt, .inl (ccpt, 5000, .inl gcpt)), (cel, .inl (ccel, 5000, .inl gcel)), (h0, .inr (7, [.ref aw, .ref ac, .int n12, .int x7, .int n13, .int h0_codeCount, .ref ob, .int h0_openCount])), (aw, .inr (10, [.ref ab, .ref ac, .int aw_typeCount, .ref wat, .ref wap, .ref wag, .int aw_functionCount, .ref waf, .int aw_hasMemory, .long aw_pagesLeast, .long aw_pagesMost, .int aw_globalCount, .ref wgt, .ref wft, .ref wfv, .ref wgc, .int aw_exportCount, .ref wek, .ref wei, .ref wes, .ref wez])), (ab, .inr (1, [.ref ax, .int ab_length])), (ac, .inr (3, [.ref cfi, .ref clk, .ref clt, .int ac_length, .ref cop, .ref cva, .ref cpt, .ref cel, .int ac_labelCount, .ref cla])), (ax, .inl (cax, 8192, .inl gax)), (clk, .inl (cclk, 30, .inl n10)), (clt, .inl (cclt, 1800, .inl n11))] H := hP
  have hD : va_D A [(ob, .inl (cob, 100, .inl gob)), (cfi, .inl (ccfi, 31, .inl f8)), (cop, .inl (ccop, 5000, .inl gcop)), (cva, .inl (ccva, 5000, .inr (.inl gcva))), (cpt, .inl (ccpt, 5000, .inl gcpt)), (cel, .inl (ccel, 5000, .inl gcel)), (h0, .inr (7, [.ref aw, .ref ac, .int n12, .int x7, .int n13, .int h0_codeCount, .ref ob, .int h0_openCount])), (aw, .inr (10, [.ref ab, .ref ac, .int aw_typeCount, .ref wat, .ref wap, .ref wag, .int aw_functionCount, .ref waf, .int aw_hasMemory, .long aw_pagesLeast, .long aw_pagesMost, .int aw_globalCount, .ref wgt, .ref wft, .ref wfv, .ref wgc, .int aw_exportCount, .ref wek, .ref wei, .ref wes, .ref wez])), (ab, .inr (1, [.ref ax, .int ab_length])), (ac, .inr (3, [.ref cfi, .ref clk, .ref clt, .int ac_length, .ref cop, .ref cva, .ref cpt, .ref cel, .int ac_labelCount, .ref cla])), (ax, .inl (cax, 8192, .inl gax)), (clk, .inl (cclk, 30, .inl n10)), (clt, .inl (cclt, 1800, .inl n11))] := hD
  refine lv_aload_n hx hb d_RE_readCode_90 rfl (lv_at hl 2 rfl) ?_
  refine lv_iconst (v := 0) hx hb d_RE_readCode_91 (by decide) ?_
  refine va_put (D := (dC, dI)) (ci := 7) (v := .int 0) (ty := .int) (C := R_RE) (T := F_RE) (N := 8) hx hb hts i_RE t_RE t_RE_ok n_RE hown hK hP hD hS 6 rfl rfl 7 (by decide) (hts _ kF_RE_179) (fun _ h9 => h9) rfl (by decide +kernel) rfl rfl (Nat.le_of_ble_eq_true rfl) d_RE_readCode_92 (fun H locs hP hD hS => ?_)
  refine lv_iconst (v := 1) hx hb d_RE_readCode_95 (by decide) ?_
  refine lv_istore (lv' := [(4, .int 1), (3, .int x5), (2, .int h0_limit), (0, .ref h0), (1, .int p0)]) hx hb d_RE_readCode_96 hl (by decide) rfl (fun ls hl => ?_)
  refine lv_iconst (v := 0) hx hb d_RE_readCode_98 (by decide) ?_
  refine lv_istore (lv' := [(5, .int 0), (4, .int 1), (3, .int x5), (2, .int h0_limit), (0, .ref h0), (1, .int p0)]) hx hb d_RE_readCode_99 hl (by decide) rfl (fun ls hl => ?_)
  refine w_loop (σ := Int32 × Int32 × (Nat → Int32) × (Nat → Int32) × (Nat → Int32) × (Nat → Int64) × (Nat → Int32) × Int32 × Int32 × Int32 × Int32) (fun u H locs ls => match u with | (j101_l4, j101_l5, j101_cel, j101_cop, j101_cpt, j101_cva, j101_ob, j101_ac_length, j101_h0_at, j101_h0_openCount, j101_h0_sound) => (j101_l4 = 0 ∨ j101_l4 = 1) ∧ (0 ≤ j101_l5.toInt ∧ j101_l5.toInt ≤ 5001) ∧ (0 ≤ j101_ac_length.toInt ∧ j101_ac_length.toInt ≤ 5000) ∧ (0 ≤ j101_h0_openCount.toInt ∧ j101_h0_openCount.toInt ≤ 100) ∧ (j101_h0_sound = 0 ∨ j101_h0_sound = 1) ∧ (j101_l5.toInt ≤ (gl9.length : Int) + 1 ∧ j101_ac_length.toInt = ac_length.toInt + j101_l5.toInt ∧ j101_h0_sound.toInt = 1 ∧ 0 ≤ j101_h0_at.toInt ∧ j101_h0_at.toInt ≤ x7.toInt) ∧ (bx ((j101_l4.toInt = 1 ∧ cdI gax j101_cop j101_cel j101_ob j101_cva gl9 ac_length.toNatClampNeg j101_l5.toNatClampNeg j101_h0_at.toNatClampNeg j101_h0_openCount.toNatClampNeg j101_ac_length.toInt x7.toInt) ∨ (j101_l4.toInt = 0 ∧ j101_l5.toInt = (gl9.length : Int) + 1 ∧ mtc j101_cop j101_cva ac_length.toNatClampNeg (gl9 ++ [(11, 0)]) ∧ j101_h0_at.toInt = x7.toInt))) ∧ (bx (rc_inv ac_length.toNatClampNeg j101_l4 j101_ac_length j101_h0_openCount ac_labelCount j101_cop j101_cpt j101_cel j101_ob j101_cva ∧ rc_same ac_length.toNatClampNeg gcop gcpt gcel j101_cop j101_cpt j101_cel gcva j101_cva)) ∧ (bx (∀ j : Nat, (j101_cel j).toInt < 5000)) ∧ va_P (dC, dI) cls [(ob, .inl (cob, 100, .inl j101_ob)), (cfi, .inl (ccfi, 31, .inl f8)), (cop, .inl (ccop, 5000, .inl j101_cop)), (cva, .inl (ccva, 5000, .inr (.inl j101_cva))), (cpt, .inl (ccpt, 5000, .inl j101_cpt)), (cel, .inl (ccel, 5000, .inl j101_cel)), (h0, .inr (7, [.ref aw, .ref ac, .int j101_h0_at, .int x7, .int j101_h0_sound, .int h0_codeCount, .ref ob, .int j101_h0_openCount])), (aw, .inr (10, [.ref ab, .ref ac, .int aw_typeCount, .ref wat, .ref wap, .ref wag, .int aw_functionCount, .ref waf, .int aw_hasMemory, .long aw_pagesLeast, .long aw_pagesMost, .int aw_globalCount, .ref wgt, .ref wft, .ref wfv, .ref wgc, .int aw_exportCount, .ref wek, .ref wei, .ref wes, .ref wez])), (ab, .inr (1, [.ref ax, .int ab_length])), (ac, .inr (3, [.ref cfi, .ref clk, .ref clt, .int j101_ac_length, .ref cop, .ref cva, .ref cpt, .ref cel, .int ac_labelCount, .ref cla])), (ax, .inl (cax, 8192, .inl gax)), (clk, .inl (cclk, 30, .inl n10)), (clt, .inl (cclt, 1800, .inl n11))] H ∧ va_D A [(ob, .inl (cob, 100, .inl j101_ob)), (cfi, .inl (ccfi, 31, .inl f8)), (cop, .inl (ccop, 5000, .inl j101_cop)), (cva, .inl (ccva, 5000, .inr (.inl j101_cva))), (cpt, .inl (ccpt, 5000, .inl j101_cpt)), (cel, .inl (ccel, 5000, .inl j101_cel)), (h0, .inr (7, [.ref aw, .ref ac, .int j101_h0_at, .int x7, .int j101_h0_sound, .int h0_codeCount, .ref ob, .int j101_h0_openCount])), (aw, .inr (10, [.ref ab, .ref ac, .int aw_typeCount, .ref wat, .ref wap, .ref wag, .int aw_functionCount, .ref waf, .int aw_hasMemory, .long aw_pagesLeast, .long aw_pagesMost, .int aw_globalCount, .ref wgt, .ref wft, .ref wfv, .ref wgc, .int aw_exportCount, .ref wek, .ref wei, .ref wes, .ref wez])), (ab, .inr (1, [.ref ax, .int ab_length])), (ac, .inr (3, [.ref cfi, .ref clk, .ref clt, .int j101_ac_length, .ref cop, .ref cva, .ref cpt, .ref cel, .int ac_labelCount, .ref cla])), (ax, .inl (cax, 8192, .inl gax)), (clk, .inl (cclk, 30, .inl n10)), (clt, .inl (cclt, 1800, .inl n11))] ∧ va_S A s.heap H locs ∧ lv_has ls 6 [(0, .ref h0), (1, .int p0), (2, .int h0_limit), (4, .int j101_l4), (5, .int j101_l5)]) (fun u => match u with | (j101_l4, j101_l5, j101_cel, j101_cop, j101_cpt, j101_cva, j101_ob, j101_ac_length, j101_h0_at, j101_h0_openCount, j101_h0_sound) => (5001 - j101_l5.toInt).toNat) ?_ (1, 0, gcel, gcop, gcpt, gcva, gob, ac_length, n12, 0, n13) ⟨Or.inr rfl, by (try dsimp only) <;> omega, b_ac_length, by (try dsimp only) <;> omega, bn13, by (try dsimp only) <;> omega, Or.inl ⟨by decide, [], gl9, [], rfl, rfl, (bq_at b9.out (by omega)), by rw [← hm9]; omega, hdl.out, rfl, fun i x h => (by cases h), hio.out⟩, ⟨rc_begin (by decide), fun j _ => ⟨rfl, rfl, rfl, rfl⟩⟩, hel, hP, hD, hS, lv_sub hl [4, 5, 3, 1, 0] rfl⟩
  intro N101 ih101 u H locs ls hN101 hI
  obtain ⟨j101_l4, j101_l5, j101_cel, j101_cop, j101_cpt, j101_cva, j101_ob, j101_ac_length, j101_h0_at, j101_h0_openCount, j101_h0_sound⟩ := u
  obtain ⟨b_j101_l4, b_j101_l5, b_j101_ac_length, b_j101_h0_openCount, b_j101_h0_sound, v1, hC, hRc, hE9, hP, hD, hS, hl⟩ := hI
  have tj101_l4 := b01 b_j101_l4
  have tj101_h0_sound := b01 b_j101_h0_sound
  have hN101 : (5001 - j101_l5.toInt).toNat < N101 + 1 := hN101
  refine lv_iload hx hb d_RE_readCode_101 (lv_at hl 4 rfl) ?_
  refine lv_sipush (v := 5000) hx hb d_RE_readCode_103 (by decide) ?_
  refine lv_icmp_gt (tgt := 133) hx hb d_RE_readCode_106 (by decide) (fun c106 => absurd (ltI c106) (by omega)) (fun c106 => ?_)
  have q106 := nltI c106
  refine lv_aload_n hx hb d_RE_readCode_109 rfl (lv_at hl 0 rfl) ?_
  refine va_get (D := (dC, dI)) (ci := 7) (v := .int j101_h0_sound) (C := R_RE) (T := F_RE) (N := 8) hx hb hts i_RE hown hK hP 6 rfl rfl 4 (by decide) (hts _ kF_RE_45) (fun _ h9 => h9) rfl d_RE_readCode_110 ?_
  refine lv_if_eq (tgt := 133) hx hb d_RE_readCode_113 (by decide) (fun c113 => absurd (eqI c113) (by omega)) (fun c113 => ?_)
  have q113 := neI c113
  refine lv_iload hx hb d_RE_readCode_116 (lv_at hl 3 rfl) ?_
  refine lv_if_eq (tgt := 133) hx hb d_RE_readCode_118 (by decide) (fun c118 => ?_) (fun c118 => ?_)
  · have q118 := eqI c118
    have q133 : j101_h0_at.toInt = x7.toInt ∧ j101_l5.toInt = (gl9.length : Int) + 1 := by rcases hC.out with z | z; (exfalso; have := z.1; rw [c118] at this; exact absurd this (by decide)); exact ⟨z.2.2.2, z.2.1⟩
    refine lv_aload_n hx hb d_RE_readCode_133 rfl (lv_at hl 0 rfl) ?_
    refine va_get (D := (dC, dI)) (ci := 7) (v := .ref ac) (C := R_RE) (T := F_RE) (N := 8) hx hb hts i_RE hown hK hP 6 rfl rfl 1 (by decide) (hts _ kF_RE_25) (fun _ h9 => h9) rfl d_RE_readCode_134 ?_
    refine va_get (D := (dC, dI)) (ci := 3) (v := .ref cfi) (C := R_CD) (T := F_CD) (N := 10) hx hb hts i_CD hown hK hP 9 rfl rfl 0 (by decide) (hts _ kF_RE_170) (fun _ h9 => h9) rfl d_RE_readCode_137 ?_
    refine lv_iload_n hx hb d_RE_readCode_140 rfl (lv_at hl 1 rfl) ?_
    refine lv_iconst (v := 1) hx hb d_RE_readCode_141 (by decide) ?_
    refine lv_iadd hx hb d_RE_readCode_142 ?_
    refine lv_topi (fun x14 ex14 => ?_)
    have tx14 : x14.toInt = p0.toInt + 1 := by have z := i32_add ex14 (by omega) (by omega); omega
    refine lv_aload_n hx hb d_RE_readCode_143 rfl (lv_at hl 0 rfl) ?_
    refine va_get (D := (dC, dI)) (ci := 7) (v := .ref ac) (C := R_RE) (T := F_RE) (N := 8) hx hb hts i_RE hown hK hP 6 rfl rfl 1 (by decide) (hts _ kF_RE_25) (fun _ h9 => h9) rfl d_RE_readCode_144 ?_
    refine va_get (D := (dC, dI)) (ci := 3) (v := .int j101_ac_length) (C := R_CD) (T := F_CD) (N := 10) hx hb hts i_CD hown hK hP 9 rfl rfl 3 (by decide) (hts _ kF_RE_175) (fun _ h9 => h9) rfl d_RE_readCode_147 ?_
    have g150 : vp_in x14 31 := vp_in_iff.mpr ⟨by omega, by omega⟩
    refine va_iast hx hb hK hP hD hS 1 2 rfl rfl g150 d_RE_readCode_150 (fun H locs hP hD hS => ?_)
    generalize ef15 : upd f8 x14.toNatClampNeg j101_ac_length = f15 at hP hD
    refine lv_aload_n hx hb d_RE_readCode_151 rfl (lv_at hl 0 rfl) ?_
    refine lv_aload_n hx hb d_RE_readCode_152 rfl (lv_at hl 0 rfl) ?_
    refine va_get (D := (dC, dI)) (ci := 7) (v := .int j101_h0_sound) (C := R_RE) (T := F_RE) (N := 8) hx hb hts i_RE hown hK hP 6 rfl rfl 4 (by decide) (hts _ kF_RE_45) (fun _ h9 => h9) rfl d_RE_readCode_153 ?_
    refine lv_if_eq (tgt := 174) hx hb d_RE_readCode_156 (by decide) (fun c156 => absurd (eqI c156) (by omega)) (fun c156 => ?_)
    have q156 := neI c156
    refine lv_aload_n hx hb d_RE_readCode_159 rfl (lv_at hl 0 rfl) ?_
    refine va_get (D := (dC, dI)) (ci := 7) (v := .int j101_h0_at) (C := R_RE) (T := F_RE) (N := 8) hx hb hts i_RE hown hK hP 6 rfl rfl 2 (by decide) (hts _ kF_RE_29) (fun _ h9 => h9) rfl d_RE_readCode_160 ?_
    refine lv_aload_n hx hb d_RE_readCode_163 rfl (lv_at hl 0 rfl) ?_
    refine va_get (D := (dC, dI)) (ci := 7) (v := .int x7) (C := R_RE) (T := F_RE) (N := 8) hx hb hts i_RE hown hK hP 6 rfl rfl 3 (by decide) (hts _ kF_RE_42) (fun _ h9 => h9) rfl d_RE_readCode_164 ?_
    refine lv_icmp_ne (tgt := 174) hx hb d_RE_readCode_167 (by decide) (fun c167 => absurd (neI c167) (by omega)) (fun c167 => ?_)
    have q167 := eqI c167
    refine lv_iconst (v := 1) hx hb d_RE_readCode_170 (by decide) ?_
    refine lv_goto (tgt := 175) hx hb d_RE_readCode_171 (by decide) ?_
    refine va_put (D := (dC, dI)) (ci := 7) (v := .int 1) (ty := .boolean) (C := R_RE) (T := F_RE) (N := 8) hx hb hts i_RE t_RE t_RE_ok n_RE hown hK hP hD hS 6 rfl rfl 4 (by decide) (hts _ kF_RE_45) (fun _ h9 => h9) rfl (by decide +kernel) rfl rfl (Nat.le_of_ble_eq_true rfl) d_RE_readCode_175 (fun H locs hP hD hS => ?_)
    refine lv_aload_n hx hb d_RE_readCode_178 rfl (lv_at hl 0 rfl) ?_
    refine lv_iload_n hx hb d_RE_readCode_179 rfl (lv_at hl 2 rfl) ?_
    refine va_put (D := (dC, dI)) (ci := 7) (v := .int h0_limit) (ty := .int) (C := R_RE) (T := F_RE) (N := 8) hx hb hts i_RE t_RE t_RE_ok n_RE hown hK hP hD hS 6 rfl rfl 3 (by decide) (hts _ kF_RE_42) (fun _ h9 => h9) rfl (by decide +kernel) rfl rfl (Nat.le_of_ble_eq_true rfl) d_RE_readCode_180 (fun H locs hP hD hS => ?_)
    have hP9 := hP.sub (ws' := [(h0, .inr (7, [.ref aw, .ref ac, .int j101_h0_at, .int h0_limit, .int 1, .int h0_codeCount, .ref ob, .int j101_h0_openCount])), (aw, .inr (10, [.ref ab, .ref ac, .int aw_typeCount, .ref wat, .ref wap, .ref wag, .int aw_functionCount, .ref waf, .int aw_hasMemory, .long aw_pagesLeast, .long aw_pagesMost, .int aw_globalCount, .ref wgt, .ref wft, .ref wfv, .ref wgc, .int aw_exportCount, .ref wek, .ref wei, .ref wes, .ref wez])), (ab, .inr (1, [.ref ax, .int ab_length])), (ac, .inr (3, [.ref cfi, .ref clk, .ref clt, .int j101_ac_length, .ref cop, .ref cva, .ref cpt, .ref cel, .int ac_labelCount, .ref cla])), (ax, .inl (cax, 8192, .inl gax)), (ob, .inl (cob, 100, .inl j101_ob)), (cfi, .inl (ccfi, 31, .inl f15)), (clk, .inl (cclk, 30, .inl n10)), (clt, .inl (cclt, 1800, .inl n11)), (cop, .inl (ccop, 5000, .inl j101_cop)), (cva, .inl (ccva, 5000, .inr (.inl j101_cva))), (cpt, .inl (ccpt, 5000, .inl j101_cpt)), (cel, .inl (ccel, 5000, .inl j101_cel))]) [6, 7, 8, 9, 10, 0, 1, 11, 12, 2, 3, 4, 5] rfl
    have hD9 := hD.sub (ws' := [(h0, .inr (7, [.ref aw, .ref ac, .int j101_h0_at, .int h0_limit, .int 1, .int h0_codeCount, .ref ob, .int j101_h0_openCount])), (aw, .inr (10, [.ref ab, .ref ac, .int aw_typeCount, .ref wat, .ref wap, .ref wag, .int aw_functionCount, .ref waf, .int aw_hasMemory, .long aw_pagesLeast, .long aw_pagesMost, .int aw_globalCount, .ref wgt, .ref wft, .ref wfv, .ref wgc, .int aw_exportCount, .ref wek, .ref wei, .ref wes, .ref wez])), (ab, .inr (1, [.ref ax, .int ab_length])), (ac, .inr (3, [.ref cfi, .ref clk, .ref clt, .int j101_ac_length, .ref cop, .ref cva, .ref cpt, .ref cel, .int ac_labelCount, .ref cla])), (ax, .inl (cax, 8192, .inl gax)), (ob, .inl (cob, 100, .inl j101_ob)), (cfi, .inl (ccfi, 31, .inl f15)), (clk, .inl (cclk, 30, .inl n10)), (clt, .inl (cclt, 1800, .inl n11)), (cop, .inl (ccop, 5000, .inl j101_cop)), (cva, .inl (ccva, 5000, .inr (.inl j101_cva))), (cpt, .inl (ccpt, 5000, .inl j101_cpt)), (cel, .inl (ccel, 5000, .inl j101_cel))]) [6, 7, 8, 9, 10, 0, 1, 11, 12, 2, 3, 4, 5] (by decide) rfl
    exact W.vret hx hb hr (fun t ht hW => ⟨⟨(j101_cel, f15, n10, n11, j101_cop, j101_cpt, j101_cva, j101_ob, j101_ac_length, j101_h0_at, h0_limit, j101_h0_openCount, 1), rfl, ⟨b_j101_ac_length, b_j101_h0_openCount, Or.inr rfl, (by have q := hC.out; have q9 : j101_l5.toInt = (gl9.length : Int) + 1 ∧ mtc j101_cop j101_cva ac_length.toNatClampNeg (gl9 ++ [(11, 0)]) ∧ j101_h0_at.toInt = x7.toInt := (by rcases q with z | z; (exfalso; have := z.1; rw [c118] at this; exact absurd this (by decide)); exact z.2); obtain ⟨q1, q2, q3⟩ := q9; obtain ⟨t8, u1, u2, u3⟩ := w4.out; exact ⟨by rw [← hqn9]; omega, by (try dsimp only) <;> omega, by (try dsimp only) <;> omega, by omega, by rw [← ef15, ← ef8, show x14.toNatClampNeg = p0.toNatClampNeg + 1 from clampN (by omega)], w3.out, t8, u1, u2, u3, q2, hRc.out.1.2.2 (by rw [c118]; rfl), hRc.out.2, hE9.out⟩)⟩, by rw [ht]; exact hP9, va_K.moved hW.alike hK, hD9⟩, hS.F ht⟩) hS.2.2 d_RE_readCode_183
  · have q118 := neI c118
    have l4e : j101_l4.toInt = 1 := by rcases b_j101_l4 with z | z; (exfalso; rw [z] at q118; exact q118 rfl); (rw [z]; rfl)
    have hC1 := hC.out
    have hC2 : cdI gax j101_cop j101_cel j101_ob j101_cva gl9 ac_length.toNatClampNeg j101_l5.toNatClampNeg j101_h0_at.toNatClampNeg j101_h0_openCount.toNatClampNeg j101_ac_length.toInt x7.toInt := by rcases hC1 with z | z; exact z.2; (exfalso; have := z.1; omega)
    clear hC1
    obtain ⟨o8, v8, c1, c2, c3, c4, c5, c6, c7, c8, c9⟩ := cd_hd (by omega) hC2
    replace c5 : bx _ := c5
    replace c6 : bx _ := c6
    replace c9 : bx _ := c9
    have zat := i32_clamp (x := j101_h0_at) (by omega)
    have zl5 := i32_clamp (x := j101_l5) (by omega)
    have zac := i32_clamp (x := j101_ac_length) (by omega)
    clear hC2 hC
    refine lv_aload_n hx hb d_RE_readCode_121 rfl (lv_at hl 0 rfl) ?_
    have hPc := hP.sub (ws' := [(h0, .inr (7, [.ref aw, .ref ac, .int j101_h0_at, .int x7, .int j101_h0_sound, .int h0_codeCount, .ref ob, .int j101_h0_openCount])), (aw, .inr (10, [.ref ab, .ref ac, .int aw_typeCount, .ref wat, .ref wap, .ref wag, .int aw_functionCount, .ref waf, .int aw_hasMemory, .long aw_pagesLeast, .long aw_pagesMost, .int aw_globalCount, .ref wgt, .ref wft, .ref wfv, .ref wgc, .int aw_exportCount, .ref wek, .ref wei, .ref wes, .ref wez])), (ab, .inr (1, [.ref ax, .int ab_length])), (ac, .inr (3, [.ref cfi, .ref clk, .ref clt, .int j101_ac_length, .ref cop, .ref cva, .ref cpt, .ref cel, .int ac_labelCount, .ref cla])), (ax, .inl (cax, 8192, .inl gax)), (ob, .inl (cob, 100, .inl j101_ob)), (cop, .inl (ccop, 5000, .inl j101_cop)), (cva, .inl (ccva, 5000, .inr (.inl j101_cva))), (cpt, .inl (ccpt, 5000, .inl j101_cpt)), (cel, .inl (ccel, 5000, .inl j101_cel))]) [6, 7, 8, 9, 10, 0, 2, 3, 4, 5] rfl
    have hDc := hD.sub (ws' := [(h0, .inr (7, [.ref aw, .ref ac, .int j101_h0_at, .int x7, .int j101_h0_sound, .int h0_codeCount, .ref ob, .int j101_h0_openCount])), (aw, .inr (10, [.ref ab, .ref ac, .int aw_typeCount, .ref wat, .ref wap, .ref wag, .int aw_functionCount, .ref waf, .int aw_hasMemory, .long aw_pagesLeast, .long aw_pagesMost, .int aw_globalCount, .ref wgt, .ref wft, .ref wfv, .ref wgc, .int aw_exportCount, .ref wek, .ref wei, .ref wes, .ref wez])), (ab, .inr (1, [.ref ax, .int ab_length])), (ac, .inr (3, [.ref cfi, .ref clk, .ref clt, .int j101_ac_length, .ref cop, .ref cva, .ref cpt, .ref cel, .int ac_labelCount, .ref cla])), (ax, .inl (cax, 8192, .inl gax)), (ob, .inl (cob, 100, .inl j101_ob)), (cop, .inl (ccop, 5000, .inl j101_cop)), (cva, .inl (ccva, 5000, .inr (.inl j101_cva))), (cpt, .inl (ccpt, 5000, .inl j101_cpt)), (cel, .inl (ccel, 5000, .inl j101_cel))]) [6, 7, 8, 9, 10, 0, 2, 3, 4, 5] (by decide) rfl
    have hKc := hK.sub (tys' := [(cax, .byte), (cob, .int), (ccop, .int), (ccva, .long), (ccpt, .int), (ccel, .int)]) [0, 1, 5, 6, 7, 8] rfl
    have hFc := va_free (wc := [(h0, .inr (7, [.ref aw, .ref ac, .int j101_h0_at, .int x7, .int j101_h0_sound, .int h0_codeCount, .ref ob, .int j101_h0_openCount])), (aw, .inr (10, [.ref ab, .ref ac, .int aw_typeCount, .ref wat, .ref wap, .ref wag, .int aw_functionCount, .ref waf, .int aw_hasMemory, .long aw_pagesLeast, .long aw_pagesMost, .int aw_globalCount, .ref wgt, .ref wft, .ref wfv, .ref wgc, .int aw_exportCount, .ref wek, .ref wei, .ref wes, .ref wez])), (ab, .inr (1, [.ref ax, .int ab_length])), (ac, .inr (3, [.ref cfi, .ref clk, .ref clt, .int j101_ac_length, .ref cop, .ref cva, .ref cpt, .ref cel, .int ac_labelCount, .ref cla])), (ax, .inl (cax, 8192, .inl gax)), (ob, .inl (cob, 100, .inl j101_ob)), (cop, .inl (ccop, 5000, .inl j101_cop)), (cva, .inl (ccva, 5000, .inr (.inl j101_cva))), (cpt, .inl (ccpt, 5000, .inl j101_cpt)), (cel, .inl (ccel, 5000, .inl j101_cel))]) hD hS hA [6, 7, 8, 9, 10, 0, 2, 3, 4, 5] rfl
    refine va_calli (va_runV (As := []) (rest := []) ⟨hx, hb, hml, hown, hts⟩ (c_RE_readInstructionx l dC dI H.size h0 aw ac ob ab wat wap wag waf wgt wft wfv wgc wek wei wes wez ax cfi clk clt cop cva cpt cel cla cax cob ccop ccva ccpt ccel j101_h0_at x7 j101_h0_sound h0_codeCount j101_h0_openCount aw_typeCount aw_functionCount aw_hasMemory aw_pagesLeast aw_pagesMost aw_globalCount aw_exportCount ab_length j101_ac_length ac_labelCount gax j101_ob j101_cop j101_cva j101_cpt j101_cel o8 v8 ((fun _ => 0)) (b_j101_h0_sound) (b_j101_h0_openCount) (b_j101_ac_length) (by omega) (by omega) (c1) (c2) (by omega) (by omega) (c4) (c6) (hE9) (c5)) (cwV 0 hts (gV kM_RE_182 kV_RE_readInstruction kS_RE_readInstruction kI_RE kC_RE_readInstruction) rfl rfl rfl (by decide +kernel) ⟨Nat.le_of_ble_eq_true rfl, Nat.le_of_ble_eq_true rfl⟩) ⟨fun a U g mk z => by obtain ⟨z0, z1, zP, zK, zD⟩ := z; exact ⟨z0, z1, zP, va_K.moved (u := U) (U := U.calling g mk a) (Vm.Alike.refl U.vm) zK, zD⟩, va_recv hKc hPc (ci := 7) (q0 := 0) rfl rfl, fun U hU hW => ⟨rfl, by rw [hU], by rw [hU]; exact hPc, va_K.moved hW.alike hKc, hDc.weaken (fun _ _ _ _ => trivial)⟩⟩ rfl rfl hl.1 rfl (lv_room (Nat.le_of_ble_eq_true rfl)) d_RE_readCode_122 ⟨(Nat.zero_le _), (Nat.zero_le _)⟩) hS (fun q _ h => hFc q h) hFc (fun r16 u t H1 locs ht hvm hw hB hz1 hk1 hS => ?_)
    obtain ⟨n17, n18, n19, n20, n21, n22, n23, n24, n25⟩ := u
    try dsimp only at hw
    obtain ⟨br16, bn22, bn24, bn25, xr16⟩ := hw
    try clear hw
    have tr16 := b01 br16
    have tn25 := b01 bn25
    obtain ⟨d1_, d2_, d3_, d4_, o7, d5_, d6_, d7_⟩ := xr16
    have zz := b01 br16
    have k9 := c9.out _ _ _ _ _ _ _ _ _ _ _ _ _ _ (by omega) (by omega) rfl (by omega) d5_ d4_ zz d6_ d7_
    replace k9 : bx _ := k9
    have rn := rc_next hRc.out.1 hRc.out.2 l4e ⟨by omega, by omega⟩ d3_ (by omega) (by omega) zz d6_
    replace rn : bx _ := rn
    have hE8 := rs_el d6_ hE9.out (by omega)
    replace hE8 : bx _ := hE8
    clear d6_ d7_ c9 hRc
    have za2 := i32_clamp (x := n23) (by omega)
    have d4_ : bx _ := d4_
    obtain ⟨hP1, hK1, hD1⟩ := hB
    rw [ht] at hP1
    obtain ⟨hP, hD⟩ := va_join (wr := [(cfi, .inl (ccfi, 31, .inl f8)), (clk, .inl (cclk, 30, .inl n10)), (clt, .inl (cclt, 1800, .inl n11))]) (w1 := [(h0, .inr (7, [.ref aw, .ref ac, .int n23, .int x7, .int n25, .int h0_codeCount, .ref ob, .int n24])), (aw, .inr (10, [.ref ab, .ref ac, .int aw_typeCount, .ref wat, .ref wap, .ref wag, .int aw_functionCount, .ref waf, .int aw_hasMemory, .long aw_pagesLeast, .long aw_pagesMost, .int aw_globalCount, .ref wgt, .ref wft, .ref wfv, .ref wgc, .int aw_exportCount, .ref wek, .ref wei, .ref wes, .ref wez])), (ab, .inr (1, [.ref ax, .int ab_length])), (ac, .inr (3, [.ref cfi, .ref clk, .ref clt, .int n22, .ref cop, .ref cva, .ref cpt, .ref cel, .int ac_labelCount, .ref cla])), (ax, .inl (cax, 8192, .inl gax)), (ob, .inl (cob, 100, .inl n21)), (cop, .inl (ccop, 5000, .inl n18)), (cva, .inl (ccva, 5000, .inr (.inl n20))), (cpt, .inl (ccpt, 5000, .inl n19)), (cel, .inl (ccel, 5000, .inl n17))]) hP hD [6, 7, 8, 9, 10, 0, 2, 3, 4, 5] [1, 11, 12] rfl rfl (by decide) (by decide) hk1 hFc hP1 hD1
    clear hPc hDc hKc hFc hz1 hk1 hP1 hK1 hD1
    generalize H1 = H at hP hS ⊢
    have hP : va_P (dC, dI) cls [(cfi, .inl (ccfi, 31, .inl f8)), (clk, .inl (cclk, 30, .inl n10)), (clt, .inl (cclt, 1800, .inl n11)), (h0, .inr (7, [.ref aw, .ref ac, .int n23, .int x7, .int n25, .int h0_codeCount, .ref ob, .int n24])), (aw, .inr (10, [.ref ab, .ref ac, .int aw_typeCount, .ref wat, .ref wap, .ref wag, .int aw_functionCount, .ref waf, .int aw_hasMemory, .long aw_pagesLeast, .long aw_pagesMost, .int aw_globalCount, .ref wgt, .ref wft, .ref wfv, .ref wgc, .int aw_exportCount, .ref wek, .ref wei, .ref wes, .ref wez])), (ab, .inr (1, [.ref ax, .int ab_length])), (ac, .inr (3, [.ref cfi, .ref clk, .ref clt, .int n22, .ref cop, .ref cva, .ref cpt, .ref cel, .int ac_labelCount, .ref cla])), (ax, .inl (cax, 8192, .inl gax)), (ob, .inl (cob, 100, .inl n21)), (cop, .inl (ccop, 5000, .inl n18)), (cva, .inl (ccva, 5000, .inr (.inl n20))), (cpt, .inl (ccpt, 5000, .inl n19)), (cel, .inl (ccel, 5000, .inl n17))] H := hP
    have hD : va_D A [(cfi, .inl (ccfi, 31, .inl f8)), (clk, .inl (cclk, 30, .inl n10)), (clt, .inl (cclt, 1800, .inl n11)), (h0, .inr (7, [.ref aw, .ref ac, .int n23, .int x7, .int n25, .int h0_codeCount, .ref ob, .int n24])), (aw, .inr (10, [.ref ab, .ref ac, .int aw_typeCount, .ref wat, .ref wap, .ref wag, .int aw_functionCount, .ref waf, .int aw_hasMemory, .long aw_pagesLeast, .long aw_pagesMost, .int aw_globalCount, .ref wgt, .ref wft, .ref wfv, .ref wgc, .int aw_exportCount, .ref wek, .ref wei, .ref wes, .ref wez])), (ab, .inr (1, [.ref ax, .int ab_length])), (ac, .inr (3, [.ref cfi, .ref clk, .ref clt, .int n22, .ref cop, .ref cva, .ref cpt, .ref cel, .int ac_labelCount, .ref cla])), (ax, .inl (cax, 8192, .inl gax)), (ob, .inl (cob, 100, .inl n21)), (cop, .inl (ccop, 5000, .inl n18)), (cva, .inl (ccva, 5000, .inr (.inl n20))), (cpt, .inl (ccpt, 5000, .inl n19)), (cel, .inl (ccel, 5000, .inl n17))] := hD
    refine lv_istore (lv' := [(4, .int r16), (0, .ref h0), (1, .int p0), (2, .int h0_limit), (5, .int j101_l5)]) hx hb d_RE_readCode_125 hl (by decide) rfl (fun ls hl => ?_)
    obtain ⟨x26, ex26⟩ : ∃ z : Int32, z = j101_l5 + 1 := ⟨_, rfl⟩
    have tx26 : x26.toInt = j101_l5.toInt + 1 := by have z := i32_add ex26 (by omega) (by omega); omega
    refine lv_iinc (v := x26) (lv' := [(5, .int x26), (4, .int r16), (0, .ref h0), (1, .int p0), (2, .int h0_limit)]) hx hb d_RE_readCode_127 hl (k := 4) rfl (by rw [ex26]; rfl) (by decide) rfl (fun ls hl => ?_)
    refine lv_goto (tgt := 101) hx hb d_RE_readCode_130 (by decide) ?_
    exact ih101 (r16, x26, n17, n18, n19, n20, n21, n22, n23, n24, n25) _ _ _ (by show (5001 - x26.toInt).toNat < N101; omega) ⟨br16, by (try dsimp only) <;> omega, bn22, bn24, bn25, by (try dsimp only) <;> omega, (by rcases zz with z | z; (have q := k9.out.2 z; exact Or.inr ⟨z, by omega, q.2.1, by omega⟩); (have q := k9.out.1 z; rw [show x26.toNatClampNeg = j101_l5.toNatClampNeg + 1 from clampN (by omega), show n23.toNatClampNeg = j101_h0_at.toNatClampNeg + (en (o8, v8)).length from by omega, show n22.toInt = j101_ac_length.toInt + 1 from d3_]; exact Or.inl ⟨z, q⟩)), rn, hE8, hP.sub [8, 0, 9, 10, 11, 12, 3, 4, 5, 6, 7, 1, 2] rfl, hD.sub [8, 0, 9, 10, 11, 12, 3, 4, 5, 6, 7, 1, 2] (by decide) rfl, hS, lv_sub hl [2, 3, 4, 1, 0] rfl⟩

section q_91
/-! Reader: a function's code as it was put -/
def oS (gop gel go : Nat → Int32) : Nat → Int → List Nat → Prop
  | 0, _, st => st = []
  | oc + 1, b, st => ∃ x r, st = x :: r ∧ (0 ≤ (go oc).toInt ∧ (go oc).toInt < b) ∧ (x = 4 → (gop (go oc).toNatClampNeg).toInt = 4 ∧ (gel (go oc).toNatClampNeg).toInt < 0) ∧ oS gop gel go oc (go oc).toInt r
theorem oS_len {gop gel go : Nat → Int32} : ∀ {oc : Nat} {b : Int} {st : List Nat}, oS gop gel go oc b st → st.length = oc := by
  intro oc
  induction oc with
  | zero => intro b st h; rw [show st = [] from h]; rfl
  | succ oc ih =>
    intro b st h
    obtain ⟨x, r, e, -, -, h⟩ := h
    rw [e, List.length_cons, ih h]
theorem oS_mono {gop gel go : Nat → Int32} : ∀ {oc : Nat} {b b2 : Int} {st : List Nat}, oS gop gel go oc b st → b ≤ b2 → oS gop gel go oc b2 st := by
  intro oc b b2 st h hb
  cases oc with
  | zero => exact h
  | succ oc =>
    obtain ⟨x, r, e, h1, h2, h3⟩ := h
    exact ⟨x, r, e, by (first | (apply Int.le_antisymm <;> omega) | omega), h2, h3⟩
theorem oS_go {gop gel go : Nat → Int32} : ∀ {oc : Nat} {b : Int} {st : List Nat}, oS gop gel go oc b st → ∀ j, j < oc → 0 ≤ (go j).toInt ∧ (go j).toInt < b := by
  intro oc
  induction oc with
  | zero => intro b st _ j hj; (first | (apply Int.le_antisymm <;> omega) | omega)
  | succ oc ih =>
    intro b st h j hj
    obtain ⟨x, r, e, h1, h2, h3⟩ := h
    by_cases q : j = oc
    · rw [q]; exact h1
    · have := ih h3 j (by (first | (apply Int.le_antisymm <;> omega) | omega))
      (first | (apply Int.le_antisymm <;> omega) | omega)
theorem oS_ext {gop gel go gop2 gel2 go2 : Nat → Int32} : ∀ {oc : Nat} {b : Int} {st : List Nat}, oS gop gel go oc b st → (∀ k : Nat, (k : Int) < b → gop2 k = gop k ∧ gel2 k = gel k) → (∀ j, j < oc → go2 j = go j) → oS gop2 gel2 go2 oc b st := by
  intro oc
  induction oc with
  | zero => intro b st h _ _; exact h
  | succ oc ih =>
    intro b st h he hg
    obtain ⟨x, r, e, h1, h2, h3⟩ := h
    have c := i32_clamp (x := go oc) h1.1
    have w := he (go oc).toNatClampNeg (by (first | (apply Int.le_antisymm <;> omega) | omega))
    refine ⟨x, r, e, ?_, ?_, ?_⟩
    · rw [hg oc (by (first | (apply Int.le_antisymm <;> omega) | omega))]; exact h1
    · rw [hg oc (by (first | (apply Int.le_antisymm <;> omega) | omega)), w.1, w.2]; exact h2
    · rw [hg oc (by (first | (apply Int.le_antisymm <;> omega) | omega))]
      exact ih h3 (fun k hk => he k (by (first | (apply Int.le_antisymm <;> omega) | omega))) (fun j hj => hg j (by (first | (apply Int.le_antisymm <;> omega) | omega)))
section OS
variable {cl o oc lc r oc2 lc2 : Int32} {gop gpt gel glb go gop2 gpt2 gel2 glb2 go2 : Nat → Int32} {gva gva2 : Nat → Int64}
theorem oS_step {o9 v9 : Int} {st st2 : List Nat} (hc : 0 ≤ cl.toInt) (hoc : 0 ≤ oc.toInt ∧ oc.toInt ≤ 100) (h : oS gop gel go oc.toNatClampNeg cl.toInt st) (ho : o.toInt = o9) (hd : d1 (o9, v9) st = some st2) (hr : r.toInt = 1) (hn : o9 ≠ 14)
    (st_ : rstep cl o oc lc r oc2 lc2 gop gpt gel glb go gop2 gpt2 gel2 glb2 go2 gva gva2) : oS gop2 gel2 go2 oc2.toNatClampNeg (cl.toInt + 1) st2 := by
  have zc := i32_clamp (x := cl) hc
  have zo := i32_clamp (x := oc) hoc.1
  obtain ⟨eo, st_⟩ := st_
  have keep : ∀ {g2 : Nat → Int32}, gel2 = upd gel cl.toNatClampNeg (-1) → go2 = go → oc2 = oc → st2 = st → oS gop2 gel2 go2 oc2.toNatClampNeg (cl.toInt + 1) st2 := by
    intro g2 e1 e2 e3 e4
    subst e1; subst e2; subst e3; subst e4; subst eo
    exact oS_mono (oS_ext h (fun k hk => ⟨pk_un (by (first | (apply Int.le_antisymm <;> omega) | omega)), pk_un (by (first | (apply Int.le_antisymm <;> omega) | omega))⟩) (fun j _ => rfl)) (by (first | (apply Int.le_antisymm <;> omega) | omega))
  rcases st_ with ⟨c0, c1, c2, c3, c4, -, -, -, c8, -⟩ | ⟨c0, c1, c2, c3, -, -, -, -, c8, c9, c10, c11⟩ | ⟨c0, c1, c2, c3, c4, c5, c6, c7⟩ | ⟨c0, c1, c2, c3, c4, c5, c6, c7, -⟩ | ⟨c0, -⟩ | ⟨c0, c1, c2, c3, c4, c5, c6, c7, -⟩ | ⟨c0, c1, c2, c3, c4, c5, c6, c7, -⟩ | ⟨c0, c1, c2, c3, c4, c5, c6, -⟩
  · have e2 : oc2.toNatClampNeg = oc.toNatClampNeg + 1 := clampN (by (first | (apply Int.le_antisymm <;> omega) | omega))
    unfold d1 at hd
    rw [if_pos (by dsimp only; (first | (apply Int.le_antisymm <;> omega) | omega))] at hd
    split at hd
    · have e := Option.some.inj hd
      rw [e2, ← e]
      subst eo; subst c8; subst c4
      refine ⟨_, st, rfl, ?_, ?_, ?_⟩
      · rw [pk_us]; (first | (apply Int.le_antisymm <;> omega) | omega)
      · rw [pk_us, pk_us, pk_us]
        intro z
        dsimp only at z
        exact ⟨by (first | (apply Int.le_antisymm <;> omega) | omega), by decide⟩
      · rw [pk_us]
        exact oS_ext h (fun k hk => ⟨pk_un (by (first | (apply Int.le_antisymm <;> omega) | omega)), pk_un (by (first | (apply Int.le_antisymm <;> omega) | omega))⟩) (fun j hj => pk_un (by (first | (apply Int.le_antisymm <;> omega) | omega)))
    · cases hd
  · unfold d1 at hd
    rw [if_neg (by dsimp only; (first | (apply Int.le_antisymm <;> omega) | omega)), if_pos (by dsimp only; (first | (apply Int.le_antisymm <;> omega) | omega))] at hd
    split at hd
    · rename_i r' 
      have e := Option.some.inj hd
      rw [c2, ← e]
      obtain ⟨k, ek⟩ : ∃ k, oc.toNatClampNeg = k + 1 := ⟨oc.toNatClampNeg - 1, by (first | (apply Int.le_antisymm <;> omega) | omega)⟩
      rw [ek] at h ⊢
      obtain ⟨x, r2, e1, h1, h2, h3⟩ := h
      injection e1 with e3 e4
      have ez : oc.toNatClampNeg - 1 = k := by (first | (apply Int.le_antisymm <;> omega) | omega)
      rw [ez] at c11
      have zt := i32_clamp (x := go k) h1.1
      subst eo; subst c3; subst c11
      refine ⟨5, r', rfl, by (first | (apply Int.le_antisymm <;> omega) | omega), fun z => absurd z (by decide), ?_⟩
      rw [e4]
      exact oS_ext h3 (fun j hj => ⟨pk_un (by (first | (apply Int.le_antisymm <;> omega) | omega)), by rw [pk_un (by (first | (apply Int.le_antisymm <;> omega) | omega)), pk_un (by (first | (apply Int.le_antisymm <;> omega) | omega))]⟩) (fun j _ => rfl)
    · cases hd
  · unfold d1 at hd
    rw [if_neg (by dsimp only; (first | (apply Int.le_antisymm <;> omega) | omega)), if_neg (by dsimp only; (first | (apply Int.le_antisymm <;> omega) | omega)), if_pos (by dsimp only; (first | (apply Int.le_antisymm <;> omega) | omega))] at hd
    obtain ⟨w1, w2, -⟩ := c7 hr
    split at hd
    · have e := Option.some.inj hd
      rw [show oc2.toNatClampNeg = oc.toNatClampNeg - 1 from by have := i32_clamp (x := oc2) (by (first | (apply Int.le_antisymm <;> omega) | omega)); (first | (apply Int.le_antisymm <;> omega) | omega), ← e]
      obtain ⟨k, ek⟩ : ∃ k, oc.toNatClampNeg = k + 1 := ⟨oc.toNatClampNeg - 1, by (first | (apply Int.le_antisymm <;> omega) | omega)⟩
      rw [ek] at h ⊢
      obtain ⟨x, r2, e1, h1, h2, h3⟩ := h
      injection e1 with e3 e4
      subst eo; subst c1; subst c4
      rw [show k + 1 - 1 = k from by (first | (apply Int.le_antisymm <;> omega) | omega), e4]
      exact oS_mono (oS_ext h3 (fun j hj => ⟨pk_un (by (first | (apply Int.le_antisymm <;> omega) | omega)), pk_un (by (first | (apply Int.le_antisymm <;> omega) | omega))⟩) (fun j _ => rfl)) (by (first | (apply Int.le_antisymm <;> omega) | omega))
    · cases hd
  · exact keep (g2 := go) c7 c3 c2 (Option.some.inj ((d1_0 (by dsimp only; (first | (apply Int.le_antisymm <;> omega) | omega))).symm.trans hd)).symm
  · exact absurd (ho ▸ c0) hn
  · exact keep (g2 := go) c7 c3 c2 (Option.some.inj ((d1_0 (by dsimp only; (first | (apply Int.le_antisymm <;> omega) | omega))).symm.trans hd)).symm
  · exact keep (g2 := go) c7 c3 c2 (Option.some.inj ((d1_0 (by dsimp only; (first | (apply Int.le_antisymm <;> omega) | omega))).symm.trans hd)).symm
  · exact keep (g2 := go) c6 c3 c2 (Option.some.inj ((d1_0 (by dsimp only; (first | (apply Int.le_antisymm <;> omega) | omega))).symm.trans hd)).symm
theorem rs_va (st_ : rstep cl o oc lc r oc2 lc2 gop gpt gel glb go gop2 gpt2 gel2 glb2 go2 gva gva2) : ∀ j, j ≠ cl.toNatClampNeg → gop2 j = gop j ∧ gva2 j = gva j := by
  intro j hj
  obtain ⟨eo, st_⟩ := st_
  refine ⟨by rw [eo, pk_un hj], ?_⟩
  rcases st_ with ⟨-, -, -, -, -, -, -, -, -, v, -, e⟩ | ⟨-, -, -, -, -, -, -, e, -⟩ | ⟨-, -, -, -, -, e, -⟩ | ⟨-, -, -, -, -, -, -, -, v, -, -, e⟩ | ⟨-, -, -, -, -, b, x, -, -, -, -, e, -⟩ | ⟨-, -, -, -, -, -, -, -, e⟩ | ⟨-, -, -, -, -, -, -, -, v, e⟩ | ⟨-, -, -, -, -, -, -, b, x, -, -, -, -, e⟩
  all_goals
    rw [e]
    simp only [uL_un hj]
theorem rs_el (st_ : rstep cl o oc lc r oc2 lc2 gop gpt gel glb go gop2 gpt2 gel2 glb2 go2 gva gva2) (h : ∀ j : Nat, (gel j).toInt < 5000) (hc : cl.toInt < 5000) : ∀ j : Nat, (gel2 j).toInt < 5000 := by
  obtain ⟨-, st_⟩ := st_
  have k : ∀ j : Nat, (upd gel cl.toNatClampNeg (-1) j).toInt < 5000 := upd_lt h (by decide)
  rcases st_ with ⟨-, -, -, -, -, -, -, -, e, -⟩ | ⟨-, -, -, -, -, -, -, -, -, -, -, e⟩ | ⟨-, -, -, -, e, -⟩ | ⟨-, -, -, -, -, -, -, e, -⟩ | ⟨-, -, -, -, e, -⟩ | ⟨-, -, -, -, -, -, -, e, -⟩ | ⟨-, -, -, -, -, -, -, e, -⟩ | ⟨-, -, -, -, -, -, e, -⟩
  all_goals rw [e]
  all_goals first | exact k | exact upd_lt k hc
end OS
/-- the instructions from n0 on are these -/
def mtc (gop : Nat → Int32) (gva : Nat → Int64) (n0 : Nat) (D : List ci) : Prop := ∀ (i : Nat) (x : ci), D[i]? = some x → (gop (n0 + i)).toInt = x.1 ∧ (x.1 ≠ 65 → x.1 ≠ 66 → ¬ (x.1 = 40 ∨ x.1 = 41 ∨ x.1 = 44 ∨ x.1 = 45 ∨ x.1 = 54 ∨ x.1 = 55 ∨ x.1 = 58) → (gva (n0 + i)).toInt = x.2)
theorem mtc_snoc {gop gop2 : Nat → Int32} {gva gva2 : Nat → Int64} {n0 n : Nat} {D : List ci} {x : ci} (h : mtc gop gva n0 D) (hn : n = n0 + D.length) (he : ∀ j, j ≠ n → gop2 j = gop j ∧ gva2 j = gva j) (h1 : (gop2 n).toInt = x.1) (h2 : x.1 ≠ 65 → x.1 ≠ 66 → ¬ (x.1 = 40 ∨ x.1 = 41 ∨ x.1 = 44 ∨ x.1 = 45 ∨ x.1 = 54 ∨ x.1 = 55 ∨ x.1 = 58) → (gva2 n).toInt = x.2) : mtc gop2 gva2 n0 (D ++ [x]) := by
  intro i y hy
  rcases Nat.lt_or_ge i D.length with w | w
  · rw [List.getElem?_append_left w] at hy
    have q := he (n0 + i) (by (first | (apply Int.le_antisymm <;> omega) | omega))
    rw [q.1, q.2]
    exact h i y hy
  · rw [List.getElem?_append_right w] at hy
    have z : i = D.length := by
      rcases Nat.lt_or_ge (i - D.length) 1 with q | q
      · (first | (apply Int.le_antisymm <;> omega) | omega)
      · rw [List.getElem?_eq_none (by rw [List.length_singleton]; exact q)] at hy
        cases hy
    subst z
    rw [Nat.sub_self] at hy
    have e : x = y := by simpa using hy
    subst e
    rw [← hn]
    exact ⟨h1, h2⟩
/-- k instructions are read, more are to come -/
def cdI (gax gop gel go : Nat → Int32) (gva : Nat → Int64) (l : List ci) (n0 k a oc : Nat) (n E : Int) : Prop :=
  ∃ (D T : List ci) (st : List Nat), l = D ++ T ∧ D.length = k ∧ bq gax a (enl (T ++ [(11, 0)])) ∧ (a : Int) + ((enl (T ++ [(11, 0)])).length : Int) = E ∧ dl T st = some [] ∧ oS gop gel go oc n st ∧ mtc gop gva n0 D ∧ iokl T
theorem dl_hd {x : ci} {l : List ci} {a b : List Nat} (h : dl (x :: l) a = some b) : ∃ c, d1 x a = some c ∧ dl l c = some b := by
  cases e : d1 x a with
  | none =>
    have h : (match d1 x a with | some c => dl l c | none => none) = some b := h
    rw [e] at h
    cases h
  | some c =>
    rw [dl_go e] at h
    exact ⟨c, rfl, h⟩
theorem cd_hd {gax gop gel go : Nat → Int32} {gva : Nat → Int64} {l : List ci} {n0 k a : Nat} {oc : Int32} {n E : Int} (hoc : 0 ≤ oc.toInt) (h : cdI gax gop gel go gva l n0 k a oc.toNatClampNeg n E) : ∃ (o v : Int), iok (o, v) ∧ bq gax a (en (o, v)) ∧ (a : Int) + ((en (o, v)).length : Int) ≤ E ∧ (o = 2 ∨ o = 3 ∨ o = 4 → oc.toInt < 100) ∧ (o = 5 → 0 < oc.toInt ∧ (gop (go (oc.toNatClampNeg - 1)).toNatClampNeg).toInt = 4 ∧ (gel (go (oc.toNatClampNeg - 1)).toNatClampNeg).toInt < 0) ∧ (∀ j : Nat, (j : Int) < oc.toInt → 0 ≤ (go j).toInt ∧ (go j).toInt < n) ∧ k ≤ l.length ∧
    ((k < l.length ∧ (o = 11 → 0 < oc.toInt)) ∨ (k = l.length ∧ o = 11 ∧ oc.toInt = 0)) ∧
    (∀ (cl o2 lc r oc2 lc2 : Int32) (gpt glb gop2 gpt2 gel2 glb2 go2 : Nat → Int32) (gva2 : Nat → Int64), 0 ≤ cl.toInt → oc.toInt ≤ 100 → cl.toInt = n → cl.toNatClampNeg = n0 + k → o2.toInt = o → (r.toInt = 0 ↔ o = 11 ∧ oc.toInt = 0) → (r.toInt = 0 ∨ r.toInt = 1) → rstep cl o2 oc lc r oc2 lc2 gop gpt gel glb go gop2 gpt2 gel2 glb2 go2 gva gva2 → (o ≠ 65 → o ≠ 66 → ¬ (o = 40 ∨ o = 41 ∨ o = 44 ∨ o = 45 ∨ o = 54 ∨ o = 55 ∨ o = 58) → (gva2 cl.toNatClampNeg).toInt = v) →
      (r.toInt = 1 → cdI gax gop2 gel2 go2 gva2 l n0 (k + 1) (a + (en (o, v)).length) oc2.toNatClampNeg (n + 1) E) ∧ (r.toInt = 0 → k = l.length ∧ mtc gop2 gva2 n0 (l ++ [(11, 0)]) ∧ (a : Int) + ((en (o, v)).length : Int) = E)) := by
  obtain ⟨D, T, st, e1, e2, e3, e4, e5, e6, e7, e8⟩ := h
  have zo := i32_clamp (x := oc) hoc
  have hlen := oS_len e6
  have hgo := oS_go e6
  cases T with
  | nil =>
    have est : st = [] := Option.some.inj e5
    subst est
    have o0 : oc.toInt = 0 := by rw [List.length_nil] at hlen; (first | (apply Int.le_antisymm <;> omega) | omega)
    rw [List.nil_append, enl_one] at e3 e4
    rw [List.append_nil] at e1
    refine ⟨11, 0, by simp [iok, two], e3, by (first | (apply Int.le_antisymm <;> omega) | omega), fun z => by (first | (apply Int.le_antisymm <;> omega) | omega), fun z => by (first | (apply Int.le_antisymm <;> omega) | omega), fun j hj => by (first | (apply Int.le_antisymm <;> omega) | omega), by rw [e1]; (first | (apply Int.le_antisymm <;> omega) | omega), Or.inr ⟨by rw [e1]; exact e2.symm, rfl, o0⟩, ?_⟩
    intro cl o2 lc r oc2 lc2 gpt glb gop2 gpt2 gel2 glb2 go2 gva2 z1 z2 z3 z4 z5 z6 z7 z8 z9
    have r0 : r.toInt = 0 := z6.mpr ⟨rfl, o0⟩
    refine ⟨fun z => by (first | (apply Int.le_antisymm <;> omega) | omega), fun _ => ⟨by rw [e1]; exact e2.symm, ?_, e4⟩⟩
    rw [e1]
    exact mtc_snoc e7 (by rw [e2]; exact z4) (rs_va z8) (by rw [z8.1, pk_us]; exact z5) z9
  | cons x T =>
    obtain ⟨o, v⟩ := x
    obtain ⟨st2, d1e, d2e⟩ := dl_hd e5
    have e3' : bq gax a (en (o, v) ++ enl (T ++ [(11, 0)])) := e3
    obtain ⟨b1, b2⟩ := bq_app e3'
    have e4' : (a : Int) + (((en (o, v)).length : Int) + ((enl (T ++ [(11, 0)])).length : Int)) = E := by
      have : (enl ((o, v) :: T ++ [(11, 0)])).length = (en (o, v)).length + (enl (T ++ [(11, 0)])).length := List.length_append
      (first | (apply Int.le_antisymm <;> omega) | omega)
    have hk : k < l.length := by rw [e1, List.length_append, List.length_cons]; (first | (apply Int.le_antisymm <;> omega) | omega)
    have q5 : o = 5 → 0 < oc.toInt ∧ (gop (go (oc.toNatClampNeg - 1)).toNatClampNeg).toInt = 4 ∧ (gel (go (oc.toNatClampNeg - 1)).toNatClampNeg).toInt < 0 := by
      intro z
      subst z
      unfold d1 at d1e
      rw [if_neg (by dsimp only; (first | (apply Int.le_antisymm <;> omega) | omega)), if_pos rfl] at d1e
      split at d1e
      · rename_i r'
        obtain ⟨m, em⟩ : ∃ m, oc.toNatClampNeg = m + 1 := ⟨oc.toNatClampNeg - 1, by rw [List.length_cons] at hlen; (first | (apply Int.le_antisymm <;> omega) | omega)⟩
        rw [em] at e6
        obtain ⟨x, r2, f1, f2, f3, f4⟩ := e6
        injection f1 with f5 f6
        rw [show oc.toNatClampNeg - 1 = m from by (first | (apply Int.le_antisymm <;> omega) | omega)]
        exact ⟨by (first | (apply Int.le_antisymm <;> omega) | omega), f3 f5.symm⟩
      · cases d1e
    have q11 : o = 11 → 0 < oc.toInt := by
      intro z
      subst z
      unfold d1 at d1e
      rw [if_neg (by dsimp only; (first | (apply Int.le_antisymm <;> omega) | omega)), if_neg (by dsimp only; (first | (apply Int.le_antisymm <;> omega) | omega)), if_pos rfl] at d1e
      split at d1e
      · rw [List.length_cons] at hlen; (first | (apply Int.le_antisymm <;> omega) | omega)
      · cases d1e
    have q2 : o = 2 ∨ o = 3 ∨ o = 4 → oc.toInt < 100 := by
      intro z
      unfold d1 at d1e
      rw [if_pos z] at d1e
      split at d1e
      · (first | (apply Int.le_antisymm <;> omega) | omega)
      · cases d1e
    refine ⟨o, v, e8.1, b1, by (first | (apply Int.le_antisymm <;> omega) | omega), q2, q5, fun j hj => hgo j (by (first | (apply Int.le_antisymm <;> omega) | omega)), by (first | (apply Int.le_antisymm <;> omega) | omega), Or.inl ⟨hk, q11⟩, ?_⟩
    intro cl o2 lc r oc2 lc2 gpt glb gop2 gpt2 gel2 glb2 go2 gva2 z1 z2 z3 z4 z5 z6 z7 z8 z9
    have n14 : o ≠ 14 := by have h := e8.1; unfold iok two at h; dsimp only at h; (first | (apply Int.le_antisymm <;> omega) | omega)
    refine ⟨fun z => ?_, fun z => ?_⟩
    · subst z3
      exact ⟨D ++ [(o, v)], T, st2, by rw [e1, List.append_assoc]; rfl, by rw [List.length_append, List.length_singleton, e2], b2, by (first | (apply Int.le_antisymm <;> omega) | omega), d2e, oS_step z1 ⟨hoc, z2⟩ e6 z5 d1e z n14 z8, mtc_snoc e7 (by rw [e2]; exact z4) (rs_va z8) (by rw [z8.1, pk_us]; exact z5) z9, e8.2⟩
    · have w := z6.mp z
      have := q11 w.1
      (first | (apply Int.le_antisymm <;> omega) | omega)
abbrev at_RE_readCodex (dC : Nat → ClassId) (dI : Nat → Nat → Nat) (h0 aw ac ob ab wat wap wag waf wgt wft wfv wgc wek wei wes wez ax cfi clk clt cop cva cpt cel cla : Nat) (cax cob ccfi cclk cclt ccop ccva ccpt ccel : ClassId) (h0_codeCount : Int32) (aw_typeCount : Int32) (aw_functionCount : Int32) (aw_hasMemory : Int32) (aw_pagesLeast : Int64) (aw_pagesMost : Int64) (aw_globalCount : Int32) (aw_exportCount : Int32) (ab_length : Int32) (ac_labelCount : Int32) (gax : Nat → Int32) (A : Nat → Prop) (u : (Nat → Int32) × (Nat → Int32) × (Nat → Int32) × (Nat → Int32) × (Nat → Int32) × (Nat → Int32) × (Nat → Int64) × (Nat → Int32) × Int32 × Int32 × Int32 × Int32 × Int32) (t : State) : Prop := match u with | (gcel, gcfi, gclk, gclt, gcop, gcpt, gcva, gob, ac_length, h0_at, h0_limit, h0_openCount, h0_sound) => va_P (dC, dI) cls (wz_244 h0 aw ac h0_at h0_limit h0_sound h0_codeCount ob h0_openCount aw ab ac aw_typeCount wat wap wag aw_functionCount waf aw_hasMemory aw_pagesLeast aw_pagesMost aw_globalCount wgt wft wfv wgc aw_exportCount wek wei wes wez ab ax ab_length ac cfi clk clt ac_length cop cva cpt cel ac_labelCount cla ax cax gax ob cob gob cfi ccfi gcfi clk cclk gclk clt cclt gclt cop ccop gcop cva ccva gcva cpt ccpt gcpt cel ccel gcel) t.heap ∧ va_K (dC, dI) cls [(cax, .byte), (cob, .int), (ccfi, .int), (cclk, .int), (cclt, .int), (ccop, .int), (ccva, .long), (ccpt, .int), (ccel, .int)] t ∧ va_D A (wz_244 h0 aw ac h0_at h0_limit h0_sound h0_codeCount ob h0_openCount aw ab ac aw_typeCount wat wap wag aw_functionCount waf aw_hasMemory aw_pagesLeast aw_pagesMost aw_globalCount wgt wft wfv wgc aw_exportCount wek wei wes wez ab ax ab_length ac cfi clk clt ac_length cop cva cpt cel ac_labelCount cla ax cax gax ob cob gob cfi ccfi gcfi clk cclk gclk clt cclt gclt cop ccop gcop cva ccva gcva cpt ccpt gcpt cel ccel gcel)
set_option maxHeartbeats 4000000 in
set_option maxRecDepth 100000 in
theorem c_RE_readCodex (l : Launch) (dC : Nat → ClassId) (dI : Nat → Nat → Nat) (sz : Nat) (h0 aw ac ob ab wat wap wag waf wgt wft wfv wgc wek wei wes wez ax cfi clk clt cop cva cpt cel cla : Nat) (cax cob ccfi cclk cclt ccop ccva ccpt ccel : ClassId) (h0_at : Int32) (h0_limit : Int32) (h0_sound : Int32) (h0_codeCount : Int32) (h0_openCount : Int32) (aw_typeCount : Int32) (aw_functionCount : Int32) (aw_hasMemory : Int32) (aw_pagesLeast : Int64) (aw_pagesMost : Int64) (aw_globalCount : Int32) (aw_exportCount : Int32) (ab_length : Int32) (ac_length : Int32) (ac_labelCount : Int32) (gax : Nat → Int32) (gob : Nat → Int32) (gcfi : Nat → Int32) (gclk : Nat → Int32) (gclt : Nat → Int32) (gcop : Nat → Int32) (gcva : Nat → Int64) (gcpt : Nat → Int32) (gcel : Nat → Int32) (gR : List (Nat × Nat)) (gl9 : List ci)  (b_h0_sound : h0_sound = 0 ∨ h0_sound = 1) (b_h0_openCount : 0 ≤ h0_openCount.toInt ∧ h0_openCount.toInt ≤ 100) (b_ac_length : 0 ≤ ac_length.toInt ∧ ac_length.toInt ≤ 5000) (b_ac_labelCount : 0 ≤ ac_labelCount.toInt ∧ ac_labelCount.toInt ≤ 2000) (p0 : Int32)  (hs : h0_sound.toInt = 1) (ha : 0 ≤ h0_at.toInt ∧ h0_limit.toInt ≤ ab_length.toInt ∧ ab_length.toInt ≤ 8192) (hp : 0 ≤ p0.toInt ∧ p0.toInt < 30) (hrk : bx (rok gR)) (hrl : (rsum gR : Int) ≤ 50 ∧ gR.length ≤ 50) (hdl : bx (dl gl9 [] = some [])) (hio : bx (iokl gl9)) (hbq : bx (bq gax h0_at.toNatClampNeg (leb 5 ((gR.length :: rb gR).length + (enl (gl9 ++ [(11, 0)])).length) ++ ((gR.length :: rb gR) ++ enl (gl9 ++ [(11, 0)]))))) (hlm : h0_at.toInt + (((leb 5 ((gR.length :: rb gR).length + (enl (gl9 ++ [(11, 0)])).length) ++ ((gR.length :: rb gR) ++ enl (gl9 ++ [(11, 0)])))).length : Int) ≤ h0_limit.toInt) (hcl : ac_length.toInt + (gl9.length : Int) + 1 ≤ 5000) (hel : bx (∀ j : Nat, (gcel j).toInt < 5000)) : Met l y_RE_readCode w_RE_readCode ({ frames := 4, cells := 0, slots := 0, locals := 90 }) (va_Pc [.ref h0, .int p0] (fun U => U.heap.size = sz ∧ va_P (dC, dI) cls (wz_244 h0 aw ac h0_at h0_limit h0_sound h0_codeCount ob h0_openCount aw ab ac aw_typeCount wat wap wag aw_functionCount waf aw_hasMemory aw_pagesLeast aw_pagesMost aw_globalCount wgt wft wfv wgc aw_exportCount wek wei wes wez ab ax ab_length ac cfi clk clt ac_length cop cva cpt cel ac_labelCount cla ax cax gax ob cob gob cfi ccfi gcfi clk cclk gclk clt cclt gclt cop ccop gcop cva ccva gcva cpt ccpt gcpt cel ccel gcel) U.heap ∧ va_K (dC, dI) cls [(cax, .byte), (cob, .int), (ccfi, .int), (cclk, .int), (cclt, .int), (ccop, .int), (ccva, .long), (ccpt, .int), (ccel, .int)] U ∧ va_D (fun _ => True) (wz_244 h0 aw ac h0_at h0_limit h0_sound h0_codeCount ob h0_openCount aw ab ac aw_typeCount wat wap wag aw_functionCount waf aw_hasMemory aw_pagesLeast aw_pagesMost aw_globalCount wgt wft wfv wgc aw_exportCount wek wei wes wez ab ax ab_length ac cfi clk clt ac_length cop cva cpt cel ac_labelCount cla ax cax gax ob cob gob cfi ccfi gcfi clk cclk gclk clt cclt gclt cop ccop gcop cva ccva gcva cpt ccpt gcpt cel ccel gcel))) (va_Qv (fun (u : (Nat → Int32) × (Nat → Int32) × (Nat → Int32) × (Nat → Int32) × (Nat → Int32) × (Nat → Int32) × (Nat → Int64) × (Nat → Int32) × Int32 × Int32 × Int32 × Int32 × Int32) => match u with | (gcel2, gcfi2, gclk2, gclt2, gcop2, gcpt2, gcva2, gob2, ac_length2, h0_at2, h0_limit2, h0_openCount2, h0_sound2) => (0 ≤ ac_length2.toInt ∧ ac_length2.toInt ≤ 5000) ∧ (0 ≤ h0_openCount2.toInt ∧ h0_openCount2.toInt ≤ 100) ∧ (h0_sound2 = 0 ∨ h0_sound2 = 1) ∧ (h0_at2.toInt = h0_at.toInt + (((leb 5 ((gR.length :: rb gR).length + (enl (gl9 ++ [(11, 0)])).length) ++ ((gR.length :: rb gR) ++ enl (gl9 ++ [(11, 0)])))).length : Int) ∧ h0_limit2.toInt = h0_limit.toInt ∧ h0_sound2.toInt = 1 ∧ ac_length2.toInt = ac_length.toInt + (gl9.length : Int) + 1 ∧ gcfi2 = upd (upd gcfi p0.toNatClampNeg ac_length) (p0.toNatClampNeg + 1) ac_length2 ∧ (∀ j : Nat, ((j : Int) < 60 * p0.toInt ∨ 60 * p0.toInt + 60 ≤ (j : Int)) → gclt2 j = gclt j) ∧ ∃ t : Int32, t.toInt = (rsum gR : Int) ∧ gclk2 = upd gclk p0.toNatClampNeg t ∧ (∀ j : Nat, (60 * p0.toInt ≤ (j : Int) ∧ (j : Int) < 60 * p0.toInt + t.toInt) → (gclt2 j).toInt = 127 ∨ (gclt2 j).toInt = 126) ∧ mtc gcop2 gcva2 ac_length.toNatClampNeg (gl9 ++ [(11, 0)]) ∧ rc_fin ac_length.toNatClampNeg ac_length2.toNatClampNeg gcop2 gcpt2 gcel2 gcva2 ac_labelCount.toInt ∧ rc_same ac_length.toNatClampNeg gcop gcpt gcel gcop2 gcpt2 gcel2 gcva gcva2 ∧ (∀ j : Nat, (gcel2 j).toInt < 5000))) (at_RE_readCodex dC dI h0 aw ac ob ab wat wap wag waf wgt wft wfv wgc wek wei wes wez ax cfi clk clt cop cva cpt cel cla cax cob ccfi cclk cclt ccop ccva ccpt ccel h0_codeCount aw_typeCount aw_functionCount aw_hasMemory aw_pagesLeast aw_pagesMost aw_globalCount aw_exportCount ab_length ac_labelCount gax (va_A (wz_244 h0 aw ac h0_at h0_limit h0_sound h0_codeCount ob h0_openCount aw ab ac aw_typeCount wat wap wag aw_functionCount waf aw_hasMemory aw_pagesLeast aw_pagesMost aw_globalCount wgt wft wfv wgc aw_exportCount wek wei wes wez ab ax ab_length ac cfi clk clt ac_length cop cva cpt cel ac_labelCount cla ax cax gax ob cob gob cfi ccfi gcfi clk cclk gclk clt cclt gclt cop ccop gcop cva ccva gcva cpt ccpt gcpt cel ccel gcel) sz)) (va_A (wz_244 h0 aw ac h0_at h0_limit h0_sound h0_codeCount ob h0_openCount aw ab ac aw_typeCount wat wap wag aw_functionCount waf aw_hasMemory aw_pagesLeast aw_pagesMost aw_globalCount wgt wft wfv wgc aw_exportCount wek wei wes wez ab ax ab_length ac cfi clk clt ac_length cop cva cpt cel ac_labelCount cla ax cax gax ob cob gob cfi ccfi gcfi clk cclk gclk clt cclt gclt cop ccop gcop cva ccva gcva cpt ccpt gcpt cel ccel gcel) sz)) 0 0 (va_A (wz_244 h0 aw ac h0_at h0_limit h0_sound h0_codeCount ob h0_openCount aw ab ac aw_typeCount wat wap wag aw_functionCount waf aw_hasMemory aw_pagesLeast aw_pagesMost aw_globalCount wgt wft wfv wgc aw_exportCount wek wei wes wez ab ax ab_length ac cfi clk clt ac_length cop cva cpt cel ac_labelCount cla ax cax gax ob cob gob cfi ccfi gcfi clk cclk gclk clt cclt gclt cop ccop gcop cva ccva gcva cpt ccpt gcpt cel ccel gcel) sz) := by
  refine Met.ofW (cc := b_RE_readCode) (maxL := 6) (ret := none) (by decide) rfl ?_
  intro p e s m args below meth c s₁ B hml hv
  obtain ⟨rfl, hsz, hP, hK, hD0⟩ := hv
  have hx := B.exec
  have hb := B.bytes
  have hr := B.returns
  have hts0 := atoms_spec (ws := w_RE_readCode) B.pre
  have hts : ∀ w ∈ lw_g, w.before _ s = true := fun w h => hts0 w (List.mem_cons_of_mem _ h)
  have hown : s.vm.findClass R_RE = some m.cls := findClass_of_methodNamed B.named
  have hlocks := B.notSynchronized
  clear hts0
  subst hsz
  have hD := hD0.self (sz := s.heap.size)
  generalize hAe : va_A (wz_244 h0 aw ac h0_at h0_limit h0_sound h0_codeCount ob h0_openCount aw ab ac aw_typeCount wat wap wag aw_functionCount waf aw_hasMemory aw_pagesLeast aw_pagesMost aw_globalCount wgt wft wfv wgc aw_exportCount wek wei wes wez ab ax ab_length ac cfi clk clt ac_length cop cva cpt cel ac_labelCount cla ax cax gax ob cob gob cfi ccfi gcfi clk cclk gclk clt cclt gclt cop ccop gcop cva ccva gcva cpt ccpt gcpt cel ccel gcel) s.heap.size = A at hD ⊢
  have hA : ∀ q : Nat, s.heap.size ≤ q → A q := fun q h => by rw [← hAe]; exact Or.inr h
  clear hAe
  have hP : va_P (dC, dI) cls (wz_244 h0 aw ac h0_at h0_limit h0_sound h0_codeCount ob h0_openCount aw ab ac aw_typeCount wat wap wag aw_functionCount waf aw_hasMemory aw_pagesLeast aw_pagesMost aw_globalCount wgt wft wfv wgc aw_exportCount wek wei wes wez ab ax ab_length ac cfi clk clt ac_length cop cva cpt cel ac_labelCount cla ax cax gax ob cob gob cfi ccfi gcfi clk cclk gclk clt cclt gclt cop ccop gcop cva ccva gcva cpt ccpt gcpt cel ccel gcel) s.heap := hP
  have hl := lv_entry ([.ref h0, .int p0]) (n := 6) (Nat.le_of_ble_eq_true rfl)
  rw [lg_entry_eq]
  generalize (lg_sl ([.ref h0, .int p0]) ++ List.replicate (6 - (lg_sl ([.ref h0, .int p0])).length) Slot.unset).toArray = ls at hl ⊢
  have hl : lv_has ls 6 [(0, .ref h0), (1, .int p0)] := hl
  have k0 : (0 : Int32).toInt = 0 := by decide
  refine w_gen (A := A) hP (fun H locs hP hS => ?_)
  have k1 : (1 : Int32).toInt = 1 := by decide
  have k5000 : (5000 : Int32).toInt = 5000 := by decide
  have lo_p0 := i32_lo p0
  have hi_p0 := i32_hi p0
  have th0_sound := b01 b_h0_sound
  have za := i32_clamp (x := h0_at) (by (first | (apply Int.le_antisymm <;> omega) | omega))
  have zp := i32_clamp (x := p0) (by (first | (apply Int.le_antisymm <;> omega) | omega))
  have zn := i32_clamp (x := ac_length) (by (first | (apply Int.le_antisymm <;> omega) | omega))
  have l0 : (gR.length :: rb gR).length = 1 + 2 * gR.length := by rw [List.length_cons, rb_len]; (first | (apply Int.le_antisymm <;> omega) | omega)
  obtain ⟨qn9, hqn9⟩ : ∃ m, m = ((leb 5 ((gR.length :: rb gR).length + (enl (gl9 ++ [(11, 0)])).length) ++ ((gR.length :: rb gR) ++ enl (gl9 ++ [(11, 0)])))).length := ⟨_, rfl⟩
  have lE : (qn9 : Int) = ((leb 5 ((gR.length :: rb gR).length + (enl (gl9 ++ [(11, 0)])).length)).length : Int) + ((gR.length :: rb gR).length + (enl (gl9 ++ [(11, 0)])).length) := by rw [hqn9, List.length_append, List.length_append]; (first | (apply Int.le_antisymm <;> omega) | omega)
  rw [← hqn9] at hlm
  have b7 := bq_app hbq.out
  have b8 := bq_app b7.2
  replace b7 := b7.1
  replace b7 : bx _ := b7
  have b9 := b8.2
  replace b8 := b8.1
  replace b8 : bx _ := b8
  replace b9 : bx _ := b9
  have lv9 := leb_len 5 ((gR.length :: rb gR).length + (enl (gl9 ++ [(11, 0)])).length)
  obtain ⟨m9, hm9⟩ : ∃ m, m = (enl (gl9 ++ [(11, 0)])).length := ⟨_, rfl⟩
  obtain ⟨s9, hs9⟩ : ∃ m, m = ((gR.length :: rb gR).length + (enl (gl9 ++ [(11, 0)])).length) := ⟨_, rfl⟩
  rw [← hs9] at lE lv9 b7 b8 b9
  rw [← hm9] at hs9
  refine lv_aload_n hx hb d_RE_readCode_0 rfl (lv_at hl 0 rfl) ?_
  refine va_get (D := (dC, dI)) (ci := 7) (v := .int h0_limit) (C := R_RE) (T := F_RE) (N := 8) hx hb hts i_RE hown hK hP 0 rfl rfl 3 (by decide) (hts _ kF_RE_42) (fun _ h9 => h9) rfl d_RE_readCode_1 ?_
  refine lv_istore_n (lv' := [(2, .int h0_limit), (0, .ref h0), (1, .int p0)]) hx hb d_RE_readCode_4 rfl hl (by decide) rfl (fun ls hl => ?_)
  refine lv_aload_n hx hb d_RE_readCode_5 rfl (lv_at hl 1 rfl) ?_
  refine lv_aload_n hx hb d_RE_readCode_6 rfl (lv_at hl 1 rfl) ?_
  refine va_get (D := (dC, dI)) (ci := 7) (v := .ref aw) (C := R_RE) (T := F_RE) (N := 8) hx hb hts i_RE hown hK hP 0 rfl rfl 0 (by decide) (hts _ kF_RE_15) (fun _ h9 => h9) rfl d_RE_readCode_7 ?_
  refine va_get (D := (dC, dI)) (ci := 10) (v := .ref ab) (C := R_WA) (T := F_WA) (N := 21) hx hb hts i_WA hown hK hP 1 rfl rfl 0 (by decide) (hts _ kF_RE_33) (fun _ h9 => h9) rfl d_RE_readCode_10 ?_
  refine va_get (D := (dC, dI)) (ci := 1) (v := .int ab_length) (C := R_BR) (T := F_BR) (N := 2) hx hb hts i_BR hown hK hP 2 rfl rfl 1 (by decide) (hts _ kF_RE_37) (fun _ h9 => h9) rfl d_RE_readCode_13 ?_
  refine lv_i2l hx hb d_RE_readCode_16 rfl ?_
  refine lv_topl (fun x1 ex1 => ?_)
  have tx1 := i2l_t ex1
  have hPc := hP.sb (wq := (wz_46 h0 aw ac h0_at h0_limit h0_sound h0_codeCount ob h0_openCount aw ab ac aw_typeCount wat wap wag aw_functionCount waf aw_hasMemory aw_pagesLeast aw_pagesMost aw_globalCount wgt wft wfv wgc aw_exportCount wek wei wes wez ab ax ab_length ax cax gax)) [0, 1, 2, 4] rfl
  have hDc := hD.sb (wq := (wz_46 h0 aw ac h0_at h0_limit h0_sound h0_codeCount ob h0_openCount aw ab ac aw_typeCount wat wap wag aw_functionCount waf aw_hasMemory aw_pagesLeast aw_pagesMost aw_globalCount wgt wft wfv wgc aw_exportCount wek wei wes wez ab ax ab_length ax cax gax)) [0, 1, 2, 4] (by decide) rfl
  have hKc := hK.sb (tyq := [(cax, .byte)]) [0] rfl
  have hFc := va_free (wc := (wz_46 h0 aw ac h0_at h0_limit h0_sound h0_codeCount ob h0_openCount aw ab ac aw_typeCount wat wap wag aw_functionCount waf aw_hasMemory aw_pagesLeast aw_pagesMost aw_globalCount wgt wft wfv wgc aw_exportCount wek wei wes wez ab ax ab_length ax cax gax)) hD hS hA [0, 1, 2, 4] rfl
  refine va_calll (va_runV (As := [.long x1]) (rest := []) ⟨hx, hb, hml, hown, hts⟩ (c_RE_readUnsignedx l dC dI H.size h0 aw ac ob ab wat wap wag waf wgt wft wfv wgc wek wei wes wez ax cax h0_at h0_limit h0_sound h0_codeCount h0_openCount aw_typeCount aw_functionCount aw_hasMemory aw_pagesLeast aw_pagesMost aw_globalCount aw_exportCount ab_length gax s9 (b_h0_sound) x1 (by (first | (apply Int.le_antisymm <;> omega) | omega)) (by (first | (apply Int.le_antisymm <;> omega) | omega)) (by (first | (apply Int.le_antisymm <;> omega) | omega)) (b7.out) (by (first | (apply Int.le_antisymm <;> omega) | omega))) (cwV 1 hts (gV kM_RE_64 kV_RE_readUnsigned kS_RE_readUnsigned kI_RE kC_RE_readUnsigned) rfl rfl rfl (by decide +kernel) ⟨Nat.le_of_ble_eq_true rfl, Nat.le_of_ble_eq_true rfl⟩) ⟨fun a U g mk z => by obtain ⟨z0, z1, zP, zK, zD⟩ := z; exact ⟨z0, z1, zP, va_K.moved (u := U) (U := U.calling g mk a) (Vm.Alike.refl U.vm) zK, zD⟩, va_recv hKc hPc (ci := 7) (q0 := 0) rfl rfl, fun U hU hW => ⟨rfl, by rw [hU], va_P.he hU.symm hPc, va_K.moved hW.alike hKc, hDc.weaken (fun _ _ _ _ => trivial)⟩⟩ rfl rfl hl.1 rfl (lv_room (Nat.le_of_ble_eq_true rfl)) d_RE_readCode_17 ⟨(Nat.zero_le _), (Nat.zero_le _)⟩) hS (fun q _ h => hFc q h) hFc (fun r2 u t H1 locs ht hvm hw hB hz1 hk1 hS => ?_)
  obtain ⟨n3, n4⟩ := u
  try dsimp only at hw
  obtain ⟨bn4, xr2⟩ := hw
  try clear hw
  have tn4 := b01 bn4
  have z17 := i32_clamp (x := n3) (by (first | (apply Int.le_antisymm <;> omega) | omega))
  obtain ⟨hP1, hK1, hD1⟩ := hB
  replace hP1 := va_P.he ht hP1
  obtain ⟨hP, hD⟩ := va_join (wr := [(ac, .inr (3, [.ref cfi, .ref clk, .ref clt, .int ac_length, .ref cop, .ref cva, .ref cpt, .ref cel, .int ac_labelCount, .ref cla])), (ob, .inl (cob, 100, .inl gob)), (cfi, .inl (ccfi, 31, .inl gcfi)), (clk, .inl (cclk, 30, .inl gclk)), (clt, .inl (cclt, 1800, .inl gclt)), (cop, .inl (ccop, 5000, .inl gcop)), (cva, .inl (ccva, 5000, .inr (.inl gcva))), (cpt, .inl (ccpt, 5000, .inl gcpt)), (cel, .inl (ccel, 5000, .inl gcel))]) (w1 := (wz_46 h0 aw ac n3 h0_limit n4 h0_codeCount ob h0_openCount aw ab ac aw_typeCount wat wap wag aw_functionCount waf aw_hasMemory aw_pagesLeast aw_pagesMost aw_globalCount wgt wft wfv wgc aw_exportCount wek wei wes wez ab ax ab_length ax cax gax)) hP hD [0, 1, 2, 4] [3, 5, 6, 7, 8, 9, 10, 11, 12] rfl rfl (by decide) (by decide) hk1 hFc hP1 hD1
  clear hPc hDc hKc hFc hz1 hk1 hP1 hK1 hD1
  rename Heap => H
  have hP : va_P (dC, dI) cls [(ac, .inr (3, [.ref cfi, .ref clk, .ref clt, .int ac_length, .ref cop, .ref cva, .ref cpt, .ref cel, .int ac_labelCount, .ref cla])), (ob, .inl (cob, 100, .inl gob)), (cfi, .inl (ccfi, 31, .inl gcfi)), (clk, .inl (cclk, 30, .inl gclk)), (clt, .inl (cclt, 1800, .inl gclt)), (cop, .inl (ccop, 5000, .inl gcop)), (cva, .inl (ccva, 5000, .inr (.inl gcva))), (cpt, .inl (ccpt, 5000, .inl gcpt)), (cel, .inl (ccel, 5000, .inl gcel)), (h0, .inr (7, [.ref aw, .ref ac, .int n3, .int h0_limit, .int n4, .int h0_codeCount, .ref ob, .int h0_openCount])), (aw, .inr (10, [.ref ab, .ref ac, .int aw_typeCount, .ref wat, .ref wap, .ref wag, .int aw_functionCount, .ref waf, .int aw_hasMemory, .long aw_pagesLeast, .long aw_pagesMost, .int aw_globalCount, .ref wgt, .ref wft, .ref wfv, .ref wgc, .int aw_exportCount, .ref wek, .ref wei, .ref wes, .ref wez])), (ab, .inr (1, [.ref ax, .int ab_length])), (ax, .inl (cax, 8192, .inl gax))] H := hP
  have hD : va_D A [(ac, .inr (3, [.ref cfi, .ref clk, .ref clt, .int ac_length, .ref cop, .ref cva, .ref cpt, .ref cel, .int ac_labelCount, .ref cla])), (ob, .inl (cob, 100, .inl gob)), (cfi, .inl (ccfi, 31, .inl gcfi)), (clk, .inl (cclk, 30, .inl gclk)), (clt, .inl (cclt, 1800, .inl gclt)), (cop, .inl (ccop, 5000, .inl gcop)), (cva, .inl (ccva, 5000, .inr (.inl gcva))), (cpt, .inl (ccpt, 5000, .inl gcpt)), (cel, .inl (ccel, 5000, .inl gcel)), (h0, .inr (7, [.ref aw, .ref ac, .int n3, .int h0_limit, .int n4, .int h0_codeCount, .ref ob, .int h0_openCount])), (aw, .inr (10, [.ref ab, .ref ac, .int aw_typeCount, .ref wat, .ref wap, .ref wag, .int aw_functionCount, .ref waf, .int aw_hasMemory, .long aw_pagesLeast, .long aw_pagesMost, .int aw_globalCount, .ref wgt, .ref wft, .ref wfv, .ref wgc, .int aw_exportCount, .ref wek, .ref wei, .ref wes, .ref wez])), (ab, .inr (1, [.ref ax, .int ab_length])), (ax, .inl (cax, 8192, .inl gax))] := hD
  refine lv_l2i hx hb d_RE_readCode_20 rfl ?_
  refine lv_topi (fun x5 ex5 => ?_)
  have tx5 := l2i_t ex5 (by (first | (apply Int.le_antisymm <;> omega) | omega)) (by (first | (apply Int.le_antisymm <;> omega) | omega))
  refine lv_istore_n (lv' := [(3, .int x5), (2, .int h0_limit), (0, .ref h0), (1, .int p0)]) hx hb d_RE_readCode_21 rfl hl (by decide) rfl (fun ls hl => ?_)
  refine lv_aload_n hx hb d_RE_readCode_22 rfl (lv_at hl 2 rfl) ?_
  refine lv_aload_n hx hb d_RE_readCode_23 rfl (lv_at hl 2 rfl) ?_
  refine va_get (D := (dC, dI)) (ci := 7) (v := .int n4) (C := R_RE) (T := F_RE) (N := 8) hx hb hts i_RE hown hK hP 9 rfl rfl 4 (by decide) (hts _ kF_RE_45) (fun _ h9 => h9) rfl d_RE_readCode_24 ?_
  refine lv_if_eq (tgt := 47) hx hb d_RE_readCode_27 (by decide) (fun c27 => absurd (eqI c27) (by (first | (apply Int.le_antisymm <;> omega) | omega))) (fun c27 => ?_)
  have q27 := neI c27
  refine lv_iload_n hx hb d_RE_readCode_30 rfl (lv_at hl 0 rfl) ?_
  refine lv_aload_n hx hb d_RE_readCode_31 rfl (lv_at hl 2 rfl) ?_
  refine va_get (D := (dC, dI)) (ci := 7) (v := .int h0_limit) (C := R_RE) (T := F_RE) (N := 8) hx hb hts i_RE hown hK hP 9 rfl rfl 3 (by decide) (hts _ kF_RE_42) (fun _ h9 => h9) rfl d_RE_readCode_32 ?_
  refine lv_aload_n hx hb d_RE_readCode_35 rfl (lv_at hl 2 rfl) ?_
  refine va_get (D := (dC, dI)) (ci := 7) (v := .int n3) (C := R_RE) (T := F_RE) (N := 8) hx hb hts i_RE hown hK hP 9 rfl rfl 2 (by decide) (hts _ kF_RE_29) (fun _ h9 => h9) rfl d_RE_readCode_36 ?_
  refine lv_isub hx hb d_RE_readCode_39 ?_
  refine lv_topi (fun x6 ex6 => ?_)
  have tx6 : x6.toInt = h0_limit.toInt - n3.toInt := by have z := i32_sub ex6 (by (first | (apply Int.le_antisymm <;> omega) | omega)) (by (first | (apply Int.le_antisymm <;> omega) | omega)); first | exact z | (first | (apply Int.le_antisymm <;> omega) | omega)
  refine lv_icmp_gt (tgt := 47) hx hb d_RE_readCode_40 (by decide) (fun c40 => absurd (ltI c40) (by (first | (apply Int.le_antisymm <;> omega) | omega))) (fun c40 => ?_)
  have q40 := nltI c40
  refine lv_iconst (v := 1) hx hb d_RE_readCode_43 (by decide) ?_
  refine lv_goto (tgt := 48) hx hb d_RE_readCode_44 (by decide) ?_
  refine va_put (D := (dC, dI)) (ci := 7) (v := .int 1) (ty := .boolean) (C := R_RE) (T := F_RE) (N := 8) hx hb hts i_RE t_RE t_RE_ok n_RE hown hK hP hD hS 9 rfl rfl 4 (by decide) (hts _ kF_RE_45) (fun _ h9 => h9) rfl (by decide +kernel) rfl rfl (Nat.le_of_ble_eq_true rfl) d_RE_readCode_48 (fun H locs hP hD hS => ?_)
  refine lv_aload_n hx hb d_RE_readCode_51 rfl (lv_at hl 2 rfl) ?_
  refine va_get (D := (dC, dI)) (ci := 7) (v := .int 1) (C := R_RE) (T := F_RE) (N := 8) hx hb hts i_RE hown hK hP 9 rfl rfl 4 (by decide) (hts _ kF_RE_45) (fun _ h9 => h9) rfl d_RE_readCode_52 ?_
  refine lv_if_ne (tgt := 59) hx hb d_RE_readCode_55 (by decide) (fun c55 => ?_) (fun c55 => absurd (eqI c55) (by (first | (apply Int.le_antisymm <;> omega) | omega)))
  have q55 := neI c55
  refine lv_aload_n hx hb d_RE_readCode_59 rfl (lv_at hl 2 rfl) ?_
  refine lv_aload_n hx hb d_RE_readCode_60 rfl (lv_at hl 2 rfl) ?_
  refine va_get (D := (dC, dI)) (ci := 7) (v := .int n3) (C := R_RE) (T := F_RE) (N := 8) hx hb hts i_RE hown hK hP 9 rfl rfl 2 (by decide) (hts _ kF_RE_29) (fun _ h9 => h9) rfl d_RE_readCode_61 ?_
  refine lv_iload_n hx hb d_RE_readCode_64 rfl (lv_at hl 0 rfl) ?_
  refine lv_iadd hx hb d_RE_readCode_65 ?_
  refine lv_topi (fun x7 ex7 => ?_)
  have tx7 : x7.toInt = n3.toInt + x5.toInt := by have z := i32_add ex7 (by (first | (apply Int.le_antisymm <;> omega) | omega)) (by (first | (apply Int.le_antisymm <;> omega) | omega)); first | exact z | (first | (apply Int.le_antisymm <;> omega) | omega)
  refine va_put (D := (dC, dI)) (ci := 7) (v := .int x7) (ty := .int) (C := R_RE) (T := F_RE) (N := 8) hx hb hts i_RE t_RE t_RE_ok n_RE hown hK hP hD hS 9 rfl rfl 3 (by decide) (hts _ kF_RE_42) (fun _ h9 => h9) rfl (by decide +kernel) rfl rfl (Nat.le_of_ble_eq_true rfl) d_RE_readCode_66 (fun H locs hP hD hS => ?_)
  refine lv_aload_n hx hb d_RE_readCode_69 rfl (lv_at hl 2 rfl) ?_
  refine va_get (D := (dC, dI)) (ci := 7) (v := .ref ac) (C := R_RE) (T := F_RE) (N := 8) hx hb hts i_RE hown hK hP 9 rfl rfl 1 (by decide) (hts _ kF_RE_25) (fun _ h9 => h9) rfl d_RE_readCode_70 ?_
  refine va_get (D := (dC, dI)) (ci := 3) (v := .ref cfi) (C := R_CD) (T := F_CD) (N := 10) hx hb hts i_CD hown hK hP 0 rfl rfl 0 (by decide) (hts _ kF_RE_170) (fun _ h9 => h9) rfl d_RE_readCode_73 ?_
  refine lv_iload_n hx hb d_RE_readCode_76 rfl (lv_at hl 3 rfl) ?_
  refine lv_aload_n hx hb d_RE_readCode_77 rfl (lv_at hl 2 rfl) ?_
  refine va_get (D := (dC, dI)) (ci := 7) (v := .ref ac) (C := R_RE) (T := F_RE) (N := 8) hx hb hts i_RE hown hK hP 9 rfl rfl 1 (by decide) (hts _ kF_RE_25) (fun _ h9 => h9) rfl d_RE_readCode_78 ?_
  refine va_get (D := (dC, dI)) (ci := 3) (v := .int ac_length) (C := R_CD) (T := F_CD) (N := 10) hx hb hts i_CD hown hK hP 0 rfl rfl 3 (by decide) (hts _ kF_RE_175) (fun _ h9 => h9) rfl d_RE_readCode_81 ?_
  have g84 : vp_in p0 31 := vp_in_iff.mpr ⟨by (first | (apply Int.le_antisymm <;> omega) | omega), by (first | (apply Int.le_antisymm <;> omega) | omega)⟩
  refine va_iast hx hb hK hP hD hS 2 2 rfl rfl g84 d_RE_readCode_84 (fun H locs hP hD hS => ?_)
  generalize ef8 : upd gcfi p0.toNatClampNeg ac_length = f8 at hP hD
  refine lv_aload_n hx hb d_RE_readCode_85 rfl (lv_at hl 2 rfl) ?_
  refine lv_iload_n hx hb d_RE_readCode_86 rfl (lv_at hl 3 rfl) ?_
  have hPc := hP.sb (wq := (wz_241 h0 aw ac n3 x7 1 h0_codeCount ob h0_openCount aw ab ac aw_typeCount wat wap wag aw_functionCount waf aw_hasMemory aw_pagesLeast aw_pagesMost aw_globalCount wgt wft wfv wgc aw_exportCount wek wei wes wez ab ax ab_length ac cfi clk clt ac_length cop cva cpt cel ac_labelCount cla ax cax gax clk cclk gclk clt cclt gclt)) [9, 10, 11, 0, 12, 3, 4] rfl
  have hDc := hD.sb (wq := (wz_241 h0 aw ac n3 x7 1 h0_codeCount ob h0_openCount aw ab ac aw_typeCount wat wap wag aw_functionCount waf aw_hasMemory aw_pagesLeast aw_pagesMost aw_globalCount wgt wft wfv wgc aw_exportCount wek wei wes wez ab ax ab_length ac cfi clk clt ac_length cop cva cpt cel ac_labelCount cla ax cax gax clk cclk gclk clt cclt gclt)) [9, 10, 11, 0, 12, 3, 4] (by decide) rfl
  have hKc := hK.sb (tyq := [(cax, .byte), (cclk, .int), (cclt, .int)]) [0, 3, 4] rfl
  have hFc := va_free (wc := (wz_241 h0 aw ac n3 x7 1 h0_codeCount ob h0_openCount aw ab ac aw_typeCount wat wap wag aw_functionCount waf aw_hasMemory aw_pagesLeast aw_pagesMost aw_globalCount wgt wft wfv wgc aw_exportCount wek wei wes wez ab ax ab_length ac cfi clk clt ac_length cop cva cpt cel ac_labelCount cla ax cax gax clk cclk gclk clt cclt gclt)) hD hS hA [9, 10, 11, 0, 12, 3, 4] rfl
  refine va_callv (va_runV (As := [.int p0]) (rest := []) ⟨hx, hb, hml, hown, hts⟩ (c_RE_readLocalsx l dC dI H.size h0 aw ac ob ab wat wap wag waf wgt wft wfv wgc wek wei wes wez ax cfi clk clt cop cva cpt cel cla cax cclk cclt n3 x7 1 h0_codeCount h0_openCount aw_typeCount aw_functionCount aw_hasMemory aw_pagesLeast aw_pagesMost aw_globalCount aw_exportCount ab_length ac_length ac_labelCount gax gclk gclt gR (Or.inr rfl) p0 (by (first | (apply Int.le_antisymm <;> omega) | omega)) (by (first | (apply Int.le_antisymm <;> omega) | omega)) (hp) (hrk) (hrl) ((bq_at b8.out (by (first | (apply Int.le_antisymm <;> omega) | omega)))) (by (first | (apply Int.le_antisymm <;> omega) | omega))) (cwV 1 hts (gV kM_RE_176 kV_RE_readLocals kS_RE_readLocals kI_RE kC_RE_readLocals) rfl rfl rfl (by decide +kernel) ⟨Nat.le_of_ble_eq_true rfl, Nat.le_of_ble_eq_true rfl⟩) ⟨fun a U g mk z => by obtain ⟨z0, z1, zP, zK, zD⟩ := z; exact ⟨z0, z1, zP, va_K.moved (u := U) (U := U.calling g mk a) (Vm.Alike.refl U.vm) zK, zD⟩, va_recv hKc hPc (ci := 7) (q0 := 0) rfl rfl, fun U hU hW => ⟨rfl, by rw [hU], va_P.he hU.symm hPc, va_K.moved hW.alike hKc, hDc.weaken (fun _ _ _ _ => trivial)⟩⟩ rfl rfl hl.1 rfl (lv_room (Nat.le_of_ble_eq_true rfl)) d_RE_readCode_87 ⟨(Nat.zero_le _), (Nat.zero_le _)⟩) hS (fun q _ h => hFc q h) hFc (fun u t H1 locs ht hvm hw hB hz1 hk1 hS => ?_)
  obtain ⟨n10, n11, n12, n13⟩ := u
  try dsimp only at hw
  obtain ⟨bn13, xr9⟩ := hw
  try clear hw
  have tn13 := b01 bn13
  have z87 := i32_clamp (x := n12) (by (first | (apply Int.le_antisymm <;> omega) | omega))
  obtain ⟨w1, w2, w3, w4⟩ := xr9
  replace w3 : bx _ := w3
  replace w4 : bx _ := w4
  obtain ⟨hP1, hK1, hD1⟩ := hB
  replace hP1 := va_P.he ht hP1
  obtain ⟨hP, hD⟩ := va_join (wr := [(ob, .inl (cob, 100, .inl gob)), (cfi, .inl (ccfi, 31, .inl f8)), (cop, .inl (ccop, 5000, .inl gcop)), (cva, .inl (ccva, 5000, .inr (.inl gcva))), (cpt, .inl (ccpt, 5000, .inl gcpt)), (cel, .inl (ccel, 5000, .inl gcel))]) (w1 := (wz_241 h0 aw ac n12 x7 n13 h0_codeCount ob h0_openCount aw ab ac aw_typeCount wat wap wag aw_functionCount waf aw_hasMemory aw_pagesLeast aw_pagesMost aw_globalCount wgt wft wfv wgc aw_exportCount wek wei wes wez ab ax ab_length ac cfi clk clt ac_length cop cva cpt cel ac_labelCount cla ax cax gax clk cclk n10 clt cclt n11)) hP hD [9, 10, 11, 0, 12, 3, 4] [1, 2, 5, 6, 7, 8] rfl rfl (by decide) (by decide) hk1 hFc hP1 hD1
  clear hPc hDc hKc hFc hz1 hk1 hP1 hK1 hD1
  rename Heap => H
  have hP : va_P (dC, dI) cls (wz_245 ob cob gob cfi ccfi f8 cop ccop gcop cva ccva gcva cpt ccpt gcpt cel ccel gcel h0 aw ac n12 x7 n13 h0_codeCount ob h0_openCount aw ab ac aw_typeCount wat wap wag aw_functionCount waf aw_hasMemory aw_pagesLeast aw_pagesMost aw_globalCount wgt wft wfv wgc aw_exportCount wek wei wes wez ab ax ab_length ac cfi clk clt ac_length cop cva cpt cel ac_labelCount cla ax cax gax clk cclk n10 clt cclt n11) H := hP
  have hD : va_D A (wz_245 ob cob gob cfi ccfi f8 cop ccop gcop cva ccva gcva cpt ccpt gcpt cel ccel gcel h0 aw ac n12 x7 n13 h0_codeCount ob h0_openCount aw ab ac aw_typeCount wat wap wag aw_functionCount waf aw_hasMemory aw_pagesLeast aw_pagesMost aw_globalCount wgt wft wfv wgc aw_exportCount wek wei wes wez ab ax ab_length ac cfi clk clt ac_length cop cva cpt cel ac_labelCount cla ax cax gax clk cclk n10 clt cclt n11) := hD
  refine lv_aload_n hx hb d_RE_readCode_90 rfl (lv_at hl 2 rfl) ?_
  refine lv_iconst (v := 0) hx hb d_RE_readCode_91 (by decide) ?_
  refine va_put (D := (dC, dI)) (ci := 7) (v := .int 0) (ty := .int) (C := R_RE) (T := F_RE) (N := 8) hx hb hts i_RE t_RE t_RE_ok n_RE hown hK hP hD hS 6 rfl rfl 7 (by decide) (hts _ kF_RE_179) (fun _ h9 => h9) rfl (by decide +kernel) rfl rfl (Nat.le_of_ble_eq_true rfl) d_RE_readCode_92 (fun H locs hP hD hS => ?_)
  refine lv_iconst (v := 1) hx hb d_RE_readCode_95 (by decide) ?_
  refine lv_istore (lv' := [(4, .int 1), (3, .int x5), (2, .int h0_limit), (0, .ref h0), (1, .int p0)]) hx hb d_RE_readCode_96 hl (by decide) rfl (fun ls hl => ?_)
  refine lv_iconst (v := 0) hx hb d_RE_readCode_98 (by decide) ?_
  refine lv_istore (lv' := [(5, .int 0), (4, .int 1), (3, .int x5), (2, .int h0_limit), (0, .ref h0), (1, .int p0)]) hx hb d_RE_readCode_99 hl (by decide) rfl (fun ls hl => ?_)
  refine w_loop (σ := Int32 × Int32 × (Nat → Int32) × (Nat → Int32) × (Nat → Int32) × (Nat → Int64) × (Nat → Int32) × Int32 × Int32 × Int32 × Int32) (fun u H locs ls => match u with | (j101_l4, j101_l5, j101_cel, j101_cop, j101_cpt, j101_cva, j101_ob, j101_ac_length, j101_h0_at, j101_h0_openCount, j101_h0_sound) => (j101_l4 = 0 ∨ j101_l4 = 1) ∧ (0 ≤ j101_l5.toInt ∧ j101_l5.toInt ≤ 5001) ∧ (0 ≤ j101_ac_length.toInt ∧ j101_ac_length.toInt ≤ 5000) ∧ (0 ≤ j101_h0_openCount.toInt ∧ j101_h0_openCount.toInt ≤ 100) ∧ (j101_h0_sound = 0 ∨ j101_h0_sound = 1) ∧ (j101_l5.toInt ≤ (gl9.length : Int) + 1 ∧ j101_ac_length.toInt = ac_length.toInt + j101_l5.toInt ∧ j101_h0_sound.toInt = 1 ∧ 0 ≤ j101_h0_at.toInt ∧ j101_h0_at.toInt ≤ x7.toInt) ∧ (bx ((j101_l4.toInt = 1 ∧ cdI gax j101_cop j101_cel j101_ob j101_cva gl9 ac_length.toNatClampNeg j101_l5.toNatClampNeg j101_h0_at.toNatClampNeg j101_h0_openCount.toNatClampNeg j101_ac_length.toInt x7.toInt) ∨ (j101_l4.toInt = 0 ∧ j101_l5.toInt = (gl9.length : Int) + 1 ∧ mtc j101_cop j101_cva ac_length.toNatClampNeg (gl9 ++ [(11, 0)]) ∧ j101_h0_at.toInt = x7.toInt))) ∧ (bx (rc_inv ac_length.toNatClampNeg j101_l4 j101_ac_length j101_h0_openCount ac_labelCount j101_cop j101_cpt j101_cel j101_ob j101_cva ∧ rc_same ac_length.toNatClampNeg gcop gcpt gcel j101_cop j101_cpt j101_cel gcva j101_cva)) ∧ (bx (∀ j : Nat, (j101_cel j).toInt < 5000)) ∧ va_P (dC, dI) cls (wz_245 ob cob j101_ob cfi ccfi f8 cop ccop j101_cop cva ccva j101_cva cpt ccpt j101_cpt cel ccel j101_cel h0 aw ac j101_h0_at x7 j101_h0_sound h0_codeCount ob j101_h0_openCount aw ab ac aw_typeCount wat wap wag aw_functionCount waf aw_hasMemory aw_pagesLeast aw_pagesMost aw_globalCount wgt wft wfv wgc aw_exportCount wek wei wes wez ab ax ab_length ac cfi clk clt j101_ac_length cop cva cpt cel ac_labelCount cla ax cax gax clk cclk n10 clt cclt n11) H ∧ va_D A (wz_245 ob cob j101_ob cfi ccfi f8 cop ccop j101_cop cva ccva j101_cva cpt ccpt j101_cpt cel ccel j101_cel h0 aw ac j101_h0_at x7 j101_h0_sound h0_codeCount ob j101_h0_openCount aw ab ac aw_typeCount wat wap wag aw_functionCount waf aw_hasMemory aw_pagesLeast aw_pagesMost aw_globalCount wgt wft wfv wgc aw_exportCount wek wei wes wez ab ax ab_length ac cfi clk clt j101_ac_length cop cva cpt cel ac_labelCount cla ax cax gax clk cclk n10 clt cclt n11) ∧ va_S A s.heap H locs ∧ lv_has ls 6 [(0, .ref h0), (1, .int p0), (2, .int h0_limit), (4, .int j101_l4), (5, .int j101_l5)]) (fun u => match u with | (j101_l4, j101_l5, j101_cel, j101_cop, j101_cpt, j101_cva, j101_ob, j101_ac_length, j101_h0_at, j101_h0_openCount, j101_h0_sound) => (5001 - j101_l5.toInt).toNat) ?_ (1, 0, gcel, gcop, gcpt, gcva, gob, ac_length, n12, 0, n13) ⟨Or.inr rfl, by (try dsimp only) <;> (first | (apply Int.le_antisymm <;> omega) | omega), b_ac_length, by (try dsimp only) <;> (first | (apply Int.le_antisymm <;> omega) | omega), bn13, by (try dsimp only) <;> (first | (apply Int.le_antisymm <;> omega) | omega), Or.inl ⟨by decide, [], gl9, [], rfl, rfl, (bq_at b9.out (by (first | (apply Int.le_antisymm <;> omega) | omega))), by rw [← hm9]; (first | (apply Int.le_antisymm <;> omega) | omega), hdl.out, rfl, fun i x h => (by cases h), hio.out⟩, ⟨rc_begin (by decide), fun j _ => ⟨rfl, rfl, rfl, rfl⟩⟩, hel, hP, hD, hS, lv_sub hl [4, 5, 3, 1, 0] rfl⟩
  intro N101 ih101 u H locs ls hN101 hI
  obtain ⟨j101_l4, j101_l5, j101_cel, j101_cop, j101_cpt, j101_cva, j101_ob, j101_ac_length, j101_h0_at, j101_h0_openCount, j101_h0_sound⟩ := u
  obtain ⟨b_j101_l4, b_j101_l5, b_j101_ac_length, b_j101_h0_openCount, b_j101_h0_sound, v1, hC, hRc, hE9, hP, hD, hS, hl⟩ := hI
  have tj101_l4 := b01 b_j101_l4
  have tj101_h0_sound := b01 b_j101_h0_sound
  have hN101 : (5001 - j101_l5.toInt).toNat < N101 + 1 := hN101
  refine lv_iload hx hb d_RE_readCode_101 (lv_at hl 4 rfl) ?_
  refine lv_sipush (v := 5000) hx hb d_RE_readCode_103 (by decide) ?_
  refine lv_icmp_gt (tgt := 133) hx hb d_RE_readCode_106 (by decide) (fun c106 => absurd (ltI c106) (by (first | (apply Int.le_antisymm <;> omega) | omega))) (fun c106 => ?_)
  have q106 := nltI c106
  refine lv_aload_n hx hb d_RE_readCode_109 rfl (lv_at hl 0 rfl) ?_
  refine va_get (D := (dC, dI)) (ci := 7) (v := .int j101_h0_sound) (C := R_RE) (T := F_RE) (N := 8) hx hb hts i_RE hown hK hP 6 rfl rfl 4 (by decide) (hts _ kF_RE_45) (fun _ h9 => h9) rfl d_RE_readCode_110 ?_
  refine lv_if_eq (tgt := 133) hx hb d_RE_readCode_113 (by decide) (fun c113 => absurd (eqI c113) (by (first | (apply Int.le_antisymm <;> omega) | omega))) (fun c113 => ?_)
  have q113 := neI c113
  refine lv_iload hx hb d_RE_readCode_116 (lv_at hl 3 rfl) ?_
  refine lv_if_eq (tgt := 133) hx hb d_RE_readCode_118 (by decide) (fun c118 => ?_) (fun c118 => ?_)
  · have q118 := eqI c118
    have q133 : j101_h0_at.toInt = x7.toInt ∧ j101_l5.toInt = (gl9.length : Int) + 1 := by rcases hC.out with z | z; (exfalso; have := z.1; rw [c118] at this; exact absurd this (by decide)); exact ⟨z.2.2.2, z.2.1⟩
    refine lv_aload_n hx hb d_RE_readCode_133 rfl (lv_at hl 0 rfl) ?_
    refine va_get (D := (dC, dI)) (ci := 7) (v := .ref ac) (C := R_RE) (T := F_RE) (N := 8) hx hb hts i_RE hown hK hP 6 rfl rfl 1 (by decide) (hts _ kF_RE_25) (fun _ h9 => h9) rfl d_RE_readCode_134 ?_
    refine va_get (D := (dC, dI)) (ci := 3) (v := .ref cfi) (C := R_CD) (T := F_CD) (N := 10) hx hb hts i_CD hown hK hP 9 rfl rfl 0 (by decide) (hts _ kF_RE_170) (fun _ h9 => h9) rfl d_RE_readCode_137 ?_
    refine lv_iload_n hx hb d_RE_readCode_140 rfl (lv_at hl 1 rfl) ?_
    refine lv_iconst (v := 1) hx hb d_RE_readCode_141 (by decide) ?_
    refine lv_iadd hx hb d_RE_readCode_142 ?_
    refine lv_topi (fun x14 ex14 => ?_)
    have tx14 : x14.toInt = p0.toInt + 1 := by have z := i32_add ex14 (by (first | (apply Int.le_antisymm <;> omega) | omega)) (by (first | (apply Int.le_antisymm <;> omega) | omega)); first | exact z | (first | (apply Int.le_antisymm <;> omega) | omega)
    refine lv_aload_n hx hb d_RE_readCode_143 rfl (lv_at hl 0 rfl) ?_
    refine va_get (D := (dC, dI)) (ci := 7) (v := .ref ac) (C := R_RE) (T := F_RE) (N := 8) hx hb hts i_RE hown hK hP 6 rfl rfl 1 (by decide) (hts _ kF_RE_25) (fun _ h9 => h9) rfl d_RE_readCode_144 ?_
    refine va_get (D := (dC, dI)) (ci := 3) (v := .int j101_ac_length) (C := R_CD) (T := F_CD) (N := 10) hx hb hts i_CD hown hK hP 9 rfl rfl 3 (by decide) (hts _ kF_RE_175) (fun _ h9 => h9) rfl d_RE_readCode_147 ?_
    have g150 : vp_in x14 31 := vp_in_iff.mpr ⟨by (first | (apply Int.le_antisymm <;> omega) | omega), by (first | (apply Int.le_antisymm <;> omega) | omega)⟩
    refine va_iast hx hb hK hP hD hS 1 2 rfl rfl g150 d_RE_readCode_150 (fun H locs hP hD hS => ?_)
    generalize ef15 : upd f8 x14.toNatClampNeg j101_ac_length = f15 at hP hD
    refine lv_aload_n hx hb d_RE_readCode_151 rfl (lv_at hl 0 rfl) ?_
    refine lv_aload_n hx hb d_RE_readCode_152 rfl (lv_at hl 0 rfl) ?_
    refine va_get (D := (dC, dI)) (ci := 7) (v := .int j101_h0_sound) (C := R_RE) (T := F_RE) (N := 8) hx hb hts i_RE hown hK hP 6 rfl rfl 4 (by decide) (hts _ kF_RE_45) (fun _ h9 => h9) rfl d_RE_readCode_153 ?_
    refine lv_if_eq (tgt := 174) hx hb d_RE_readCode_156 (by decide) (fun c156 => absurd (eqI c156) (by (first | (apply Int.le_antisymm <;> omega) | omega))) (fun c156 => ?_)
    have q156 := neI c156
    refine lv_aload_n hx hb d_RE_readCode_159 rfl (lv_at hl 0 rfl) ?_
    refine va_get (D := (dC, dI)) (ci := 7) (v := .int j101_h0_at) (C := R_RE) (T := F_RE) (N := 8) hx hb hts i_RE hown hK hP 6 rfl rfl 2 (by decide) (hts _ kF_RE_29) (fun _ h9 => h9) rfl d_RE_readCode_160 ?_
    refine lv_aload_n hx hb d_RE_readCode_163 rfl (lv_at hl 0 rfl) ?_
    refine va_get (D := (dC, dI)) (ci := 7) (v := .int x7) (C := R_RE) (T := F_RE) (N := 8) hx hb hts i_RE hown hK hP 6 rfl rfl 3 (by decide) (hts _ kF_RE_42) (fun _ h9 => h9) rfl d_RE_readCode_164 ?_
    refine lv_icmp_ne (tgt := 174) hx hb d_RE_readCode_167 (by decide) (fun c167 => absurd (neI c167) (by (first | (apply Int.le_antisymm <;> omega) | omega))) (fun c167 => ?_)
    have q167 := eqI c167
    refine lv_iconst (v := 1) hx hb d_RE_readCode_170 (by decide) ?_
    refine lv_goto (tgt := 175) hx hb d_RE_readCode_171 (by decide) ?_
    refine va_put (D := (dC, dI)) (ci := 7) (v := .int 1) (ty := .boolean) (C := R_RE) (T := F_RE) (N := 8) hx hb hts i_RE t_RE t_RE_ok n_RE hown hK hP hD hS 6 rfl rfl 4 (by decide) (hts _ kF_RE_45) (fun _ h9 => h9) rfl (by decide +kernel) rfl rfl (Nat.le_of_ble_eq_true rfl) d_RE_readCode_175 (fun H locs hP hD hS => ?_)
    refine lv_aload_n hx hb d_RE_readCode_178 rfl (lv_at hl 0 rfl) ?_
    refine lv_iload_n hx hb d_RE_readCode_179 rfl (lv_at hl 2 rfl) ?_
    refine va_put (D := (dC, dI)) (ci := 7) (v := .int h0_limit) (ty := .int) (C := R_RE) (T := F_RE) (N := 8) hx hb hts i_RE t_RE t_RE_ok n_RE hown hK hP hD hS 6 rfl rfl 3 (by decide) (hts _ kF_RE_42) (fun _ h9 => h9) rfl (by decide +kernel) rfl rfl (Nat.le_of_ble_eq_true rfl) d_RE_readCode_180 (fun H locs hP hD hS => ?_)
    have hP9 := hP.sb (wq := (wz_244 h0 aw ac j101_h0_at h0_limit 1 h0_codeCount ob j101_h0_openCount aw ab ac aw_typeCount wat wap wag aw_functionCount waf aw_hasMemory aw_pagesLeast aw_pagesMost aw_globalCount wgt wft wfv wgc aw_exportCount wek wei wes wez ab ax ab_length ac cfi clk clt j101_ac_length cop cva cpt cel ac_labelCount cla ax cax gax ob cob j101_ob cfi ccfi f15 clk cclk n10 clt cclt n11 cop ccop j101_cop cva ccva j101_cva cpt ccpt j101_cpt cel ccel j101_cel)) [6, 7, 8, 9, 10, 0, 1, 11, 12, 2, 3, 4, 5] rfl
    have hD9 := hD.sb (wq := (wz_244 h0 aw ac j101_h0_at h0_limit 1 h0_codeCount ob j101_h0_openCount aw ab ac aw_typeCount wat wap wag aw_functionCount waf aw_hasMemory aw_pagesLeast aw_pagesMost aw_globalCount wgt wft wfv wgc aw_exportCount wek wei wes wez ab ax ab_length ac cfi clk clt j101_ac_length cop cva cpt cel ac_labelCount cla ax cax gax ob cob j101_ob cfi ccfi f15 clk cclk n10 clt cclt n11 cop ccop j101_cop cva ccva j101_cva cpt ccpt j101_cpt cel ccel j101_cel)) [6, 7, 8, 9, 10, 0, 1, 11, 12, 2, 3, 4, 5] (by decide) rfl
    exact W.vret hx hb hr (fun t ht hW => ⟨⟨(j101_cel, f15, n10, n11, j101_cop, j101_cpt, j101_cva, j101_ob, j101_ac_length, j101_h0_at, h0_limit, j101_h0_openCount, 1), rfl, ⟨b_j101_ac_length, b_j101_h0_openCount, Or.inr rfl, (by have q := hC.out; have q9 : j101_l5.toInt = (gl9.length : Int) + 1 ∧ mtc j101_cop j101_cva ac_length.toNatClampNeg (gl9 ++ [(11, 0)]) ∧ j101_h0_at.toInt = x7.toInt := (by rcases q with z | z; (exfalso; have := z.1; rw [c118] at this; exact absurd this (by decide)); exact z.2); obtain ⟨q1, q2, q3⟩ := q9; obtain ⟨t8, u1, u2, u3⟩ := w4.out; exact ⟨by rw [← hqn9]; (first | (apply Int.le_antisymm <;> omega) | omega), by (try dsimp only) <;> (first | (apply Int.le_antisymm <;> omega) | omega), by (try dsimp only) <;> (first | (apply Int.le_antisymm <;> omega) | omega), by (first | (apply Int.le_antisymm <;> omega) | omega), by rw [← ef15, ← ef8, show x14.toNatClampNeg = p0.toNatClampNeg + 1 from clampN (by (first | (apply Int.le_antisymm <;> omega) | omega))], w3.out, t8, u1, u2, u3, q2, hRc.out.1.2.2 (by rw [c118]; rfl), hRc.out.2, hE9.out⟩)⟩, va_P.he ht.symm hP9, va_K.moved hW.alike hK, hD9⟩, hS.F ht⟩) hS.2.2 d_RE_readCode_183
  · have q118 := neI c118
    have l4e : j101_l4.toInt = 1 := by rcases b_j101_l4 with z | z; (exfalso; rw [z] at q118; exact q118 rfl); (rw [z]; rfl)
    have hC1 := hC.out
    have hC2 : cdI gax j101_cop j101_cel j101_ob j101_cva gl9 ac_length.toNatClampNeg j101_l5.toNatClampNeg j101_h0_at.toNatClampNeg j101_h0_openCount.toNatClampNeg j101_ac_length.toInt x7.toInt := by rcases hC1 with z | z; exact z.2; (exfalso; have := z.1; (first | (apply Int.le_antisymm <;> omega) | omega))
    clear hC1
    obtain ⟨o8, v8, c1, c2, c3, c4, c5, c6, c7, c8, c9⟩ := cd_hd (by (first | (apply Int.le_antisymm <;> omega) | omega)) hC2
    replace c5 : bx _ := c5
    replace c6 : bx _ := c6
    replace c9 : bx _ := c9
    have zat := i32_clamp (x := j101_h0_at) (by (first | (apply Int.le_antisymm <;> omega) | omega))
    have zl5 := i32_clamp (x := j101_l5) (by (first | (apply Int.le_antisymm <;> omega) | omega))
    have zac := i32_clamp (x := j101_ac_length) (by (first | (apply Int.le_antisymm <;> omega) | omega))
    clear hC2 hC
    refine lv_aload_n hx hb d_RE_readCode_121 rfl (lv_at hl 0 rfl) ?_
    have hPc := hP.sb (wq := (wz_238 h0 aw ac j101_h0_at x7 j101_h0_sound h0_codeCount ob j101_h0_openCount aw ab ac aw_typeCount wat wap wag aw_functionCount waf aw_hasMemory aw_pagesLeast aw_pagesMost aw_globalCount wgt wft wfv wgc aw_exportCount wek wei wes wez ab ax ab_length ac cfi clk clt j101_ac_length cop cva cpt cel ac_labelCount cla ax cax gax ob cob j101_ob cop ccop j101_cop cva ccva j101_cva cpt ccpt j101_cpt cel ccel j101_cel)) [6, 7, 8, 9, 10, 0, 2, 3, 4, 5] rfl
    have hDc := hD.sb (wq := (wz_238 h0 aw ac j101_h0_at x7 j101_h0_sound h0_codeCount ob j101_h0_openCount aw ab ac aw_typeCount wat wap wag aw_functionCount waf aw_hasMemory aw_pagesLeast aw_pagesMost aw_globalCount wgt wft wfv wgc aw_exportCount wek wei wes wez ab ax ab_length ac cfi clk clt j101_ac_length cop cva cpt cel ac_labelCount cla ax cax gax ob cob j101_ob cop ccop j101_cop cva ccva j101_cva cpt ccpt j101_cpt cel ccel j101_cel)) [6, 7, 8, 9, 10, 0, 2, 3, 4, 5] (by decide) rfl
    have hKc := hK.sb (tyq := [(cax, .byte), (cob, .int), (ccop, .int), (ccva, .long), (ccpt, .int), (ccel, .int)]) [0, 1, 5, 6, 7, 8] rfl
    have hFc := va_free (wc := (wz_238 h0 aw ac j101_h0_at x7 j101_h0_sound h0_codeCount ob j101_h0_openCount aw ab ac aw_typeCount wat wap wag aw_functionCount waf aw_hasMemory aw_pagesLeast aw_pagesMost aw_globalCount wgt wft wfv wgc aw_exportCount wek wei wes wez ab ax ab_length ac cfi clk clt j101_ac_length cop cva cpt cel ac_labelCount cla ax cax gax ob cob j101_ob cop ccop j101_cop cva ccva j101_cva cpt ccpt j101_cpt cel ccel j101_cel)) hD hS hA [6, 7, 8, 9, 10, 0, 2, 3, 4, 5] rfl
    refine va_calli (va_runV (As := []) (rest := []) ⟨hx, hb, hml, hown, hts⟩ (c_RE_readInstructionx l dC dI H.size h0 aw ac ob ab wat wap wag waf wgt wft wfv wgc wek wei wes wez ax cfi clk clt cop cva cpt cel cla cax cob ccop ccva ccpt ccel j101_h0_at x7 j101_h0_sound h0_codeCount j101_h0_openCount aw_typeCount aw_functionCount aw_hasMemory aw_pagesLeast aw_pagesMost aw_globalCount aw_exportCount ab_length j101_ac_length ac_labelCount gax j101_ob j101_cop j101_cva j101_cpt j101_cel o8 v8 ((fun _ => 0)) (b_j101_h0_sound) (b_j101_h0_openCount) (b_j101_ac_length) (by (first | (apply Int.le_antisymm <;> omega) | omega)) (by (first | (apply Int.le_antisymm <;> omega) | omega)) (c1) (c2) (by (first | (apply Int.le_antisymm <;> omega) | omega)) (by (first | (apply Int.le_antisymm <;> omega) | omega)) (c4) (c6) (hE9) (c5)) (cwV 0 hts (gV kM_RE_182 kV_RE_readInstruction kS_RE_readInstruction kI_RE kC_RE_readInstruction) rfl rfl rfl (by decide +kernel) ⟨Nat.le_of_ble_eq_true rfl, Nat.le_of_ble_eq_true rfl⟩) ⟨fun a U g mk z => by obtain ⟨z0, z1, zP, zK, zD⟩ := z; exact ⟨z0, z1, zP, va_K.moved (u := U) (U := U.calling g mk a) (Vm.Alike.refl U.vm) zK, zD⟩, va_recv hKc hPc (ci := 7) (q0 := 0) rfl rfl, fun U hU hW => ⟨rfl, by rw [hU], va_P.he hU.symm hPc, va_K.moved hW.alike hKc, hDc.weaken (fun _ _ _ _ => trivial)⟩⟩ rfl rfl hl.1 rfl (lv_room (Nat.le_of_ble_eq_true rfl)) d_RE_readCode_122 ⟨(Nat.zero_le _), (Nat.zero_le _)⟩) hS (fun q _ h => hFc q h) hFc (fun r16 u t H1 locs ht hvm hw hB hz1 hk1 hS => ?_)
    obtain ⟨n17, n18, n19, n20, n21, n22, n23, n24, n25⟩ := u
    try dsimp only at hw
    obtain ⟨br16, bn22, bn24, bn25, xr16⟩ := hw
    try clear hw
    have tr16 := b01 br16
    have tn25 := b01 bn25
    obtain ⟨d1_, d2_, d3_, d4_, o7, d5_, d6_, d7_⟩ := xr16
    have zz := b01 br16
    have k9 := c9.out _ _ _ _ _ _ _ _ _ _ _ _ _ _ (by (first | (apply Int.le_antisymm <;> omega) | omega)) (by (first | (apply Int.le_antisymm <;> omega) | omega)) rfl (by (first | (apply Int.le_antisymm <;> omega) | omega)) d5_ d4_ zz d6_ d7_
    replace k9 : bx _ := k9
    have rn := rc_next hRc.out.1 hRc.out.2 l4e ⟨by (first | (apply Int.le_antisymm <;> omega) | omega), by (first | (apply Int.le_antisymm <;> omega) | omega)⟩ d3_ (by (first | (apply Int.le_antisymm <;> omega) | omega)) (by (first | (apply Int.le_antisymm <;> omega) | omega)) zz d6_
    replace rn : bx _ := rn
    have hE8 := rs_el d6_ hE9.out (by (first | (apply Int.le_antisymm <;> omega) | omega))
    replace hE8 : bx _ := hE8
    clear d6_ d7_ c9 hRc
    have za2 := i32_clamp (x := n23) (by (first | (apply Int.le_antisymm <;> omega) | omega))
    have d4_ : bx _ := d4_
    obtain ⟨hP1, hK1, hD1⟩ := hB
    replace hP1 := va_P.he ht hP1
    obtain ⟨hP, hD⟩ := va_join (wr := [(cfi, .inl (ccfi, 31, .inl f8)), (clk, .inl (cclk, 30, .inl n10)), (clt, .inl (cclt, 1800, .inl n11))]) (w1 := (wz_238 h0 aw ac n23 x7 n25 h0_codeCount ob n24 aw ab ac aw_typeCount wat wap wag aw_functionCount waf aw_hasMemory aw_pagesLeast aw_pagesMost aw_globalCount wgt wft wfv wgc aw_exportCount wek wei wes wez ab ax ab_length ac cfi clk clt n22 cop cva cpt cel ac_labelCount cla ax cax gax ob cob n21 cop ccop n18 cva ccva n20 cpt ccpt n19 cel ccel n17)) hP hD [6, 7, 8, 9, 10, 0, 2, 3, 4, 5] [1, 11, 12] rfl rfl (by decide) (by decide) hk1 hFc hP1 hD1
    clear hPc hDc hKc hFc hz1 hk1 hP1 hK1 hD1
    rename Heap => H
    have hP : va_P (dC, dI) cls [(cfi, .inl (ccfi, 31, .inl f8)), (clk, .inl (cclk, 30, .inl n10)), (clt, .inl (cclt, 1800, .inl n11)), (h0, .inr (7, [.ref aw, .ref ac, .int n23, .int x7, .int n25, .int h0_codeCount, .ref ob, .int n24])), (aw, .inr (10, [.ref ab, .ref ac, .int aw_typeCount, .ref wat, .ref wap, .ref wag, .int aw_functionCount, .ref waf, .int aw_hasMemory, .long aw_pagesLeast, .long aw_pagesMost, .int aw_globalCount, .ref wgt, .ref wft, .ref wfv, .ref wgc, .int aw_exportCount, .ref wek, .ref wei, .ref wes, .ref wez])), (ab, .inr (1, [.ref ax, .int ab_length])), (ac, .inr (3, [.ref cfi, .ref clk, .ref clt, .int n22, .ref cop, .ref cva, .ref cpt, .ref cel, .int ac_labelCount, .ref cla])), (ax, .inl (cax, 8192, .inl gax)), (ob, .inl (cob, 100, .inl n21)), (cop, .inl (ccop, 5000, .inl n18)), (cva, .inl (ccva, 5000, .inr (.inl n20))), (cpt, .inl (ccpt, 5000, .inl n19)), (cel, .inl (ccel, 5000, .inl n17))] H := hP
    have hD : va_D A [(cfi, .inl (ccfi, 31, .inl f8)), (clk, .inl (cclk, 30, .inl n10)), (clt, .inl (cclt, 1800, .inl n11)), (h0, .inr (7, [.ref aw, .ref ac, .int n23, .int x7, .int n25, .int h0_codeCount, .ref ob, .int n24])), (aw, .inr (10, [.ref ab, .ref ac, .int aw_typeCount, .ref wat, .ref wap, .ref wag, .int aw_functionCount, .ref waf, .int aw_hasMemory, .long aw_pagesLeast, .long aw_pagesMost, .int aw_globalCount, .ref wgt, .ref wft, .ref wfv, .ref wgc, .int aw_exportCount, .ref wek, .ref wei, .ref wes, .ref wez])), (ab, .inr (1, [.ref ax, .int ab_length])), (ac, .inr (3, [.ref cfi, .ref clk, .ref clt, .int n22, .ref cop, .ref cva, .ref cpt, .ref cel, .int ac_labelCount, .ref cla])), (ax, .inl (cax, 8192, .inl gax)), (ob, .inl (cob, 100, .inl n21)), (cop, .inl (ccop, 5000, .inl n18)), (cva, .inl (ccva, 5000, .inr (.inl n20))), (cpt, .inl (ccpt, 5000, .inl n19)), (cel, .inl (ccel, 5000, .inl n17))] := hD
    refine lv_istore (lv' := [(4, .int r16), (0, .ref h0), (1, .int p0), (2, .int h0_limit), (5, .int j101_l5)]) hx hb d_RE_readCode_125 hl (by decide) rfl (fun ls hl => ?_)
    obtain ⟨x26, ex26⟩ : ∃ z : Int32, z = j101_l5 + 1 := ⟨_, rfl⟩
    have tx26 : x26.toInt = j101_l5.toInt + 1 := by have z := i32_add ex26 (by (first | (apply Int.le_antisymm <;> omega) | omega)) (by (first | (apply Int.le_antisymm <;> omega) | omega)); first | exact z | (first | (apply Int.le_antisymm <;> omega) | omega)
    refine lv_iinc (v := x26) (lv' := [(5, .int x26), (4, .int r16), (0, .ref h0), (1, .int p0), (2, .int h0_limit)]) hx hb d_RE_readCode_127 hl (k := 4) rfl (by rw [ex26]; rfl) (by decide) rfl (fun ls hl => ?_)
    refine lv_goto (tgt := 101) hx hb d_RE_readCode_130 (by decide) ?_
    exact ih101 (r16, x26, n17, n18, n19, n20, n21, n22, n23, n24, n25) _ _ _ (by show (5001 - x26.toInt).toNat < N101; (first | (apply Int.le_antisymm <;> omega) | omega)) ⟨br16, by (try dsimp only) <;> (first | (apply Int.le_antisymm <;> omega) | omega), bn22, bn24, bn25, by (try dsimp only) <;> (first | (apply Int.le_antisymm <;> omega) | omega), (by rcases zz with z | z; (have q := k9.out.2 z; exact Or.inr ⟨z, by (first | (apply Int.le_antisymm <;> omega) | omega), q.2.1, by (first | (apply Int.le_antisymm <;> omega) | omega)⟩); (have q := k9.out.1 z; rw [show x26.toNatClampNeg = j101_l5.toNatClampNeg + 1 from clampN (by (first | (apply Int.le_antisymm <;> omega) | omega)), show n23.toNatClampNeg = j101_h0_at.toNatClampNeg + (en (o8, v8)).length from by (first | (apply Int.le_antisymm <;> omega) | omega), show n22.toInt = j101_ac_length.toInt + 1 from d3_]; exact Or.inl ⟨z, q⟩)), rn, hE8, hP.sub [8, 0, 9, 10, 11, 12, 3, 4, 5, 6, 7, 1, 2] rfl, hD.sub [8, 0, 9, 10, 11, 12, 3, 4, 5, 6, 7, 1, 2] (by decide) rfl, hS, lv_sub hl [2, 3, 4, 1, 0] rfl⟩
end q_91
section q_92
/-! Reader: types as they were put -/
theorem bq_cons {f : Nat → Int32} {a x : Nat} {L : List Nat} (h : bq f a (x :: L)) : bn (f a) = x ∧ bq f (a + 1) L := h
theorem tB_hd {tk : Nat → Int} {ft : Nat → Int32} {R : List Nat} {k : Nat} {bs : List Nat} (h : tB tk ft (R.drop k) bs) (hk : k < R.length) : ∃ (r : Nat) (ps b : List Nat), R[k]? = some r ∧ r ∈ R ∧ (ps.length : Int) = tk r ∧ (∀ p ∈ ps, p = 127 ∨ p = 126) ∧ bs = 96 :: ps.length :: (ps ++ ((if (ft r).toInt.toNat = 64 then [0] else [1, (ft r).toInt.toNat]) ++ b)) ∧ tB tk ft (R.drop (k + 1)) b := by
  rw [List.drop_eq_getElem_cons hk] at h
  obtain ⟨e, b, h1, ⟨ps, h2, h3, h4⟩, h5⟩ := h
  refine ⟨R[k], ps, b, List.getElem?_eq_getElem hk, List.getElem_mem hk, h2, h3, ?_, h5⟩
  rw [h1, h4]
  unfold tyb
  simp only [List.cons_append, List.append_assoc]
theorem tB_end {tk : Nat → Int} {ft : Nat → Int32} {R : List Nat} {k : Nat} {bs : List Nat} (h : tB tk ft (R.drop k) bs) (hk : R.length ≤ k) : bs = [] := by
  rw [List.drop_of_length_le hk] at h
  exact h
abbrev at_RE_readTypesx (dC : Nat → ClassId) (dI : Nat → Nat → Nat) (h0 aw ac ob ab wat wap wag waf wgt wft wfv wgc wek wei wes wez ax : Nat) (cax cwat cwap cwag : ClassId) (h0_limit : Int32) (h0_codeCount : Int32) (h0_openCount : Int32) (aw_functionCount : Int32) (aw_hasMemory : Int32) (aw_pagesLeast : Int64) (aw_pagesMost : Int64) (aw_globalCount : Int32) (aw_exportCount : Int32) (ab_length : Int32) (gax : Nat → Int32) (A : Nat → Prop) (u : (Nat → Int32) × (Nat → Int32) × (Nat → Int32) × Int32 × Int32 × Int32) (t : State) : Prop := match u with | (gwag, gwap, gwat, aw_typeCount, h0_at, h0_sound) => va_P (dC, dI) cls (wz_47 h0 aw ac h0_at h0_limit h0_sound h0_codeCount ob h0_openCount aw ab ac aw_typeCount wat wap wag aw_functionCount waf aw_hasMemory aw_pagesLeast aw_pagesMost aw_globalCount wgt wft wfv wgc aw_exportCount wek wei wes wez ab ax ab_length ax cax gax wat cwat gwat wap cwap gwap wag cwag gwag) t.heap ∧ va_K (dC, dI) cls [(cax, .byte), (cwat, .int), (cwap, .int), (cwag, .int)] t ∧ va_D A (wz_47 h0 aw ac h0_at h0_limit h0_sound h0_codeCount ob h0_openCount aw ab ac aw_typeCount wat wap wag aw_functionCount waf aw_hasMemory aw_pagesLeast aw_pagesMost aw_globalCount wgt wft wfv wgc aw_exportCount wek wei wes wez ab ax ab_length ax cax gax wat cwat gwat wap cwap gwap wag cwag gwag)
set_option maxHeartbeats 4000000 in
set_option maxRecDepth 100000 in
theorem c_RE_readTypesx (l : Launch) (dC : Nat → ClassId) (dI : Nat → Nat → Nat) (sz : Nat) (h0 aw ac ob ab wat wap wag waf wgt wft wfv wgc wek wei wes wez ax : Nat) (cax cwat cwap cwag : ClassId) (h0_at : Int32) (h0_limit : Int32) (h0_sound : Int32) (h0_codeCount : Int32) (h0_openCount : Int32) (aw_typeCount : Int32) (aw_functionCount : Int32) (aw_hasMemory : Int32) (aw_pagesLeast : Int64) (aw_pagesMost : Int64) (aw_globalCount : Int32) (aw_exportCount : Int32) (ab_length : Int32) (gax : Nat → Int32) (gwat : Nat → Int32) (gwap : Nat → Int32) (gwag : Nat → Int32) (gTs : List Nat) (gtb : List Nat) (gtk : Nat → Int) (gft : Nat → Int32)  (b_h0_sound : h0_sound = 0 ∨ h0_sound = 1) (b_aw_typeCount : 0 ≤ aw_typeCount.toInt ∧ aw_typeCount.toInt ≤ 20)   (hs : h0_sound.toInt = 1) (ha : 0 ≤ h0_at.toInt ∧ h0_limit.toInt ≤ ab_length.toInt ∧ ab_length.toInt ≤ 8192) (hTl : gTs.length ≤ 20) (htB : bx (tB gtk gft gTs gtb)) (h8s : bx (∀ r ∈ gTs, gtk r ≤ 8)) (hts9 : bx (∀ r ∈ gTs, ty (gft r).toInt)) (hbq : bx (bq gax h0_at.toNatClampNeg (gTs.length :: gtb))) (hlm : h0_at.toInt + 1 + (gtb.length : Int) ≤ h0_limit.toInt) : Met l y_RE_readTypes w_RE_readTypes ({ frames := 2, cells := 0, slots := 0, locals := 46 }) (va_Pc [.ref h0] (fun U => U.heap.size = sz ∧ va_P (dC, dI) cls (wz_47 h0 aw ac h0_at h0_limit h0_sound h0_codeCount ob h0_openCount aw ab ac aw_typeCount wat wap wag aw_functionCount waf aw_hasMemory aw_pagesLeast aw_pagesMost aw_globalCount wgt wft wfv wgc aw_exportCount wek wei wes wez ab ax ab_length ax cax gax wat cwat gwat wap cwap gwap wag cwag gwag) U.heap ∧ va_K (dC, dI) cls [(cax, .byte), (cwat, .int), (cwap, .int), (cwag, .int)] U ∧ va_D (fun _ => True) (wz_47 h0 aw ac h0_at h0_limit h0_sound h0_codeCount ob h0_openCount aw ab ac aw_typeCount wat wap wag aw_functionCount waf aw_hasMemory aw_pagesLeast aw_pagesMost aw_globalCount wgt wft wfv wgc aw_exportCount wek wei wes wez ab ax ab_length ax cax gax wat cwat gwat wap cwap gwap wag cwag gwag))) (va_Qv (fun (u : (Nat → Int32) × (Nat → Int32) × (Nat → Int32) × Int32 × Int32 × Int32) => match u with | (gwag2, gwap2, gwat2, aw_typeCount2, h0_at2, h0_sound2) => (0 ≤ aw_typeCount2.toInt ∧ aw_typeCount2.toInt ≤ 20) ∧ (h0_sound2 = 0 ∨ h0_sound2 = 1) ∧ (h0_at2.toInt = h0_at.toInt + 1 + (gtb.length : Int) ∧ h0_sound2.toInt = 1 ∧ aw_typeCount2.toInt = (gTs.length : Int) ∧ (∀ t : Nat, (t : Int) < (gTs.length : Int) → ∃ r, gTs[t]? = some r ∧ (gwat2 t).toInt = gtk r ∧ (gwag2 t).toInt = (gft r).toInt) ∧ (∀ j : Nat, (j : Int) < 8 * (gTs.length : Int) → ((j % 8 : Nat) : Int) < (gwat2 (j / 8)).toInt → ((gwap2 j).toInt = 127 ∨ (gwap2 j).toInt = 126)))) (at_RE_readTypesx dC dI h0 aw ac ob ab wat wap wag waf wgt wft wfv wgc wek wei wes wez ax cax cwat cwap cwag h0_limit h0_codeCount h0_openCount aw_functionCount aw_hasMemory aw_pagesLeast aw_pagesMost aw_globalCount aw_exportCount ab_length gax (va_A (wz_47 h0 aw ac h0_at h0_limit h0_sound h0_codeCount ob h0_openCount aw ab ac aw_typeCount wat wap wag aw_functionCount waf aw_hasMemory aw_pagesLeast aw_pagesMost aw_globalCount wgt wft wfv wgc aw_exportCount wek wei wes wez ab ax ab_length ax cax gax wat cwat gwat wap cwap gwap wag cwag gwag) sz)) (va_A (wz_47 h0 aw ac h0_at h0_limit h0_sound h0_codeCount ob h0_openCount aw ab ac aw_typeCount wat wap wag aw_functionCount waf aw_hasMemory aw_pagesLeast aw_pagesMost aw_globalCount wgt wft wfv wgc aw_exportCount wek wei wes wez ab ax ab_length ax cax gax wat cwat gwat wap cwap gwap wag cwag gwag) sz)) 0 0 (va_A (wz_47 h0 aw ac h0_at h0_limit h0_sound h0_codeCount ob h0_openCount aw ab ac aw_typeCount wat wap wag aw_functionCount waf aw_hasMemory aw_pagesLeast aw_pagesMost aw_globalCount wgt wft wfv wgc aw_exportCount wek wei wes wez ab ax ab_length ax cax gax wat cwat gwat wap cwap gwap wag cwag gwag) sz) := by
  refine Met.ofW (cc := b_RE_readTypes) (maxL := 4) (ret := none) (by decide) rfl ?_
  intro p e s m args below meth c s₁ B hml hv
  obtain ⟨rfl, hsz, hP, hK, hD0⟩ := hv
  have hx := B.exec
  have hb := B.bytes
  have hr := B.returns
  have hts0 := atoms_spec (ws := w_RE_readTypes) B.pre
  have hts : ∀ w ∈ lw_g, w.before _ s = true := fun w h => hts0 w (List.mem_cons_of_mem _ h)
  have hown : s.vm.findClass R_RE = some m.cls := findClass_of_methodNamed B.named
  have hlocks := B.notSynchronized
  clear hts0
  subst hsz
  have hD := hD0.self (sz := s.heap.size)
  generalize hAe : va_A (wz_47 h0 aw ac h0_at h0_limit h0_sound h0_codeCount ob h0_openCount aw ab ac aw_typeCount wat wap wag aw_functionCount waf aw_hasMemory aw_pagesLeast aw_pagesMost aw_globalCount wgt wft wfv wgc aw_exportCount wek wei wes wez ab ax ab_length ax cax gax wat cwat gwat wap cwap gwap wag cwag gwag) s.heap.size = A at hD ⊢
  have hA : ∀ q : Nat, s.heap.size ≤ q → A q := fun q h => by rw [← hAe]; exact Or.inr h
  clear hAe
  have hP : va_P (dC, dI) cls (wz_47 h0 aw ac h0_at h0_limit h0_sound h0_codeCount ob h0_openCount aw ab ac aw_typeCount wat wap wag aw_functionCount waf aw_hasMemory aw_pagesLeast aw_pagesMost aw_globalCount wgt wft wfv wgc aw_exportCount wek wei wes wez ab ax ab_length ax cax gax wat cwat gwat wap cwap gwap wag cwag gwag) s.heap := hP
  have hl := lv_entry ([.ref h0]) (n := 4) (Nat.le_of_ble_eq_true rfl)
  rw [lg_entry_eq]
  generalize (lg_sl ([.ref h0]) ++ List.replicate (4 - (lg_sl ([.ref h0])).length) Slot.unset).toArray = ls at hl ⊢
  have hl : lv_has ls 4 [(0, .ref h0)] := hl
  have k0 : (0 : Int32).toInt = 0 := by decide
  refine w_gen (A := A) hP (fun H locs hP hS => ?_)
  have k1 : (1 : Int32).toInt = 1 := by decide
  have k8 : (8 : Int32).toInt = 8 := by decide
  have k64 : (64 : Int32).toInt = 64 := by decide
  have k96 : (96 : Int32).toInt = 96 := by decide
  have th0_sound := b01 b_h0_sound
  have za0 := i32_clamp (x := h0_at) (by (first | (apply Int.le_antisymm <;> omega) | omega))
  have lb0 : (leb 5 gTs.length).length = 1 := by rw [leb_1 (by (first | (apply Int.le_antisymm <;> omega) | omega))]; rfl
  refine lv_aload_n hx hb d_RE_readTypes_0 rfl (lv_at hl 0 rfl) ?_
  refine va_get (D := (dC, dI)) (ci := 7) (v := .ref aw) (C := R_RE) (T := F_RE) (N := 8) hx hb hts i_RE hown hK hP 0 rfl rfl 0 (by decide) (hts _ kF_RE_15) (fun _ h9 => h9) rfl d_RE_readTypes_1 ?_
  refine lv_aload_n hx hb d_RE_readTypes_4 rfl (lv_at hl 0 rfl) ?_
  refine lv_ldc2 hx hb hown (hts _ kL_RE_96) d_RE_readTypes_5 ?_
  refine lv_topl (fun x1 ex1 => ?_)
  have tx1 : x1.toInt = 20 := by rw [ex1]; decide
  have hPc := hP.sb (wq := (wz_46 h0 aw ac h0_at h0_limit h0_sound h0_codeCount ob h0_openCount aw ab ac aw_typeCount wat wap wag aw_functionCount waf aw_hasMemory aw_pagesLeast aw_pagesMost aw_globalCount wgt wft wfv wgc aw_exportCount wek wei wes wez ab ax ab_length ax cax gax)) [0, 1, 2, 3] rfl
  have hDc := hD.sb (wq := (wz_46 h0 aw ac h0_at h0_limit h0_sound h0_codeCount ob h0_openCount aw ab ac aw_typeCount wat wap wag aw_functionCount waf aw_hasMemory aw_pagesLeast aw_pagesMost aw_globalCount wgt wft wfv wgc aw_exportCount wek wei wes wez ab ax ab_length ax cax gax)) [0, 1, 2, 3] (by decide) rfl
  have hKc := hK.sb (tyq := [(cax, .byte)]) [0] rfl
  have hFc := va_free (wc := (wz_46 h0 aw ac h0_at h0_limit h0_sound h0_codeCount ob h0_openCount aw ab ac aw_typeCount wat wap wag aw_functionCount waf aw_hasMemory aw_pagesLeast aw_pagesMost aw_globalCount wgt wft wfv wgc aw_exportCount wek wei wes wez ab ax ab_length ax cax gax)) hD hS hA [0, 1, 2, 3] rfl
  refine va_calll (va_runV (As := [.long x1]) (rest := [.ref aw]) ⟨hx, hb, hml, hown, hts⟩ (c_RE_readUnsignedx l dC dI H.size h0 aw ac ob ab wat wap wag waf wgt wft wfv wgc wek wei wes wez ax cax h0_at h0_limit h0_sound h0_codeCount h0_openCount aw_typeCount aw_functionCount aw_hasMemory aw_pagesLeast aw_pagesMost aw_globalCount aw_exportCount ab_length gax gTs.length (b_h0_sound) x1 (by (first | (apply Int.le_antisymm <;> omega) | omega)) (by (first | (apply Int.le_antisymm <;> omega) | omega)) (by (first | (apply Int.le_antisymm <;> omega) | omega)) ((by rw [leb_1 (by (first | (apply Int.le_antisymm <;> omega) | omega))]; exact ⟨hbq.out.1, trivial⟩)) (by (first | (apply Int.le_antisymm <;> omega) | omega))) (cwV 1 hts (gV kM_RE_64 kV_RE_readUnsigned kS_RE_readUnsigned kI_RE kC_RE_readUnsigned) rfl rfl rfl (by decide +kernel) ⟨Nat.le_of_ble_eq_true rfl, Nat.le_of_ble_eq_true rfl⟩) ⟨fun a U g mk z => by obtain ⟨z0, z1, zP, zK, zD⟩ := z; exact ⟨z0, z1, zP, va_K.moved (u := U) (U := U.calling g mk a) (Vm.Alike.refl U.vm) zK, zD⟩, va_recv hKc hPc (ci := 7) (q0 := 0) rfl rfl, fun U hU hW => ⟨rfl, by rw [hU], va_P.he hU.symm hPc, va_K.moved hW.alike hKc, hDc.weaken (fun _ _ _ _ => trivial)⟩⟩ rfl rfl hl.1 rfl (lv_room (Nat.le_of_ble_eq_true rfl)) d_RE_readTypes_8 ⟨(Nat.zero_le _), (Nat.zero_le _)⟩) hS (fun q _ h => hFc q h) hFc (fun r2 u t H1 locs ht hvm hw hB hz1 hk1 hS => ?_)
  obtain ⟨n3, n4⟩ := u
  try dsimp only at hw
  obtain ⟨bn4, xr2⟩ := hw
  try clear hw
  have tn4 := b01 bn4
  have za8 := i32_clamp (x := n3) (by (first | (apply Int.le_antisymm <;> omega) | omega))
  obtain ⟨hP1, hK1, hD1⟩ := hB
  replace hP1 := va_P.he ht hP1
  obtain ⟨hP, hD⟩ := va_join (wr := (wz_48 wat cwat gwat wap cwap gwap wag cwag gwag)) (w1 := (wz_46 h0 aw ac n3 h0_limit n4 h0_codeCount ob h0_openCount aw ab ac aw_typeCount wat wap wag aw_functionCount waf aw_hasMemory aw_pagesLeast aw_pagesMost aw_globalCount wgt wft wfv wgc aw_exportCount wek wei wes wez ab ax ab_length ax cax gax)) hP hD [0, 1, 2, 3] [4, 5, 6] rfl rfl (by decide) (by decide) hk1 hFc hP1 hD1
  clear hPc hDc hKc hFc hz1 hk1 hP1 hK1 hD1
  rename Heap => H
  have hP : va_P (dC, dI) cls (wz_49 wat cwat gwat wap cwap gwap wag cwag gwag h0 aw ac n3 h0_limit n4 h0_codeCount ob h0_openCount aw ab ac aw_typeCount wat wap wag aw_functionCount waf aw_hasMemory aw_pagesLeast aw_pagesMost aw_globalCount wgt wft wfv wgc aw_exportCount wek wei wes wez ab ax ab_length ax cax gax) H := hP
  have hD : va_D A (wz_49 wat cwat gwat wap cwap gwap wag cwag gwag h0 aw ac n3 h0_limit n4 h0_codeCount ob h0_openCount aw ab ac aw_typeCount wat wap wag aw_functionCount waf aw_hasMemory aw_pagesLeast aw_pagesMost aw_globalCount wgt wft wfv wgc aw_exportCount wek wei wes wez ab ax ab_length ax cax gax) := hD
  refine lv_l2i hx hb d_RE_readTypes_11 rfl ?_
  refine lv_topi (fun x5 ex5 => ?_)
  have tx5 := l2i_t ex5 (by (first | (apply Int.le_antisymm <;> omega) | omega)) (by (first | (apply Int.le_antisymm <;> omega) | omega))
  refine va_put (D := (dC, dI)) (ci := 10) (v := .int x5) (ty := .int) (C := R_WA) (T := F_WA) (N := 21) hx hb hts i_WA t_WA t_WA_ok n_WA hown hK hP hD hS 4 rfl rfl 2 (by decide) (hts _ kF_RE_98) (fun _ h9 => h9) rfl (by decide +kernel) rfl rfl (Nat.le_of_ble_eq_true rfl) d_RE_readTypes_12 (fun H locs hP hD hS => ?_)
  refine lv_iconst (v := 0) hx hb d_RE_readTypes_15 (by decide) ?_
  refine lv_istore_n (lv' := [(1, .int 0), (0, .ref h0)]) hx hb d_RE_readTypes_16 rfl hl (by decide) rfl (fun ls hl => ?_)
  refine w_loop (σ := Int32 × (Nat → Int32) × (Nat → Int32) × (Nat → Int32) × Int32 × Int32) (fun u H locs ls => match u with | (j17_l1, j17_wag, j17_wap, j17_wat, j17_h0_at, j17_h0_sound) => (0 ≤ j17_l1.toInt ∧ j17_l1.toInt ≤ 20) ∧ (j17_h0_sound = 0 ∨ j17_h0_sound = 1) ∧ (j17_l1.toInt ≤ x5.toInt ∧ x5.toInt = (gTs.length : Int) ∧ j17_h0_sound.toInt = 1 ∧ 0 ≤ j17_h0_at.toInt) ∧ (bx (∃ b : List Nat, tB gtk gft (gTs.drop j17_l1.toNatClampNeg) b ∧ bq gax j17_h0_at.toNatClampNeg b ∧ j17_h0_at.toInt + (b.length : Int) = h0_at.toInt + 1 + (gtb.length : Int))) ∧ (∀ t : Nat, (t : Int) < j17_l1.toInt → ∃ r, gTs[t]? = some r ∧ (j17_wat t).toInt = gtk r ∧ (j17_wag t).toInt = (gft r).toInt) ∧ (∀ j : Nat, (j : Int) < 8 * j17_l1.toInt → ((j % 8 : Nat) : Int) < (j17_wat (j / 8)).toInt → ((j17_wap j).toInt = 127 ∨ (j17_wap j).toInt = 126)) ∧ va_P (dC, dI) cls (wz_49 wat cwat j17_wat wap cwap j17_wap wag cwag j17_wag h0 aw ac j17_h0_at h0_limit j17_h0_sound h0_codeCount ob h0_openCount aw ab ac x5 wat wap wag aw_functionCount waf aw_hasMemory aw_pagesLeast aw_pagesMost aw_globalCount wgt wft wfv wgc aw_exportCount wek wei wes wez ab ax ab_length ax cax gax) H ∧ va_D A (wz_49 wat cwat j17_wat wap cwap j17_wap wag cwag j17_wag h0 aw ac j17_h0_at h0_limit j17_h0_sound h0_codeCount ob h0_openCount aw ab ac x5 wat wap wag aw_functionCount waf aw_hasMemory aw_pagesLeast aw_pagesMost aw_globalCount wgt wft wfv wgc aw_exportCount wek wei wes wez ab ax ab_length ax cax gax) ∧ va_S A s.heap H locs ∧ lv_has ls 4 [(0, .ref h0), (1, .int j17_l1)]) (fun u => match u with | (j17_l1, j17_wag, j17_wap, j17_wat, j17_h0_at, j17_h0_sound) => (x5.toInt - j17_l1.toInt).toNat) ?_ (0, gwag, gwap, gwat, n3, n4) ⟨by (try dsimp only) <;> (first | (apply Int.le_antisymm <;> omega) | omega), bn4, by (try dsimp only) <;> (first | (apply Int.le_antisymm <;> omega) | omega), ⟨gtb, htB.out, (bq_at hbq.out.2 (by (first | (apply Int.le_antisymm <;> omega) | omega))), by (first | (apply Int.le_antisymm <;> omega) | omega)⟩, fun t z => absurd z (by show ¬ (t : Int) < 0; (first | (apply Int.le_antisymm <;> omega) | omega)), fun j z1 z2 => absurd z1 (by show ¬ (j : Int) < 8 * 0; (first | (apply Int.le_antisymm <;> omega) | omega)), hP, hD, hS, lv_sub hl [1, 0] rfl⟩
  intro N17 ih17 u H locs ls hN17 hI
  obtain ⟨j17_l1, j17_wag, j17_wap, j17_wat, j17_h0_at, j17_h0_sound⟩ := u
  obtain ⟨b_j17_l1, b_j17_h0_sound, v1, hB, v3, v4, hP, hD, hS, hl⟩ := hI
  have tj17_h0_sound := b01 b_j17_h0_sound
  have hN17 : (x5.toInt - j17_l1.toInt).toNat < N17 + 1 := hN17
  refine lv_iload_n hx hb d_RE_readTypes_17 rfl (lv_at hl 1 rfl) ?_
  refine lv_aload_n hx hb d_RE_readTypes_18 rfl (lv_at hl 0 rfl) ?_
  refine va_get (D := (dC, dI)) (ci := 7) (v := .ref aw) (C := R_RE) (T := F_RE) (N := 8) hx hb hts i_RE hown hK hP 3 rfl rfl 0 (by decide) (hts _ kF_RE_15) (fun _ h9 => h9) rfl d_RE_readTypes_19 ?_
  refine va_get (D := (dC, dI)) (ci := 10) (v := .int x5) (C := R_WA) (T := F_WA) (N := 21) hx hb hts i_WA hown hK hP 4 rfl rfl 2 (by decide) (hts _ kF_RE_98) (fun _ h9 => h9) rfl d_RE_readTypes_22 ?_
  refine lv_icmp_ge (tgt := 125) hx hb d_RE_readTypes_25 (by decide) (fun c25 => ?_) (fun c25 => ?_)
  · have q25 := leI c25
    have hP9 := hP.sb (wq := (wz_47 h0 aw ac j17_h0_at h0_limit j17_h0_sound h0_codeCount ob h0_openCount aw ab ac x5 wat wap wag aw_functionCount waf aw_hasMemory aw_pagesLeast aw_pagesMost aw_globalCount wgt wft wfv wgc aw_exportCount wek wei wes wez ab ax ab_length ax cax gax wat cwat j17_wat wap cwap j17_wap wag cwag j17_wag)) [3, 4, 5, 6, 0, 1, 2] rfl
    have hD9 := hD.sb (wq := (wz_47 h0 aw ac j17_h0_at h0_limit j17_h0_sound h0_codeCount ob h0_openCount aw ab ac x5 wat wap wag aw_functionCount waf aw_hasMemory aw_pagesLeast aw_pagesMost aw_globalCount wgt wft wfv wgc aw_exportCount wek wei wes wez ab ax ab_length ax cax gax wat cwat j17_wat wap cwap j17_wap wag cwag j17_wag)) [3, 4, 5, 6, 0, 1, 2] (by decide) rfl
    exact W.vret hx hb hr (fun t ht hW => ⟨⟨(j17_wag, j17_wap, j17_wat, x5, j17_h0_at, j17_h0_sound), rfl, ⟨by (try dsimp only) <;> (first | (apply Int.le_antisymm <;> omega) | omega), b_j17_h0_sound, (by obtain ⟨b, k1, k2, k3⟩ := hB.out; have e := tB_end k1 (by have := i32_clamp (x := j17_l1) (by (first | (apply Int.le_antisymm <;> omega) | omega)); (first | (apply Int.le_antisymm <;> omega) | omega)); rw [e, List.length_nil] at k3; exact ⟨by (try dsimp only) <;> (first | (apply Int.le_antisymm <;> omega) | omega), by (try dsimp only) <;> (first | (apply Int.le_antisymm <;> omega) | omega), by (try dsimp only) <;> (first | (apply Int.le_antisymm <;> omega) | omega), fun t z => v3 t (by (first | (apply Int.le_antisymm <;> omega) | omega)), fun j z1 z2 => v4 j (by (first | (apply Int.le_antisymm <;> omega) | omega)) z2⟩)⟩, va_P.he ht.symm hP9, va_K.moved hW.alike hK, hD9⟩, hS.F ht⟩) hS.2.2 d_RE_readTypes_125
  · have q25 := nleI c25
    refine lv_aload_n hx hb d_RE_readTypes_28 rfl (lv_at hl 0 rfl) ?_
    refine va_get (D := (dC, dI)) (ci := 7) (v := .int j17_h0_sound) (C := R_RE) (T := F_RE) (N := 8) hx hb hts i_RE hown hK hP 3 rfl rfl 4 (by decide) (hts _ kF_RE_45) (fun _ h9 => h9) rfl d_RE_readTypes_29 ?_
    refine lv_if_eq (tgt := 125) hx hb d_RE_readTypes_32 (by decide) (fun c32 => absurd (eqI c32) (by (first | (apply Int.le_antisymm <;> omega) | omega))) (fun c32 => ?_)
    have q32 := neI c32
    have c9 := i32_clamp (x := j17_l1) (by (first | (apply Int.le_antisymm <;> omega) | omega))
    obtain ⟨bb9, m1, m2, m3⟩ := hB.out
    obtain ⟨r9, ps9, b9, n1, n2, n3, n4, n5, n6⟩ := tB_hd m1 (by (first | (apply Int.le_antisymm <;> omega) | omega))
    subst n5
    replace m2 := bq_cons m2
    have m4 := m2.1
    replace m2 := bq_cons m2.2
    have m5 := m2.1
    have m6 := m2.2
    replace m6 : bx _ := m6
    clear m2 m1
    have h8 := h8s.out r9 n2
    have hty := hts9.out r9 n2
    replace n4 : bx _ := n4
    replace n6 : bx _ := n6
    rw [List.length_cons, List.length_cons, List.length_append, List.length_append] at m3
    have za := i32_clamp (x := j17_h0_at) (by (first | (apply Int.le_antisymm <;> omega) | omega))
    have lp : (leb 5 ps9.length).length = 1 := by rw [leb_1 (by (first | (apply Int.le_antisymm <;> omega) | omega))]; rfl
    unfold ty at hty
    obtain ⟨X9, hX9⟩ : ∃ X, X = (if (gft r9).toInt.toNat = 64 then [0] else [1, (gft r9).toInt.toNat] : List Nat) := ⟨_, rfl⟩
    rw [← hX9] at m3 m6
    have lX : X9.length = 1 ∨ X9.length = 2 := by rw [hX9]; split; exact Or.inl rfl; exact Or.inr rfl
    refine lv_aload_n hx hb d_RE_readTypes_35 rfl (lv_at hl 0 rfl) ?_
    refine lv_bipush (v := 96) hx hb d_RE_readTypes_36 (by decide) ?_
    have hPc := hP.sb (wq := (wz_46 h0 aw ac j17_h0_at h0_limit j17_h0_sound h0_codeCount ob h0_openCount aw ab ac x5 wat wap wag aw_functionCount waf aw_hasMemory aw_pagesLeast aw_pagesMost aw_globalCount wgt wft wfv wgc aw_exportCount wek wei wes wez ab ax ab_length ax cax gax)) [3, 4, 5, 6] rfl
    have hDc := hD.sb (wq := (wz_46 h0 aw ac j17_h0_at h0_limit j17_h0_sound h0_codeCount ob h0_openCount aw ab ac x5 wat wap wag aw_functionCount waf aw_hasMemory aw_pagesLeast aw_pagesMost aw_globalCount wgt wft wfv wgc aw_exportCount wek wei wes wez ab ax ab_length ax cax gax)) [3, 4, 5, 6] (by decide) rfl
    have hKc := hK.sb (tyq := [(cax, .byte)]) [0] rfl
    have hFc := va_free (wc := (wz_46 h0 aw ac j17_h0_at h0_limit j17_h0_sound h0_codeCount ob h0_openCount aw ab ac x5 wat wap wag aw_functionCount waf aw_hasMemory aw_pagesLeast aw_pagesMost aw_globalCount wgt wft wfv wgc aw_exportCount wek wei wes wez ab ax ab_length ax cax gax)) hD hS hA [3, 4, 5, 6] rfl
    refine va_callv (va_runV (As := [.int 96]) (rest := []) ⟨hx, hb, hml, hown, hts⟩ (c_RE_expectx l dC dI H.size h0 aw ac ob ab wat wap wag waf wgt wft wfv wgc wek wei wes wez ax cax j17_h0_at h0_limit j17_h0_sound h0_codeCount h0_openCount x5 aw_functionCount aw_hasMemory aw_pagesLeast aw_pagesMost aw_globalCount aw_exportCount ab_length gax (b_j17_h0_sound) 96 (by (first | (apply Int.le_antisymm <;> omega) | omega)) (by (first | (apply Int.le_antisymm <;> omega) | omega)) (by (first | (apply Int.le_antisymm <;> omega) | omega)) (by (try dsimp only) <;> (first | (apply Int.le_antisymm <;> omega) | omega))) (cwV 1 hts (gV kM_RE_56 kV_RE_expect kS_RE_expect kI_RE kC_RE_expect) rfl rfl rfl (by decide +kernel) ⟨Nat.le_of_ble_eq_true rfl, Nat.le_of_ble_eq_true rfl⟩) ⟨fun a U g mk z => by obtain ⟨z0, z1, zP, zK, zD⟩ := z; exact ⟨z0, z1, zP, va_K.moved (u := U) (U := U.calling g mk a) (Vm.Alike.refl U.vm) zK, zD⟩, va_recv hKc hPc (ci := 7) (q0 := 0) rfl rfl, fun U hU hW => ⟨rfl, by rw [hU], va_P.he hU.symm hPc, va_K.moved hW.alike hKc, hDc.weaken (fun _ _ _ _ => trivial)⟩⟩ rfl rfl hl.1 rfl (lv_room (Nat.le_of_ble_eq_true rfl)) d_RE_readTypes_38 ⟨(Nat.zero_le _), (Nat.zero_le _)⟩) hS (fun q _ h => hFc q h) hFc (fun u t H1 locs ht hvm hw hB hz1 hk1 hS => ?_)
    obtain ⟨n7, n8⟩ := u
    try dsimp only at hw
    obtain ⟨bn8, xr6⟩ := hw
    try clear hw
    have tn8 := b01 bn8
    have za38 := i32_clamp (x := n7) (by (first | (apply Int.le_antisymm <;> omega) | omega))
    have ea38 : n7.toNatClampNeg = j17_h0_at.toNatClampNeg + 1 := by (first | (apply Int.le_antisymm <;> omega) | omega)
    obtain ⟨hP1, hK1, hD1⟩ := hB
    replace hP1 := va_P.he ht hP1
    obtain ⟨hP, hD⟩ := va_join (wr := (wz_48 wat cwat j17_wat wap cwap j17_wap wag cwag j17_wag)) (w1 := (wz_46 h0 aw ac n7 h0_limit n8 h0_codeCount ob h0_openCount aw ab ac x5 wat wap wag aw_functionCount waf aw_hasMemory aw_pagesLeast aw_pagesMost aw_globalCount wgt wft wfv wgc aw_exportCount wek wei wes wez ab ax ab_length ax cax gax)) hP hD [3, 4, 5, 6] [0, 1, 2] rfl rfl (by decide) (by decide) hk1 hFc hP1 hD1
    clear hPc hDc hKc hFc hz1 hk1 hP1 hK1 hD1
    rename Heap => H
    have hP : va_P (dC, dI) cls (wz_49 wat cwat j17_wat wap cwap j17_wap wag cwag j17_wag h0 aw ac n7 h0_limit n8 h0_codeCount ob h0_openCount aw ab ac x5 wat wap wag aw_functionCount waf aw_hasMemory aw_pagesLeast aw_pagesMost aw_globalCount wgt wft wfv wgc aw_exportCount wek wei wes wez ab ax ab_length ax cax gax) H := hP
    have hD : va_D A (wz_49 wat cwat j17_wat wap cwap j17_wap wag cwag j17_wag h0 aw ac n7 h0_limit n8 h0_codeCount ob h0_openCount aw ab ac x5 wat wap wag aw_functionCount waf aw_hasMemory aw_pagesLeast aw_pagesMost aw_globalCount wgt wft wfv wgc aw_exportCount wek wei wes wez ab ax ab_length ax cax gax) := hD
    refine lv_aload_n hx hb d_RE_readTypes_41 rfl (lv_at hl 0 rfl) ?_
    refine lv_ldc2 hx hb hown (hts _ kL_RE_101) d_RE_readTypes_42 ?_
    refine lv_topl (fun x9 ex9 => ?_)
    have tx9 : x9.toInt = 8 := by rw [ex9]; decide
    have hPc := hP.sb (wq := (wz_46 h0 aw ac n7 h0_limit n8 h0_codeCount ob h0_openCount aw ab ac x5 wat wap wag aw_functionCount waf aw_hasMemory aw_pagesLeast aw_pagesMost aw_globalCount wgt wft wfv wgc aw_exportCount wek wei wes wez ab ax ab_length ax cax gax)) [3, 4, 5, 6] rfl
    have hDc := hD.sb (wq := (wz_46 h0 aw ac n7 h0_limit n8 h0_codeCount ob h0_openCount aw ab ac x5 wat wap wag aw_functionCount waf aw_hasMemory aw_pagesLeast aw_pagesMost aw_globalCount wgt wft wfv wgc aw_exportCount wek wei wes wez ab ax ab_length ax cax gax)) [3, 4, 5, 6] (by decide) rfl
    have hKc := hK.sb (tyq := [(cax, .byte)]) [0] rfl
    have hFc := va_free (wc := (wz_46 h0 aw ac n7 h0_limit n8 h0_codeCount ob h0_openCount aw ab ac x5 wat wap wag aw_functionCount waf aw_hasMemory aw_pagesLeast aw_pagesMost aw_globalCount wgt wft wfv wgc aw_exportCount wek wei wes wez ab ax ab_length ax cax gax)) hD hS hA [3, 4, 5, 6] rfl
    refine va_calll (va_runV (As := [.long x9]) (rest := []) ⟨hx, hb, hml, hown, hts⟩ (c_RE_readUnsignedx l dC dI H.size h0 aw ac ob ab wat wap wag waf wgt wft wfv wgc wek wei wes wez ax cax n7 h0_limit n8 h0_codeCount h0_openCount x5 aw_functionCount aw_hasMemory aw_pagesLeast aw_pagesMost aw_globalCount aw_exportCount ab_length gax ps9.length (bn8) x9 (by (first | (apply Int.le_antisymm <;> omega) | omega)) (by (first | (apply Int.le_antisymm <;> omega) | omega)) (by (first | (apply Int.le_antisymm <;> omega) | omega)) ((by rw [leb_1 (by (first | (apply Int.le_antisymm <;> omega) | omega))]; exact ⟨(by rw [ea38]; exact m5), trivial⟩)) (by (first | (apply Int.le_antisymm <;> omega) | omega))) (cwV 1 hts (gV kM_RE_64 kV_RE_readUnsigned kS_RE_readUnsigned kI_RE kC_RE_readUnsigned) rfl rfl rfl (by decide +kernel) ⟨Nat.le_of_ble_eq_true rfl, Nat.le_of_ble_eq_true rfl⟩) ⟨fun a U g mk z => by obtain ⟨z0, z1, zP, zK, zD⟩ := z; exact ⟨z0, z1, zP, va_K.moved (u := U) (U := U.calling g mk a) (Vm.Alike.refl U.vm) zK, zD⟩, va_recv hKc hPc (ci := 7) (q0 := 0) rfl rfl, fun U hU hW => ⟨rfl, by rw [hU], va_P.he hU.symm hPc, va_K.moved hW.alike hKc, hDc.weaken (fun _ _ _ _ => trivial)⟩⟩ rfl rfl hl.1 rfl (lv_room (Nat.le_of_ble_eq_true rfl)) d_RE_readTypes_45 ⟨(Nat.zero_le _), (Nat.zero_le _)⟩) hS (fun q _ h => hFc q h) hFc (fun r10 u t H1 locs ht hvm hw hB hz1 hk1 hS => ?_)
    obtain ⟨n11, n12⟩ := u
    try dsimp only at hw
    obtain ⟨bn12, xr10⟩ := hw
    try clear hw
    have tn12 := b01 bn12
    have za45 := i32_clamp (x := n11) (by (first | (apply Int.le_antisymm <;> omega) | omega))
    obtain ⟨hP1, hK1, hD1⟩ := hB
    replace hP1 := va_P.he ht hP1
    obtain ⟨hP, hD⟩ := va_join (wr := (wz_48 wat cwat j17_wat wap cwap j17_wap wag cwag j17_wag)) (w1 := (wz_46 h0 aw ac n11 h0_limit n12 h0_codeCount ob h0_openCount aw ab ac x5 wat wap wag aw_functionCount waf aw_hasMemory aw_pagesLeast aw_pagesMost aw_globalCount wgt wft wfv wgc aw_exportCount wek wei wes wez ab ax ab_length ax cax gax)) hP hD [3, 4, 5, 6] [0, 1, 2] rfl rfl (by decide) (by decide) hk1 hFc hP1 hD1
    clear hPc hDc hKc hFc hz1 hk1 hP1 hK1 hD1
    rename Heap => H
    have hP : va_P (dC, dI) cls (wz_49 wat cwat j17_wat wap cwap j17_wap wag cwag j17_wag h0 aw ac n11 h0_limit n12 h0_codeCount ob h0_openCount aw ab ac x5 wat wap wag aw_functionCount waf aw_hasMemory aw_pagesLeast aw_pagesMost aw_globalCount wgt wft wfv wgc aw_exportCount wek wei wes wez ab ax ab_length ax cax gax) H := hP
    have hD : va_D A (wz_49 wat cwat j17_wat wap cwap j17_wap wag cwag j17_wag h0 aw ac n11 h0_limit n12 h0_codeCount ob h0_openCount aw ab ac x5 wat wap wag aw_functionCount waf aw_hasMemory aw_pagesLeast aw_pagesMost aw_globalCount wgt wft wfv wgc aw_exportCount wek wei wes wez ab ax ab_length ax cax gax) := hD
    refine lv_l2i hx hb d_RE_readTypes_48 rfl ?_
    refine lv_topi (fun x13 ex13 => ?_)
    have tx13 := l2i_t ex13 (by (first | (apply Int.le_antisymm <;> omega) | omega)) (by (first | (apply Int.le_antisymm <;> omega) | omega))
    refine lv_istore_n (lv' := [(2, .int x13), (0, .ref h0), (1, .int j17_l1)]) hx hb d_RE_readTypes_49 rfl hl (by decide) rfl (fun ls hl => ?_)
    refine lv_aload_n hx hb d_RE_readTypes_50 rfl (lv_at hl 1 rfl) ?_
    refine va_get (D := (dC, dI)) (ci := 7) (v := .ref aw) (C := R_RE) (T := F_RE) (N := 8) hx hb hts i_RE hown hK hP 3 rfl rfl 0 (by decide) (hts _ kF_RE_15) (fun _ h9 => h9) rfl d_RE_readTypes_51 ?_
    refine va_get (D := (dC, dI)) (ci := 10) (v := .ref wat) (C := R_WA) (T := F_WA) (N := 21) hx hb hts i_WA hown hK hP 4 rfl rfl 3 (by decide) (hts _ kF_RE_103) (fun _ h9 => h9) rfl d_RE_readTypes_54 ?_
    refine lv_iload_n hx hb d_RE_readTypes_57 rfl (lv_at hl 2 rfl) ?_
    refine lv_iload_n hx hb d_RE_readTypes_58 rfl (lv_at hl 0 rfl) ?_
    have g59 : vp_in j17_l1 20 := vp_in_iff.mpr ⟨by (first | (apply Int.le_antisymm <;> omega) | omega), by (first | (apply Int.le_antisymm <;> omega) | omega)⟩
    refine va_iast hx hb hK hP hD hS 0 1 rfl rfl g59 d_RE_readTypes_59 (fun H locs hP hD hS => ?_)
    generalize ef14 : upd j17_wat j17_l1.toNatClampNeg x13 = f14 at hP hD
    have eW := ef14
    refine lv_iconst (v := 0) hx hb d_RE_readTypes_60 (by decide) ?_
    refine lv_istore_n (lv' := [(3, .int 0), (2, .int x13), (0, .ref h0), (1, .int j17_l1)]) hx hb d_RE_readTypes_61 rfl hl (by decide) rfl (fun ls hl => ?_)
    refine w_loop (σ := Int32 × (Nat → Int32) × Int32 × Int32) (fun u H locs ls => match u with | (j62_l3, j62_wap, j62_h0_at, j62_h0_sound) => (0 ≤ j62_l3.toInt ∧ j62_l3.toInt ≤ 8) ∧ (j62_h0_sound = 0 ∨ j62_h0_sound = 1) ∧ (j62_l3.toInt ≤ x13.toInt ∧ j62_h0_at.toInt = j17_h0_at.toInt + 2 + j62_l3.toInt ∧ j62_h0_sound.toInt = 1) ∧ (∀ j : Nat, ((j : Int) < 8 * j17_l1.toInt ∧ ((j % 8 : Nat) : Int) < (f14 (j / 8)).toInt) ∨ (8 * j17_l1.toInt ≤ (j : Int) ∧ (j : Int) < 8 * j17_l1.toInt + j62_l3.toInt) → ((j62_wap j).toInt = 127 ∨ (j62_wap j).toInt = 126)) ∧ (bx (bq gax j62_h0_at.toNatClampNeg (ps9.drop j62_l3.toNatClampNeg ++ (X9 ++ b9)))) ∧ va_P (dC, dI) cls (wz_49 wat cwat f14 wap cwap j62_wap wag cwag j17_wag h0 aw ac j62_h0_at h0_limit j62_h0_sound h0_codeCount ob h0_openCount aw ab ac x5 wat wap wag aw_functionCount waf aw_hasMemory aw_pagesLeast aw_pagesMost aw_globalCount wgt wft wfv wgc aw_exportCount wek wei wes wez ab ax ab_length ax cax gax) H ∧ va_D A (wz_49 wat cwat f14 wap cwap j62_wap wag cwag j17_wag h0 aw ac j62_h0_at h0_limit j62_h0_sound h0_codeCount ob h0_openCount aw ab ac x5 wat wap wag aw_functionCount waf aw_hasMemory aw_pagesLeast aw_pagesMost aw_globalCount wgt wft wfv wgc aw_exportCount wek wei wes wez ab ax ab_length ax cax gax) ∧ va_S A s.heap H locs ∧ lv_has ls 4 [(0, .ref h0), (1, .int j17_l1), (2, .int x13), (3, .int j62_l3)]) (fun u => match u with | (j62_l3, j62_wap, j62_h0_at, j62_h0_sound) => (x13.toInt - j62_l3.toInt).toNat) ?_ (0, j17_wap, n11, n12) ⟨by (try dsimp only) <;> (first | (apply Int.le_antisymm <;> omega) | omega), bn12, by (try dsimp only) <;> (first | (apply Int.le_antisymm <;> omega) | omega), fun j q => q.elim (fun q => v4 j q.1 (by have q2 := q.2; rw [← eW, pk_un (show j / 8 ≠ j17_l1.toNatClampNeg by (first | (apply Int.le_antisymm <;> omega) | omega))] at q2; exact q2)) (fun q => absurd q.2 (by show ¬ (j : Int) < 8 * j17_l1.toInt + 0; (first | (apply Int.le_antisymm <;> omega) | omega))), (bq_at m6.out (by (first | (apply Int.le_antisymm <;> omega) | omega))), hP, hD, hS, lv_sub hl [2, 3, 1, 0] rfl⟩
    intro N62 ih62 u H locs ls hN62 hI
    obtain ⟨j62_l3, j62_wap, j62_h0_at, j62_h0_sound⟩ := u
    obtain ⟨b_j62_l3, b_j62_h0_sound, u1, u4, hq62, hP, hD, hS, hl⟩ := hI
    have tj62_h0_sound := b01 b_j62_h0_sound
    have hN62 : (x13.toInt - j62_l3.toInt).toNat < N62 + 1 := hN62
    refine lv_iload_n hx hb d_RE_readTypes_62 rfl (lv_at hl 3 rfl) ?_
    refine lv_iload_n hx hb d_RE_readTypes_63 rfl (lv_at hl 2 rfl) ?_
    refine lv_icmp_ge (tgt := 91) hx hb d_RE_readTypes_64 (by decide) (fun c64 => ?_) (fun c64 => ?_)
    · have q64 := leI c64
      have q91 := hq62.out
      rw [List.drop_of_length_le (by have := i32_clamp (x := j62_l3) (by (first | (apply Int.le_antisymm <;> omega) | omega)); (first | (apply Int.le_antisymm <;> omega) | omega)), List.nil_append] at q91
      have q92 := bq_app q91
      have q93 := q92.2
      replace q93 : bx _ := q93
      have q92 := q92.1
      rw [hX9] at q92
      have z62 := i32_clamp (x := j62_h0_at) (by (first | (apply Int.le_antisymm <;> omega) | omega))
      have g91 : ((gft r9).toInt = 64 ∧ bn (gax j62_h0_at.toNatClampNeg) = 0 ∧ X9.length = 1) ∨ ((gft r9).toInt ≠ 64 ∧ bn (gax j62_h0_at.toNatClampNeg) = 1 ∧ bn (gax (j62_h0_at.toNatClampNeg + 1)) = (gft r9).toInt.toNat ∧ X9.length = 2) := by by_cases q : (gft r9).toInt.toNat = 64; (rw [if_pos q] at q92 hX9; exact Or.inl ⟨by (first | (apply Int.le_antisymm <;> omega) | omega), q92.1, by rw [hX9]; rfl⟩); (rw [if_neg q] at q92 hX9; exact Or.inr ⟨by (first | (apply Int.le_antisymm <;> omega) | omega), q92.1, q92.2.1, by rw [hX9]; rfl⟩)
      clear q92 q91
      obtain ⟨gb9, hgb⟩ : ∃ g : Nat, g = bn (gax j62_h0_at.toNatClampNeg) := ⟨_, rfl⟩
      have gb1 : gb9 ≤ 1 := by (first | (apply Int.le_antisymm <;> omega) | omega)
      have lg : (leb 5 gb9).length = 1 := by rw [leb_1 (by (first | (apply Int.le_antisymm <;> omega) | omega))]; rfl
      refine lv_aload_n hx hb d_RE_readTypes_91 rfl (lv_at hl 0 rfl) ?_
      refine va_get (D := (dC, dI)) (ci := 7) (v := .ref aw) (C := R_RE) (T := F_RE) (N := 8) hx hb hts i_RE hown hK hP 3 rfl rfl 0 (by decide) (hts _ kF_RE_15) (fun _ h9 => h9) rfl d_RE_readTypes_92 ?_
      refine va_get (D := (dC, dI)) (ci := 10) (v := .ref wag) (C := R_WA) (T := F_WA) (N := 21) hx hb hts i_WA hown hK hP 4 rfl rfl 5 (by decide) (hts _ kF_RE_112) (fun _ h9 => h9) rfl d_RE_readTypes_95 ?_
      refine lv_iload_n hx hb d_RE_readTypes_98 rfl (lv_at hl 1 rfl) ?_
      refine lv_aload_n hx hb d_RE_readTypes_99 rfl (lv_at hl 0 rfl) ?_
      refine lv_lconst (v := 1) hx hb d_RE_readTypes_100 (by decide) ?_
      have kl1 : (1 : Int64).toInt = 1 := by decide
      have hPc := hP.sb (wq := (wz_46 h0 aw ac j62_h0_at h0_limit j62_h0_sound h0_codeCount ob h0_openCount aw ab ac x5 wat wap wag aw_functionCount waf aw_hasMemory aw_pagesLeast aw_pagesMost aw_globalCount wgt wft wfv wgc aw_exportCount wek wei wes wez ab ax ab_length ax cax gax)) [3, 4, 5, 6] rfl
      have hDc := hD.sb (wq := (wz_46 h0 aw ac j62_h0_at h0_limit j62_h0_sound h0_codeCount ob h0_openCount aw ab ac x5 wat wap wag aw_functionCount waf aw_hasMemory aw_pagesLeast aw_pagesMost aw_globalCount wgt wft wfv wgc aw_exportCount wek wei wes wez ab ax ab_length ax cax gax)) [3, 4, 5, 6] (by decide) rfl
      have hKc := hK.sb (tyq := [(cax, .byte)]) [0] rfl
      have hFc := va_free (wc := (wz_46 h0 aw ac j62_h0_at h0_limit j62_h0_sound h0_codeCount ob h0_openCount aw ab ac x5 wat wap wag aw_functionCount waf aw_hasMemory aw_pagesLeast aw_pagesMost aw_globalCount wgt wft wfv wgc aw_exportCount wek wei wes wez ab ax ab_length ax cax gax)) hD hS hA [3, 4, 5, 6] rfl
      refine va_calll (va_runV (As := [.long 1]) (rest := [.int j17_l1, .ref wag]) ⟨hx, hb, hml, hown, hts⟩ (c_RE_readUnsignedx l dC dI H.size h0 aw ac ob ab wat wap wag waf wgt wft wfv wgc wek wei wes wez ax cax j62_h0_at h0_limit j62_h0_sound h0_codeCount h0_openCount x5 aw_functionCount aw_hasMemory aw_pagesLeast aw_pagesMost aw_globalCount aw_exportCount ab_length gax gb9 (b_j62_h0_sound) 1 (by (first | (apply Int.le_antisymm <;> omega) | omega)) (by (first | (apply Int.le_antisymm <;> omega) | omega)) (by (first | (apply Int.le_antisymm <;> omega) | omega)) ((by rw [leb_1 (by (first | (apply Int.le_antisymm <;> omega) | omega))]; exact ⟨hgb.symm, trivial⟩)) (by (first | (apply Int.le_antisymm <;> omega) | omega))) (cwV 1 hts (gV kM_RE_64 kV_RE_readUnsigned kS_RE_readUnsigned kI_RE kC_RE_readUnsigned) rfl rfl rfl (by decide +kernel) ⟨Nat.le_of_ble_eq_true rfl, Nat.le_of_ble_eq_true rfl⟩) ⟨fun a U g mk z => by obtain ⟨z0, z1, zP, zK, zD⟩ := z; exact ⟨z0, z1, zP, va_K.moved (u := U) (U := U.calling g mk a) (Vm.Alike.refl U.vm) zK, zD⟩, va_recv hKc hPc (ci := 7) (q0 := 0) rfl rfl, fun U hU hW => ⟨rfl, by rw [hU], va_P.he hU.symm hPc, va_K.moved hW.alike hKc, hDc.weaken (fun _ _ _ _ => trivial)⟩⟩ rfl rfl hl.1 rfl (lv_room (Nat.le_of_ble_eq_true rfl)) d_RE_readTypes_101 ⟨(Nat.zero_le _), (Nat.zero_le _)⟩) hS (fun q _ h => hFc q h) hFc (fun r15 u t H1 locs ht hvm hw hB hz1 hk1 hS => ?_)
      obtain ⟨n16, n17⟩ := u
      try dsimp only at hw
      obtain ⟨bn17, xr15⟩ := hw
      try clear hw
      have tn17 := b01 bn17
      have za101 := i32_clamp (x := n16) (by (first | (apply Int.le_antisymm <;> omega) | omega))
      have ea101 : j62_h0_at.toNatClampNeg + 1 = n16.toNatClampNeg := by (first | (apply Int.le_antisymm <;> omega) | omega)
      rw [ea101] at g91
      obtain ⟨hP1, hK1, hD1⟩ := hB
      replace hP1 := va_P.he ht hP1
      obtain ⟨hP, hD⟩ := va_join (wr := (wz_48 wat cwat f14 wap cwap j62_wap wag cwag j17_wag)) (w1 := (wz_46 h0 aw ac n16 h0_limit n17 h0_codeCount ob h0_openCount aw ab ac x5 wat wap wag aw_functionCount waf aw_hasMemory aw_pagesLeast aw_pagesMost aw_globalCount wgt wft wfv wgc aw_exportCount wek wei wes wez ab ax ab_length ax cax gax)) hP hD [3, 4, 5, 6] [0, 1, 2] rfl rfl (by decide) (by decide) hk1 hFc hP1 hD1
      clear hPc hDc hKc hFc hz1 hk1 hP1 hK1 hD1
      rename Heap => H
      have hP : va_P (dC, dI) cls (wz_49 wat cwat f14 wap cwap j62_wap wag cwag j17_wag h0 aw ac n16 h0_limit n17 h0_codeCount ob h0_openCount aw ab ac x5 wat wap wag aw_functionCount waf aw_hasMemory aw_pagesLeast aw_pagesMost aw_globalCount wgt wft wfv wgc aw_exportCount wek wei wes wez ab ax ab_length ax cax gax) H := hP
      have hD : va_D A (wz_49 wat cwat f14 wap cwap j62_wap wag cwag j17_wag h0 aw ac n16 h0_limit n17 h0_codeCount ob h0_openCount aw ab ac x5 wat wap wag aw_functionCount waf aw_hasMemory aw_pagesLeast aw_pagesMost aw_globalCount wgt wft wfv wgc aw_exportCount wek wei wes wez ab ax ab_length ax cax gax) := hD
      refine lv_lconst (v := 1) hx hb d_RE_readTypes_104 (by decide) ?_
      have kl1 : (1 : Int64).toInt = 1 := by decide
      refine W.lcmp hx hb d_RE_readTypes_105 ?_
      refine lv_topi (fun x18 ex18 => ?_)
      have tx18 := lgc ex18
      refine w_cut (pc2 := 118) (σ := Int32 × Int32 × Int32) (fun u H locs ls => match u with | (j118_s0, j118_h0_at, j118_h0_sound) => (j118_h0_sound = 0 ∨ j118_h0_sound = 1) ∧ (j118_s0.toInt = (gft r9).toInt ∧ j118_h0_at.toInt = j62_h0_at.toInt + (X9.length : Int) ∧ j118_h0_sound.toInt = 1) ∧ va_P (dC, dI) cls (wz_49 wat cwat f14 wap cwap j62_wap wag cwag j17_wag h0 aw ac j118_h0_at h0_limit j118_h0_sound h0_codeCount ob h0_openCount aw ab ac x5 wat wap wag aw_functionCount waf aw_hasMemory aw_pagesLeast aw_pagesMost aw_globalCount wgt wft wfv wgc aw_exportCount wek wei wes wez ab ax ab_length ax cax gax) H ∧ va_D A (wz_49 wat cwat f14 wap cwap j62_wap wag cwag j17_wag h0 aw ac j118_h0_at h0_limit j118_h0_sound h0_codeCount ob h0_openCount aw ab ac x5 wat wap wag aw_functionCount waf aw_hasMemory aw_pagesLeast aw_pagesMost aw_globalCount wgt wft wfv wgc aw_exportCount wek wei wes wez ab ax ab_length ax cax gax) ∧ va_S A s.heap H locs ∧ lv_has ls 4 [(0, .ref h0), (1, .int j17_l1)]) (fun u => match u with | (j118_s0, j118_h0_at, j118_h0_sound) => [.int j118_s0, .int j17_l1, .ref wag]) ?_ (fun jn118 => ?_)
      · intro u H locs ls hI
        obtain ⟨j118_s0, j118_h0_at, j118_h0_sound⟩ := u
        obtain ⟨b_j118_h0_sound, y118, hP, hD, hS, hl⟩ := hI
        have tj118_h0_sound := b01 b_j118_h0_sound
        have g118 : vp_in j17_l1 20 := vp_in_iff.mpr ⟨by (first | (apply Int.le_antisymm <;> omega) | omega), by (first | (apply Int.le_antisymm <;> omega) | omega)⟩
        refine va_iast hx hb hK hP hD hS 2 3 rfl rfl g118 d_RE_readTypes_118 (fun H locs hP hD hS => ?_)
        generalize ef19 : upd j17_wag j17_l1.toNatClampNeg j118_s0 = f19 at hP hD
        obtain ⟨x20, ex20⟩ : ∃ z : Int32, z = j17_l1 + 1 := ⟨_, rfl⟩
        have tx20 : x20.toInt = j17_l1.toInt + 1 := by have z := i32_add ex20 (by (first | (apply Int.le_antisymm <;> omega) | omega)) (by (first | (apply Int.le_antisymm <;> omega) | omega)); first | exact z | (first | (apply Int.le_antisymm <;> omega) | omega)
        refine lv_iinc (v := x20) (lv' := [(1, .int x20), (0, .ref h0)]) hx hb d_RE_readTypes_119 hl (k := 1) rfl (by rw [ex20]; rfl) (by decide) rfl (fun ls hl => ?_)
        refine lv_goto (tgt := 17) hx hb d_RE_readTypes_122 (by decide) ?_
        exact ih17 (x20, f19, j62_wap, f14, j118_h0_at, j118_h0_sound) _ _ _ (by show (x5.toInt - x20.toInt).toNat < N17; (first | (apply Int.le_antisymm <;> omega) | omega)) ⟨by (try dsimp only) <;> (first | (apply Int.le_antisymm <;> omega) | omega), b_j118_h0_sound, by (try dsimp only) <;> (first | (apply Int.le_antisymm <;> omega) | omega), (by rw [show x20.toNatClampNeg = j17_l1.toNatClampNeg + 1 from clampN (by (first | (apply Int.le_antisymm <;> omega) | omega))]; exact ⟨b9, n6.out, bq_at q93.out (by have := i32_clamp (x := j118_h0_at) (by (first | (apply Int.le_antisymm <;> omega) | omega)); (first | (apply Int.le_antisymm <;> omega) | omega)), by (first | (apply Int.le_antisymm <;> omega) | omega)⟩), fun t z => by rw [← ef19, ← eW]; by_cases q : t = j17_l1.toNatClampNeg; (subst q; rw [pk_us, pk_us]; exact ⟨r9, n1, by (first | (apply Int.le_antisymm <;> omega) | omega), by (first | (apply Int.le_antisymm <;> omega) | omega)⟩); (rw [pk_un q, pk_un q]; exact v3 t (by (first | (apply Int.le_antisymm <;> omega) | omega))), fun j z1 z2 => by by_cases q : (j : Int) < 8 * j17_l1.toInt; exact u4 j (Or.inl ⟨q, z2⟩); exact u4 j (Or.inr ⟨by (first | (apply Int.le_antisymm <;> omega) | omega), by rw [← eW, show j / 8 = j17_l1.toNatClampNeg from by (first | (apply Int.le_antisymm <;> omega) | omega), pk_us] at z2; (first | (apply Int.le_antisymm <;> omega) | omega)⟩), hP, hD, hS, lv_sub hl [1, 0] rfl⟩
      · skip
        refine lv_if_ne (tgt := 116) hx hb d_RE_readTypes_106 (by decide) (fun c106 => ?_) (fun c106 => ?_)
        · have q106 := neI c106
          refine lv_bipush (v := 64) hx hb d_RE_readTypes_116 (by decide) ?_
          exact jn118 (64, n16, n17) _ _ _ ⟨bn17, by (try dsimp only) <;> (first | (apply Int.le_antisymm <;> omega) | omega), hP, hD, hS, lv_sub hl [0, 1] rfl⟩
        · have q106 := eqI c106
          refine lv_aload_n hx hb d_RE_readTypes_109 rfl (lv_at hl 0 rfl) ?_
          have hPc := hP.sb (wq := (wz_46 h0 aw ac n16 h0_limit n17 h0_codeCount ob h0_openCount aw ab ac x5 wat wap wag aw_functionCount waf aw_hasMemory aw_pagesLeast aw_pagesMost aw_globalCount wgt wft wfv wgc aw_exportCount wek wei wes wez ab ax ab_length ax cax gax)) [3, 4, 5, 6] rfl
          have hDc := hD.sb (wq := (wz_46 h0 aw ac n16 h0_limit n17 h0_codeCount ob h0_openCount aw ab ac x5 wat wap wag aw_functionCount waf aw_hasMemory aw_pagesLeast aw_pagesMost aw_globalCount wgt wft wfv wgc aw_exportCount wek wei wes wez ab ax ab_length ax cax gax)) [3, 4, 5, 6] (by decide) rfl
          have hKc := hK.sb (tyq := [(cax, .byte)]) [0] rfl
          have hFc := va_free (wc := (wz_46 h0 aw ac n16 h0_limit n17 h0_codeCount ob h0_openCount aw ab ac x5 wat wap wag aw_functionCount waf aw_hasMemory aw_pagesLeast aw_pagesMost aw_globalCount wgt wft wfv wgc aw_exportCount wek wei wes wez ab ax ab_length ax cax gax)) hD hS hA [3, 4, 5, 6] rfl
          refine va_calli (va_runV (As := []) (rest := [.int j17_l1, .ref wag]) ⟨hx, hb, hml, hown, hts⟩ (c_RE_readTypex l dC dI H.size h0 aw ac ob ab wat wap wag waf wgt wft wfv wgc wek wei wes wez ax cax n16 h0_limit n17 h0_codeCount h0_openCount x5 aw_functionCount aw_hasMemory aw_pagesLeast aw_pagesMost aw_globalCount aw_exportCount ab_length gax (bn17) (by (first | (apply Int.le_antisymm <;> omega) | omega)) (by (first | (apply Int.le_antisymm <;> omega) | omega)) (by (first | (apply Int.le_antisymm <;> omega) | omega)) (by (try dsimp only) <;> (first | (apply Int.le_antisymm <;> omega) | omega))) (cwV 0 hts (gV kM_RE_109 kV_RE_readType kS_RE_readType kI_RE kC_RE_readType) rfl rfl rfl (by decide +kernel) ⟨Nat.le_of_ble_eq_true rfl, Nat.le_of_ble_eq_true rfl⟩) ⟨fun a U g mk z => by obtain ⟨z0, z1, zP, zK, zD⟩ := z; exact ⟨z0, z1, zP, va_K.moved (u := U) (U := U.calling g mk a) (Vm.Alike.refl U.vm) zK, zD⟩, va_recv hKc hPc (ci := 7) (q0 := 0) rfl rfl, fun U hU hW => ⟨rfl, by rw [hU], va_P.he hU.symm hPc, va_K.moved hW.alike hKc, hDc.weaken (fun _ _ _ _ => trivial)⟩⟩ rfl rfl hl.1 rfl (lv_room (Nat.le_of_ble_eq_true rfl)) d_RE_readTypes_110 ⟨(Nat.zero_le _), (Nat.zero_le _)⟩) hS (fun q _ h => hFc q h) hFc (fun r21 u t H1 locs ht hvm hw hB hz1 hk1 hS => ?_)
          obtain ⟨n22, n23⟩ := u
          try dsimp only at hw
          obtain ⟨bn23, xr21⟩ := hw
          try clear hw
          have tn23 := b01 bn23
          obtain ⟨hP1, hK1, hD1⟩ := hB
          replace hP1 := va_P.he ht hP1
          obtain ⟨hP, hD⟩ := va_join (wr := (wz_48 wat cwat f14 wap cwap j62_wap wag cwag j17_wag)) (w1 := (wz_46 h0 aw ac n22 h0_limit n23 h0_codeCount ob h0_openCount aw ab ac x5 wat wap wag aw_functionCount waf aw_hasMemory aw_pagesLeast aw_pagesMost aw_globalCount wgt wft wfv wgc aw_exportCount wek wei wes wez ab ax ab_length ax cax gax)) hP hD [3, 4, 5, 6] [0, 1, 2] rfl rfl (by decide) (by decide) hk1 hFc hP1 hD1
          clear hPc hDc hKc hFc hz1 hk1 hP1 hK1 hD1
          rename Heap => H
          have hP : va_P (dC, dI) cls (wz_49 wat cwat f14 wap cwap j62_wap wag cwag j17_wag h0 aw ac n22 h0_limit n23 h0_codeCount ob h0_openCount aw ab ac x5 wat wap wag aw_functionCount waf aw_hasMemory aw_pagesLeast aw_pagesMost aw_globalCount wgt wft wfv wgc aw_exportCount wek wei wes wez ab ax ab_length ax cax gax) H := hP
          have hD : va_D A (wz_49 wat cwat f14 wap cwap j62_wap wag cwag j17_wag h0 aw ac n22 h0_limit n23 h0_codeCount ob h0_openCount aw ab ac x5 wat wap wag aw_functionCount waf aw_hasMemory aw_pagesLeast aw_pagesMost aw_globalCount wgt wft wfv wgc aw_exportCount wek wei wes wez ab ax ab_length ax cax gax) := hD
          refine lv_goto (tgt := 118) hx hb d_RE_readTypes_113 (by decide) ?_
          exact jn118 (r21, n22, n23) _ _ _ ⟨bn23, by (try dsimp only) <;> (first | (apply Int.le_antisymm <;> omega) | omega), hP, hD, hS, lv_sub hl [0, 1] rfl⟩
    · have q64 := nleI c64
      have c67 := i32_clamp (x := j62_l3) (by (first | (apply Int.le_antisymm <;> omega) | omega))
      have q67 := hq62.out
      obtain ⟨pp, tp_, ep⟩ : ∃ x T, ps9.drop j62_l3.toNatClampNeg = x :: T := by rcases h9 : ps9.drop j62_l3.toNatClampNeg with _ | ⟨x, T⟩; (exfalso; have := congrArg List.length h9; rw [List.length_drop, List.length_nil] at this; (first | (apply Int.le_antisymm <;> omega) | omega)); exact ⟨x, T, rfl⟩
      rw [ep] at q67
      have hk67 : j62_l3.toNatClampNeg < ps9.length := by (first | (apply Int.le_antisymm <;> omega) | omega)
      have ep2 := ep
      rw [List.drop_eq_getElem_cons hk67] at ep2
      injection ep2 with e1 e2
      have np := n4.out pp (by rw [← e1]; exact List.getElem_mem hk67)
      replace q67 := bq_cons q67
      have q68 := q67.1
      have q69 := q67.2
      replace q69 : bx _ := q69
      rw [← e2] at q69
      clear q67 ep e1 e2
      have z62 := i32_clamp (x := j62_h0_at) (by (first | (apply Int.le_antisymm <;> omega) | omega))
      refine lv_aload_n hx hb d_RE_readTypes_67 rfl (lv_at hl 0 rfl) ?_
      refine va_get (D := (dC, dI)) (ci := 7) (v := .ref aw) (C := R_RE) (T := F_RE) (N := 8) hx hb hts i_RE hown hK hP 3 rfl rfl 0 (by decide) (hts _ kF_RE_15) (fun _ h9 => h9) rfl d_RE_readTypes_68 ?_
      refine va_get (D := (dC, dI)) (ci := 10) (v := .ref wap) (C := R_WA) (T := F_WA) (N := 21) hx hb hts i_WA hown hK hP 4 rfl rfl 4 (by decide) (hts _ kF_RE_106) (fun _ h9 => h9) rfl d_RE_readTypes_71 ?_
      refine lv_iload_n hx hb d_RE_readTypes_74 rfl (lv_at hl 1 rfl) ?_
      refine lv_bipush (v := 8) hx hb d_RE_readTypes_75 (by decide) ?_
      refine lv_imul hx hb d_RE_readTypes_77 ?_
      refine lv_topi (fun x24 ex24 => ?_)
      have tx24 : x24.toInt = j17_l1.toInt * 8 := by have z := i32_mul ex24 (by rw [k8]; (first | (apply Int.le_antisymm <;> omega) | omega)) (by rw [k8]; (first | (apply Int.le_antisymm <;> omega) | omega)); rw [k8] at z; exact z
      refine lv_iload_n hx hb d_RE_readTypes_78 rfl (lv_at hl 3 rfl) ?_
      refine lv_iadd hx hb d_RE_readTypes_79 ?_
      refine lv_topi (fun x25 ex25 => ?_)
      have tx25 : x25.toInt = x24.toInt + j62_l3.toInt := by have z := i32_add ex25 (by (first | (apply Int.le_antisymm <;> omega) | omega)) (by (first | (apply Int.le_antisymm <;> omega) | omega)); first | exact z | (first | (apply Int.le_antisymm <;> omega) | omega)
      refine lv_aload_n hx hb d_RE_readTypes_80 rfl (lv_at hl 0 rfl) ?_
      have hPc := hP.sb (wq := (wz_46 h0 aw ac j62_h0_at h0_limit j62_h0_sound h0_codeCount ob h0_openCount aw ab ac x5 wat wap wag aw_functionCount waf aw_hasMemory aw_pagesLeast aw_pagesMost aw_globalCount wgt wft wfv wgc aw_exportCount wek wei wes wez ab ax ab_length ax cax gax)) [3, 4, 5, 6] rfl
      have hDc := hD.sb (wq := (wz_46 h0 aw ac j62_h0_at h0_limit j62_h0_sound h0_codeCount ob h0_openCount aw ab ac x5 wat wap wag aw_functionCount waf aw_hasMemory aw_pagesLeast aw_pagesMost aw_globalCount wgt wft wfv wgc aw_exportCount wek wei wes wez ab ax ab_length ax cax gax)) [3, 4, 5, 6] (by decide) rfl
      have hKc := hK.sb (tyq := [(cax, .byte)]) [0] rfl
      have hFc := va_free (wc := (wz_46 h0 aw ac j62_h0_at h0_limit j62_h0_sound h0_codeCount ob h0_openCount aw ab ac x5 wat wap wag aw_functionCount waf aw_hasMemory aw_pagesLeast aw_pagesMost aw_globalCount wgt wft wfv wgc aw_exportCount wek wei wes wez ab ax ab_length ax cax gax)) hD hS hA [3, 4, 5, 6] rfl
      refine va_calli (va_runV (As := []) (rest := [.int x25, .ref wap]) ⟨hx, hb, hml, hown, hts⟩ (c_RE_readTypex l dC dI H.size h0 aw ac ob ab wat wap wag waf wgt wft wfv wgc wek wei wes wez ax cax j62_h0_at h0_limit j62_h0_sound h0_codeCount h0_openCount x5 aw_functionCount aw_hasMemory aw_pagesLeast aw_pagesMost aw_globalCount aw_exportCount ab_length gax (b_j62_h0_sound) (by (first | (apply Int.le_antisymm <;> omega) | omega)) (by (first | (apply Int.le_antisymm <;> omega) | omega)) (by (first | (apply Int.le_antisymm <;> omega) | omega)) (by (try dsimp only) <;> (first | (apply Int.le_antisymm <;> omega) | omega))) (cwV 0 hts (gV kM_RE_109 kV_RE_readType kS_RE_readType kI_RE kC_RE_readType) rfl rfl rfl (by decide +kernel) ⟨Nat.le_of_ble_eq_true rfl, Nat.le_of_ble_eq_true rfl⟩) ⟨fun a U g mk z => by obtain ⟨z0, z1, zP, zK, zD⟩ := z; exact ⟨z0, z1, zP, va_K.moved (u := U) (U := U.calling g mk a) (Vm.Alike.refl U.vm) zK, zD⟩, va_recv hKc hPc (ci := 7) (q0 := 0) rfl rfl, fun U hU hW => ⟨rfl, by rw [hU], va_P.he hU.symm hPc, va_K.moved hW.alike hKc, hDc.weaken (fun _ _ _ _ => trivial)⟩⟩ rfl rfl hl.1 rfl (lv_room (Nat.le_of_ble_eq_true rfl)) d_RE_readTypes_81 ⟨(Nat.zero_le _), (Nat.zero_le _)⟩) hS (fun q _ h => hFc q h) hFc (fun r26 u t H1 locs ht hvm hw hB hz1 hk1 hS => ?_)
      obtain ⟨n27, n28⟩ := u
      try dsimp only at hw
      obtain ⟨bn28, xr26⟩ := hw
      try clear hw
      have tn28 := b01 bn28
      obtain ⟨hP1, hK1, hD1⟩ := hB
      replace hP1 := va_P.he ht hP1
      obtain ⟨hP, hD⟩ := va_join (wr := (wz_48 wat cwat f14 wap cwap j62_wap wag cwag j17_wag)) (w1 := (wz_46 h0 aw ac n27 h0_limit n28 h0_codeCount ob h0_openCount aw ab ac x5 wat wap wag aw_functionCount waf aw_hasMemory aw_pagesLeast aw_pagesMost aw_globalCount wgt wft wfv wgc aw_exportCount wek wei wes wez ab ax ab_length ax cax gax)) hP hD [3, 4, 5, 6] [0, 1, 2] rfl rfl (by decide) (by decide) hk1 hFc hP1 hD1
      clear hPc hDc hKc hFc hz1 hk1 hP1 hK1 hD1
      rename Heap => H
      have hP : va_P (dC, dI) cls (wz_49 wat cwat f14 wap cwap j62_wap wag cwag j17_wag h0 aw ac n27 h0_limit n28 h0_codeCount ob h0_openCount aw ab ac x5 wat wap wag aw_functionCount waf aw_hasMemory aw_pagesLeast aw_pagesMost aw_globalCount wgt wft wfv wgc aw_exportCount wek wei wes wez ab ax ab_length ax cax gax) H := hP
      have hD : va_D A (wz_49 wat cwat f14 wap cwap j62_wap wag cwag j17_wag h0 aw ac n27 h0_limit n28 h0_codeCount ob h0_openCount aw ab ac x5 wat wap wag aw_functionCount waf aw_hasMemory aw_pagesLeast aw_pagesMost aw_globalCount wgt wft wfv wgc aw_exportCount wek wei wes wez ab ax ab_length ax cax gax) := hD
      have g84 : vp_in x25 160 := vp_in_iff.mpr ⟨by (first | (apply Int.le_antisymm <;> omega) | omega), by (first | (apply Int.le_antisymm <;> omega) | omega)⟩
      refine va_iast hx hb hK hP hD hS 1 2 rfl rfl g84 d_RE_readTypes_84 (fun H locs hP hD hS => ?_)
      generalize ef29 : upd j62_wap x25.toNatClampNeg r26 = f29 at hP hD
      obtain ⟨x30, ex30⟩ : ∃ z : Int32, z = j62_l3 + 1 := ⟨_, rfl⟩
      have tx30 : x30.toInt = j62_l3.toInt + 1 := by have z := i32_add ex30 (by (first | (apply Int.le_antisymm <;> omega) | omega)) (by (first | (apply Int.le_antisymm <;> omega) | omega)); first | exact z | (first | (apply Int.le_antisymm <;> omega) | omega)
      refine lv_iinc (v := x30) (lv' := [(3, .int x30), (0, .ref h0), (1, .int j17_l1), (2, .int x13)]) hx hb d_RE_readTypes_85 hl (k := 3) rfl (by rw [ex30]; rfl) (by decide) rfl (fun ls hl => ?_)
      refine lv_goto (tgt := 62) hx hb d_RE_readTypes_88 (by decide) ?_
      have c8 := i32_clamp (x := x25) (by (first | (apply Int.le_antisymm <;> omega) | omega))
      exact ih62 (x30, f29, n27, n28) _ _ _ (by show (x13.toInt - x30.toInt).toNat < N62; (first | (apply Int.le_antisymm <;> omega) | omega)) ⟨by (try dsimp only) <;> (first | (apply Int.le_antisymm <;> omega) | omega), bn28, by (try dsimp only) <;> (first | (apply Int.le_antisymm <;> omega) | omega), (by rw [← ef29]; exact upd_all (Q := fun v => v.toInt = 127 ∨ v.toInt = 126) u4 (by (first | (apply Int.le_antisymm <;> omega) | omega)) (fun j q => by rcases q with q | q; exact Or.inr (Or.inl q); by_cases y : j = x25.toNatClampNeg; exact Or.inl y; exact Or.inr (Or.inr (by (first | (apply Int.le_antisymm <;> omega) | omega))))), (by rw [show x30.toNatClampNeg = j62_l3.toNatClampNeg + 1 from clampN (by (first | (apply Int.le_antisymm <;> omega) | omega))]; exact bq_at q69.out (by have := i32_clamp (x := n27) (by (first | (apply Int.le_antisymm <;> omega) | omega)); (first | (apply Int.le_antisymm <;> omega) | omega))), hP, hD, hS, lv_sub hl [1, 2, 3, 0] rfl⟩
end q_92
section q_93
/-! Reader: memory, globals, exports as they were put -/
theorem gbl_hd {G : List (Nat × Int)} {k : Nat} (hk : k < G.length) : ∃ x, x ∈ G ∧ gbl (G.drop k) = x.1 :: 1 :: (if x.1 = 127 then 65 else 66) :: (sleb 10 x.2 ++ (11 :: gbl (G.drop (k + 1)))) := by
  refine ⟨G[k], List.getElem_mem hk, ?_⟩
  rw [List.drop_eq_getElem_cons hk]
  show gl1 G[k] ++ gbl (G.drop (k + 1)) = _
  unfold gl1
  simp only [List.cons_append, List.append_assoc, List.nil_append]
def exb : List (List Nat × Nat × Nat) → List Nat
  | [] => []
  | x :: L => (x.1.length :: (x.1 ++ [x.2.1, x.2.2])) ++ exb L
def eok (x : List Nat × Nat × Nat) : Prop := x.1.length ≤ 30 ∧ (x.2.1 = 0 ∨ x.2.1 = 2 ∨ x.2.1 = 3) ∧ x.2.2 < 128
theorem exb_app {a b : List (List Nat × Nat × Nat)} : exb (a ++ b) = exb a ++ exb b := by
  induction a with
  | nil => rfl
  | cons x a ih =>
    show (x.1.length :: (x.1 ++ [x.2.1, x.2.2])) ++ exb (a ++ b) = (x.1.length :: (x.1 ++ [x.2.1, x.2.2])) ++ exb a ++ exb b
    rw [ih, List.append_assoc]
theorem exb_xl : ∀ (L : List (List Nat)) (i : Nat), (∀ x ∈ L, x.length ≤ 20) → i + L.length ≤ 100 → ∃ X, X.length = L.length ∧ (∀ x ∈ X, eok x) ∧ exb X = xl i L := by
  intro L
  induction L with
  | nil => exact fun i _ _ => ⟨[], rfl, fun x h => (by cases h), rfl⟩
  | cons y L ih =>
    intro i h hi
    rw [List.length_cons] at hi
    obtain ⟨X, e1, e2, e3⟩ := ih (i + 1) (fun x hx => h x (List.mem_cons_of_mem _ hx)) (by (first | (apply Int.le_antisymm <;> omega) | omega))
    have hy := h y List.mem_cons_self
    refine ⟨(y, 0, i) :: X, by rw [List.length_cons, List.length_cons, e1], fun x hx => ?_, ?_⟩
    · rcases List.mem_cons.mp hx with z | z
      · rw [z]; exact ⟨by dsimp only; (first | (apply Int.le_antisymm <;> omega) | omega), Or.inl rfl, by dsimp only; (first | (apply Int.le_antisymm <;> omega) | omega)⟩
      · exact e2 x z
    · show (y.length :: (y ++ [0, i])) ++ exb X = (y.length :: (y ++ [0, i])) ++ xl (i + 1) L
      rw [e3]
theorem exb_hd {X : List (List Nat × Nat × Nat)} {k : Nat} (hk : k < X.length) : ∃ x, x ∈ X ∧ exb (X.drop k) = x.1.length :: (x.1 ++ (x.2.1 :: x.2.2 :: exb (X.drop (k + 1)))) := by
  refine ⟨X[k], List.getElem_mem hk, ?_⟩
  rw [List.drop_eq_getElem_cons hk]
  show (X[k].1.length :: (X[k].1 ++ [X[k].2.1, X[k].2.2])) ++ exb (X.drop (k + 1)) = _
  simp only [List.cons_append, List.append_assoc, List.nil_append]
abbrev at_RE_readMemoryx (dC : Nat → ClassId) (dI : Nat → Nat → Nat) (h0 aw ac ob ab wat wap wag waf wgt wft wfv wgc wek wei wes wez ax : Nat) (cax : ClassId) (h0_limit : Int32) (h0_codeCount : Int32) (h0_openCount : Int32) (aw_typeCount : Int32) (aw_functionCount : Int32) (aw_globalCount : Int32) (aw_exportCount : Int32) (ab_length : Int32) (gax : Nat → Int32) (A : Nat → Prop) (u : Int32 × Int64 × Int64 × Int32 × Int32) (t : State) : Prop := match u with | (aw_hasMemory, aw_pagesLeast, aw_pagesMost, h0_at, h0_sound) => va_P (dC, dI) cls (wz_46 h0 aw ac h0_at h0_limit h0_sound h0_codeCount ob h0_openCount aw ab ac aw_typeCount wat wap wag aw_functionCount waf aw_hasMemory aw_pagesLeast aw_pagesMost aw_globalCount wgt wft wfv wgc aw_exportCount wek wei wes wez ab ax ab_length ax cax gax) t.heap ∧ va_K (dC, dI) cls [(cax, .byte)] t ∧ va_D A (wz_46 h0 aw ac h0_at h0_limit h0_sound h0_codeCount ob h0_openCount aw ab ac aw_typeCount wat wap wag aw_functionCount waf aw_hasMemory aw_pagesLeast aw_pagesMost aw_globalCount wgt wft wfv wgc aw_exportCount wek wei wes wez ab ax ab_length ax cax gax)
set_option maxHeartbeats 4000000 in
set_option maxRecDepth 100000 in
theorem c_RE_readMemoryx (l : Launch) (dC : Nat → ClassId) (dI : Nat → Nat → Nat) (sz : Nat) (h0 aw ac ob ab wat wap wag waf wgt wft wfv wgc wek wei wes wez ax : Nat) (cax : ClassId) (h0_at : Int32) (h0_limit : Int32) (h0_sound : Int32) (h0_codeCount : Int32) (h0_openCount : Int32) (aw_typeCount : Int32) (aw_functionCount : Int32) (aw_hasMemory : Int32) (aw_pagesLeast : Int64) (aw_pagesMost : Int64) (aw_globalCount : Int32) (aw_exportCount : Int32) (ab_length : Int32) (gax : Nat → Int32)  (b_h0_sound : h0_sound = 0 ∨ h0_sound = 1) (b_aw_hasMemory : aw_hasMemory = 0 ∨ aw_hasMemory = 1)   (hs : h0_sound.toInt = 1) (ha : 0 ≤ h0_at.toInt ∧ h0_limit.toInt ≤ ab_length.toInt ∧ ab_length.toInt ≤ 8192) (hbq : bx (bq gax h0_at.toNatClampNeg [1, 1, 1, 2])) (hlm : h0_at.toInt + 4 ≤ h0_limit.toInt) : Met l y_RE_readMemory w_RE_readMemory ({ frames := 2, cells := 0, slots := 0, locals := 46 }) (va_Pc [.ref h0] (fun U => U.heap.size = sz ∧ va_P (dC, dI) cls (wz_46 h0 aw ac h0_at h0_limit h0_sound h0_codeCount ob h0_openCount aw ab ac aw_typeCount wat wap wag aw_functionCount waf aw_hasMemory aw_pagesLeast aw_pagesMost aw_globalCount wgt wft wfv wgc aw_exportCount wek wei wes wez ab ax ab_length ax cax gax) U.heap ∧ va_K (dC, dI) cls [(cax, .byte)] U ∧ va_D (fun _ => True) (wz_46 h0 aw ac h0_at h0_limit h0_sound h0_codeCount ob h0_openCount aw ab ac aw_typeCount wat wap wag aw_functionCount waf aw_hasMemory aw_pagesLeast aw_pagesMost aw_globalCount wgt wft wfv wgc aw_exportCount wek wei wes wez ab ax ab_length ax cax gax))) (va_Qv (fun (u : Int32 × Int64 × Int64 × Int32 × Int32) => match u with | (aw_hasMemory2, aw_pagesLeast2, aw_pagesMost2, h0_at2, h0_sound2) => (aw_hasMemory2 = 0 ∨ aw_hasMemory2 = 1) ∧ (h0_sound2 = 0 ∨ h0_sound2 = 1) ∧ (h0_at2.toInt = h0_at.toInt + 4 ∧ h0_sound2.toInt = 1 ∧ aw_hasMemory2.toInt = 1 ∧ aw_pagesLeast2.toInt = 1 ∧ aw_pagesMost2.toInt = 2)) (at_RE_readMemoryx dC dI h0 aw ac ob ab wat wap wag waf wgt wft wfv wgc wek wei wes wez ax cax h0_limit h0_codeCount h0_openCount aw_typeCount aw_functionCount aw_globalCount aw_exportCount ab_length gax (va_A (wz_46 h0 aw ac h0_at h0_limit h0_sound h0_codeCount ob h0_openCount aw ab ac aw_typeCount wat wap wag aw_functionCount waf aw_hasMemory aw_pagesLeast aw_pagesMost aw_globalCount wgt wft wfv wgc aw_exportCount wek wei wes wez ab ax ab_length ax cax gax) sz)) (va_A (wz_46 h0 aw ac h0_at h0_limit h0_sound h0_codeCount ob h0_openCount aw ab ac aw_typeCount wat wap wag aw_functionCount waf aw_hasMemory aw_pagesLeast aw_pagesMost aw_globalCount wgt wft wfv wgc aw_exportCount wek wei wes wez ab ax ab_length ax cax gax) sz)) 0 0 (va_A (wz_46 h0 aw ac h0_at h0_limit h0_sound h0_codeCount ob h0_openCount aw ab ac aw_typeCount wat wap wag aw_functionCount waf aw_hasMemory aw_pagesLeast aw_pagesMost aw_globalCount wgt wft wfv wgc aw_exportCount wek wei wes wez ab ax ab_length ax cax gax) sz) := by
  refine Met.ofW (cc := b_RE_readMemory) (maxL := 2) (ret := none) (by decide) rfl ?_
  intro p e s m args below meth c s₁ B hml hv
  obtain ⟨rfl, hsz, hP, hK, hD0⟩ := hv
  have hx := B.exec
  have hb := B.bytes
  have hr := B.returns
  have hts0 := atoms_spec (ws := w_RE_readMemory) B.pre
  have hts : ∀ w ∈ lw_g, w.before _ s = true := fun w h => hts0 w (List.mem_cons_of_mem _ h)
  have hown : s.vm.findClass R_RE = some m.cls := findClass_of_methodNamed B.named
  have hlocks := B.notSynchronized
  clear hts0
  subst hsz
  have hD := hD0.self (sz := s.heap.size)
  generalize hAe : va_A (wz_46 h0 aw ac h0_at h0_limit h0_sound h0_codeCount ob h0_openCount aw ab ac aw_typeCount wat wap wag aw_functionCount waf aw_hasMemory aw_pagesLeast aw_pagesMost aw_globalCount wgt wft wfv wgc aw_exportCount wek wei wes wez ab ax ab_length ax cax gax) s.heap.size = A at hD ⊢
  have hA : ∀ q : Nat, s.heap.size ≤ q → A q := fun q h => by rw [← hAe]; exact Or.inr h
  clear hAe
  have hP : va_P (dC, dI) cls (wz_46 h0 aw ac h0_at h0_limit h0_sound h0_codeCount ob h0_openCount aw ab ac aw_typeCount wat wap wag aw_functionCount waf aw_hasMemory aw_pagesLeast aw_pagesMost aw_globalCount wgt wft wfv wgc aw_exportCount wek wei wes wez ab ax ab_length ax cax gax) s.heap := hP
  have hl := lv_entry ([.ref h0]) (n := 2) (Nat.le_of_ble_eq_true rfl)
  rw [lg_entry_eq]
  generalize (lg_sl ([.ref h0]) ++ List.replicate (2 - (lg_sl ([.ref h0])).length) Slot.unset).toArray = ls at hl ⊢
  have hl : lv_has ls 2 [(0, .ref h0)] := hl
  have k0 : (0 : Int32).toInt = 0 := by decide
  refine w_gen (A := A) hP (fun H locs hP hS => ?_)
  have k1 : (1 : Int32).toInt = 1 := by decide
  have th0_sound := b01 b_h0_sound
  have taw_hasMemory := b01 b_aw_hasMemory
  have za := i32_clamp (x := h0_at) (by (first | (apply Int.le_antisymm <;> omega) | omega))
  obtain ⟨m1, m2, m3, m4, -⟩ := hbq.out
  have l1_ : (leb 5 1).length = 1 := by decide
  have l2_ : (leb 5 2).length = 1 := by decide
  refine lv_aload_n hx hb d_RE_readMemory_0 rfl (lv_at hl 0 rfl) ?_
  refine va_get (D := (dC, dI)) (ci := 7) (v := .ref aw) (C := R_RE) (T := F_RE) (N := 8) hx hb hts i_RE hown hK hP 0 rfl rfl 0 (by decide) (hts _ kF_RE_15) (fun _ h9 => h9) rfl d_RE_readMemory_1 ?_
  refine lv_aload_n hx hb d_RE_readMemory_4 rfl (lv_at hl 0 rfl) ?_
  refine lv_lconst (v := 1) hx hb d_RE_readMemory_5 (by decide) ?_
  have kl1 : (1 : Int64).toInt = 1 := by decide
  have hPc := hP.sb (wq := (wz_46 h0 aw ac h0_at h0_limit h0_sound h0_codeCount ob h0_openCount aw ab ac aw_typeCount wat wap wag aw_functionCount waf aw_hasMemory aw_pagesLeast aw_pagesMost aw_globalCount wgt wft wfv wgc aw_exportCount wek wei wes wez ab ax ab_length ax cax gax)) [0, 1, 2, 3] rfl
  have hDc := hD.sb (wq := (wz_46 h0 aw ac h0_at h0_limit h0_sound h0_codeCount ob h0_openCount aw ab ac aw_typeCount wat wap wag aw_functionCount waf aw_hasMemory aw_pagesLeast aw_pagesMost aw_globalCount wgt wft wfv wgc aw_exportCount wek wei wes wez ab ax ab_length ax cax gax)) [0, 1, 2, 3] (by decide) rfl
  have hKc := hK.sb (tyq := [(cax, .byte)]) [0] rfl
  have hFc := va_free (wc := (wz_46 h0 aw ac h0_at h0_limit h0_sound h0_codeCount ob h0_openCount aw ab ac aw_typeCount wat wap wag aw_functionCount waf aw_hasMemory aw_pagesLeast aw_pagesMost aw_globalCount wgt wft wfv wgc aw_exportCount wek wei wes wez ab ax ab_length ax cax gax)) hD hS hA [0, 1, 2, 3] rfl
  refine va_calll (va_runV (As := [.long 1]) (rest := [.ref aw]) ⟨hx, hb, hml, hown, hts⟩ (c_RE_readUnsignedx l dC dI H.size h0 aw ac ob ab wat wap wag waf wgt wft wfv wgc wek wei wes wez ax cax h0_at h0_limit h0_sound h0_codeCount h0_openCount aw_typeCount aw_functionCount aw_hasMemory aw_pagesLeast aw_pagesMost aw_globalCount aw_exportCount ab_length gax 1 (b_h0_sound) 1 (by (first | (apply Int.le_antisymm <;> omega) | omega)) (by (first | (apply Int.le_antisymm <;> omega) | omega)) (by (first | (apply Int.le_antisymm <;> omega) | omega)) ((by rw [leb_1 (by (first | (apply Int.le_antisymm <;> omega) | omega))]; exact ⟨m1, trivial⟩)) (by (first | (apply Int.le_antisymm <;> omega) | omega))) (cwV 1 hts (gV kM_RE_64 kV_RE_readUnsigned kS_RE_readUnsigned kI_RE kC_RE_readUnsigned) rfl rfl rfl (by decide +kernel) ⟨Nat.le_of_ble_eq_true rfl, Nat.le_of_ble_eq_true rfl⟩) ⟨fun a U g mk z => by obtain ⟨z0, z1, zP, zK, zD⟩ := z; exact ⟨z0, z1, zP, va_K.moved (u := U) (U := U.calling g mk a) (Vm.Alike.refl U.vm) zK, zD⟩, va_recv hKc hPc (ci := 7) (q0 := 0) rfl rfl, fun U hU hW => ⟨rfl, by rw [hU], va_P.he hU.symm hPc, va_K.moved hW.alike hKc, hDc.weaken (fun _ _ _ _ => trivial)⟩⟩ rfl rfl hl.1 rfl (lv_room (Nat.le_of_ble_eq_true rfl)) d_RE_readMemory_6 ⟨(Nat.zero_le _), (Nat.zero_le _)⟩) hS (fun q _ h => hFc q h) hFc (fun r1 u t H1 locs ht hvm hw hB hz1 hk1 hS => ?_)
  obtain ⟨n2, n3⟩ := u
  try dsimp only at hw
  obtain ⟨bn3, xr1⟩ := hw
  try clear hw
  have tn3 := b01 bn3
  have za6 := i32_clamp (x := n2) (by (first | (apply Int.le_antisymm <;> omega) | omega))
  have ea6 : h0_at.toNatClampNeg + 1 = n2.toNatClampNeg := by (first | (apply Int.le_antisymm <;> omega) | omega)
  rw [ea6] at m2
  obtain ⟨hP1, hK1, hD1⟩ := hB
  replace hP1 := va_P.he ht hP1
  obtain ⟨hP, hD⟩ := va_join (wr := []) (w1 := (wz_46 h0 aw ac n2 h0_limit n3 h0_codeCount ob h0_openCount aw ab ac aw_typeCount wat wap wag aw_functionCount waf aw_hasMemory aw_pagesLeast aw_pagesMost aw_globalCount wgt wft wfv wgc aw_exportCount wek wei wes wez ab ax ab_length ax cax gax)) hP hD [0, 1, 2, 3] [] rfl rfl (by decide) (by decide) hk1 hFc hP1 hD1
  clear hPc hDc hKc hFc hz1 hk1 hP1 hK1 hD1
  rename Heap => H
  have hP : va_P (dC, dI) cls (wz_46 h0 aw ac n2 h0_limit n3 h0_codeCount ob h0_openCount aw ab ac aw_typeCount wat wap wag aw_functionCount waf aw_hasMemory aw_pagesLeast aw_pagesMost aw_globalCount wgt wft wfv wgc aw_exportCount wek wei wes wez ab ax ab_length ax cax gax) H := hP
  have hD : va_D A (wz_46 h0 aw ac n2 h0_limit n3 h0_codeCount ob h0_openCount aw ab ac aw_typeCount wat wap wag aw_functionCount waf aw_hasMemory aw_pagesLeast aw_pagesMost aw_globalCount wgt wft wfv wgc aw_exportCount wek wei wes wez ab ax ab_length ax cax gax) := hD
  refine lv_lconst (v := 1) hx hb d_RE_readMemory_9 (by decide) ?_
  have kl1 : (1 : Int64).toInt = 1 := by decide
  refine W.lcmp hx hb d_RE_readMemory_10 ?_
  refine lv_topi (fun x4 ex4 => ?_)
  have tx4 := lgc ex4
  refine lv_if_ne (tgt := 18) hx hb d_RE_readMemory_11 (by decide) (fun c11 => absurd (neI c11) (by (first | (apply Int.le_antisymm <;> omega) | omega))) (fun c11 => ?_)
  have q11 := eqI c11
  refine lv_iconst (v := 1) hx hb d_RE_readMemory_14 (by decide) ?_
  refine lv_goto (tgt := 19) hx hb d_RE_readMemory_15 (by decide) ?_
  refine va_put (D := (dC, dI)) (ci := 10) (v := .int 1) (ty := .boolean) (C := R_WA) (T := F_WA) (N := 21) hx hb hts i_WA t_WA t_WA_ok n_WA hown hK hP hD hS 1 rfl rfl 8 (by decide) (hts _ kF_RE_115) (fun _ h9 => h9) rfl (by decide +kernel) rfl rfl (Nat.le_of_ble_eq_true rfl) d_RE_readMemory_19 (fun H locs hP hD hS => ?_)
  refine lv_aload_n hx hb d_RE_readMemory_22 rfl (lv_at hl 0 rfl) ?_
  refine va_get (D := (dC, dI)) (ci := 7) (v := .ref aw) (C := R_RE) (T := F_RE) (N := 8) hx hb hts i_RE hown hK hP 0 rfl rfl 0 (by decide) (hts _ kF_RE_15) (fun _ h9 => h9) rfl d_RE_readMemory_23 ?_
  refine va_get (D := (dC, dI)) (ci := 10) (v := .int 1) (C := R_WA) (T := F_WA) (N := 21) hx hb hts i_WA hown hK hP 1 rfl rfl 8 (by decide) (hts _ kF_RE_115) (fun _ h9 => h9) rfl d_RE_readMemory_26 ?_
  refine lv_if_eq (tgt := 76) hx hb d_RE_readMemory_29 (by decide) (fun c29 => absurd (eqI c29) (by (first | (apply Int.le_antisymm <;> omega) | omega))) (fun c29 => ?_)
  have q29 := neI c29
  refine lv_aload_n hx hb d_RE_readMemory_32 rfl (lv_at hl 0 rfl) ?_
  have hPc := hP.sb (wq := (wz_46 h0 aw ac n2 h0_limit n3 h0_codeCount ob h0_openCount aw ab ac aw_typeCount wat wap wag aw_functionCount waf 1 aw_pagesLeast aw_pagesMost aw_globalCount wgt wft wfv wgc aw_exportCount wek wei wes wez ab ax ab_length ax cax gax)) [0, 1, 2, 3] rfl
  have hDc := hD.sb (wq := (wz_46 h0 aw ac n2 h0_limit n3 h0_codeCount ob h0_openCount aw ab ac aw_typeCount wat wap wag aw_functionCount waf 1 aw_pagesLeast aw_pagesMost aw_globalCount wgt wft wfv wgc aw_exportCount wek wei wes wez ab ax ab_length ax cax gax)) [0, 1, 2, 3] (by decide) rfl
  have hKc := hK.sb (tyq := [(cax, .byte)]) [0] rfl
  have hFc := va_free (wc := (wz_46 h0 aw ac n2 h0_limit n3 h0_codeCount ob h0_openCount aw ab ac aw_typeCount wat wap wag aw_functionCount waf 1 aw_pagesLeast aw_pagesMost aw_globalCount wgt wft wfv wgc aw_exportCount wek wei wes wez ab ax ab_length ax cax gax)) hD hS hA [0, 1, 2, 3] rfl
  refine va_calli (va_runV (As := []) (rest := []) ⟨hx, hb, hml, hown, hts⟩ (c_RE_readFlagx l dC dI H.size h0 aw ac ob ab wat wap wag waf wgt wft wfv wgc wek wei wes wez ax cax n2 h0_limit n3 h0_codeCount h0_openCount aw_typeCount aw_functionCount 1 aw_pagesLeast aw_pagesMost aw_globalCount aw_exportCount ab_length gax (bn3) (by (first | (apply Int.le_antisymm <;> omega) | omega)) (by (first | (apply Int.le_antisymm <;> omega) | omega)) (by (first | (apply Int.le_antisymm <;> omega) | omega)) (by (try dsimp only) <;> (first | (apply Int.le_antisymm <;> omega) | omega))) (cwV 0 hts (gV kM_RE_118 kV_RE_readFlag kS_RE_readFlag kI_RE kC_RE_readFlag) rfl rfl rfl (by decide +kernel) ⟨Nat.le_of_ble_eq_true rfl, Nat.le_of_ble_eq_true rfl⟩) ⟨fun a U g mk z => by obtain ⟨z0, z1, zP, zK, zD⟩ := z; exact ⟨z0, z1, zP, va_K.moved (u := U) (U := U.calling g mk a) (Vm.Alike.refl U.vm) zK, zD⟩, va_recv hKc hPc (ci := 7) (q0 := 0) rfl rfl, fun U hU hW => ⟨rfl, by rw [hU], va_P.he hU.symm hPc, va_K.moved hW.alike hKc, hDc.weaken (fun _ _ _ _ => trivial)⟩⟩ rfl rfl hl.1 rfl (lv_room (Nat.le_of_ble_eq_true rfl)) d_RE_readMemory_33 ⟨(Nat.zero_le _), (Nat.zero_le _)⟩) hS (fun q _ h => hFc q h) hFc (fun r5 u t H1 locs ht hvm hw hB hz1 hk1 hS => ?_)
  obtain ⟨n6, n7⟩ := u
  try dsimp only at hw
  obtain ⟨bn7, xr5⟩ := hw
  try clear hw
  have tn7 := b01 bn7
  have za33 := i32_clamp (x := n6) (by (first | (apply Int.le_antisymm <;> omega) | omega))
  have ea33 : h0_at.toNatClampNeg + 2 = n6.toNatClampNeg := by (first | (apply Int.le_antisymm <;> omega) | omega)
  rw [show h0_at.toNatClampNeg + 1 + 1 = h0_at.toNatClampNeg + 2 from rfl, ea33] at m3
  obtain ⟨hP1, hK1, hD1⟩ := hB
  replace hP1 := va_P.he ht hP1
  obtain ⟨hP, hD⟩ := va_join (wr := []) (w1 := (wz_46 h0 aw ac n6 h0_limit n7 h0_codeCount ob h0_openCount aw ab ac aw_typeCount wat wap wag aw_functionCount waf 1 aw_pagesLeast aw_pagesMost aw_globalCount wgt wft wfv wgc aw_exportCount wek wei wes wez ab ax ab_length ax cax gax)) hP hD [0, 1, 2, 3] [] rfl rfl (by decide) (by decide) hk1 hFc hP1 hD1
  clear hPc hDc hKc hFc hz1 hk1 hP1 hK1 hD1
  rename Heap => H
  have hP : va_P (dC, dI) cls (wz_46 h0 aw ac n6 h0_limit n7 h0_codeCount ob h0_openCount aw ab ac aw_typeCount wat wap wag aw_functionCount waf 1 aw_pagesLeast aw_pagesMost aw_globalCount wgt wft wfv wgc aw_exportCount wek wei wes wez ab ax ab_length ax cax gax) H := hP
  have hD : va_D A (wz_46 h0 aw ac n6 h0_limit n7 h0_codeCount ob h0_openCount aw ab ac aw_typeCount wat wap wag aw_functionCount waf 1 aw_pagesLeast aw_pagesMost aw_globalCount wgt wft wfv wgc aw_exportCount wek wei wes wez ab ax ab_length ax cax gax) := hD
  refine lv_istore_n (lv' := [(1, .int r5), (0, .ref h0)]) hx hb d_RE_readMemory_36 rfl hl (by decide) rfl (fun ls hl => ?_)
  refine lv_aload_n hx hb d_RE_readMemory_37 rfl (lv_at hl 1 rfl) ?_
  refine va_get (D := (dC, dI)) (ci := 7) (v := .ref aw) (C := R_RE) (T := F_RE) (N := 8) hx hb hts i_RE hown hK hP 0 rfl rfl 0 (by decide) (hts _ kF_RE_15) (fun _ h9 => h9) rfl d_RE_readMemory_38 ?_
  refine lv_aload_n hx hb d_RE_readMemory_41 rfl (lv_at hl 1 rfl) ?_
  refine lv_ldc2 hx hb hown (hts _ kL_RE_121) d_RE_readMemory_42 ?_
  refine lv_topl (fun x8 ex8 => ?_)
  have tx8 : x8.toInt = 4294967295 := by rw [ex8]; decide
  have hPc := hP.sb (wq := (wz_46 h0 aw ac n6 h0_limit n7 h0_codeCount ob h0_openCount aw ab ac aw_typeCount wat wap wag aw_functionCount waf 1 aw_pagesLeast aw_pagesMost aw_globalCount wgt wft wfv wgc aw_exportCount wek wei wes wez ab ax ab_length ax cax gax)) [0, 1, 2, 3] rfl
  have hDc := hD.sb (wq := (wz_46 h0 aw ac n6 h0_limit n7 h0_codeCount ob h0_openCount aw ab ac aw_typeCount wat wap wag aw_functionCount waf 1 aw_pagesLeast aw_pagesMost aw_globalCount wgt wft wfv wgc aw_exportCount wek wei wes wez ab ax ab_length ax cax gax)) [0, 1, 2, 3] (by decide) rfl
  have hKc := hK.sb (tyq := [(cax, .byte)]) [0] rfl
  have hFc := va_free (wc := (wz_46 h0 aw ac n6 h0_limit n7 h0_codeCount ob h0_openCount aw ab ac aw_typeCount wat wap wag aw_functionCount waf 1 aw_pagesLeast aw_pagesMost aw_globalCount wgt wft wfv wgc aw_exportCount wek wei wes wez ab ax ab_length ax cax gax)) hD hS hA [0, 1, 2, 3] rfl
  refine va_calll (va_runV (As := [.long x8]) (rest := [.ref aw]) ⟨hx, hb, hml, hown, hts⟩ (c_RE_readUnsignedx l dC dI H.size h0 aw ac ob ab wat wap wag waf wgt wft wfv wgc wek wei wes wez ax cax n6 h0_limit n7 h0_codeCount h0_openCount aw_typeCount aw_functionCount 1 aw_pagesLeast aw_pagesMost aw_globalCount aw_exportCount ab_length gax 1 (bn7) x8 (by (first | (apply Int.le_antisymm <;> omega) | omega)) (by (first | (apply Int.le_antisymm <;> omega) | omega)) (by (first | (apply Int.le_antisymm <;> omega) | omega)) ((by rw [leb_1 (by (first | (apply Int.le_antisymm <;> omega) | omega))]; exact ⟨m3, trivial⟩)) (by (first | (apply Int.le_antisymm <;> omega) | omega))) (cwV 1 hts (gV kM_RE_64 kV_RE_readUnsigned kS_RE_readUnsigned kI_RE kC_RE_readUnsigned) rfl rfl rfl (by decide +kernel) ⟨Nat.le_of_ble_eq_true rfl, Nat.le_of_ble_eq_true rfl⟩) ⟨fun a U g mk z => by obtain ⟨z0, z1, zP, zK, zD⟩ := z; exact ⟨z0, z1, zP, va_K.moved (u := U) (U := U.calling g mk a) (Vm.Alike.refl U.vm) zK, zD⟩, va_recv hKc hPc (ci := 7) (q0 := 0) rfl rfl, fun U hU hW => ⟨rfl, by rw [hU], va_P.he hU.symm hPc, va_K.moved hW.alike hKc, hDc.weaken (fun _ _ _ _ => trivial)⟩⟩ rfl rfl hl.1 rfl (lv_room (Nat.le_of_ble_eq_true rfl)) d_RE_readMemory_45 ⟨(Nat.zero_le _), (Nat.zero_le _)⟩) hS (fun q _ h => hFc q h) hFc (fun r9 u t H1 locs ht hvm hw hB hz1 hk1 hS => ?_)
  obtain ⟨n10, n11⟩ := u
  try dsimp only at hw
  obtain ⟨bn11, xr9⟩ := hw
  try clear hw
  have tn11 := b01 bn11
  have za45 := i32_clamp (x := n10) (by (first | (apply Int.le_antisymm <;> omega) | omega))
  have ea45 : h0_at.toNatClampNeg + 3 = n10.toNatClampNeg := by (first | (apply Int.le_antisymm <;> omega) | omega)
  rw [show h0_at.toNatClampNeg + 1 + 1 + 1 = h0_at.toNatClampNeg + 3 from rfl, ea45] at m4
  obtain ⟨hP1, hK1, hD1⟩ := hB
  replace hP1 := va_P.he ht hP1
  obtain ⟨hP, hD⟩ := va_join (wr := []) (w1 := (wz_46 h0 aw ac n10 h0_limit n11 h0_codeCount ob h0_openCount aw ab ac aw_typeCount wat wap wag aw_functionCount waf 1 aw_pagesLeast aw_pagesMost aw_globalCount wgt wft wfv wgc aw_exportCount wek wei wes wez ab ax ab_length ax cax gax)) hP hD [0, 1, 2, 3] [] rfl rfl (by decide) (by decide) hk1 hFc hP1 hD1
  clear hPc hDc hKc hFc hz1 hk1 hP1 hK1 hD1
  rename Heap => H
  have hP : va_P (dC, dI) cls (wz_46 h0 aw ac n10 h0_limit n11 h0_codeCount ob h0_openCount aw ab ac aw_typeCount wat wap wag aw_functionCount waf 1 aw_pagesLeast aw_pagesMost aw_globalCount wgt wft wfv wgc aw_exportCount wek wei wes wez ab ax ab_length ax cax gax) H := hP
  have hD : va_D A (wz_46 h0 aw ac n10 h0_limit n11 h0_codeCount ob h0_openCount aw ab ac aw_typeCount wat wap wag aw_functionCount waf 1 aw_pagesLeast aw_pagesMost aw_globalCount wgt wft wfv wgc aw_exportCount wek wei wes wez ab ax ab_length ax cax gax) := hD
  refine va_put (D := (dC, dI)) (ci := 10) (v := .long r9) (ty := .long) (C := R_WA) (T := F_WA) (N := 21) hx hb hts i_WA t_WA t_WA_ok n_WA hown hK hP hD hS 1 rfl rfl 9 (by decide) (hts _ kF_RE_123) (fun _ h9 => h9) rfl (by decide +kernel) rfl rfl (Nat.le_of_ble_eq_true rfl) d_RE_readMemory_48 (fun H locs hP hD hS => ?_)
  refine lv_aload_n hx hb d_RE_readMemory_51 rfl (lv_at hl 1 rfl) ?_
  refine va_get (D := (dC, dI)) (ci := 7) (v := .ref aw) (C := R_RE) (T := F_RE) (N := 8) hx hb hts i_RE hown hK hP 0 rfl rfl 0 (by decide) (hts _ kF_RE_15) (fun _ h9 => h9) rfl d_RE_readMemory_52 ?_
  refine lv_iload_n hx hb d_RE_readMemory_55 rfl (lv_at hl 0 rfl) ?_
  refine lv_iconst (v := 1) hx hb d_RE_readMemory_56 (by decide) ?_
  refine lv_icmp_ne (tgt := 70) hx hb d_RE_readMemory_57 (by decide) (fun c57 => absurd (neI c57) (by (first | (apply Int.le_antisymm <;> omega) | omega))) (fun c57 => ?_)
  have q57 := eqI c57
  refine lv_aload_n hx hb d_RE_readMemory_60 rfl (lv_at hl 1 rfl) ?_
  refine lv_ldc2 hx hb hown (hts _ kL_RE_121) d_RE_readMemory_61 ?_
  refine lv_topl (fun x12 ex12 => ?_)
  have tx12 : x12.toInt = 4294967295 := by rw [ex12]; decide
  have hPc := hP.sb (wq := (wz_46 h0 aw ac n10 h0_limit n11 h0_codeCount ob h0_openCount aw ab ac aw_typeCount wat wap wag aw_functionCount waf 1 r9 aw_pagesMost aw_globalCount wgt wft wfv wgc aw_exportCount wek wei wes wez ab ax ab_length ax cax gax)) [0, 1, 2, 3] rfl
  have hDc := hD.sb (wq := (wz_46 h0 aw ac n10 h0_limit n11 h0_codeCount ob h0_openCount aw ab ac aw_typeCount wat wap wag aw_functionCount waf 1 r9 aw_pagesMost aw_globalCount wgt wft wfv wgc aw_exportCount wek wei wes wez ab ax ab_length ax cax gax)) [0, 1, 2, 3] (by decide) rfl
  have hKc := hK.sb (tyq := [(cax, .byte)]) [0] rfl
  have hFc := va_free (wc := (wz_46 h0 aw ac n10 h0_limit n11 h0_codeCount ob h0_openCount aw ab ac aw_typeCount wat wap wag aw_functionCount waf 1 r9 aw_pagesMost aw_globalCount wgt wft wfv wgc aw_exportCount wek wei wes wez ab ax ab_length ax cax gax)) hD hS hA [0, 1, 2, 3] rfl
  refine va_calll (va_runV (As := [.long x12]) (rest := [.ref aw]) ⟨hx, hb, hml, hown, hts⟩ (c_RE_readUnsignedx l dC dI H.size h0 aw ac ob ab wat wap wag waf wgt wft wfv wgc wek wei wes wez ax cax n10 h0_limit n11 h0_codeCount h0_openCount aw_typeCount aw_functionCount 1 r9 aw_pagesMost aw_globalCount aw_exportCount ab_length gax 2 (bn11) x12 (by (first | (apply Int.le_antisymm <;> omega) | omega)) (by (first | (apply Int.le_antisymm <;> omega) | omega)) (by (first | (apply Int.le_antisymm <;> omega) | omega)) ((by rw [leb_1 (by (first | (apply Int.le_antisymm <;> omega) | omega))]; exact ⟨m4, trivial⟩)) (by (first | (apply Int.le_antisymm <;> omega) | omega))) (cwV 1 hts (gV kM_RE_64 kV_RE_readUnsigned kS_RE_readUnsigned kI_RE kC_RE_readUnsigned) rfl rfl rfl (by decide +kernel) ⟨Nat.le_of_ble_eq_true rfl, Nat.le_of_ble_eq_true rfl⟩) ⟨fun a U g mk z => by obtain ⟨z0, z1, zP, zK, zD⟩ := z; exact ⟨z0, z1, zP, va_K.moved (u := U) (U := U.calling g mk a) (Vm.Alike.refl U.vm) zK, zD⟩, va_recv hKc hPc (ci := 7) (q0 := 0) rfl rfl, fun U hU hW => ⟨rfl, by rw [hU], va_P.he hU.symm hPc, va_K.moved hW.alike hKc, hDc.weaken (fun _ _ _ _ => trivial)⟩⟩ rfl rfl hl.1 rfl (lv_room (Nat.le_of_ble_eq_true rfl)) d_RE_readMemory_64 ⟨(Nat.zero_le _), (Nat.zero_le _)⟩) hS (fun q _ h => hFc q h) hFc (fun r13 u t H1 locs ht hvm hw hB hz1 hk1 hS => ?_)
  obtain ⟨n14, n15⟩ := u
  try dsimp only at hw
  obtain ⟨bn15, xr13⟩ := hw
  try clear hw
  have tn15 := b01 bn15
  obtain ⟨hP1, hK1, hD1⟩ := hB
  replace hP1 := va_P.he ht hP1
  obtain ⟨hP, hD⟩ := va_join (wr := []) (w1 := (wz_46 h0 aw ac n14 h0_limit n15 h0_codeCount ob h0_openCount aw ab ac aw_typeCount wat wap wag aw_functionCount waf 1 r9 aw_pagesMost aw_globalCount wgt wft wfv wgc aw_exportCount wek wei wes wez ab ax ab_length ax cax gax)) hP hD [0, 1, 2, 3] [] rfl rfl (by decide) (by decide) hk1 hFc hP1 hD1
  clear hPc hDc hKc hFc hz1 hk1 hP1 hK1 hD1
  rename Heap => H
  have hP : va_P (dC, dI) cls (wz_46 h0 aw ac n14 h0_limit n15 h0_codeCount ob h0_openCount aw ab ac aw_typeCount wat wap wag aw_functionCount waf 1 r9 aw_pagesMost aw_globalCount wgt wft wfv wgc aw_exportCount wek wei wes wez ab ax ab_length ax cax gax) H := hP
  have hD : va_D A (wz_46 h0 aw ac n14 h0_limit n15 h0_codeCount ob h0_openCount aw ab ac aw_typeCount wat wap wag aw_functionCount waf 1 r9 aw_pagesMost aw_globalCount wgt wft wfv wgc aw_exportCount wek wei wes wez ab ax ab_length ax cax gax) := hD
  refine lv_goto (tgt := 73) hx hb d_RE_readMemory_67 (by decide) ?_
  refine va_put (D := (dC, dI)) (ci := 10) (v := .long r13) (ty := .long) (C := R_WA) (T := F_WA) (N := 21) hx hb hts i_WA t_WA t_WA_ok n_WA hown hK hP hD hS 1 rfl rfl 10 (by decide) (hts _ kF_RE_129) (fun _ h9 => h9) rfl (by decide +kernel) rfl rfl (Nat.le_of_ble_eq_true rfl) d_RE_readMemory_73 (fun H locs hP hD hS => ?_)
  have hP9 := hP.sb (wq := (wz_46 h0 aw ac n14 h0_limit n15 h0_codeCount ob h0_openCount aw ab ac aw_typeCount wat wap wag aw_functionCount waf 1 r9 r13 aw_globalCount wgt wft wfv wgc aw_exportCount wek wei wes wez ab ax ab_length ax cax gax)) [0, 1, 2, 3] rfl
  have hD9 := hD.sb (wq := (wz_46 h0 aw ac n14 h0_limit n15 h0_codeCount ob h0_openCount aw ab ac aw_typeCount wat wap wag aw_functionCount waf 1 r9 r13 aw_globalCount wgt wft wfv wgc aw_exportCount wek wei wes wez ab ax ab_length ax cax gax)) [0, 1, 2, 3] (by decide) rfl
  exact W.vret hx hb hr (fun t ht hW => ⟨⟨(1, r9, r13, n14, n15), rfl, ⟨Or.inr rfl, bn15, ⟨by (try dsimp only) <;> (first | (apply Int.le_antisymm <;> omega) | omega), by (try dsimp only) <;> (first | (apply Int.le_antisymm <;> omega) | omega), by (try dsimp only) <;> (first | (apply Int.le_antisymm <;> omega) | omega), by (try dsimp only) <;> (first | (apply Int.le_antisymm <;> omega) | omega), by (try dsimp only) <;> (first | (apply Int.le_antisymm <;> omega) | omega)⟩⟩, va_P.he ht.symm hP9, va_K.moved hW.alike hK, hD9⟩, hS.F ht⟩) hS.2.2 d_RE_readMemory_76
abbrev at_RE_readGlobalsx (dC : Nat → ClassId) (dI : Nat → Nat → Nat) (h0 aw ac ob ab wat wap wag waf wgt wft wfv wgc wek wei wes wez ax : Nat) (cax cwgt cwft cwfv cwgc : ClassId) (h0_limit : Int32) (h0_codeCount : Int32) (h0_openCount : Int32) (aw_typeCount : Int32) (aw_functionCount : Int32) (aw_hasMemory : Int32) (aw_pagesLeast : Int64) (aw_pagesMost : Int64) (aw_exportCount : Int32) (ab_length : Int32) (gax : Nat → Int32) (A : Nat → Prop) (u : (Nat → Int32) × (Nat → Int64) × (Nat → Int32) × (Nat → Int32) × Int32 × Int32 × Int32) (t : State) : Prop := match u with | (gwft, gwfv, gwgc, gwgt, aw_globalCount, h0_at, h0_sound) => va_P (dC, dI) cls (wz_55 h0 aw ac h0_at h0_limit h0_sound h0_codeCount ob h0_openCount aw ab ac aw_typeCount wat wap wag aw_functionCount waf aw_hasMemory aw_pagesLeast aw_pagesMost aw_globalCount wgt wft wfv wgc aw_exportCount wek wei wes wez ab ax ab_length ax cax gax wgt cwgt gwgt wft cwft gwft wfv cwfv gwfv wgc cwgc gwgc) t.heap ∧ va_K (dC, dI) cls [(cax, .byte), (cwgt, .int), (cwft, .int), (cwfv, .long), (cwgc, .boolean)] t ∧ va_D A (wz_55 h0 aw ac h0_at h0_limit h0_sound h0_codeCount ob h0_openCount aw ab ac aw_typeCount wat wap wag aw_functionCount waf aw_hasMemory aw_pagesLeast aw_pagesMost aw_globalCount wgt wft wfv wgc aw_exportCount wek wei wes wez ab ax ab_length ax cax gax wgt cwgt gwgt wft cwft gwft wfv cwfv gwfv wgc cwgc gwgc)
set_option maxHeartbeats 4000000 in
set_option maxRecDepth 100000 in
theorem c_RE_readGlobalsx (l : Launch) (dC : Nat → ClassId) (dI : Nat → Nat → Nat) (sz : Nat) (h0 aw ac ob ab wat wap wag waf wgt wft wfv wgc wek wei wes wez ax : Nat) (cax cwgt cwft cwfv cwgc : ClassId) (h0_at : Int32) (h0_limit : Int32) (h0_sound : Int32) (h0_codeCount : Int32) (h0_openCount : Int32) (aw_typeCount : Int32) (aw_functionCount : Int32) (aw_hasMemory : Int32) (aw_pagesLeast : Int64) (aw_pagesMost : Int64) (aw_globalCount : Int32) (aw_exportCount : Int32) (ab_length : Int32) (gax : Nat → Int32) (gwgt : Nat → Int32) (gwft : Nat → Int32) (gwfv : Nat → Int64) (gwgc : Nat → Int32) (gG : List (Nat × Int))  (b_h0_sound : h0_sound = 0 ∨ h0_sound = 1) (b_aw_globalCount : 0 ≤ aw_globalCount.toInt ∧ aw_globalCount.toInt ≤ 20)   (hs : h0_sound.toInt = 1) (ha : 0 ≤ h0_at.toInt ∧ h0_limit.toInt ≤ ab_length.toInt ∧ ab_length.toInt ≤ 8192) (hGl : gG.length ≤ 20) (hgk : bx (∀ x ∈ gG, gok x)) (hbq : bx (bq gax h0_at.toNatClampNeg (gG.length :: gbl gG))) (hlm : h0_at.toInt + 1 + ((gbl gG).length : Int) ≤ h0_limit.toInt) : Met l y_RE_readGlobals w_RE_readGlobals ({ frames := 2, cells := 0, slots := 0, locals := 47 }) (va_Pc [.ref h0] (fun U => U.heap.size = sz ∧ va_P (dC, dI) cls (wz_55 h0 aw ac h0_at h0_limit h0_sound h0_codeCount ob h0_openCount aw ab ac aw_typeCount wat wap wag aw_functionCount waf aw_hasMemory aw_pagesLeast aw_pagesMost aw_globalCount wgt wft wfv wgc aw_exportCount wek wei wes wez ab ax ab_length ax cax gax wgt cwgt gwgt wft cwft gwft wfv cwfv gwfv wgc cwgc gwgc) U.heap ∧ va_K (dC, dI) cls [(cax, .byte), (cwgt, .int), (cwft, .int), (cwfv, .long), (cwgc, .boolean)] U ∧ va_D (fun _ => True) (wz_55 h0 aw ac h0_at h0_limit h0_sound h0_codeCount ob h0_openCount aw ab ac aw_typeCount wat wap wag aw_functionCount waf aw_hasMemory aw_pagesLeast aw_pagesMost aw_globalCount wgt wft wfv wgc aw_exportCount wek wei wes wez ab ax ab_length ax cax gax wgt cwgt gwgt wft cwft gwft wfv cwfv gwfv wgc cwgc gwgc))) (va_Qv (fun (u : (Nat → Int32) × (Nat → Int64) × (Nat → Int32) × (Nat → Int32) × Int32 × Int32 × Int32) => match u with | (gwft2, gwfv2, gwgc2, gwgt2, aw_globalCount2, h0_at2, h0_sound2) => (0 ≤ aw_globalCount2.toInt ∧ aw_globalCount2.toInt ≤ 20) ∧ (h0_sound2 = 0 ∨ h0_sound2 = 1) ∧ (h0_at2.toInt = h0_at.toInt + 1 + ((gbl gG).length : Int) ∧ h0_sound2.toInt = 1 ∧ aw_globalCount2.toInt = (gG.length : Int) ∧ (∀ g : Nat, (g : Int) < (gG.length : Int) → (gwgt2 g).toInt = 127 ∨ (gwgt2 g).toInt = 126))) (at_RE_readGlobalsx dC dI h0 aw ac ob ab wat wap wag waf wgt wft wfv wgc wek wei wes wez ax cax cwgt cwft cwfv cwgc h0_limit h0_codeCount h0_openCount aw_typeCount aw_functionCount aw_hasMemory aw_pagesLeast aw_pagesMost aw_exportCount ab_length gax (va_A (wz_55 h0 aw ac h0_at h0_limit h0_sound h0_codeCount ob h0_openCount aw ab ac aw_typeCount wat wap wag aw_functionCount waf aw_hasMemory aw_pagesLeast aw_pagesMost aw_globalCount wgt wft wfv wgc aw_exportCount wek wei wes wez ab ax ab_length ax cax gax wgt cwgt gwgt wft cwft gwft wfv cwfv gwfv wgc cwgc gwgc) sz)) (va_A (wz_55 h0 aw ac h0_at h0_limit h0_sound h0_codeCount ob h0_openCount aw ab ac aw_typeCount wat wap wag aw_functionCount waf aw_hasMemory aw_pagesLeast aw_pagesMost aw_globalCount wgt wft wfv wgc aw_exportCount wek wei wes wez ab ax ab_length ax cax gax wgt cwgt gwgt wft cwft gwft wfv cwfv gwfv wgc cwgc gwgc) sz)) 0 0 (va_A (wz_55 h0 aw ac h0_at h0_limit h0_sound h0_codeCount ob h0_openCount aw ab ac aw_typeCount wat wap wag aw_functionCount waf aw_hasMemory aw_pagesLeast aw_pagesMost aw_globalCount wgt wft wfv wgc aw_exportCount wek wei wes wez ab ax ab_length ax cax gax wgt cwgt gwgt wft cwft gwft wfv cwfv gwfv wgc cwgc gwgc) sz) := by
  refine Met.ofW (cc := b_RE_readGlobals) (maxL := 3) (ret := none) (by decide) rfl ?_
  intro p e s m args below meth c s₁ B hml hv
  obtain ⟨rfl, hsz, hP, hK, hD0⟩ := hv
  have hx := B.exec
  have hb := B.bytes
  have hr := B.returns
  have hts0 := atoms_spec (ws := w_RE_readGlobals) B.pre
  have hts : ∀ w ∈ lw_g, w.before _ s = true := fun w h => hts0 w (List.mem_cons_of_mem _ h)
  have hown : s.vm.findClass R_RE = some m.cls := findClass_of_methodNamed B.named
  have hlocks := B.notSynchronized
  clear hts0
  subst hsz
  have hD := hD0.self (sz := s.heap.size)
  generalize hAe : va_A (wz_55 h0 aw ac h0_at h0_limit h0_sound h0_codeCount ob h0_openCount aw ab ac aw_typeCount wat wap wag aw_functionCount waf aw_hasMemory aw_pagesLeast aw_pagesMost aw_globalCount wgt wft wfv wgc aw_exportCount wek wei wes wez ab ax ab_length ax cax gax wgt cwgt gwgt wft cwft gwft wfv cwfv gwfv wgc cwgc gwgc) s.heap.size = A at hD ⊢
  have hA : ∀ q : Nat, s.heap.size ≤ q → A q := fun q h => by rw [← hAe]; exact Or.inr h
  clear hAe
  have hP : va_P (dC, dI) cls (wz_55 h0 aw ac h0_at h0_limit h0_sound h0_codeCount ob h0_openCount aw ab ac aw_typeCount wat wap wag aw_functionCount waf aw_hasMemory aw_pagesLeast aw_pagesMost aw_globalCount wgt wft wfv wgc aw_exportCount wek wei wes wez ab ax ab_length ax cax gax wgt cwgt gwgt wft cwft gwft wfv cwfv gwfv wgc cwgc gwgc) s.heap := hP
  have hl := lv_entry ([.ref h0]) (n := 3) (Nat.le_of_ble_eq_true rfl)
  rw [lg_entry_eq]
  generalize (lg_sl ([.ref h0]) ++ List.replicate (3 - (lg_sl ([.ref h0])).length) Slot.unset).toArray = ls at hl ⊢
  have hl : lv_has ls 3 [(0, .ref h0)] := hl
  have k0 : (0 : Int32).toInt = 0 := by decide
  refine w_gen (A := A) hP (fun H locs hP hS => ?_)
  have k1 : (1 : Int32).toInt = 1 := by decide
  have k11 : (11 : Int32).toInt = 11 := by decide
  have k32 : (32 : Int32).toInt = 32 := by decide
  have k64 : (64 : Int32).toInt = 64 := by decide
  have k65 : (65 : Int32).toInt = 65 := by decide
  have k66 : (66 : Int32).toInt = 66 := by decide
  have k126 : (126 : Int32).toInt = 126 := by decide
  have k127 : (127 : Int32).toInt = 127 := by decide
  have th0_sound := b01 b_h0_sound
  have za0 := i32_clamp (x := h0_at) (by (first | (apply Int.le_antisymm <;> omega) | omega))
  have lb0 : (leb 5 gG.length).length = 1 := by rw [leb_1 (by (first | (apply Int.le_antisymm <;> omega) | omega))]; rfl
  refine lv_aload_n hx hb d_RE_readGlobals_0 rfl (lv_at hl 0 rfl) ?_
  refine va_get (D := (dC, dI)) (ci := 7) (v := .ref aw) (C := R_RE) (T := F_RE) (N := 8) hx hb hts i_RE hown hK hP 0 rfl rfl 0 (by decide) (hts _ kF_RE_15) (fun _ h9 => h9) rfl d_RE_readGlobals_1 ?_
  refine lv_aload_n hx hb d_RE_readGlobals_4 rfl (lv_at hl 0 rfl) ?_
  refine lv_ldc2 hx hb hown (hts _ kL_RE_96) d_RE_readGlobals_5 ?_
  refine lv_topl (fun x1 ex1 => ?_)
  have tx1 : x1.toInt = 20 := by rw [ex1]; decide
  have hPc := hP.sb (wq := (wz_46 h0 aw ac h0_at h0_limit h0_sound h0_codeCount ob h0_openCount aw ab ac aw_typeCount wat wap wag aw_functionCount waf aw_hasMemory aw_pagesLeast aw_pagesMost aw_globalCount wgt wft wfv wgc aw_exportCount wek wei wes wez ab ax ab_length ax cax gax)) [0, 1, 2, 3] rfl
  have hDc := hD.sb (wq := (wz_46 h0 aw ac h0_at h0_limit h0_sound h0_codeCount ob h0_openCount aw ab ac aw_typeCount wat wap wag aw_functionCount waf aw_hasMemory aw_pagesLeast aw_pagesMost aw_globalCount wgt wft wfv wgc aw_exportCount wek wei wes wez ab ax ab_length ax cax gax)) [0, 1, 2, 3] (by decide) rfl
  have hKc := hK.sb (tyq := [(cax, .byte)]) [0] rfl
  have hFc := va_free (wc := (wz_46 h0 aw ac h0_at h0_limit h0_sound h0_codeCount ob h0_openCount aw ab ac aw_typeCount wat wap wag aw_functionCount waf aw_hasMemory aw_pagesLeast aw_pagesMost aw_globalCount wgt wft wfv wgc aw_exportCount wek wei wes wez ab ax ab_length ax cax gax)) hD hS hA [0, 1, 2, 3] rfl
  refine va_calll (va_runV (As := [.long x1]) (rest := [.ref aw]) ⟨hx, hb, hml, hown, hts⟩ (c_RE_readUnsignedx l dC dI H.size h0 aw ac ob ab wat wap wag waf wgt wft wfv wgc wek wei wes wez ax cax h0_at h0_limit h0_sound h0_codeCount h0_openCount aw_typeCount aw_functionCount aw_hasMemory aw_pagesLeast aw_pagesMost aw_globalCount aw_exportCount ab_length gax gG.length (b_h0_sound) x1 (by (first | (apply Int.le_antisymm <;> omega) | omega)) (by (first | (apply Int.le_antisymm <;> omega) | omega)) (by (first | (apply Int.le_antisymm <;> omega) | omega)) ((by rw [leb_1 (by (first | (apply Int.le_antisymm <;> omega) | omega))]; exact ⟨hbq.out.1, trivial⟩)) (by (first | (apply Int.le_antisymm <;> omega) | omega))) (cwV 1 hts (gV kM_RE_64 kV_RE_readUnsigned kS_RE_readUnsigned kI_RE kC_RE_readUnsigned) rfl rfl rfl (by decide +kernel) ⟨Nat.le_of_ble_eq_true rfl, Nat.le_of_ble_eq_true rfl⟩) ⟨fun a U g mk z => by obtain ⟨z0, z1, zP, zK, zD⟩ := z; exact ⟨z0, z1, zP, va_K.moved (u := U) (U := U.calling g mk a) (Vm.Alike.refl U.vm) zK, zD⟩, va_recv hKc hPc (ci := 7) (q0 := 0) rfl rfl, fun U hU hW => ⟨rfl, by rw [hU], va_P.he hU.symm hPc, va_K.moved hW.alike hKc, hDc.weaken (fun _ _ _ _ => trivial)⟩⟩ rfl rfl hl.1 rfl (lv_room (Nat.le_of_ble_eq_true rfl)) d_RE_readGlobals_8 ⟨(Nat.zero_le _), (Nat.zero_le _)⟩) hS (fun q _ h => hFc q h) hFc (fun r2 u t H1 locs ht hvm hw hB hz1 hk1 hS => ?_)
  obtain ⟨n3, n4⟩ := u
  try dsimp only at hw
  obtain ⟨bn4, xr2⟩ := hw
  try clear hw
  have tn4 := b01 bn4
  have za8 := i32_clamp (x := n3) (by (first | (apply Int.le_antisymm <;> omega) | omega))
  obtain ⟨hP1, hK1, hD1⟩ := hB
  replace hP1 := va_P.he ht hP1
  obtain ⟨hP, hD⟩ := va_join (wr := (wz_56 wgt cwgt gwgt wft cwft gwft wfv cwfv gwfv wgc cwgc gwgc)) (w1 := (wz_46 h0 aw ac n3 h0_limit n4 h0_codeCount ob h0_openCount aw ab ac aw_typeCount wat wap wag aw_functionCount waf aw_hasMemory aw_pagesLeast aw_pagesMost aw_globalCount wgt wft wfv wgc aw_exportCount wek wei wes wez ab ax ab_length ax cax gax)) hP hD [0, 1, 2, 3] [4, 5, 6, 7] rfl rfl (by decide) (by decide) hk1 hFc hP1 hD1
  clear hPc hDc hKc hFc hz1 hk1 hP1 hK1 hD1
  rename Heap => H
  have hP : va_P (dC, dI) cls (wz_57 wgt cwgt gwgt wft cwft gwft wfv cwfv gwfv wgc cwgc gwgc h0 aw ac n3 h0_limit n4 h0_codeCount ob h0_openCount aw ab ac aw_typeCount wat wap wag aw_functionCount waf aw_hasMemory aw_pagesLeast aw_pagesMost aw_globalCount wgt wft wfv wgc aw_exportCount wek wei wes wez ab ax ab_length ax cax gax) H := hP
  have hD : va_D A (wz_57 wgt cwgt gwgt wft cwft gwft wfv cwfv gwfv wgc cwgc gwgc h0 aw ac n3 h0_limit n4 h0_codeCount ob h0_openCount aw ab ac aw_typeCount wat wap wag aw_functionCount waf aw_hasMemory aw_pagesLeast aw_pagesMost aw_globalCount wgt wft wfv wgc aw_exportCount wek wei wes wez ab ax ab_length ax cax gax) := hD
  refine lv_l2i hx hb d_RE_readGlobals_11 rfl ?_
  refine lv_topi (fun x5 ex5 => ?_)
  have tx5 := l2i_t ex5 (by (first | (apply Int.le_antisymm <;> omega) | omega)) (by (first | (apply Int.le_antisymm <;> omega) | omega))
  refine va_put (D := (dC, dI)) (ci := 10) (v := .int x5) (ty := .int) (C := R_WA) (T := F_WA) (N := 21) hx hb hts i_WA t_WA t_WA_ok n_WA hown hK hP hD hS 5 rfl rfl 11 (by decide) (hts _ kF_RE_132) (fun _ h9 => h9) rfl (by decide +kernel) rfl rfl (Nat.le_of_ble_eq_true rfl) d_RE_readGlobals_12 (fun H locs hP hD hS => ?_)
  refine lv_iconst (v := 0) hx hb d_RE_readGlobals_15 (by decide) ?_
  refine lv_istore_n (lv' := [(1, .int 0), (0, .ref h0)]) hx hb d_RE_readGlobals_16 rfl hl (by decide) rfl (fun ls hl => ?_)
  refine w_loop (σ := Int32 × (Nat → Int32) × (Nat → Int64) × (Nat → Int32) × (Nat → Int32) × Int32 × Int32) (fun u H locs ls => match u with | (j17_l1, j17_wft, j17_wfv, j17_wgc, j17_wgt, j17_h0_at, j17_h0_sound) => (0 ≤ j17_l1.toInt ∧ j17_l1.toInt ≤ 20) ∧ (j17_h0_sound = 0 ∨ j17_h0_sound = 1) ∧ (j17_l1.toInt ≤ x5.toInt ∧ x5.toInt = (gG.length : Int) ∧ j17_h0_sound.toInt = 1 ∧ 0 ≤ j17_h0_at.toInt ∧ j17_h0_at.toInt + ((gbl (gG.drop j17_l1.toNatClampNeg)).length : Int) = h0_at.toInt + 1 + ((gbl gG).length : Int)) ∧ (bx (bq gax j17_h0_at.toNatClampNeg (gbl (gG.drop j17_l1.toNatClampNeg)))) ∧ (∀ g : Nat, (g : Int) < j17_l1.toInt → (j17_wgt g).toInt = 127 ∨ (j17_wgt g).toInt = 126) ∧ va_P (dC, dI) cls (wz_57 wgt cwgt j17_wgt wft cwft j17_wft wfv cwfv j17_wfv wgc cwgc j17_wgc h0 aw ac j17_h0_at h0_limit j17_h0_sound h0_codeCount ob h0_openCount aw ab ac aw_typeCount wat wap wag aw_functionCount waf aw_hasMemory aw_pagesLeast aw_pagesMost x5 wgt wft wfv wgc aw_exportCount wek wei wes wez ab ax ab_length ax cax gax) H ∧ va_D A (wz_57 wgt cwgt j17_wgt wft cwft j17_wft wfv cwfv j17_wfv wgc cwgc j17_wgc h0 aw ac j17_h0_at h0_limit j17_h0_sound h0_codeCount ob h0_openCount aw ab ac aw_typeCount wat wap wag aw_functionCount waf aw_hasMemory aw_pagesLeast aw_pagesMost x5 wgt wft wfv wgc aw_exportCount wek wei wes wez ab ax ab_length ax cax gax) ∧ va_S A s.heap H locs ∧ lv_has ls 3 [(0, .ref h0), (1, .int j17_l1)]) (fun u => match u with | (j17_l1, j17_wft, j17_wfv, j17_wgc, j17_wgt, j17_h0_at, j17_h0_sound) => (x5.toInt - j17_l1.toInt).toNat) ?_ (0, gwft, gwfv, gwgc, gwgt, n3, n4) ⟨by (try dsimp only) <;> (first | (apply Int.le_antisymm <;> omega) | omega), bn4, (by rw [show (0 : Int32).toNatClampNeg = 0 from rfl, List.drop_zero]; (try dsimp only) <;> (first | (apply Int.le_antisymm <;> omega) | omega)), (bq_at hbq.out.2 (by (first | (apply Int.le_antisymm <;> omega) | omega))), fun t z => absurd z (by show ¬ (t : Int) < 0; (first | (apply Int.le_antisymm <;> omega) | omega)), hP, hD, hS, lv_sub hl [1, 0] rfl⟩
  intro N17 ih17 u H locs ls hN17 hI
  obtain ⟨j17_l1, j17_wft, j17_wfv, j17_wgc, j17_wgt, j17_h0_at, j17_h0_sound⟩ := u
  obtain ⟨b_j17_l1, b_j17_h0_sound, v1, hB, v3, hP, hD, hS, hl⟩ := hI
  have tj17_h0_sound := b01 b_j17_h0_sound
  have hN17 : (x5.toInt - j17_l1.toInt).toNat < N17 + 1 := hN17
  refine lv_iload_n hx hb d_RE_readGlobals_17 rfl (lv_at hl 1 rfl) ?_
  refine lv_aload_n hx hb d_RE_readGlobals_18 rfl (lv_at hl 0 rfl) ?_
  refine va_get (D := (dC, dI)) (ci := 7) (v := .ref aw) (C := R_RE) (T := F_RE) (N := 8) hx hb hts i_RE hown hK hP 4 rfl rfl 0 (by decide) (hts _ kF_RE_15) (fun _ h9 => h9) rfl d_RE_readGlobals_19 ?_
  refine va_get (D := (dC, dI)) (ci := 10) (v := .int x5) (C := R_WA) (T := F_WA) (N := 21) hx hb hts i_WA hown hK hP 5 rfl rfl 11 (by decide) (hts _ kF_RE_132) (fun _ h9 => h9) rfl d_RE_readGlobals_22 ?_
  refine lv_icmp_ge (tgt := 163) hx hb d_RE_readGlobals_25 (by decide) (fun c25 => ?_) (fun c25 => ?_)
  · have q25 := leI c25
    have hP9 := hP.sb (wq := (wz_55 h0 aw ac j17_h0_at h0_limit j17_h0_sound h0_codeCount ob h0_openCount aw ab ac aw_typeCount wat wap wag aw_functionCount waf aw_hasMemory aw_pagesLeast aw_pagesMost x5 wgt wft wfv wgc aw_exportCount wek wei wes wez ab ax ab_length ax cax gax wgt cwgt j17_wgt wft cwft j17_wft wfv cwfv j17_wfv wgc cwgc j17_wgc)) [4, 5, 6, 7, 0, 1, 2, 3] rfl
    have hD9 := hD.sb (wq := (wz_55 h0 aw ac j17_h0_at h0_limit j17_h0_sound h0_codeCount ob h0_openCount aw ab ac aw_typeCount wat wap wag aw_functionCount waf aw_hasMemory aw_pagesLeast aw_pagesMost x5 wgt wft wfv wgc aw_exportCount wek wei wes wez ab ax ab_length ax cax gax wgt cwgt j17_wgt wft cwft j17_wft wfv cwfv j17_wfv wgc cwgc j17_wgc)) [4, 5, 6, 7, 0, 1, 2, 3] (by decide) rfl
    exact W.vret hx hb hr (fun t ht hW => ⟨⟨(j17_wft, j17_wfv, j17_wgc, j17_wgt, x5, j17_h0_at, j17_h0_sound), rfl, ⟨by (try dsimp only) <;> (first | (apply Int.le_antisymm <;> omega) | omega), b_j17_h0_sound, (by have e := v1.2.2.2.2; rw [List.drop_of_length_le (by have := i32_clamp (x := j17_l1) (by (first | (apply Int.le_antisymm <;> omega) | omega)); (first | (apply Int.le_antisymm <;> omega) | omega)), show (gbl []).length = 0 from rfl] at e; exact ⟨by (try dsimp only) <;> (first | (apply Int.le_antisymm <;> omega) | omega), by (try dsimp only) <;> (first | (apply Int.le_antisymm <;> omega) | omega), by (try dsimp only) <;> (first | (apply Int.le_antisymm <;> omega) | omega), fun t z => v3 t (by (first | (apply Int.le_antisymm <;> omega) | omega))⟩)⟩, va_P.he ht.symm hP9, va_K.moved hW.alike hK, hD9⟩, hS.F ht⟩) hS.2.2 d_RE_readGlobals_163
  · have q25 := nleI c25
    refine lv_aload_n hx hb d_RE_readGlobals_28 rfl (lv_at hl 0 rfl) ?_
    refine va_get (D := (dC, dI)) (ci := 7) (v := .int j17_h0_sound) (C := R_RE) (T := F_RE) (N := 8) hx hb hts i_RE hown hK hP 4 rfl rfl 4 (by decide) (hts _ kF_RE_45) (fun _ h9 => h9) rfl d_RE_readGlobals_29 ?_
    refine lv_if_eq (tgt := 163) hx hb d_RE_readGlobals_32 (by decide) (fun c32 => absurd (eqI c32) (by (first | (apply Int.le_antisymm <;> omega) | omega))) (fun c32 => ?_)
    have q32 := neI c32
    have c9 := i32_clamp (x := j17_l1) (by (first | (apply Int.le_antisymm <;> omega) | omega))
    obtain ⟨xg9, n1, n2⟩ := gbl_hd (G := gG) (k := j17_l1.toNatClampNeg) (by (first | (apply Int.le_antisymm <;> omega) | omega))
    have kg := hgk.out xg9 n1
    unfold gok at kg
    have q9 := hB.out
    rw [n2] at q9
    obtain ⟨m1, m2, m3, m4⟩ := q9
    have m5 := bq_app m4
    have m6 := m5.1
    have m7 := m5.2.1
    have m8 := m5.2.2
    replace m6 : bx _ := m6
    replace m8 : bx _ := m8
    clear m4 m5
    have lg := congrArg List.length n2
    rw [List.length_cons, List.length_cons, List.length_cons, List.length_append, List.length_cons] at lg
    have za := i32_clamp (x := j17_h0_at) (by (first | (apply Int.le_antisymm <;> omega) | omega))
    clear n2
    refine lv_aload_n hx hb d_RE_readGlobals_35 rfl (lv_at hl 0 rfl) ?_
    refine va_get (D := (dC, dI)) (ci := 7) (v := .ref aw) (C := R_RE) (T := F_RE) (N := 8) hx hb hts i_RE hown hK hP 4 rfl rfl 0 (by decide) (hts _ kF_RE_15) (fun _ h9 => h9) rfl d_RE_readGlobals_36 ?_
    refine va_get (D := (dC, dI)) (ci := 10) (v := .ref wgt) (C := R_WA) (T := F_WA) (N := 21) hx hb hts i_WA hown hK hP 5 rfl rfl 12 (by decide) (hts _ kF_RE_135) (fun _ h9 => h9) rfl d_RE_readGlobals_39 ?_
    refine lv_iload_n hx hb d_RE_readGlobals_42 rfl (lv_at hl 1 rfl) ?_
    refine lv_aload_n hx hb d_RE_readGlobals_43 rfl (lv_at hl 0 rfl) ?_
    have hPc := hP.sb (wq := (wz_46 h0 aw ac j17_h0_at h0_limit j17_h0_sound h0_codeCount ob h0_openCount aw ab ac aw_typeCount wat wap wag aw_functionCount waf aw_hasMemory aw_pagesLeast aw_pagesMost x5 wgt wft wfv wgc aw_exportCount wek wei wes wez ab ax ab_length ax cax gax)) [4, 5, 6, 7] rfl
    have hDc := hD.sb (wq := (wz_46 h0 aw ac j17_h0_at h0_limit j17_h0_sound h0_codeCount ob h0_openCount aw ab ac aw_typeCount wat wap wag aw_functionCount waf aw_hasMemory aw_pagesLeast aw_pagesMost x5 wgt wft wfv wgc aw_exportCount wek wei wes wez ab ax ab_length ax cax gax)) [4, 5, 6, 7] (by decide) rfl
    have hKc := hK.sb (tyq := [(cax, .byte)]) [0] rfl
    have hFc := va_free (wc := (wz_46 h0 aw ac j17_h0_at h0_limit j17_h0_sound h0_codeCount ob h0_openCount aw ab ac aw_typeCount wat wap wag aw_functionCount waf aw_hasMemory aw_pagesLeast aw_pagesMost x5 wgt wft wfv wgc aw_exportCount wek wei wes wez ab ax ab_length ax cax gax)) hD hS hA [4, 5, 6, 7] rfl
    refine va_calli (va_runV (As := []) (rest := [.int j17_l1, .ref wgt]) ⟨hx, hb, hml, hown, hts⟩ (c_RE_readTypex l dC dI H.size h0 aw ac ob ab wat wap wag waf wgt wft wfv wgc wek wei wes wez ax cax j17_h0_at h0_limit j17_h0_sound h0_codeCount h0_openCount aw_typeCount aw_functionCount aw_hasMemory aw_pagesLeast aw_pagesMost x5 aw_exportCount ab_length gax (b_j17_h0_sound) (by (first | (apply Int.le_antisymm <;> omega) | omega)) (by (first | (apply Int.le_antisymm <;> omega) | omega)) (by (first | (apply Int.le_antisymm <;> omega) | omega)) (by (try dsimp only) <;> (first | (apply Int.le_antisymm <;> omega) | omega))) (cwV 0 hts (gV kM_RE_109 kV_RE_readType kS_RE_readType kI_RE kC_RE_readType) rfl rfl rfl (by decide +kernel) ⟨Nat.le_of_ble_eq_true rfl, Nat.le_of_ble_eq_true rfl⟩) ⟨fun a U g mk z => by obtain ⟨z0, z1, zP, zK, zD⟩ := z; exact ⟨z0, z1, zP, va_K.moved (u := U) (U := U.calling g mk a) (Vm.Alike.refl U.vm) zK, zD⟩, va_recv hKc hPc (ci := 7) (q0 := 0) rfl rfl, fun U hU hW => ⟨rfl, by rw [hU], va_P.he hU.symm hPc, va_K.moved hW.alike hKc, hDc.weaken (fun _ _ _ _ => trivial)⟩⟩ rfl rfl hl.1 rfl (lv_room (Nat.le_of_ble_eq_true rfl)) d_RE_readGlobals_44 ⟨(Nat.zero_le _), (Nat.zero_le _)⟩) hS (fun q _ h => hFc q h) hFc (fun r6 u t H1 locs ht hvm hw hB hz1 hk1 hS => ?_)
    obtain ⟨n7, n8⟩ := u
    try dsimp only at hw
    obtain ⟨bn8, xr6⟩ := hw
    try clear hw
    have tn8 := b01 bn8
    have za44 := i32_clamp (x := n7) (by (first | (apply Int.le_antisymm <;> omega) | omega))
    have ea44 : j17_h0_at.toNatClampNeg + 1 = n7.toNatClampNeg := by (first | (apply Int.le_antisymm <;> omega) | omega)
    rw [ea44] at m2
    obtain ⟨hP1, hK1, hD1⟩ := hB
    replace hP1 := va_P.he ht hP1
    obtain ⟨hP, hD⟩ := va_join (wr := (wz_56 wgt cwgt j17_wgt wft cwft j17_wft wfv cwfv j17_wfv wgc cwgc j17_wgc)) (w1 := (wz_46 h0 aw ac n7 h0_limit n8 h0_codeCount ob h0_openCount aw ab ac aw_typeCount wat wap wag aw_functionCount waf aw_hasMemory aw_pagesLeast aw_pagesMost x5 wgt wft wfv wgc aw_exportCount wek wei wes wez ab ax ab_length ax cax gax)) hP hD [4, 5, 6, 7] [0, 1, 2, 3] rfl rfl (by decide) (by decide) hk1 hFc hP1 hD1
    clear hPc hDc hKc hFc hz1 hk1 hP1 hK1 hD1
    rename Heap => H
    have hP : va_P (dC, dI) cls (wz_57 wgt cwgt j17_wgt wft cwft j17_wft wfv cwfv j17_wfv wgc cwgc j17_wgc h0 aw ac n7 h0_limit n8 h0_codeCount ob h0_openCount aw ab ac aw_typeCount wat wap wag aw_functionCount waf aw_hasMemory aw_pagesLeast aw_pagesMost x5 wgt wft wfv wgc aw_exportCount wek wei wes wez ab ax ab_length ax cax gax) H := hP
    have hD : va_D A (wz_57 wgt cwgt j17_wgt wft cwft j17_wft wfv cwfv j17_wfv wgc cwgc j17_wgc h0 aw ac n7 h0_limit n8 h0_codeCount ob h0_openCount aw ab ac aw_typeCount wat wap wag aw_functionCount waf aw_hasMemory aw_pagesLeast aw_pagesMost x5 wgt wft wfv wgc aw_exportCount wek wei wes wez ab ax ab_length ax cax gax) := hD
    have g47 : vp_in j17_l1 20 := vp_in_iff.mpr ⟨by (first | (apply Int.le_antisymm <;> omega) | omega), by (first | (apply Int.le_antisymm <;> omega) | omega)⟩
    refine va_iast hx hb hK hP hD hS 0 1 rfl rfl g47 d_RE_readGlobals_47 (fun H locs hP hD hS => ?_)
    generalize ef9 : upd j17_wgt j17_l1.toNatClampNeg r6 = f9 at hP hD
    refine lv_aload_n hx hb d_RE_readGlobals_48 rfl (lv_at hl 0 rfl) ?_
    refine va_get (D := (dC, dI)) (ci := 7) (v := .ref aw) (C := R_RE) (T := F_RE) (N := 8) hx hb hts i_RE hown hK hP 4 rfl rfl 0 (by decide) (hts _ kF_RE_15) (fun _ h9 => h9) rfl d_RE_readGlobals_49 ?_
    refine va_get (D := (dC, dI)) (ci := 10) (v := .ref wgc) (C := R_WA) (T := F_WA) (N := 21) hx hb hts i_WA hown hK hP 5 rfl rfl 15 (by decide) (hts _ kF_RE_138) (fun _ h9 => h9) rfl d_RE_readGlobals_52 ?_
    refine lv_iload_n hx hb d_RE_readGlobals_55 rfl (lv_at hl 1 rfl) ?_
    refine lv_aload_n hx hb d_RE_readGlobals_56 rfl (lv_at hl 0 rfl) ?_
    have hPc := hP.sb (wq := (wz_46 h0 aw ac n7 h0_limit n8 h0_codeCount ob h0_openCount aw ab ac aw_typeCount wat wap wag aw_functionCount waf aw_hasMemory aw_pagesLeast aw_pagesMost x5 wgt wft wfv wgc aw_exportCount wek wei wes wez ab ax ab_length ax cax gax)) [4, 5, 6, 7] rfl
    have hDc := hD.sb (wq := (wz_46 h0 aw ac n7 h0_limit n8 h0_codeCount ob h0_openCount aw ab ac aw_typeCount wat wap wag aw_functionCount waf aw_hasMemory aw_pagesLeast aw_pagesMost x5 wgt wft wfv wgc aw_exportCount wek wei wes wez ab ax ab_length ax cax gax)) [4, 5, 6, 7] (by decide) rfl
    have hKc := hK.sb (tyq := [(cax, .byte)]) [0] rfl
    have hFc := va_free (wc := (wz_46 h0 aw ac n7 h0_limit n8 h0_codeCount ob h0_openCount aw ab ac aw_typeCount wat wap wag aw_functionCount waf aw_hasMemory aw_pagesLeast aw_pagesMost x5 wgt wft wfv wgc aw_exportCount wek wei wes wez ab ax ab_length ax cax gax)) hD hS hA [4, 5, 6, 7] rfl
    refine va_calli (va_runV (As := []) (rest := [.int j17_l1, .ref wgc]) ⟨hx, hb, hml, hown, hts⟩ (c_RE_readFlagx l dC dI H.size h0 aw ac ob ab wat wap wag waf wgt wft wfv wgc wek wei wes wez ax cax n7 h0_limit n8 h0_codeCount h0_openCount aw_typeCount aw_functionCount aw_hasMemory aw_pagesLeast aw_pagesMost x5 aw_exportCount ab_length gax (bn8) (by (first | (apply Int.le_antisymm <;> omega) | omega)) (by (first | (apply Int.le_antisymm <;> omega) | omega)) (by (first | (apply Int.le_antisymm <;> omega) | omega)) (by (try dsimp only) <;> (first | (apply Int.le_antisymm <;> omega) | omega))) (cwV 0 hts (gV kM_RE_118 kV_RE_readFlag kS_RE_readFlag kI_RE kC_RE_readFlag) rfl rfl rfl (by decide +kernel) ⟨Nat.le_of_ble_eq_true rfl, Nat.le_of_ble_eq_true rfl⟩) ⟨fun a U g mk z => by obtain ⟨z0, z1, zP, zK, zD⟩ := z; exact ⟨z0, z1, zP, va_K.moved (u := U) (U := U.calling g mk a) (Vm.Alike.refl U.vm) zK, zD⟩, va_recv hKc hPc (ci := 7) (q0 := 0) rfl rfl, fun U hU hW => ⟨rfl, by rw [hU], va_P.he hU.symm hPc, va_K.moved hW.alike hKc, hDc.weaken (fun _ _ _ _ => trivial)⟩⟩ rfl rfl hl.1 rfl (lv_room (Nat.le_of_ble_eq_true rfl)) d_RE_readGlobals_57 ⟨(Nat.zero_le _), (Nat.zero_le _)⟩) hS (fun q _ h => hFc q h) hFc (fun r10 u t H1 locs ht hvm hw hB hz1 hk1 hS => ?_)
    obtain ⟨n11, n12⟩ := u
    try dsimp only at hw
    obtain ⟨bn12, xr10⟩ := hw
    try clear hw
    have tn12 := b01 bn12
    have za57 := i32_clamp (x := n11) (by (first | (apply Int.le_antisymm <;> omega) | omega))
    have ea57 : j17_h0_at.toNatClampNeg + 2 = n11.toNatClampNeg := by (first | (apply Int.le_antisymm <;> omega) | omega)
    rw [show j17_h0_at.toNatClampNeg + 1 + 1 = j17_h0_at.toNatClampNeg + 2 from rfl, ea57] at m3
    have y3 : bn (gax n11.toNatClampNeg) = 65 ∧ xg9.1 = 127 ∨ bn (gax n11.toNatClampNeg) = 66 ∧ xg9.1 ≠ 127 := by by_cases q : xg9.1 = 127; (rw [if_pos q] at m3; exact Or.inl ⟨m3, q⟩); (rw [if_neg q] at m3; exact Or.inr ⟨m3, q⟩)
    clear m3
    obtain ⟨hP1, hK1, hD1⟩ := hB
    replace hP1 := va_P.he ht hP1
    obtain ⟨hP, hD⟩ := va_join (wr := (wz_56 wgt cwgt f9 wft cwft j17_wft wfv cwfv j17_wfv wgc cwgc j17_wgc)) (w1 := (wz_46 h0 aw ac n11 h0_limit n12 h0_codeCount ob h0_openCount aw ab ac aw_typeCount wat wap wag aw_functionCount waf aw_hasMemory aw_pagesLeast aw_pagesMost x5 wgt wft wfv wgc aw_exportCount wek wei wes wez ab ax ab_length ax cax gax)) hP hD [4, 5, 6, 7] [0, 1, 2, 3] rfl rfl (by decide) (by decide) hk1 hFc hP1 hD1
    clear hPc hDc hKc hFc hz1 hk1 hP1 hK1 hD1
    rename Heap => H
    have hP : va_P (dC, dI) cls (wz_57 wgt cwgt f9 wft cwft j17_wft wfv cwfv j17_wfv wgc cwgc j17_wgc h0 aw ac n11 h0_limit n12 h0_codeCount ob h0_openCount aw ab ac aw_typeCount wat wap wag aw_functionCount waf aw_hasMemory aw_pagesLeast aw_pagesMost x5 wgt wft wfv wgc aw_exportCount wek wei wes wez ab ax ab_length ax cax gax) H := hP
    have hD : va_D A (wz_57 wgt cwgt f9 wft cwft j17_wft wfv cwfv j17_wfv wgc cwgc j17_wgc h0 aw ac n11 h0_limit n12 h0_codeCount ob h0_openCount aw ab ac aw_typeCount wat wap wag aw_functionCount waf aw_hasMemory aw_pagesLeast aw_pagesMost x5 wgt wft wfv wgc aw_exportCount wek wei wes wez ab ax ab_length ax cax gax) := hD
    refine lv_iconst (v := 1) hx hb d_RE_readGlobals_60 (by decide) ?_
    refine w_cut (pc2 := 69) (σ := Int32) (fun u H locs ls => match u with | j69_s0 => (j69_s0 = 0 ∨ j69_s0 = 1) ∧ va_P (dC, dI) cls (wz_57 wgt cwgt f9 wft cwft j17_wft wfv cwfv j17_wfv wgc cwgc j17_wgc h0 aw ac n11 h0_limit n12 h0_codeCount ob h0_openCount aw ab ac aw_typeCount wat wap wag aw_functionCount waf aw_hasMemory aw_pagesLeast aw_pagesMost x5 wgt wft wfv wgc aw_exportCount wek wei wes wez ab ax ab_length ax cax gax) H ∧ va_D A (wz_57 wgt cwgt f9 wft cwft j17_wft wfv cwfv j17_wfv wgc cwgc j17_wgc h0 aw ac n11 h0_limit n12 h0_codeCount ob h0_openCount aw ab ac aw_typeCount wat wap wag aw_functionCount waf aw_hasMemory aw_pagesLeast aw_pagesMost x5 wgt wft wfv wgc aw_exportCount wek wei wes wez ab ax ab_length ax cax gax) ∧ va_S A s.heap H locs ∧ lv_has ls 3 [(0, .ref h0), (1, .int j17_l1)]) (fun u => match u with | j69_s0 => [.int j69_s0, .int j17_l1, .ref wgc]) ?_ (fun jn69 => ?_)
    · intro u H locs ls hI
      obtain ⟨j69_s0, rfl⟩ : ∃ z, z = u := ⟨_, rfl⟩
      obtain ⟨b_j69_s0, hP, hD, hS, hl⟩ := hI
      have tj69_s0 := b01 b_j69_s0
      have g69 : vp_in j17_l1 20 := vp_in_iff.mpr ⟨by (first | (apply Int.le_antisymm <;> omega) | omega), by (first | (apply Int.le_antisymm <;> omega) | omega)⟩
      refine va_zast hx hb hK hP hD hS 3 4 rfl rfl g69 d_RE_readGlobals_69 (fun H locs hP hD hS => ?_)
      generalize ef13 : upd j17_wgc j17_l1.toNatClampNeg (vp_nar .boolean j69_s0) = f13 at hP hD
      refine lv_aload_n hx hb d_RE_readGlobals_70 rfl (lv_at hl 0 rfl) ?_
      have hPc := hP.sb (wq := (wz_46 h0 aw ac n11 h0_limit n12 h0_codeCount ob h0_openCount aw ab ac aw_typeCount wat wap wag aw_functionCount waf aw_hasMemory aw_pagesLeast aw_pagesMost x5 wgt wft wfv wgc aw_exportCount wek wei wes wez ab ax ab_length ax cax gax)) [4, 5, 6, 7] rfl
      have hDc := hD.sb (wq := (wz_46 h0 aw ac n11 h0_limit n12 h0_codeCount ob h0_openCount aw ab ac aw_typeCount wat wap wag aw_functionCount waf aw_hasMemory aw_pagesLeast aw_pagesMost x5 wgt wft wfv wgc aw_exportCount wek wei wes wez ab ax ab_length ax cax gax)) [4, 5, 6, 7] (by decide) rfl
      have hKc := hK.sb (tyq := [(cax, .byte)]) [0] rfl
      have hFc := va_free (wc := (wz_46 h0 aw ac n11 h0_limit n12 h0_codeCount ob h0_openCount aw ab ac aw_typeCount wat wap wag aw_functionCount waf aw_hasMemory aw_pagesLeast aw_pagesMost x5 wgt wft wfv wgc aw_exportCount wek wei wes wez ab ax ab_length ax cax gax)) hD hS hA [4, 5, 6, 7] rfl
      refine va_calli (va_runV (As := []) (rest := []) ⟨hx, hb, hml, hown, hts⟩ (c_RE_nextx l dC dI H.size h0 aw ac ob ab wat wap wag waf wgt wft wfv wgc wek wei wes wez ax cax n11 h0_limit n12 h0_codeCount h0_openCount aw_typeCount aw_functionCount aw_hasMemory aw_pagesLeast aw_pagesMost x5 aw_exportCount ab_length gax (bn12) (by (first | (apply Int.le_antisymm <;> omega) | omega)) (by (first | (apply Int.le_antisymm <;> omega) | omega)) (by (first | (apply Int.le_antisymm <;> omega) | omega))) (cwV 0 hts (gV kM_RE_60 kV_RE_next kS_RE_next kI_RE kC_RE_next) rfl rfl rfl (by decide +kernel) ⟨Nat.le_of_ble_eq_true rfl, Nat.le_of_ble_eq_true rfl⟩) ⟨fun a U g mk z => by obtain ⟨z0, z1, zP, zK, zD⟩ := z; exact ⟨z0, z1, zP, va_K.moved (u := U) (U := U.calling g mk a) (Vm.Alike.refl U.vm) zK, zD⟩, va_recv hKc hPc (ci := 7) (q0 := 0) rfl rfl, fun U hU hW => ⟨rfl, by rw [hU], va_P.he hU.symm hPc, va_K.moved hW.alike hKc, hDc.weaken (fun _ _ _ _ => trivial)⟩⟩ rfl rfl hl.1 rfl (lv_room (Nat.le_of_ble_eq_true rfl)) d_RE_readGlobals_71 ⟨(Nat.zero_le _), (Nat.zero_le _)⟩) hS (fun q _ h => hFc q h) hFc (fun r14 u t H1 locs ht hvm hw hB hz1 hk1 hS => ?_)
      obtain ⟨n15, rfl⟩ : ∃ z, z = u := ⟨_, rfl⟩
      try dsimp only at hw
      have xr14 := hw
      try clear hw
      have za71 := i32_clamp (x := n15) (by (first | (apply Int.le_antisymm <;> omega) | omega))
      have ea71 : j17_h0_at.toNatClampNeg + 3 = n15.toNatClampNeg := by (first | (apply Int.le_antisymm <;> omega) | omega)
      obtain ⟨hP1, hK1, hD1⟩ := hB
      replace hP1 := va_P.he ht hP1
      obtain ⟨hP, hD⟩ := va_join (wr := (wz_56 wgt cwgt f9 wft cwft j17_wft wfv cwfv j17_wfv wgc cwgc f13)) (w1 := (wz_46 h0 aw ac n15 h0_limit n12 h0_codeCount ob h0_openCount aw ab ac aw_typeCount wat wap wag aw_functionCount waf aw_hasMemory aw_pagesLeast aw_pagesMost x5 wgt wft wfv wgc aw_exportCount wek wei wes wez ab ax ab_length ax cax gax)) hP hD [4, 5, 6, 7] [0, 1, 2, 3] rfl rfl (by decide) (by decide) hk1 hFc hP1 hD1
      clear hPc hDc hKc hFc hz1 hk1 hP1 hK1 hD1
      rename Heap => H
      have hP : va_P (dC, dI) cls (wz_57 wgt cwgt f9 wft cwft j17_wft wfv cwfv j17_wfv wgc cwgc f13 h0 aw ac n15 h0_limit n12 h0_codeCount ob h0_openCount aw ab ac aw_typeCount wat wap wag aw_functionCount waf aw_hasMemory aw_pagesLeast aw_pagesMost x5 wgt wft wfv wgc aw_exportCount wek wei wes wez ab ax ab_length ax cax gax) H := hP
      have hD : va_D A (wz_57 wgt cwgt f9 wft cwft j17_wft wfv cwfv j17_wfv wgc cwgc f13 h0 aw ac n15 h0_limit n12 h0_codeCount ob h0_openCount aw ab ac aw_typeCount wat wap wag aw_functionCount waf aw_hasMemory aw_pagesLeast aw_pagesMost x5 wgt wft wfv wgc aw_exportCount wek wei wes wez ab ax ab_length ax cax gax) := hD
      refine lv_istore_n (lv' := [(2, .int r14), (0, .ref h0), (1, .int j17_l1)]) hx hb d_RE_readGlobals_74 rfl hl (by decide) rfl (fun ls hl => ?_)
      refine lv_aload_n hx hb d_RE_readGlobals_75 rfl (lv_at hl 1 rfl) ?_
      refine lv_aload_n hx hb d_RE_readGlobals_76 rfl (lv_at hl 1 rfl) ?_
      refine va_get (D := (dC, dI)) (ci := 7) (v := .int n12) (C := R_RE) (T := F_RE) (N := 8) hx hb hts i_RE hown hK hP 4 rfl rfl 4 (by decide) (hts _ kF_RE_45) (fun _ h9 => h9) rfl d_RE_readGlobals_77 ?_
      refine lv_if_eq (tgt := 99) hx hb d_RE_readGlobals_80 (by decide) (fun c80 => absurd (eqI c80) (by (first | (apply Int.le_antisymm <;> omega) | omega))) (fun c80 => ?_)
      have q80 := neI c80
      refine lv_iload_n hx hb d_RE_readGlobals_83 rfl (lv_at hl 0 rfl) ?_
      refine lv_bipush (v := 65) hx hb d_RE_readGlobals_84 (by decide) ?_
      refine w_cut (pc2 := 95) (σ := Unit) (fun u H locs ls => match u with | _ => va_P (dC, dI) cls (wz_57 wgt cwgt f9 wft cwft j17_wft wfv cwfv j17_wfv wgc cwgc f13 h0 aw ac n15 h0_limit n12 h0_codeCount ob h0_openCount aw ab ac aw_typeCount wat wap wag aw_functionCount waf aw_hasMemory aw_pagesLeast aw_pagesMost x5 wgt wft wfv wgc aw_exportCount wek wei wes wez ab ax ab_length ax cax gax) H ∧ va_D A (wz_57 wgt cwgt f9 wft cwft j17_wft wfv cwfv j17_wfv wgc cwgc f13 h0 aw ac n15 h0_limit n12 h0_codeCount ob h0_openCount aw ab ac aw_typeCount wat wap wag aw_functionCount waf aw_hasMemory aw_pagesLeast aw_pagesMost x5 wgt wft wfv wgc aw_exportCount wek wei wes wez ab ax ab_length ax cax gax) ∧ va_S A s.heap H locs ∧ lv_has ls 3 [(0, .ref h0), (1, .int j17_l1), (2, .int r14)]) (fun u => match u with | _ => [.ref h0]) ?_ (fun jn95 => ?_)
      · intro u H locs ls hI
        obtain ⟨hP, hD, hS, hl⟩ := hI
        refine lv_iconst (v := 1) hx hb d_RE_readGlobals_95 (by decide) ?_
        refine lv_goto (tgt := 100) hx hb d_RE_readGlobals_96 (by decide) ?_
        refine va_put (D := (dC, dI)) (ci := 7) (v := .int 1) (ty := .boolean) (C := R_RE) (T := F_RE) (N := 8) hx hb hts i_RE t_RE t_RE_ok n_RE hown hK hP hD hS 4 rfl rfl 4 (by decide) (hts _ kF_RE_45) (fun _ h9 => h9) rfl (by decide +kernel) rfl rfl (Nat.le_of_ble_eq_true rfl) d_RE_readGlobals_100 (fun H locs hP hD hS => ?_)
        refine lv_aload_n hx hb d_RE_readGlobals_103 rfl (lv_at hl 0 rfl) ?_
        refine va_get (D := (dC, dI)) (ci := 7) (v := .ref aw) (C := R_RE) (T := F_RE) (N := 8) hx hb hts i_RE hown hK hP 4 rfl rfl 0 (by decide) (hts _ kF_RE_15) (fun _ h9 => h9) rfl d_RE_readGlobals_104 ?_
        refine va_get (D := (dC, dI)) (ci := 10) (v := .ref wft) (C := R_WA) (T := F_WA) (N := 21) hx hb hts i_WA hown hK hP 5 rfl rfl 13 (by decide) (hts _ kF_RE_142) (fun _ h9 => h9) rfl d_RE_readGlobals_107 ?_
        refine lv_iload_n hx hb d_RE_readGlobals_110 rfl (lv_at hl 1 rfl) ?_
        refine lv_iload_n hx hb d_RE_readGlobals_111 rfl (lv_at hl 2 rfl) ?_
        refine lv_bipush (v := 65) hx hb d_RE_readGlobals_112 (by decide) ?_
        refine w_cut (pc2 := 124) (σ := Int32) (fun u H locs ls => match u with | j124_s0 => va_P (dC, dI) cls (wz_57 wgt cwgt f9 wft cwft j17_wft wfv cwfv j17_wfv wgc cwgc f13 h0 aw ac n15 h0_limit 1 h0_codeCount ob h0_openCount aw ab ac aw_typeCount wat wap wag aw_functionCount waf aw_hasMemory aw_pagesLeast aw_pagesMost x5 wgt wft wfv wgc aw_exportCount wek wei wes wez ab ax ab_length ax cax gax) H ∧ va_D A (wz_57 wgt cwgt f9 wft cwft j17_wft wfv cwfv j17_wfv wgc cwgc f13 h0 aw ac n15 h0_limit 1 h0_codeCount ob h0_openCount aw ab ac aw_typeCount wat wap wag aw_functionCount waf aw_hasMemory aw_pagesLeast aw_pagesMost x5 wgt wft wfv wgc aw_exportCount wek wei wes wez ab ax ab_length ax cax gax) ∧ va_S A s.heap H locs ∧ lv_has ls 3 [(0, .ref h0), (1, .int j17_l1), (2, .int r14)]) (fun u => match u with | j124_s0 => [.int j124_s0, .int j17_l1, .ref wft]) ?_ (fun jn124 => ?_)
        · intro u H locs ls hI
          obtain ⟨j124_s0, rfl⟩ : ∃ z, z = u := ⟨_, rfl⟩
          obtain ⟨hP, hD, hS, hl⟩ := hI
          have g124 : vp_in j17_l1 20 := vp_in_iff.mpr ⟨by (first | (apply Int.le_antisymm <;> omega) | omega), by (first | (apply Int.le_antisymm <;> omega) | omega)⟩
          refine va_iast hx hb hK hP hD hS 1 2 rfl rfl g124 d_RE_readGlobals_124 (fun H locs hP hD hS => ?_)
          generalize ef16 : upd j17_wft j17_l1.toNatClampNeg j124_s0 = f16 at hP hD
          refine lv_aload_n hx hb d_RE_readGlobals_125 rfl (lv_at hl 0 rfl) ?_
          refine va_get (D := (dC, dI)) (ci := 7) (v := .ref aw) (C := R_RE) (T := F_RE) (N := 8) hx hb hts i_RE hown hK hP 4 rfl rfl 0 (by decide) (hts _ kF_RE_15) (fun _ h9 => h9) rfl d_RE_readGlobals_126 ?_
          refine va_get (D := (dC, dI)) (ci := 10) (v := .ref wfv) (C := R_WA) (T := F_WA) (N := 21) hx hb hts i_WA hown hK hP 5 rfl rfl 14 (by decide) (hts _ kF_RE_145) (fun _ h9 => h9) rfl d_RE_readGlobals_129 ?_
          refine lv_iload_n hx hb d_RE_readGlobals_132 rfl (lv_at hl 1 rfl) ?_
          refine lv_aload_n hx hb d_RE_readGlobals_133 rfl (lv_at hl 0 rfl) ?_
          refine lv_iload_n hx hb d_RE_readGlobals_134 rfl (lv_at hl 2 rfl) ?_
          refine lv_bipush (v := 65) hx hb d_RE_readGlobals_135 (by decide) ?_
          refine w_cut (pc2 := 147) (σ := Int32) (fun u H locs ls => match u with | j147_s0 => ((j147_s0.toInt = 32 ∧ xg9.1 = 127) ∨ (j147_s0.toInt = 64 ∧ xg9.1 ≠ 127)) ∧ va_P (dC, dI) cls (wz_57 wgt cwgt f9 wft cwft f16 wfv cwfv j17_wfv wgc cwgc f13 h0 aw ac n15 h0_limit 1 h0_codeCount ob h0_openCount aw ab ac aw_typeCount wat wap wag aw_functionCount waf aw_hasMemory aw_pagesLeast aw_pagesMost x5 wgt wft wfv wgc aw_exportCount wek wei wes wez ab ax ab_length ax cax gax) H ∧ va_D A (wz_57 wgt cwgt f9 wft cwft f16 wfv cwfv j17_wfv wgc cwgc f13 h0 aw ac n15 h0_limit 1 h0_codeCount ob h0_openCount aw ab ac aw_typeCount wat wap wag aw_functionCount waf aw_hasMemory aw_pagesLeast aw_pagesMost x5 wgt wft wfv wgc aw_exportCount wek wei wes wez ab ax ab_length ax cax gax) ∧ va_S A s.heap H locs ∧ lv_has ls 3 [(0, .ref h0), (1, .int j17_l1)]) (fun u => match u with | j147_s0 => [.int j147_s0, .ref h0, .int j17_l1, .ref wfv]) ?_ (fun jn147 => ?_)
          · intro u H locs ls hI
            obtain ⟨j147_s0, rfl⟩ : ∃ z, z = u := ⟨_, rfl⟩
            obtain ⟨y147, hP, hD, hS, hl⟩ := hI
            have hPc := hP.sb (wq := (wz_46 h0 aw ac n15 h0_limit 1 h0_codeCount ob h0_openCount aw ab ac aw_typeCount wat wap wag aw_functionCount waf aw_hasMemory aw_pagesLeast aw_pagesMost x5 wgt wft wfv wgc aw_exportCount wek wei wes wez ab ax ab_length ax cax gax)) [4, 5, 6, 7] rfl
            have hDc := hD.sb (wq := (wz_46 h0 aw ac n15 h0_limit 1 h0_codeCount ob h0_openCount aw ab ac aw_typeCount wat wap wag aw_functionCount waf aw_hasMemory aw_pagesLeast aw_pagesMost x5 wgt wft wfv wgc aw_exportCount wek wei wes wez ab ax ab_length ax cax gax)) [4, 5, 6, 7] (by decide) rfl
            have hKc := hK.sb (tyq := [(cax, .byte)]) [0] rfl
            have hFc := va_free (wc := (wz_46 h0 aw ac n15 h0_limit 1 h0_codeCount ob h0_openCount aw ab ac aw_typeCount wat wap wag aw_functionCount waf aw_hasMemory aw_pagesLeast aw_pagesMost x5 wgt wft wfv wgc aw_exportCount wek wei wes wez ab ax ab_length ax cax gax)) hD hS hA [4, 5, 6, 7] rfl
            refine va_calll (va_runV (As := [.int j147_s0]) (rest := [.int j17_l1, .ref wfv]) ⟨hx, hb, hml, hown, hts⟩ (c_RE_readSignedx l dC dI H.size h0 aw ac ob ab wat wap wag waf wgt wft wfv wgc wek wei wes wez ax cax n15 h0_limit 1 h0_codeCount h0_openCount aw_typeCount aw_functionCount aw_hasMemory aw_pagesLeast aw_pagesMost x5 aw_exportCount ab_length gax xg9.2 (Or.inr rfl) j147_s0 (by (first | (apply Int.le_antisymm <;> omega) | omega)) (by (first | (apply Int.le_antisymm <;> omega) | omega)) (by (first | (apply Int.le_antisymm <;> omega) | omega)) ((bq_at m6.out (by (first | (apply Int.le_antisymm <;> omega) | omega)))) (by (first | (apply Int.le_antisymm <;> omega) | omega))) (cwV 1 hts (gV kM_RE_149 kV_RE_readSigned kS_RE_readSigned kI_RE kC_RE_readSigned) rfl rfl rfl (by decide +kernel) ⟨Nat.le_of_ble_eq_true rfl, Nat.le_of_ble_eq_true rfl⟩) ⟨fun a U g mk z => by obtain ⟨z0, z1, zP, zK, zD⟩ := z; exact ⟨z0, z1, zP, va_K.moved (u := U) (U := U.calling g mk a) (Vm.Alike.refl U.vm) zK, zD⟩, va_recv hKc hPc (ci := 7) (q0 := 0) rfl rfl, fun U hU hW => ⟨rfl, by rw [hU], va_P.he hU.symm hPc, va_K.moved hW.alike hKc, hDc.weaken (fun _ _ _ _ => trivial)⟩⟩ rfl rfl hl.1 rfl (lv_room (Nat.le_of_ble_eq_true rfl)) d_RE_readGlobals_147 ⟨(Nat.zero_le _), (Nat.zero_le _)⟩) hS (fun q _ h => hFc q h) hFc (fun r17 u t H1 locs ht hvm hw hB hz1 hk1 hS => ?_)
            obtain ⟨n18, n19⟩ := u
            try dsimp only at hw
            obtain ⟨bn19, xr17⟩ := hw
            try clear hw
            have tn19 := b01 bn19
            have za147 := i32_clamp (x := n18) (by (first | (apply Int.le_antisymm <;> omega) | omega))
            have m9 : bn (gax n18.toNatClampNeg) = 11 := by rw [show n18.toNatClampNeg = j17_h0_at.toNatClampNeg + 1 + 1 + 1 + (sleb 10 xg9.2).length from by (first | (apply Int.le_antisymm <;> omega) | omega)]; exact m7
            obtain ⟨hP1, hK1, hD1⟩ := hB
            replace hP1 := va_P.he ht hP1
            obtain ⟨hP, hD⟩ := va_join (wr := (wz_56 wgt cwgt f9 wft cwft f16 wfv cwfv j17_wfv wgc cwgc f13)) (w1 := (wz_46 h0 aw ac n18 h0_limit n19 h0_codeCount ob h0_openCount aw ab ac aw_typeCount wat wap wag aw_functionCount waf aw_hasMemory aw_pagesLeast aw_pagesMost x5 wgt wft wfv wgc aw_exportCount wek wei wes wez ab ax ab_length ax cax gax)) hP hD [4, 5, 6, 7] [0, 1, 2, 3] rfl rfl (by decide) (by decide) hk1 hFc hP1 hD1
            clear hPc hDc hKc hFc hz1 hk1 hP1 hK1 hD1
            rename Heap => H
            have hP : va_P (dC, dI) cls (wz_57 wgt cwgt f9 wft cwft f16 wfv cwfv j17_wfv wgc cwgc f13 h0 aw ac n18 h0_limit n19 h0_codeCount ob h0_openCount aw ab ac aw_typeCount wat wap wag aw_functionCount waf aw_hasMemory aw_pagesLeast aw_pagesMost x5 wgt wft wfv wgc aw_exportCount wek wei wes wez ab ax ab_length ax cax gax) H := hP
            have hD : va_D A (wz_57 wgt cwgt f9 wft cwft f16 wfv cwfv j17_wfv wgc cwgc f13 h0 aw ac n18 h0_limit n19 h0_codeCount ob h0_openCount aw ab ac aw_typeCount wat wap wag aw_functionCount waf aw_hasMemory aw_pagesLeast aw_pagesMost x5 wgt wft wfv wgc aw_exportCount wek wei wes wez ab ax ab_length ax cax gax) := hD
            have g150 : vp_in j17_l1 20 := vp_in_iff.mpr ⟨by (first | (apply Int.le_antisymm <;> omega) | omega), by (first | (apply Int.le_antisymm <;> omega) | omega)⟩
            refine va_last hx hb hK hP hD hS 2 3 rfl rfl g150 d_RE_readGlobals_150 (fun H locs hP hD hS => ?_)
            generalize ef20 : vp_updL j17_wfv j17_l1.toNatClampNeg r17 = f20 at hP hD
            refine lv_aload_n hx hb d_RE_readGlobals_151 rfl (lv_at hl 0 rfl) ?_
            refine lv_bipush (v := 11) hx hb d_RE_readGlobals_152 (by decide) ?_
            have hPc := hP.sb (wq := (wz_46 h0 aw ac n18 h0_limit n19 h0_codeCount ob h0_openCount aw ab ac aw_typeCount wat wap wag aw_functionCount waf aw_hasMemory aw_pagesLeast aw_pagesMost x5 wgt wft wfv wgc aw_exportCount wek wei wes wez ab ax ab_length ax cax gax)) [4, 5, 6, 7] rfl
            have hDc := hD.sb (wq := (wz_46 h0 aw ac n18 h0_limit n19 h0_codeCount ob h0_openCount aw ab ac aw_typeCount wat wap wag aw_functionCount waf aw_hasMemory aw_pagesLeast aw_pagesMost x5 wgt wft wfv wgc aw_exportCount wek wei wes wez ab ax ab_length ax cax gax)) [4, 5, 6, 7] (by decide) rfl
            have hKc := hK.sb (tyq := [(cax, .byte)]) [0] rfl
            have hFc := va_free (wc := (wz_46 h0 aw ac n18 h0_limit n19 h0_codeCount ob h0_openCount aw ab ac aw_typeCount wat wap wag aw_functionCount waf aw_hasMemory aw_pagesLeast aw_pagesMost x5 wgt wft wfv wgc aw_exportCount wek wei wes wez ab ax ab_length ax cax gax)) hD hS hA [4, 5, 6, 7] rfl
            refine va_callv (va_runV (As := [.int 11]) (rest := []) ⟨hx, hb, hml, hown, hts⟩ (c_RE_expectx l dC dI H.size h0 aw ac ob ab wat wap wag waf wgt wft wfv wgc wek wei wes wez ax cax n18 h0_limit n19 h0_codeCount h0_openCount aw_typeCount aw_functionCount aw_hasMemory aw_pagesLeast aw_pagesMost x5 aw_exportCount ab_length gax (bn19) 11 (by (first | (apply Int.le_antisymm <;> omega) | omega)) (by (first | (apply Int.le_antisymm <;> omega) | omega)) (by (first | (apply Int.le_antisymm <;> omega) | omega)) (by (try dsimp only) <;> (first | (apply Int.le_antisymm <;> omega) | omega))) (cwV 1 hts (gV kM_RE_56 kV_RE_expect kS_RE_expect kI_RE kC_RE_expect) rfl rfl rfl (by decide +kernel) ⟨Nat.le_of_ble_eq_true rfl, Nat.le_of_ble_eq_true rfl⟩) ⟨fun a U g mk z => by obtain ⟨z0, z1, zP, zK, zD⟩ := z; exact ⟨z0, z1, zP, va_K.moved (u := U) (U := U.calling g mk a) (Vm.Alike.refl U.vm) zK, zD⟩, va_recv hKc hPc (ci := 7) (q0 := 0) rfl rfl, fun U hU hW => ⟨rfl, by rw [hU], va_P.he hU.symm hPc, va_K.moved hW.alike hKc, hDc.weaken (fun _ _ _ _ => trivial)⟩⟩ rfl rfl hl.1 rfl (lv_room (Nat.le_of_ble_eq_true rfl)) d_RE_readGlobals_154 ⟨(Nat.zero_le _), (Nat.zero_le _)⟩) hS (fun q _ h => hFc q h) hFc (fun u t H1 locs ht hvm hw hB hz1 hk1 hS => ?_)
            obtain ⟨n22, n23⟩ := u
            try dsimp only at hw
            obtain ⟨bn23, xr21⟩ := hw
            try clear hw
            have tn23 := b01 bn23
            obtain ⟨hP1, hK1, hD1⟩ := hB
            replace hP1 := va_P.he ht hP1
            obtain ⟨hP, hD⟩ := va_join (wr := (wz_56 wgt cwgt f9 wft cwft f16 wfv cwfv f20 wgc cwgc f13)) (w1 := (wz_46 h0 aw ac n22 h0_limit n23 h0_codeCount ob h0_openCount aw ab ac aw_typeCount wat wap wag aw_functionCount waf aw_hasMemory aw_pagesLeast aw_pagesMost x5 wgt wft wfv wgc aw_exportCount wek wei wes wez ab ax ab_length ax cax gax)) hP hD [4, 5, 6, 7] [0, 1, 2, 3] rfl rfl (by decide) (by decide) hk1 hFc hP1 hD1
            clear hPc hDc hKc hFc hz1 hk1 hP1 hK1 hD1
            rename Heap => H
            have hP : va_P (dC, dI) cls (wz_57 wgt cwgt f9 wft cwft f16 wfv cwfv f20 wgc cwgc f13 h0 aw ac n22 h0_limit n23 h0_codeCount ob h0_openCount aw ab ac aw_typeCount wat wap wag aw_functionCount waf aw_hasMemory aw_pagesLeast aw_pagesMost x5 wgt wft wfv wgc aw_exportCount wek wei wes wez ab ax ab_length ax cax gax) H := hP
            have hD : va_D A (wz_57 wgt cwgt f9 wft cwft f16 wfv cwfv f20 wgc cwgc f13 h0 aw ac n22 h0_limit n23 h0_codeCount ob h0_openCount aw ab ac aw_typeCount wat wap wag aw_functionCount waf aw_hasMemory aw_pagesLeast aw_pagesMost x5 wgt wft wfv wgc aw_exportCount wek wei wes wez ab ax ab_length ax cax gax) := hD
            obtain ⟨x24, ex24⟩ : ∃ z : Int32, z = j17_l1 + 1 := ⟨_, rfl⟩
            have tx24 : x24.toInt = j17_l1.toInt + 1 := by have z := i32_add ex24 (by (first | (apply Int.le_antisymm <;> omega) | omega)) (by (first | (apply Int.le_antisymm <;> omega) | omega)); first | exact z | (first | (apply Int.le_antisymm <;> omega) | omega)
            refine lv_iinc (v := x24) (lv' := [(1, .int x24), (0, .ref h0)]) hx hb d_RE_readGlobals_157 hl (k := 1) rfl (by rw [ex24]; rfl) (by decide) rfl (fun ls hl => ?_)
            refine lv_goto (tgt := 17) hx hb d_RE_readGlobals_160 (by decide) ?_
            exact ih17 (x24, f16, f20, f13, f9, n22, n23) _ _ _ (by show (x5.toInt - x24.toInt).toNat < N17; (first | (apply Int.le_antisymm <;> omega) | omega)) ⟨by (try dsimp only) <;> (first | (apply Int.le_antisymm <;> omega) | omega), bn23, (by rw [show x24.toNatClampNeg = j17_l1.toNatClampNeg + 1 from clampN (by (first | (apply Int.le_antisymm <;> omega) | omega))]; (try dsimp only) <;> (first | (apply Int.le_antisymm <;> omega) | omega)), (by rw [show x24.toNatClampNeg = j17_l1.toNatClampNeg + 1 from clampN (by (first | (apply Int.le_antisymm <;> omega) | omega))]; exact bq_at m8.out (by have := i32_clamp (x := n22) (by (first | (apply Int.le_antisymm <;> omega) | omega)); (first | (apply Int.le_antisymm <;> omega) | omega))), fun t z => by rw [← ef9]; by_cases q : t = j17_l1.toNatClampNeg; (subst q; rw [pk_us]; (first | (apply Int.le_antisymm <;> omega) | omega)); (rw [pk_un q]; exact v3 t (by (first | (apply Int.le_antisymm <;> omega) | omega))), hP, hD, hS, lv_sub hl [1, 0] rfl⟩
          · skip
            refine lv_icmp_ne (tgt := 145) hx hb d_RE_readGlobals_137 (by decide) (fun c137 => ?_) (fun c137 => ?_)
            · have q137 := neI c137
              refine lv_bipush (v := 64) hx hb d_RE_readGlobals_145 (by decide) ?_
              exact jn147 64 _ _ _ ⟨by (try dsimp only) <;> (first | (apply Int.le_antisymm <;> omega) | omega), hP, hD, hS, lv_sub hl [0, 1] rfl⟩
            · have q137 := eqI c137
              refine lv_bipush (v := 32) hx hb d_RE_readGlobals_140 (by decide) ?_
              refine lv_goto (tgt := 147) hx hb d_RE_readGlobals_142 (by decide) ?_
              exact jn147 32 _ _ _ ⟨by (try dsimp only) <;> (first | (apply Int.le_antisymm <;> omega) | omega), hP, hD, hS, lv_sub hl [0, 1] rfl⟩
        · skip
          refine lv_icmp_ne (tgt := 122) hx hb d_RE_readGlobals_114 (by decide) (fun c114 => ?_) (fun c114 => ?_)
          · have q114 := neI c114
            refine lv_bipush (v := 126) hx hb d_RE_readGlobals_122 (by decide) ?_
            exact jn124 126 _ _ _ ⟨hP, hD, hS, lv_sub hl [0, 1, 2] rfl⟩
          · have q114 := eqI c114
            refine lv_bipush (v := 127) hx hb d_RE_readGlobals_117 (by decide) ?_
            refine lv_goto (tgt := 124) hx hb d_RE_readGlobals_119 (by decide) ?_
            exact jn124 127 _ _ _ ⟨hP, hD, hS, lv_sub hl [0, 1, 2] rfl⟩
      · skip
        refine lv_icmp_eq (tgt := 95) hx hb d_RE_readGlobals_86 (by decide) (fun c86 => ?_) (fun c86 => ?_)
        · have q86 := eqI c86
          exact jn95 () _ _ _ ⟨hP, hD, hS, lv_sub hl [1, 2, 0] rfl⟩
        · have q86 := neI c86
          refine lv_iload_n hx hb d_RE_readGlobals_89 rfl (lv_at hl 0 rfl) ?_
          refine lv_bipush (v := 66) hx hb d_RE_readGlobals_90 (by decide) ?_
          refine lv_icmp_ne (tgt := 99) hx hb d_RE_readGlobals_92 (by decide) (fun c92 => absurd (neI c92) (by (first | (apply Int.le_antisymm <;> omega) | omega))) (fun c92 => ?_)
          have q92 := eqI c92
          exact jn95 () _ _ _ ⟨hP, hD, hS, lv_sub hl [1, 2, 0] rfl⟩
    · skip
      refine lv_icmp_ne (tgt := 68) hx hb d_RE_readGlobals_61 (by decide) (fun c61 => ?_) (fun c61 => ?_)
      · have q61 := neI c61
        refine lv_iconst (v := 0) hx hb d_RE_readGlobals_68 (by decide) ?_
        exact jn69 0 _ _ _ ⟨Or.inl rfl, hP, hD, hS, lv_sub hl [0, 1] rfl⟩
      · have q61 := eqI c61
        refine lv_iconst (v := 1) hx hb d_RE_readGlobals_64 (by decide) ?_
        refine lv_goto (tgt := 69) hx hb d_RE_readGlobals_65 (by decide) ?_
        exact jn69 1 _ _ _ ⟨Or.inr rfl, hP, hD, hS, lv_sub hl [0, 1] rfl⟩
end q_93
section q_94
/-! Reader: exports as they were put -/
abbrev at_RE_readExportsx (dC : Nat → ClassId) (dI : Nat → Nat → Nat) (h0 aw ac ob ab wat wap wag waf wgt wft wfv wgc wek wei wes wez ax : Nat) (cax cwek cwei cwes cwez : ClassId) (h0_limit : Int32) (h0_codeCount : Int32) (h0_openCount : Int32) (aw_typeCount : Int32) (aw_functionCount : Int32) (aw_hasMemory : Int32) (aw_pagesLeast : Int64) (aw_pagesMost : Int64) (aw_globalCount : Int32) (ab_length : Int32) (gax : Nat → Int32) (A : Nat → Prop) (u : (Nat → Int32) × (Nat → Int32) × (Nat → Int32) × (Nat → Int32) × Int32 × Int32 × Int32) (t : State) : Prop := match u with | (gwei, gwek, gwes, gwez, aw_exportCount, h0_at, h0_sound) => va_P (dC, dI) cls (wz_58 h0 aw ac h0_at h0_limit h0_sound h0_codeCount ob h0_openCount aw ab ac aw_typeCount wat wap wag aw_functionCount waf aw_hasMemory aw_pagesLeast aw_pagesMost aw_globalCount wgt wft wfv wgc aw_exportCount wek wei wes wez ab ax ab_length ax cax gax wek cwek gwek wei cwei gwei wes cwes gwes wez cwez gwez) t.heap ∧ va_K (dC, dI) cls [(cax, .byte), (cwek, .int), (cwei, .int), (cwes, .int), (cwez, .int)] t ∧ va_D A (wz_58 h0 aw ac h0_at h0_limit h0_sound h0_codeCount ob h0_openCount aw ab ac aw_typeCount wat wap wag aw_functionCount waf aw_hasMemory aw_pagesLeast aw_pagesMost aw_globalCount wgt wft wfv wgc aw_exportCount wek wei wes wez ab ax ab_length ax cax gax wek cwek gwek wei cwei gwei wes cwes gwes wez cwez gwez)
set_option maxHeartbeats 4000000 in
set_option maxRecDepth 100000 in
theorem c_RE_readExportsx (l : Launch) (dC : Nat → ClassId) (dI : Nat → Nat → Nat) (sz : Nat) (h0 aw ac ob ab wat wap wag waf wgt wft wfv wgc wek wei wes wez ax : Nat) (cax cwek cwei cwes cwez : ClassId) (h0_at : Int32) (h0_limit : Int32) (h0_sound : Int32) (h0_codeCount : Int32) (h0_openCount : Int32) (aw_typeCount : Int32) (aw_functionCount : Int32) (aw_hasMemory : Int32) (aw_pagesLeast : Int64) (aw_pagesMost : Int64) (aw_globalCount : Int32) (aw_exportCount : Int32) (ab_length : Int32) (gax : Nat → Int32) (gwek : Nat → Int32) (gwei : Nat → Int32) (gwes : Nat → Int32) (gwez : Nat → Int32) (gX : List (List Nat × Nat × Nat))  (b_h0_sound : h0_sound = 0 ∨ h0_sound = 1) (b_aw_exportCount : 0 ≤ aw_exportCount.toInt ∧ aw_exportCount.toInt ≤ 40)   (hs : h0_sound.toInt = 1) (ha : 0 ≤ h0_at.toInt ∧ h0_limit.toInt ≤ ab_length.toInt ∧ ab_length.toInt ≤ 8192) (hXl : gX.length ≤ 40) (hxk : bx (∀ x ∈ gX, eok x)) (hbq : bx (bq gax h0_at.toNatClampNeg (gX.length :: exb gX))) (hlm : h0_at.toInt + 1 + ((exb gX).length : Int) ≤ h0_limit.toInt) : Met l y_RE_readExports w_RE_readExports ({ frames := 2, cells := 0, slots := 0, locals := 46 }) (va_Pc [.ref h0] (fun U => U.heap.size = sz ∧ va_P (dC, dI) cls (wz_58 h0 aw ac h0_at h0_limit h0_sound h0_codeCount ob h0_openCount aw ab ac aw_typeCount wat wap wag aw_functionCount waf aw_hasMemory aw_pagesLeast aw_pagesMost aw_globalCount wgt wft wfv wgc aw_exportCount wek wei wes wez ab ax ab_length ax cax gax wek cwek gwek wei cwei gwei wes cwes gwes wez cwez gwez) U.heap ∧ va_K (dC, dI) cls [(cax, .byte), (cwek, .int), (cwei, .int), (cwes, .int), (cwez, .int)] U ∧ va_D (fun _ => True) (wz_58 h0 aw ac h0_at h0_limit h0_sound h0_codeCount ob h0_openCount aw ab ac aw_typeCount wat wap wag aw_functionCount waf aw_hasMemory aw_pagesLeast aw_pagesMost aw_globalCount wgt wft wfv wgc aw_exportCount wek wei wes wez ab ax ab_length ax cax gax wek cwek gwek wei cwei gwei wes cwes gwes wez cwez gwez))) (va_Qv (fun (u : (Nat → Int32) × (Nat → Int32) × (Nat → Int32) × (Nat → Int32) × Int32 × Int32 × Int32) => match u with | (gwei2, gwek2, gwes2, gwez2, aw_exportCount2, h0_at2, h0_sound2) => (0 ≤ aw_exportCount2.toInt ∧ aw_exportCount2.toInt ≤ 40) ∧ (h0_sound2 = 0 ∨ h0_sound2 = 1) ∧ (h0_at2.toInt = h0_at.toInt + 1 + ((exb gX).length : Int) ∧ h0_sound2.toInt = 1 ∧ aw_exportCount2.toInt = (gX.length : Int) ∧ (∀ g : Nat, (g : Int) < (gX.length : Int) → 0 ≤ (gwez2 g).toInt))) (at_RE_readExportsx dC dI h0 aw ac ob ab wat wap wag waf wgt wft wfv wgc wek wei wes wez ax cax cwek cwei cwes cwez h0_limit h0_codeCount h0_openCount aw_typeCount aw_functionCount aw_hasMemory aw_pagesLeast aw_pagesMost aw_globalCount ab_length gax (va_A (wz_58 h0 aw ac h0_at h0_limit h0_sound h0_codeCount ob h0_openCount aw ab ac aw_typeCount wat wap wag aw_functionCount waf aw_hasMemory aw_pagesLeast aw_pagesMost aw_globalCount wgt wft wfv wgc aw_exportCount wek wei wes wez ab ax ab_length ax cax gax wek cwek gwek wei cwei gwei wes cwes gwes wez cwez gwez) sz)) (va_A (wz_58 h0 aw ac h0_at h0_limit h0_sound h0_codeCount ob h0_openCount aw ab ac aw_typeCount wat wap wag aw_functionCount waf aw_hasMemory aw_pagesLeast aw_pagesMost aw_globalCount wgt wft wfv wgc aw_exportCount wek wei wes wez ab ax ab_length ax cax gax wek cwek gwek wei cwei gwei wes cwes gwes wez cwez gwez) sz)) 0 0 (va_A (wz_58 h0 aw ac h0_at h0_limit h0_sound h0_codeCount ob h0_openCount aw ab ac aw_typeCount wat wap wag aw_functionCount waf aw_hasMemory aw_pagesLeast aw_pagesMost aw_globalCount wgt wft wfv wgc aw_exportCount wek wei wes wez ab ax ab_length ax cax gax wek cwek gwek wei cwei gwei wes cwes gwes wez cwez gwez) sz) := by
  refine Met.ofW (cc := b_RE_readExports) (maxL := 4) (ret := none) (by decide) rfl ?_
  intro p e s m args below meth c s₁ B hml hv
  obtain ⟨rfl, hsz, hP, hK, hD0⟩ := hv
  have hx := B.exec
  have hb := B.bytes
  have hr := B.returns
  have hts0 := atoms_spec (ws := w_RE_readExports) B.pre
  have hts : ∀ w ∈ lw_g, w.before _ s = true := fun w h => hts0 w (List.mem_cons_of_mem _ h)
  have hown : s.vm.findClass R_RE = some m.cls := findClass_of_methodNamed B.named
  have hlocks := B.notSynchronized
  clear hts0
  subst hsz
  have hD := hD0.self (sz := s.heap.size)
  generalize hAe : va_A (wz_58 h0 aw ac h0_at h0_limit h0_sound h0_codeCount ob h0_openCount aw ab ac aw_typeCount wat wap wag aw_functionCount waf aw_hasMemory aw_pagesLeast aw_pagesMost aw_globalCount wgt wft wfv wgc aw_exportCount wek wei wes wez ab ax ab_length ax cax gax wek cwek gwek wei cwei gwei wes cwes gwes wez cwez gwez) s.heap.size = A at hD ⊢
  have hA : ∀ q : Nat, s.heap.size ≤ q → A q := fun q h => by rw [← hAe]; exact Or.inr h
  clear hAe
  have hP : va_P (dC, dI) cls (wz_58 h0 aw ac h0_at h0_limit h0_sound h0_codeCount ob h0_openCount aw ab ac aw_typeCount wat wap wag aw_functionCount waf aw_hasMemory aw_pagesLeast aw_pagesMost aw_globalCount wgt wft wfv wgc aw_exportCount wek wei wes wez ab ax ab_length ax cax gax wek cwek gwek wei cwei gwei wes cwes gwes wez cwez gwez) s.heap := hP
  have hl := lv_entry ([.ref h0]) (n := 4) (Nat.le_of_ble_eq_true rfl)
  rw [lg_entry_eq]
  generalize (lg_sl ([.ref h0]) ++ List.replicate (4 - (lg_sl ([.ref h0])).length) Slot.unset).toArray = ls at hl ⊢
  have hl : lv_has ls 4 [(0, .ref h0)] := hl
  have k0 : (0 : Int32).toInt = 0 := by decide
  refine w_gen (A := A) hP (fun H locs hP hS => ?_)
  have k1 : (1 : Int32).toInt = 1 := by decide
  have k2 : (2 : Int32).toInt = 2 := by decide
  have k3 : (3 : Int32).toInt = 3 := by decide
  have th0_sound := b01 b_h0_sound
  have za0 := i32_clamp (x := h0_at) (by (first | (apply Int.le_antisymm <;> omega) | omega))
  have lb0 : (leb 5 gX.length).length = 1 := by rw [leb_1 (by (first | (apply Int.le_antisymm <;> omega) | omega))]; rfl
  refine lv_aload_n hx hb d_RE_readExports_0 rfl (lv_at hl 0 rfl) ?_
  refine va_get (D := (dC, dI)) (ci := 7) (v := .ref aw) (C := R_RE) (T := F_RE) (N := 8) hx hb hts i_RE hown hK hP 0 rfl rfl 0 (by decide) (hts _ kF_RE_15) (fun _ h9 => h9) rfl d_RE_readExports_1 ?_
  refine lv_aload_n hx hb d_RE_readExports_4 rfl (lv_at hl 0 rfl) ?_
  refine lv_ldc2 hx hb hown (hts _ kL_RE_153) d_RE_readExports_5 ?_
  refine lv_topl (fun x1 ex1 => ?_)
  have tx1 : x1.toInt = 40 := by rw [ex1]; decide
  have hPc := hP.sb (wq := (wz_46 h0 aw ac h0_at h0_limit h0_sound h0_codeCount ob h0_openCount aw ab ac aw_typeCount wat wap wag aw_functionCount waf aw_hasMemory aw_pagesLeast aw_pagesMost aw_globalCount wgt wft wfv wgc aw_exportCount wek wei wes wez ab ax ab_length ax cax gax)) [0, 1, 2, 3] rfl
  have hDc := hD.sb (wq := (wz_46 h0 aw ac h0_at h0_limit h0_sound h0_codeCount ob h0_openCount aw ab ac aw_typeCount wat wap wag aw_functionCount waf aw_hasMemory aw_pagesLeast aw_pagesMost aw_globalCount wgt wft wfv wgc aw_exportCount wek wei wes wez ab ax ab_length ax cax gax)) [0, 1, 2, 3] (by decide) rfl
  have hKc := hK.sb (tyq := [(cax, .byte)]) [0] rfl
  have hFc := va_free (wc := (wz_46 h0 aw ac h0_at h0_limit h0_sound h0_codeCount ob h0_openCount aw ab ac aw_typeCount wat wap wag aw_functionCount waf aw_hasMemory aw_pagesLeast aw_pagesMost aw_globalCount wgt wft wfv wgc aw_exportCount wek wei wes wez ab ax ab_length ax cax gax)) hD hS hA [0, 1, 2, 3] rfl
  refine va_calll (va_runV (As := [.long x1]) (rest := [.ref aw]) ⟨hx, hb, hml, hown, hts⟩ (c_RE_readUnsignedx l dC dI H.size h0 aw ac ob ab wat wap wag waf wgt wft wfv wgc wek wei wes wez ax cax h0_at h0_limit h0_sound h0_codeCount h0_openCount aw_typeCount aw_functionCount aw_hasMemory aw_pagesLeast aw_pagesMost aw_globalCount aw_exportCount ab_length gax gX.length (b_h0_sound) x1 (by (first | (apply Int.le_antisymm <;> omega) | omega)) (by (first | (apply Int.le_antisymm <;> omega) | omega)) (by (first | (apply Int.le_antisymm <;> omega) | omega)) ((by rw [leb_1 (by (first | (apply Int.le_antisymm <;> omega) | omega))]; exact ⟨hbq.out.1, trivial⟩)) (by (first | (apply Int.le_antisymm <;> omega) | omega))) (cwV 1 hts (gV kM_RE_64 kV_RE_readUnsigned kS_RE_readUnsigned kI_RE kC_RE_readUnsigned) rfl rfl rfl (by decide +kernel) ⟨Nat.le_of_ble_eq_true rfl, Nat.le_of_ble_eq_true rfl⟩) ⟨fun a U g mk z => by obtain ⟨z0, z1, zP, zK, zD⟩ := z; exact ⟨z0, z1, zP, va_K.moved (u := U) (U := U.calling g mk a) (Vm.Alike.refl U.vm) zK, zD⟩, va_recv hKc hPc (ci := 7) (q0 := 0) rfl rfl, fun U hU hW => ⟨rfl, by rw [hU], va_P.he hU.symm hPc, va_K.moved hW.alike hKc, hDc.weaken (fun _ _ _ _ => trivial)⟩⟩ rfl rfl hl.1 rfl (lv_room (Nat.le_of_ble_eq_true rfl)) d_RE_readExports_8 ⟨(Nat.zero_le _), (Nat.zero_le _)⟩) hS (fun q _ h => hFc q h) hFc (fun r2 u t H1 locs ht hvm hw hB hz1 hk1 hS => ?_)
  obtain ⟨n3, n4⟩ := u
  try dsimp only at hw
  obtain ⟨bn4, xr2⟩ := hw
  try clear hw
  have tn4 := b01 bn4
  have za8 := i32_clamp (x := n3) (by (first | (apply Int.le_antisymm <;> omega) | omega))
  obtain ⟨hP1, hK1, hD1⟩ := hB
  replace hP1 := va_P.he ht hP1
  obtain ⟨hP, hD⟩ := va_join (wr := (wz_59 wek cwek gwek wei cwei gwei wes cwes gwes wez cwez gwez)) (w1 := (wz_46 h0 aw ac n3 h0_limit n4 h0_codeCount ob h0_openCount aw ab ac aw_typeCount wat wap wag aw_functionCount waf aw_hasMemory aw_pagesLeast aw_pagesMost aw_globalCount wgt wft wfv wgc aw_exportCount wek wei wes wez ab ax ab_length ax cax gax)) hP hD [0, 1, 2, 3] [4, 5, 6, 7] rfl rfl (by decide) (by decide) hk1 hFc hP1 hD1
  clear hPc hDc hKc hFc hz1 hk1 hP1 hK1 hD1
  rename Heap => H
  have hP : va_P (dC, dI) cls (wz_60 wek cwek gwek wei cwei gwei wes cwes gwes wez cwez gwez h0 aw ac n3 h0_limit n4 h0_codeCount ob h0_openCount aw ab ac aw_typeCount wat wap wag aw_functionCount waf aw_hasMemory aw_pagesLeast aw_pagesMost aw_globalCount wgt wft wfv wgc aw_exportCount wek wei wes wez ab ax ab_length ax cax gax) H := hP
  have hD : va_D A (wz_60 wek cwek gwek wei cwei gwei wes cwes gwes wez cwez gwez h0 aw ac n3 h0_limit n4 h0_codeCount ob h0_openCount aw ab ac aw_typeCount wat wap wag aw_functionCount waf aw_hasMemory aw_pagesLeast aw_pagesMost aw_globalCount wgt wft wfv wgc aw_exportCount wek wei wes wez ab ax ab_length ax cax gax) := hD
  refine lv_l2i hx hb d_RE_readExports_11 rfl ?_
  refine lv_topi (fun x5 ex5 => ?_)
  have tx5 := l2i_t ex5 (by (first | (apply Int.le_antisymm <;> omega) | omega)) (by (first | (apply Int.le_antisymm <;> omega) | omega))
  refine va_put (D := (dC, dI)) (ci := 10) (v := .int x5) (ty := .int) (C := R_WA) (T := F_WA) (N := 21) hx hb hts i_WA t_WA t_WA_ok n_WA hown hK hP hD hS 5 rfl rfl 16 (by decide) (hts _ kF_RE_155) (fun _ h9 => h9) rfl (by decide +kernel) rfl rfl (Nat.le_of_ble_eq_true rfl) d_RE_readExports_12 (fun H locs hP hD hS => ?_)
  refine lv_iconst (v := 0) hx hb d_RE_readExports_15 (by decide) ?_
  refine lv_istore_n (lv' := [(1, .int 0), (0, .ref h0)]) hx hb d_RE_readExports_16 rfl hl (by decide) rfl (fun ls hl => ?_)
  refine w_loop (σ := Int32 × (Nat → Int32) × (Nat → Int32) × (Nat → Int32) × (Nat → Int32) × Int32 × Int32) (fun u H locs ls => match u with | (j17_l1, j17_wei, j17_wek, j17_wes, j17_wez, j17_h0_at, j17_h0_sound) => (0 ≤ j17_l1.toInt ∧ j17_l1.toInt ≤ 40) ∧ (j17_h0_sound = 0 ∨ j17_h0_sound = 1) ∧ (j17_l1.toInt ≤ x5.toInt ∧ x5.toInt = (gX.length : Int) ∧ j17_h0_sound.toInt = 1 ∧ 0 ≤ j17_h0_at.toInt ∧ j17_h0_at.toInt + ((exb (gX.drop j17_l1.toNatClampNeg)).length : Int) = h0_at.toInt + 1 + ((exb gX).length : Int)) ∧ (bx (bq gax j17_h0_at.toNatClampNeg (exb (gX.drop j17_l1.toNatClampNeg)))) ∧ (∀ g : Nat, (g : Int) < j17_l1.toInt → 0 ≤ (j17_wez g).toInt) ∧ va_P (dC, dI) cls (wz_60 wek cwek j17_wek wei cwei j17_wei wes cwes j17_wes wez cwez j17_wez h0 aw ac j17_h0_at h0_limit j17_h0_sound h0_codeCount ob h0_openCount aw ab ac aw_typeCount wat wap wag aw_functionCount waf aw_hasMemory aw_pagesLeast aw_pagesMost aw_globalCount wgt wft wfv wgc x5 wek wei wes wez ab ax ab_length ax cax gax) H ∧ va_D A (wz_60 wek cwek j17_wek wei cwei j17_wei wes cwes j17_wes wez cwez j17_wez h0 aw ac j17_h0_at h0_limit j17_h0_sound h0_codeCount ob h0_openCount aw ab ac aw_typeCount wat wap wag aw_functionCount waf aw_hasMemory aw_pagesLeast aw_pagesMost aw_globalCount wgt wft wfv wgc x5 wek wei wes wez ab ax ab_length ax cax gax) ∧ va_S A s.heap H locs ∧ lv_has ls 4 [(0, .ref h0), (1, .int j17_l1)]) (fun u => match u with | (j17_l1, j17_wei, j17_wek, j17_wes, j17_wez, j17_h0_at, j17_h0_sound) => (x5.toInt - j17_l1.toInt).toNat) ?_ (0, gwei, gwek, gwes, gwez, n3, n4) ⟨by (try dsimp only) <;> (first | (apply Int.le_antisymm <;> omega) | omega), bn4, (by rw [show (0 : Int32).toNatClampNeg = 0 from rfl, List.drop_zero]; (try dsimp only) <;> (first | (apply Int.le_antisymm <;> omega) | omega)), (bq_at hbq.out.2 (by (first | (apply Int.le_antisymm <;> omega) | omega))), fun t z => absurd z (by show ¬ (t : Int) < 0; (first | (apply Int.le_antisymm <;> omega) | omega)), hP, hD, hS, lv_sub hl [1, 0] rfl⟩
  intro N17 ih17 u H locs ls hN17 hI
  obtain ⟨j17_l1, j17_wei, j17_wek, j17_wes, j17_wez, j17_h0_at, j17_h0_sound⟩ := u
  obtain ⟨b_j17_l1, b_j17_h0_sound, v1, hB, v3, hP, hD, hS, hl⟩ := hI
  have tj17_h0_sound := b01 b_j17_h0_sound
  have hN17 : (x5.toInt - j17_l1.toInt).toNat < N17 + 1 := hN17
  refine lv_iload_n hx hb d_RE_readExports_17 rfl (lv_at hl 1 rfl) ?_
  refine lv_aload_n hx hb d_RE_readExports_18 rfl (lv_at hl 0 rfl) ?_
  refine va_get (D := (dC, dI)) (ci := 7) (v := .ref aw) (C := R_RE) (T := F_RE) (N := 8) hx hb hts i_RE hown hK hP 4 rfl rfl 0 (by decide) (hts _ kF_RE_15) (fun _ h9 => h9) rfl d_RE_readExports_19 ?_
  refine va_get (D := (dC, dI)) (ci := 10) (v := .int x5) (C := R_WA) (T := F_WA) (N := 21) hx hb hts i_WA hown hK hP 5 rfl rfl 16 (by decide) (hts _ kF_RE_155) (fun _ h9 => h9) rfl d_RE_readExports_22 ?_
  refine lv_icmp_ge (tgt := 153) hx hb d_RE_readExports_25 (by decide) (fun c25 => ?_) (fun c25 => ?_)
  · have q25 := leI c25
    have hP9 := hP.sb (wq := (wz_58 h0 aw ac j17_h0_at h0_limit j17_h0_sound h0_codeCount ob h0_openCount aw ab ac aw_typeCount wat wap wag aw_functionCount waf aw_hasMemory aw_pagesLeast aw_pagesMost aw_globalCount wgt wft wfv wgc x5 wek wei wes wez ab ax ab_length ax cax gax wek cwek j17_wek wei cwei j17_wei wes cwes j17_wes wez cwez j17_wez)) [4, 5, 6, 7, 0, 1, 2, 3] rfl
    have hD9 := hD.sb (wq := (wz_58 h0 aw ac j17_h0_at h0_limit j17_h0_sound h0_codeCount ob h0_openCount aw ab ac aw_typeCount wat wap wag aw_functionCount waf aw_hasMemory aw_pagesLeast aw_pagesMost aw_globalCount wgt wft wfv wgc x5 wek wei wes wez ab ax ab_length ax cax gax wek cwek j17_wek wei cwei j17_wei wes cwes j17_wes wez cwez j17_wez)) [4, 5, 6, 7, 0, 1, 2, 3] (by decide) rfl
    exact W.vret hx hb hr (fun t ht hW => ⟨⟨(j17_wei, j17_wek, j17_wes, j17_wez, x5, j17_h0_at, j17_h0_sound), rfl, ⟨by (try dsimp only) <;> (first | (apply Int.le_antisymm <;> omega) | omega), b_j17_h0_sound, (by have e := v1.2.2.2.2; rw [List.drop_of_length_le (by have := i32_clamp (x := j17_l1) (by (first | (apply Int.le_antisymm <;> omega) | omega)); (first | (apply Int.le_antisymm <;> omega) | omega)), show (exb []).length = 0 from rfl] at e; exact ⟨by (try dsimp only) <;> (first | (apply Int.le_antisymm <;> omega) | omega), by (try dsimp only) <;> (first | (apply Int.le_antisymm <;> omega) | omega), by (try dsimp only) <;> (first | (apply Int.le_antisymm <;> omega) | omega), fun t z => v3 t (by (first | (apply Int.le_antisymm <;> omega) | omega))⟩)⟩, va_P.he ht.symm hP9, va_K.moved hW.alike hK, hD9⟩, hS.F ht⟩) hS.2.2 d_RE_readExports_153
  · have q25 := nleI c25
    refine lv_aload_n hx hb d_RE_readExports_28 rfl (lv_at hl 0 rfl) ?_
    refine va_get (D := (dC, dI)) (ci := 7) (v := .int j17_h0_sound) (C := R_RE) (T := F_RE) (N := 8) hx hb hts i_RE hown hK hP 4 rfl rfl 4 (by decide) (hts _ kF_RE_45) (fun _ h9 => h9) rfl d_RE_readExports_29 ?_
    refine lv_if_eq (tgt := 153) hx hb d_RE_readExports_32 (by decide) (fun c32 => absurd (eqI c32) (by (first | (apply Int.le_antisymm <;> omega) | omega))) (fun c32 => ?_)
    have q32 := neI c32
    have c9 := i32_clamp (x := j17_l1) (by (first | (apply Int.le_antisymm <;> omega) | omega))
    obtain ⟨xe9, n1, n2⟩ := exb_hd (X := gX) (k := j17_l1.toNatClampNeg) (by (first | (apply Int.le_antisymm <;> omega) | omega))
    have ke := hxk.out xe9 n1
    unfold eok at ke
    have q9 := hB.out
    rw [n2] at q9
    obtain ⟨m1, m2⟩ := q9
    have m5 := bq_app m2
    have m6 := m5.2.1
    have m7 := m5.2.2.1
    have m8 := m5.2.2.2
    replace m8 : bx _ := m8
    clear m2 m5
    have lg := congrArg List.length n2
    rw [List.length_cons, List.length_append, List.length_cons, List.length_cons] at lg
    have za := i32_clamp (x := j17_h0_at) (by (first | (apply Int.le_antisymm <;> omega) | omega))
    clear n2
    have lz : (leb 5 xe9.1.length).length = 1 := by rw [leb_1 (by (first | (apply Int.le_antisymm <;> omega) | omega))]; rfl
    have li : (leb 5 xe9.2.2).length = 1 := by rw [leb_1 (by (first | (apply Int.le_antisymm <;> omega) | omega))]; rfl
    refine lv_aload_n hx hb d_RE_readExports_35 rfl (lv_at hl 0 rfl) ?_
    refine lv_ldc2 hx hb hown (hts _ kL_RE_77) d_RE_readExports_36 ?_
    refine lv_topl (fun x6 ex6 => ?_)
    have tx6 : x6.toInt = 30 := by rw [ex6]; decide
    have hPc := hP.sb (wq := (wz_46 h0 aw ac j17_h0_at h0_limit j17_h0_sound h0_codeCount ob h0_openCount aw ab ac aw_typeCount wat wap wag aw_functionCount waf aw_hasMemory aw_pagesLeast aw_pagesMost aw_globalCount wgt wft wfv wgc x5 wek wei wes wez ab ax ab_length ax cax gax)) [4, 5, 6, 7] rfl
    have hDc := hD.sb (wq := (wz_46 h0 aw ac j17_h0_at h0_limit j17_h0_sound h0_codeCount ob h0_openCount aw ab ac aw_typeCount wat wap wag aw_functionCount waf aw_hasMemory aw_pagesLeast aw_pagesMost aw_globalCount wgt wft wfv wgc x5 wek wei wes wez ab ax ab_length ax cax gax)) [4, 5, 6, 7] (by decide) rfl
    have hKc := hK.sb (tyq := [(cax, .byte)]) [0] rfl
    have hFc := va_free (wc := (wz_46 h0 aw ac j17_h0_at h0_limit j17_h0_sound h0_codeCount ob h0_openCount aw ab ac aw_typeCount wat wap wag aw_functionCount waf aw_hasMemory aw_pagesLeast aw_pagesMost aw_globalCount wgt wft wfv wgc x5 wek wei wes wez ab ax ab_length ax cax gax)) hD hS hA [4, 5, 6, 7] rfl
    refine va_calll (va_runV (As := [.long x6]) (rest := []) ⟨hx, hb, hml, hown, hts⟩ (c_RE_readUnsignedx l dC dI H.size h0 aw ac ob ab wat wap wag waf wgt wft wfv wgc wek wei wes wez ax cax j17_h0_at h0_limit j17_h0_sound h0_codeCount h0_openCount aw_typeCount aw_functionCount aw_hasMemory aw_pagesLeast aw_pagesMost aw_globalCount x5 ab_length gax xe9.1.length (b_j17_h0_sound) x6 (by (first | (apply Int.le_antisymm <;> omega) | omega)) (by (first | (apply Int.le_antisymm <;> omega) | omega)) (by (first | (apply Int.le_antisymm <;> omega) | omega)) ((by rw [leb_1 (by (first | (apply Int.le_antisymm <;> omega) | omega))]; exact ⟨m1, trivial⟩)) (by (first | (apply Int.le_antisymm <;> omega) | omega))) (cwV 1 hts (gV kM_RE_64 kV_RE_readUnsigned kS_RE_readUnsigned kI_RE kC_RE_readUnsigned) rfl rfl rfl (by decide +kernel) ⟨Nat.le_of_ble_eq_true rfl, Nat.le_of_ble_eq_true rfl⟩) ⟨fun a U g mk z => by obtain ⟨z0, z1, zP, zK, zD⟩ := z; exact ⟨z0, z1, zP, va_K.moved (u := U) (U := U.calling g mk a) (Vm.Alike.refl U.vm) zK, zD⟩, va_recv hKc hPc (ci := 7) (q0 := 0) rfl rfl, fun U hU hW => ⟨rfl, by rw [hU], va_P.he hU.symm hPc, va_K.moved hW.alike hKc, hDc.weaken (fun _ _ _ _ => trivial)⟩⟩ rfl rfl hl.1 rfl (lv_room (Nat.le_of_ble_eq_true rfl)) d_RE_readExports_39 ⟨(Nat.zero_le _), (Nat.zero_le _)⟩) hS (fun q _ h => hFc q h) hFc (fun r7 u t H1 locs ht hvm hw hB hz1 hk1 hS => ?_)
    obtain ⟨n8, n9⟩ := u
    try dsimp only at hw
    obtain ⟨bn9, xr7⟩ := hw
    try clear hw
    have tn9 := b01 bn9
    have za39 := i32_clamp (x := n8) (by (first | (apply Int.le_antisymm <;> omega) | omega))
    obtain ⟨hP1, hK1, hD1⟩ := hB
    replace hP1 := va_P.he ht hP1
    obtain ⟨hP, hD⟩ := va_join (wr := (wz_59 wek cwek j17_wek wei cwei j17_wei wes cwes j17_wes wez cwez j17_wez)) (w1 := (wz_46 h0 aw ac n8 h0_limit n9 h0_codeCount ob h0_openCount aw ab ac aw_typeCount wat wap wag aw_functionCount waf aw_hasMemory aw_pagesLeast aw_pagesMost aw_globalCount wgt wft wfv wgc x5 wek wei wes wez ab ax ab_length ax cax gax)) hP hD [4, 5, 6, 7] [0, 1, 2, 3] rfl rfl (by decide) (by decide) hk1 hFc hP1 hD1
    clear hPc hDc hKc hFc hz1 hk1 hP1 hK1 hD1
    rename Heap => H
    have hP : va_P (dC, dI) cls (wz_60 wek cwek j17_wek wei cwei j17_wei wes cwes j17_wes wez cwez j17_wez h0 aw ac n8 h0_limit n9 h0_codeCount ob h0_openCount aw ab ac aw_typeCount wat wap wag aw_functionCount waf aw_hasMemory aw_pagesLeast aw_pagesMost aw_globalCount wgt wft wfv wgc x5 wek wei wes wez ab ax ab_length ax cax gax) H := hP
    have hD : va_D A (wz_60 wek cwek j17_wek wei cwei j17_wei wes cwes j17_wes wez cwez j17_wez h0 aw ac n8 h0_limit n9 h0_codeCount ob h0_openCount aw ab ac aw_typeCount wat wap wag aw_functionCount waf aw_hasMemory aw_pagesLeast aw_pagesMost aw_globalCount wgt wft wfv wgc x5 wek wei wes wez ab ax ab_length ax cax gax) := hD
    refine lv_l2i hx hb d_RE_readExports_42 rfl ?_
    refine lv_topi (fun x10 ex10 => ?_)
    have tx10 := l2i_t ex10 (by (first | (apply Int.le_antisymm <;> omega) | omega)) (by (first | (apply Int.le_antisymm <;> omega) | omega))
    refine lv_istore_n (lv' := [(2, .int x10), (0, .ref h0), (1, .int j17_l1)]) hx hb d_RE_readExports_43 rfl hl (by decide) rfl (fun ls hl => ?_)
    refine lv_aload_n hx hb d_RE_readExports_44 rfl (lv_at hl 1 rfl) ?_
    refine va_get (D := (dC, dI)) (ci := 7) (v := .ref aw) (C := R_RE) (T := F_RE) (N := 8) hx hb hts i_RE hown hK hP 4 rfl rfl 0 (by decide) (hts _ kF_RE_15) (fun _ h9 => h9) rfl d_RE_readExports_45 ?_
    refine va_get (D := (dC, dI)) (ci := 10) (v := .ref wes) (C := R_WA) (T := F_WA) (N := 21) hx hb hts i_WA hown hK hP 5 rfl rfl 19 (by decide) (hts _ kF_RE_158) (fun _ h9 => h9) rfl d_RE_readExports_48 ?_
    refine lv_iload_n hx hb d_RE_readExports_51 rfl (lv_at hl 2 rfl) ?_
    refine lv_aload_n hx hb d_RE_readExports_52 rfl (lv_at hl 1 rfl) ?_
    refine va_get (D := (dC, dI)) (ci := 7) (v := .int n8) (C := R_RE) (T := F_RE) (N := 8) hx hb hts i_RE hown hK hP 4 rfl rfl 2 (by decide) (hts _ kF_RE_29) (fun _ h9 => h9) rfl d_RE_readExports_53 ?_
    have g56 : vp_in j17_l1 40 := vp_in_iff.mpr ⟨by (first | (apply Int.le_antisymm <;> omega) | omega), by (first | (apply Int.le_antisymm <;> omega) | omega)⟩
    refine va_iast hx hb hK hP hD hS 2 3 rfl rfl g56 d_RE_readExports_56 (fun H locs hP hD hS => ?_)
    generalize ef11 : upd j17_wes j17_l1.toNatClampNeg n8 = f11 at hP hD
    refine lv_aload_n hx hb d_RE_readExports_57 rfl (lv_at hl 1 rfl) ?_
    refine va_get (D := (dC, dI)) (ci := 7) (v := .ref aw) (C := R_RE) (T := F_RE) (N := 8) hx hb hts i_RE hown hK hP 4 rfl rfl 0 (by decide) (hts _ kF_RE_15) (fun _ h9 => h9) rfl d_RE_readExports_58 ?_
    refine va_get (D := (dC, dI)) (ci := 10) (v := .ref wez) (C := R_WA) (T := F_WA) (N := 21) hx hb hts i_WA hown hK hP 5 rfl rfl 20 (by decide) (hts _ kF_RE_161) (fun _ h9 => h9) rfl d_RE_readExports_61 ?_
    refine lv_iload_n hx hb d_RE_readExports_64 rfl (lv_at hl 2 rfl) ?_
    refine lv_iload_n hx hb d_RE_readExports_65 rfl (lv_at hl 0 rfl) ?_
    have g66 : vp_in j17_l1 40 := vp_in_iff.mpr ⟨by (first | (apply Int.le_antisymm <;> omega) | omega), by (first | (apply Int.le_antisymm <;> omega) | omega)⟩
    refine va_iast hx hb hK hP hD hS 3 4 rfl rfl g66 d_RE_readExports_66 (fun H locs hP hD hS => ?_)
    generalize ef12 : upd j17_wez j17_l1.toNatClampNeg x10 = f12 at hP hD
    refine lv_iconst (v := 0) hx hb d_RE_readExports_67 (by decide) ?_
    refine lv_istore_n (lv' := [(3, .int 0), (2, .int x10), (0, .ref h0), (1, .int j17_l1)]) hx hb d_RE_readExports_68 rfl hl (by decide) rfl (fun ls hl => ?_)
    refine w_loop (σ := Int32 × Int32) (fun u H locs ls => match u with | (j69_l3, j69_h0_at) => (0 ≤ j69_l3.toInt ∧ j69_l3.toInt ≤ 30) ∧ (j69_l3.toInt ≤ x10.toInt ∧ j69_h0_at.toInt = j17_h0_at.toInt + 1 + j69_l3.toInt) ∧ va_P (dC, dI) cls (wz_60 wek cwek j17_wek wei cwei j17_wei wes cwes f11 wez cwez f12 h0 aw ac j69_h0_at h0_limit n9 h0_codeCount ob h0_openCount aw ab ac aw_typeCount wat wap wag aw_functionCount waf aw_hasMemory aw_pagesLeast aw_pagesMost aw_globalCount wgt wft wfv wgc x5 wek wei wes wez ab ax ab_length ax cax gax) H ∧ va_D A (wz_60 wek cwek j17_wek wei cwei j17_wei wes cwes f11 wez cwez f12 h0 aw ac j69_h0_at h0_limit n9 h0_codeCount ob h0_openCount aw ab ac aw_typeCount wat wap wag aw_functionCount waf aw_hasMemory aw_pagesLeast aw_pagesMost aw_globalCount wgt wft wfv wgc x5 wek wei wes wez ab ax ab_length ax cax gax) ∧ va_S A s.heap H locs ∧ lv_has ls 4 [(0, .ref h0), (1, .int j17_l1), (2, .int x10), (3, .int j69_l3)]) (fun u => match u with | (j69_l3, j69_h0_at) => (x10.toInt - j69_l3.toInt).toNat) ?_ (0, n8) ⟨by (try dsimp only) <;> (first | (apply Int.le_antisymm <;> omega) | omega), by (try dsimp only) <;> (first | (apply Int.le_antisymm <;> omega) | omega), hP, hD, hS, lv_sub hl [2, 3, 1, 0] rfl⟩
    intro N69 ih69 u H locs ls hN69 hI
    obtain ⟨j69_l3, j69_h0_at⟩ := u
    obtain ⟨b_j69_l3, u1, hP, hD, hS, hl⟩ := hI
    have hN69 : (x10.toInt - j69_l3.toInt).toNat < N69 + 1 := hN69
    refine lv_iload_n hx hb d_RE_readExports_69 rfl (lv_at hl 3 rfl) ?_
    refine lv_iload_n hx hb d_RE_readExports_70 rfl (lv_at hl 2 rfl) ?_
    refine lv_icmp_ge (tgt := 85) hx hb d_RE_readExports_71 (by decide) (fun c71 => ?_) (fun c71 => ?_)
    · have q71 := leI c71
      have z69 := i32_clamp (x := j69_h0_at) (by (first | (apply Int.le_antisymm <;> omega) | omega))
      have e85 : j17_h0_at.toNatClampNeg + 1 + xe9.1.length = j69_h0_at.toNatClampNeg := by (first | (apply Int.le_antisymm <;> omega) | omega)
      rw [e85] at m6 m7
      have m9 : bx _ := m8
      rw [e85] at m9
      refine lv_aload_n hx hb d_RE_readExports_85 rfl (lv_at hl 0 rfl) ?_
      have hPc := hP.sb (wq := (wz_46 h0 aw ac j69_h0_at h0_limit n9 h0_codeCount ob h0_openCount aw ab ac aw_typeCount wat wap wag aw_functionCount waf aw_hasMemory aw_pagesLeast aw_pagesMost aw_globalCount wgt wft wfv wgc x5 wek wei wes wez ab ax ab_length ax cax gax)) [4, 5, 6, 7] rfl
      have hDc := hD.sb (wq := (wz_46 h0 aw ac j69_h0_at h0_limit n9 h0_codeCount ob h0_openCount aw ab ac aw_typeCount wat wap wag aw_functionCount waf aw_hasMemory aw_pagesLeast aw_pagesMost aw_globalCount wgt wft wfv wgc x5 wek wei wes wez ab ax ab_length ax cax gax)) [4, 5, 6, 7] (by decide) rfl
      have hKc := hK.sb (tyq := [(cax, .byte)]) [0] rfl
      have hFc := va_free (wc := (wz_46 h0 aw ac j69_h0_at h0_limit n9 h0_codeCount ob h0_openCount aw ab ac aw_typeCount wat wap wag aw_functionCount waf aw_hasMemory aw_pagesLeast aw_pagesMost aw_globalCount wgt wft wfv wgc x5 wek wei wes wez ab ax ab_length ax cax gax)) hD hS hA [4, 5, 6, 7] rfl
      refine va_calli (va_runV (As := []) (rest := []) ⟨hx, hb, hml, hown, hts⟩ (c_RE_nextx l dC dI H.size h0 aw ac ob ab wat wap wag waf wgt wft wfv wgc wek wei wes wez ax cax j69_h0_at h0_limit n9 h0_codeCount h0_openCount aw_typeCount aw_functionCount aw_hasMemory aw_pagesLeast aw_pagesMost aw_globalCount x5 ab_length gax (bn9) (by (first | (apply Int.le_antisymm <;> omega) | omega)) (by (first | (apply Int.le_antisymm <;> omega) | omega)) (by (first | (apply Int.le_antisymm <;> omega) | omega))) (cwV 0 hts (gV kM_RE_60 kV_RE_next kS_RE_next kI_RE kC_RE_next) rfl rfl rfl (by decide +kernel) ⟨Nat.le_of_ble_eq_true rfl, Nat.le_of_ble_eq_true rfl⟩) ⟨fun a U g mk z => by obtain ⟨z0, z1, zP, zK, zD⟩ := z; exact ⟨z0, z1, zP, va_K.moved (u := U) (U := U.calling g mk a) (Vm.Alike.refl U.vm) zK, zD⟩, va_recv hKc hPc (ci := 7) (q0 := 0) rfl rfl, fun U hU hW => ⟨rfl, by rw [hU], va_P.he hU.symm hPc, va_K.moved hW.alike hKc, hDc.weaken (fun _ _ _ _ => trivial)⟩⟩ rfl rfl hl.1 rfl (lv_room (Nat.le_of_ble_eq_true rfl)) d_RE_readExports_86 ⟨(Nat.zero_le _), (Nat.zero_le _)⟩) hS (fun q _ h => hFc q h) hFc (fun r13 u t H1 locs ht hvm hw hB hz1 hk1 hS => ?_)
      obtain ⟨n14, rfl⟩ : ∃ z, z = u := ⟨_, rfl⟩
      try dsimp only at hw
      have xr13 := hw
      try clear hw
      have za86 := i32_clamp (x := n14) (by (first | (apply Int.le_antisymm <;> omega) | omega))
      have ea86 : j69_h0_at.toNatClampNeg + 1 = n14.toNatClampNeg := by (first | (apply Int.le_antisymm <;> omega) | omega)
      rw [ea86] at m7
      obtain ⟨hP1, hK1, hD1⟩ := hB
      replace hP1 := va_P.he ht hP1
      obtain ⟨hP, hD⟩ := va_join (wr := (wz_59 wek cwek j17_wek wei cwei j17_wei wes cwes f11 wez cwez f12)) (w1 := (wz_46 h0 aw ac n14 h0_limit n9 h0_codeCount ob h0_openCount aw ab ac aw_typeCount wat wap wag aw_functionCount waf aw_hasMemory aw_pagesLeast aw_pagesMost aw_globalCount wgt wft wfv wgc x5 wek wei wes wez ab ax ab_length ax cax gax)) hP hD [4, 5, 6, 7] [0, 1, 2, 3] rfl rfl (by decide) (by decide) hk1 hFc hP1 hD1
      clear hPc hDc hKc hFc hz1 hk1 hP1 hK1 hD1
      rename Heap => H
      have hP : va_P (dC, dI) cls (wz_60 wek cwek j17_wek wei cwei j17_wei wes cwes f11 wez cwez f12 h0 aw ac n14 h0_limit n9 h0_codeCount ob h0_openCount aw ab ac aw_typeCount wat wap wag aw_functionCount waf aw_hasMemory aw_pagesLeast aw_pagesMost aw_globalCount wgt wft wfv wgc x5 wek wei wes wez ab ax ab_length ax cax gax) H := hP
      have hD : va_D A (wz_60 wek cwek j17_wek wei cwei j17_wei wes cwes f11 wez cwez f12 h0 aw ac n14 h0_limit n9 h0_codeCount ob h0_openCount aw ab ac aw_typeCount wat wap wag aw_functionCount waf aw_hasMemory aw_pagesLeast aw_pagesMost aw_globalCount wgt wft wfv wgc x5 wek wei wes wez ab ax ab_length ax cax gax) := hD
      refine lv_istore_n (lv' := [(3, .int r13), (0, .ref h0), (1, .int j17_l1), (2, .int x10)]) hx hb d_RE_readExports_89 rfl hl (by decide) rfl (fun ls hl => ?_)
      refine lv_aload_n hx hb d_RE_readExports_90 rfl (lv_at hl 1 rfl) ?_
      refine lv_aload_n hx hb d_RE_readExports_91 rfl (lv_at hl 1 rfl) ?_
      refine va_get (D := (dC, dI)) (ci := 7) (v := .int n9) (C := R_RE) (T := F_RE) (N := 8) hx hb hts i_RE hown hK hP 4 rfl rfl 4 (by decide) (hts _ kF_RE_45) (fun _ h9 => h9) rfl d_RE_readExports_92 ?_
      refine lv_if_eq (tgt := 116) hx hb d_RE_readExports_95 (by decide) (fun c95 => absurd (eqI c95) (by (first | (apply Int.le_antisymm <;> omega) | omega))) (fun c95 => ?_)
      have q95 := neI c95
      refine lv_iload_n hx hb d_RE_readExports_98 rfl (lv_at hl 0 rfl) ?_
      refine w_cut (pc2 := 112) (σ := Unit) (fun u H locs ls => match u with | _ => va_P (dC, dI) cls (wz_60 wek cwek j17_wek wei cwei j17_wei wes cwes f11 wez cwez f12 h0 aw ac n14 h0_limit n9 h0_codeCount ob h0_openCount aw ab ac aw_typeCount wat wap wag aw_functionCount waf aw_hasMemory aw_pagesLeast aw_pagesMost aw_globalCount wgt wft wfv wgc x5 wek wei wes wez ab ax ab_length ax cax gax) H ∧ va_D A (wz_60 wek cwek j17_wek wei cwei j17_wei wes cwes f11 wez cwez f12 h0 aw ac n14 h0_limit n9 h0_codeCount ob h0_openCount aw ab ac aw_typeCount wat wap wag aw_functionCount waf aw_hasMemory aw_pagesLeast aw_pagesMost aw_globalCount wgt wft wfv wgc x5 wek wei wes wez ab ax ab_length ax cax gax) ∧ va_S A s.heap H locs ∧ lv_has ls 4 [(0, .ref h0), (1, .int j17_l1), (3, .int r13)]) (fun u => match u with | _ => [.ref h0]) ?_ (fun jn112 => ?_)
      · intro u H locs ls hI
        obtain ⟨hP, hD, hS, hl⟩ := hI
        refine lv_iconst (v := 1) hx hb d_RE_readExports_112 (by decide) ?_
        refine lv_goto (tgt := 117) hx hb d_RE_readExports_113 (by decide) ?_
        refine va_put (D := (dC, dI)) (ci := 7) (v := .int 1) (ty := .boolean) (C := R_RE) (T := F_RE) (N := 8) hx hb hts i_RE t_RE t_RE_ok n_RE hown hK hP hD hS 4 rfl rfl 4 (by decide) (hts _ kF_RE_45) (fun _ h9 => h9) rfl (by decide +kernel) rfl rfl (Nat.le_of_ble_eq_true rfl) d_RE_readExports_117 (fun H locs hP hD hS => ?_)
        refine lv_aload_n hx hb d_RE_readExports_120 rfl (lv_at hl 0 rfl) ?_
        refine va_get (D := (dC, dI)) (ci := 7) (v := .ref aw) (C := R_RE) (T := F_RE) (N := 8) hx hb hts i_RE hown hK hP 4 rfl rfl 0 (by decide) (hts _ kF_RE_15) (fun _ h9 => h9) rfl d_RE_readExports_121 ?_
        refine va_get (D := (dC, dI)) (ci := 10) (v := .ref wek) (C := R_WA) (T := F_WA) (N := 21) hx hb hts i_WA hown hK hP 5 rfl rfl 17 (by decide) (hts _ kF_RE_164) (fun _ h9 => h9) rfl d_RE_readExports_124 ?_
        refine lv_iload_n hx hb d_RE_readExports_127 rfl (lv_at hl 1 rfl) ?_
        refine lv_iload_n hx hb d_RE_readExports_128 rfl (lv_at hl 2 rfl) ?_
        have g129 : vp_in j17_l1 40 := vp_in_iff.mpr ⟨by (first | (apply Int.le_antisymm <;> omega) | omega), by (first | (apply Int.le_antisymm <;> omega) | omega)⟩
        refine va_iast hx hb hK hP hD hS 0 1 rfl rfl g129 d_RE_readExports_129 (fun H locs hP hD hS => ?_)
        generalize ef15 : upd j17_wek j17_l1.toNatClampNeg r13 = f15 at hP hD
        refine lv_aload_n hx hb d_RE_readExports_130 rfl (lv_at hl 0 rfl) ?_
        refine va_get (D := (dC, dI)) (ci := 7) (v := .ref aw) (C := R_RE) (T := F_RE) (N := 8) hx hb hts i_RE hown hK hP 4 rfl rfl 0 (by decide) (hts _ kF_RE_15) (fun _ h9 => h9) rfl d_RE_readExports_131 ?_
        refine va_get (D := (dC, dI)) (ci := 10) (v := .ref wei) (C := R_WA) (T := F_WA) (N := 21) hx hb hts i_WA hown hK hP 5 rfl rfl 18 (by decide) (hts _ kF_RE_167) (fun _ h9 => h9) rfl d_RE_readExports_134 ?_
        refine lv_iload_n hx hb d_RE_readExports_137 rfl (lv_at hl 1 rfl) ?_
        refine lv_aload_n hx hb d_RE_readExports_138 rfl (lv_at hl 0 rfl) ?_
        refine lv_ldc2 hx hb hown (hts _ kL_RE_82) d_RE_readExports_139 ?_
        refine lv_topl (fun x16 ex16 => ?_)
        have tx16 : x16.toInt = 2147483647 := by rw [ex16]; decide
        have hPc := hP.sb (wq := (wz_46 h0 aw ac n14 h0_limit 1 h0_codeCount ob h0_openCount aw ab ac aw_typeCount wat wap wag aw_functionCount waf aw_hasMemory aw_pagesLeast aw_pagesMost aw_globalCount wgt wft wfv wgc x5 wek wei wes wez ab ax ab_length ax cax gax)) [4, 5, 6, 7] rfl
        have hDc := hD.sb (wq := (wz_46 h0 aw ac n14 h0_limit 1 h0_codeCount ob h0_openCount aw ab ac aw_typeCount wat wap wag aw_functionCount waf aw_hasMemory aw_pagesLeast aw_pagesMost aw_globalCount wgt wft wfv wgc x5 wek wei wes wez ab ax ab_length ax cax gax)) [4, 5, 6, 7] (by decide) rfl
        have hKc := hK.sb (tyq := [(cax, .byte)]) [0] rfl
        have hFc := va_free (wc := (wz_46 h0 aw ac n14 h0_limit 1 h0_codeCount ob h0_openCount aw ab ac aw_typeCount wat wap wag aw_functionCount waf aw_hasMemory aw_pagesLeast aw_pagesMost aw_globalCount wgt wft wfv wgc x5 wek wei wes wez ab ax ab_length ax cax gax)) hD hS hA [4, 5, 6, 7] rfl
        refine va_calll (va_runV (As := [.long x16]) (rest := [.int j17_l1, .ref wei]) ⟨hx, hb, hml, hown, hts⟩ (c_RE_readUnsignedx l dC dI H.size h0 aw ac ob ab wat wap wag waf wgt wft wfv wgc wek wei wes wez ax cax n14 h0_limit 1 h0_codeCount h0_openCount aw_typeCount aw_functionCount aw_hasMemory aw_pagesLeast aw_pagesMost aw_globalCount x5 ab_length gax xe9.2.2 (Or.inr rfl) x16 (by (first | (apply Int.le_antisymm <;> omega) | omega)) (by (first | (apply Int.le_antisymm <;> omega) | omega)) (by (first | (apply Int.le_antisymm <;> omega) | omega)) ((by rw [leb_1 (by (first | (apply Int.le_antisymm <;> omega) | omega))]; exact ⟨m7, trivial⟩)) (by (first | (apply Int.le_antisymm <;> omega) | omega))) (cwV 1 hts (gV kM_RE_64 kV_RE_readUnsigned kS_RE_readUnsigned kI_RE kC_RE_readUnsigned) rfl rfl rfl (by decide +kernel) ⟨Nat.le_of_ble_eq_true rfl, Nat.le_of_ble_eq_true rfl⟩) ⟨fun a U g mk z => by obtain ⟨z0, z1, zP, zK, zD⟩ := z; exact ⟨z0, z1, zP, va_K.moved (u := U) (U := U.calling g mk a) (Vm.Alike.refl U.vm) zK, zD⟩, va_recv hKc hPc (ci := 7) (q0 := 0) rfl rfl, fun U hU hW => ⟨rfl, by rw [hU], va_P.he hU.symm hPc, va_K.moved hW.alike hKc, hDc.weaken (fun _ _ _ _ => trivial)⟩⟩ rfl rfl hl.1 rfl (lv_room (Nat.le_of_ble_eq_true rfl)) d_RE_readExports_142 ⟨(Nat.zero_le _), (Nat.zero_le _)⟩) hS (fun q _ h => hFc q h) hFc (fun r17 u t H1 locs ht hvm hw hB hz1 hk1 hS => ?_)
        obtain ⟨n18, n19⟩ := u
        try dsimp only at hw
        obtain ⟨bn19, xr17⟩ := hw
        try clear hw
        have tn19 := b01 bn19
        obtain ⟨hP1, hK1, hD1⟩ := hB
        replace hP1 := va_P.he ht hP1
        obtain ⟨hP, hD⟩ := va_join (wr := (wz_59 wek cwek f15 wei cwei j17_wei wes cwes f11 wez cwez f12)) (w1 := (wz_46 h0 aw ac n18 h0_limit n19 h0_codeCount ob h0_openCount aw ab ac aw_typeCount wat wap wag aw_functionCount waf aw_hasMemory aw_pagesLeast aw_pagesMost aw_globalCount wgt wft wfv wgc x5 wek wei wes wez ab ax ab_length ax cax gax)) hP hD [4, 5, 6, 7] [0, 1, 2, 3] rfl rfl (by decide) (by decide) hk1 hFc hP1 hD1
        clear hPc hDc hKc hFc hz1 hk1 hP1 hK1 hD1
        rename Heap => H
        have hP : va_P (dC, dI) cls (wz_60 wek cwek f15 wei cwei j17_wei wes cwes f11 wez cwez f12 h0 aw ac n18 h0_limit n19 h0_codeCount ob h0_openCount aw ab ac aw_typeCount wat wap wag aw_functionCount waf aw_hasMemory aw_pagesLeast aw_pagesMost aw_globalCount wgt wft wfv wgc x5 wek wei wes wez ab ax ab_length ax cax gax) H := hP
        have hD : va_D A (wz_60 wek cwek f15 wei cwei j17_wei wes cwes f11 wez cwez f12 h0 aw ac n18 h0_limit n19 h0_codeCount ob h0_openCount aw ab ac aw_typeCount wat wap wag aw_functionCount waf aw_hasMemory aw_pagesLeast aw_pagesMost aw_globalCount wgt wft wfv wgc x5 wek wei wes wez ab ax ab_length ax cax gax) := hD
        refine lv_l2i hx hb d_RE_readExports_145 rfl ?_
        refine lv_topi (fun x20 ex20 => ?_)
        have tx20 := l2i_t ex20 (by (first | (apply Int.le_antisymm <;> omega) | omega)) (by (first | (apply Int.le_antisymm <;> omega) | omega))
        have g146 : vp_in j17_l1 40 := vp_in_iff.mpr ⟨by (first | (apply Int.le_antisymm <;> omega) | omega), by (first | (apply Int.le_antisymm <;> omega) | omega)⟩
        refine va_iast hx hb hK hP hD hS 1 2 rfl rfl g146 d_RE_readExports_146 (fun H locs hP hD hS => ?_)
        generalize ef21 : upd j17_wei j17_l1.toNatClampNeg x20 = f21 at hP hD
        obtain ⟨x22, ex22⟩ : ∃ z : Int32, z = j17_l1 + 1 := ⟨_, rfl⟩
        have tx22 : x22.toInt = j17_l1.toInt + 1 := by have z := i32_add ex22 (by (first | (apply Int.le_antisymm <;> omega) | omega)) (by (first | (apply Int.le_antisymm <;> omega) | omega)); first | exact z | (first | (apply Int.le_antisymm <;> omega) | omega)
        refine lv_iinc (v := x22) (lv' := [(1, .int x22), (0, .ref h0), (3, .int r13)]) hx hb d_RE_readExports_147 hl (k := 1) rfl (by rw [ex22]; rfl) (by decide) rfl (fun ls hl => ?_)
        refine lv_goto (tgt := 17) hx hb d_RE_readExports_150 (by decide) ?_
        exact ih17 (x22, f21, f15, f11, f12, n18, n19) _ _ _ (by show (x5.toInt - x22.toInt).toNat < N17; (first | (apply Int.le_antisymm <;> omega) | omega)) ⟨by (try dsimp only) <;> (first | (apply Int.le_antisymm <;> omega) | omega), bn19, (by rw [show x22.toNatClampNeg = j17_l1.toNatClampNeg + 1 from clampN (by (first | (apply Int.le_antisymm <;> omega) | omega))]; (try dsimp only) <;> (first | (apply Int.le_antisymm <;> omega) | omega)), (by rw [show x22.toNatClampNeg = j17_l1.toNatClampNeg + 1 from clampN (by (first | (apply Int.le_antisymm <;> omega) | omega))]; exact bq_at m8.out (by have := i32_clamp (x := n18) (by (first | (apply Int.le_antisymm <;> omega) | omega)); (first | (apply Int.le_antisymm <;> omega) | omega))), fun t z => by rw [← ef12]; by_cases q : t = j17_l1.toNatClampNeg; (subst q; rw [pk_us]; (first | (apply Int.le_antisymm <;> omega) | omega)); (rw [pk_un q]; exact v3 t (by (first | (apply Int.le_antisymm <;> omega) | omega))), hP, hD, hS, lv_sub hl [1, 0] rfl⟩
      · skip
        refine lv_if_eq (tgt := 112) hx hb d_RE_readExports_99 (by decide) (fun c99 => ?_) (fun c99 => ?_)
        · have q99 := eqI c99
          exact jn112 () _ _ _ ⟨hP, hD, hS, lv_sub hl [1, 2, 0] rfl⟩
        · have q99 := neI c99
          refine lv_iload_n hx hb d_RE_readExports_102 rfl (lv_at hl 0 rfl) ?_
          refine lv_iconst (v := 2) hx hb d_RE_readExports_103 (by decide) ?_
          refine lv_icmp_eq (tgt := 112) hx hb d_RE_readExports_104 (by decide) (fun c104 => ?_) (fun c104 => ?_)
          · have q104 := eqI c104
            exact jn112 () _ _ _ ⟨hP, hD, hS, lv_sub hl [1, 2, 0] rfl⟩
          · have q104 := neI c104
            refine lv_iload_n hx hb d_RE_readExports_107 rfl (lv_at hl 0 rfl) ?_
            refine lv_iconst (v := 3) hx hb d_RE_readExports_108 (by decide) ?_
            refine lv_icmp_ne (tgt := 116) hx hb d_RE_readExports_109 (by decide) (fun c109 => absurd (neI c109) (by (first | (apply Int.le_antisymm <;> omega) | omega))) (fun c109 => ?_)
            have q109 := eqI c109
            exact jn112 () _ _ _ ⟨hP, hD, hS, lv_sub hl [1, 2, 0] rfl⟩
    · have q71 := nleI c71
      refine lv_aload_n hx hb d_RE_readExports_74 rfl (lv_at hl 0 rfl) ?_
      have hPc := hP.sb (wq := (wz_46 h0 aw ac j69_h0_at h0_limit n9 h0_codeCount ob h0_openCount aw ab ac aw_typeCount wat wap wag aw_functionCount waf aw_hasMemory aw_pagesLeast aw_pagesMost aw_globalCount wgt wft wfv wgc x5 wek wei wes wez ab ax ab_length ax cax gax)) [4, 5, 6, 7] rfl
      have hDc := hD.sb (wq := (wz_46 h0 aw ac j69_h0_at h0_limit n9 h0_codeCount ob h0_openCount aw ab ac aw_typeCount wat wap wag aw_functionCount waf aw_hasMemory aw_pagesLeast aw_pagesMost aw_globalCount wgt wft wfv wgc x5 wek wei wes wez ab ax ab_length ax cax gax)) [4, 5, 6, 7] (by decide) rfl
      have hKc := hK.sb (tyq := [(cax, .byte)]) [0] rfl
      have hFc := va_free (wc := (wz_46 h0 aw ac j69_h0_at h0_limit n9 h0_codeCount ob h0_openCount aw ab ac aw_typeCount wat wap wag aw_functionCount waf aw_hasMemory aw_pagesLeast aw_pagesMost aw_globalCount wgt wft wfv wgc x5 wek wei wes wez ab ax ab_length ax cax gax)) hD hS hA [4, 5, 6, 7] rfl
      refine va_calli (va_runV (As := []) (rest := []) ⟨hx, hb, hml, hown, hts⟩ (c_RE_nextx l dC dI H.size h0 aw ac ob ab wat wap wag waf wgt wft wfv wgc wek wei wes wez ax cax j69_h0_at h0_limit n9 h0_codeCount h0_openCount aw_typeCount aw_functionCount aw_hasMemory aw_pagesLeast aw_pagesMost aw_globalCount x5 ab_length gax (bn9) (by (first | (apply Int.le_antisymm <;> omega) | omega)) (by (first | (apply Int.le_antisymm <;> omega) | omega)) (by (first | (apply Int.le_antisymm <;> omega) | omega))) (cwV 0 hts (gV kM_RE_60 kV_RE_next kS_RE_next kI_RE kC_RE_next) rfl rfl rfl (by decide +kernel) ⟨Nat.le_of_ble_eq_true rfl, Nat.le_of_ble_eq_true rfl⟩) ⟨fun a U g mk z => by obtain ⟨z0, z1, zP, zK, zD⟩ := z; exact ⟨z0, z1, zP, va_K.moved (u := U) (U := U.calling g mk a) (Vm.Alike.refl U.vm) zK, zD⟩, va_recv hKc hPc (ci := 7) (q0 := 0) rfl rfl, fun U hU hW => ⟨rfl, by rw [hU], va_P.he hU.symm hPc, va_K.moved hW.alike hKc, hDc.weaken (fun _ _ _ _ => trivial)⟩⟩ rfl rfl hl.1 rfl (lv_room (Nat.le_of_ble_eq_true rfl)) d_RE_readExports_75 ⟨(Nat.zero_le _), (Nat.zero_le _)⟩) hS (fun q _ h => hFc q h) hFc (fun r23 u t H1 locs ht hvm hw hB hz1 hk1 hS => ?_)
      obtain ⟨n24, rfl⟩ : ∃ z, z = u := ⟨_, rfl⟩
      try dsimp only at hw
      have xr23 := hw
      try clear hw
      obtain ⟨hP1, hK1, hD1⟩ := hB
      replace hP1 := va_P.he ht hP1
      obtain ⟨hP, hD⟩ := va_join (wr := (wz_59 wek cwek j17_wek wei cwei j17_wei wes cwes f11 wez cwez f12)) (w1 := (wz_46 h0 aw ac n24 h0_limit n9 h0_codeCount ob h0_openCount aw ab ac aw_typeCount wat wap wag aw_functionCount waf aw_hasMemory aw_pagesLeast aw_pagesMost aw_globalCount wgt wft wfv wgc x5 wek wei wes wez ab ax ab_length ax cax gax)) hP hD [4, 5, 6, 7] [0, 1, 2, 3] rfl rfl (by decide) (by decide) hk1 hFc hP1 hD1
      clear hPc hDc hKc hFc hz1 hk1 hP1 hK1 hD1
      rename Heap => H
      have hP : va_P (dC, dI) cls (wz_60 wek cwek j17_wek wei cwei j17_wei wes cwes f11 wez cwez f12 h0 aw ac n24 h0_limit n9 h0_codeCount ob h0_openCount aw ab ac aw_typeCount wat wap wag aw_functionCount waf aw_hasMemory aw_pagesLeast aw_pagesMost aw_globalCount wgt wft wfv wgc x5 wek wei wes wez ab ax ab_length ax cax gax) H := hP
      have hD : va_D A (wz_60 wek cwek j17_wek wei cwei j17_wei wes cwes f11 wez cwez f12 h0 aw ac n24 h0_limit n9 h0_codeCount ob h0_openCount aw ab ac aw_typeCount wat wap wag aw_functionCount waf aw_hasMemory aw_pagesLeast aw_pagesMost aw_globalCount wgt wft wfv wgc x5 wek wei wes wez ab ax ab_length ax cax gax) := hD
      refine lv_pop hx hb d_RE_readExports_78 rfl ?_
      obtain ⟨x25, ex25⟩ : ∃ z : Int32, z = j69_l3 + 1 := ⟨_, rfl⟩
      have tx25 : x25.toInt = j69_l3.toInt + 1 := by have z := i32_add ex25 (by (first | (apply Int.le_antisymm <;> omega) | omega)) (by (first | (apply Int.le_antisymm <;> omega) | omega)); first | exact z | (first | (apply Int.le_antisymm <;> omega) | omega)
      refine lv_iinc (v := x25) (lv' := [(3, .int x25), (0, .ref h0), (1, .int j17_l1), (2, .int x10)]) hx hb d_RE_readExports_79 hl (k := 3) rfl (by rw [ex25]; rfl) (by decide) rfl (fun ls hl => ?_)
      refine lv_goto (tgt := 69) hx hb d_RE_readExports_82 (by decide) ?_
      exact ih69 (x25, n24) _ _ _ (by show (x10.toInt - x25.toInt).toNat < N69; (first | (apply Int.le_antisymm <;> omega) | omega)) ⟨by (try dsimp only) <;> (first | (apply Int.le_antisymm <;> omega) | omega), by (try dsimp only) <;> (first | (apply Int.le_antisymm <;> omega) | omega), hP, hD, hS, lv_sub hl [1, 2, 3, 0] rfl⟩
end q_94

/-! a function's code: the loop over its instructions -/
def rc_fin (a n : Nat) (gop gpt gel : Nat → Int32) (gva : Nat → Int64) (lc : Int) : Prop :=
  ∃ sb, a < n ∧ rs_I a (n - 1) gop gpt gel gva lc sb ∧ sb (n - 1) = [] ∧ (gop (n - 1)).toInt = 11
def rc_same (a : Nat) (gop gpt gel gop2 gpt2 gel2 : Nat → Int32) (gva gva2 : Nat → Int64) : Prop := ∀ j, j < a → gop2 j = gop j ∧ gpt2 j = gpt j ∧ gel2 j = gel j ∧ gva2 j = gva j
def rc_inv (a : Nat) (more n oc lc : Int32) (gop gpt gel go : Nat → Int32) (gva : Nat → Int64) : Prop :=
  (∀ j : Nat, (j : Int) < oc.toInt → 0 ≤ (go j).toInt ∧ (go j).toInt < 5000) ∧ (more.toInt = 1 → ∃ sb, rs_I a n.toNatClampNeg gop gpt gel gva lc.toInt sb ∧ sb n.toNatClampNeg = rs_stk go oc.toNatClampNeg) ∧ (more.toInt = 0 → rc_fin a n.toNatClampNeg gop gpt gel gva lc.toInt)
theorem rs_go {cl o oc lc r oc2 lc2 : Int32} {gop gpt gel glb go gop2 gpt2 gel2 glb2 go2 : Nat → Int32} {gva gva2 : Nat → Int64} (hc : 0 ≤ cl.toInt ∧ cl.toInt < 5000) (hoc : 0 ≤ oc.toInt) (hr : r.toInt = 0 ∨ r.toInt = 1) (h : ∀ j : Nat, (j : Int) < oc.toInt → 0 ≤ (go j).toInt ∧ (go j).toInt < 5000)
    (st : rstep cl o oc lc r oc2 lc2 gop gpt gel glb go gop2 gpt2 gel2 glb2 go2 gva gva2) : ∀ j : Nat, (j : Int) < oc2.toInt → 0 ≤ (go2 j).toInt ∧ (go2 j).toInt < 5000 := by
  intro j hj
  have hocn := i32_clamp (x := oc) hoc
  obtain ⟨-, st⟩ := st
  rcases st with ⟨-, -, -, c4, c5, -⟩ | ⟨-, -, c3, c4, -⟩ | ⟨-, c2, -, -, -, -, c7, c8⟩ | ⟨-, -, c3, c4, -⟩ | ⟨-, -, c3, c4, -⟩ | ⟨-, -, c3, c4, -⟩ | ⟨-, -, c3, c4, -⟩ | ⟨-, -, c3, c4, -⟩
  · rw [c5]
    by_cases e : j = oc.toNatClampNeg
    · rw [e, pk_us]
      exact hc
    · rw [pk_un e]
      exact h j (by omega)
  · rw [c4]; rw [c3] at hj; exact h j hj
  · rw [c2]
    rcases hr with z | z
    · have := (c7 z).2.1
      rw [this] at hj
      exact h j hj
    · have := (c8 z).2.1
      exact h j (by omega)
  · rw [c4]; rw [c3] at hj; exact h j hj
  · rw [c4]; rw [c3] at hj; exact h j hj
  · rw [c4]; rw [c3] at hj; exact h j hj
  · rw [c4]; rw [c3] at hj; exact h j hj
  · rw [c4]; rw [c3] at hj; exact h j hj
theorem rs_below {a n : Nat} {cl o oc lc r oc2 lc2 : Int32} {gop gpt gel glb go gop2 gpt2 gel2 glb2 go2 : Nat → Int32} {gva gva2 : Nat → Int64} {sb : Nat → List Nat} (h : rs_I a n gop gpt gel gva lc.toInt sb) (hn : cl.toInt = n) (hoc : 0 ≤ oc.toInt) (hr : r.toInt = 0 ∨ r.toInt = 1) (hsb : sb n = rs_stk go oc.toNatClampNeg)
    (st : rstep cl o oc lc r oc2 lc2 gop gpt gel glb go gop2 gpt2 gel2 glb2 go2 gva gva2) : rc_same a gop gpt gel gop2 gpt2 gel2 gva gva2 := by
  intro j hj
  have han := h.1
  have hocn := i32_clamp (x := oc) hoc
  have hjn : j ≠ n := by omega
  unfold rstep at st
  rw [i32_nat hn] at st
  obtain ⟨e0, st⟩ := st
  have g1 : gop2 j = gop j := by rw [e0, pk_un hjn]
  have top : 0 < oc.toInt → (go (oc.toNatClampNeg - 1)).toNatClampNeg ∈ sb n := by
    intro z
    obtain ⟨k, hk⟩ : ∃ k, oc.toNatClampNeg = k + 1 := ⟨oc.toNatClampNeg - 1, by omega⟩
    rw [hsb, hk]
    exact List.mem_cons_self
  rcases st with ⟨-, -, -, -, -, -, -, c8, c9, v, -, c11⟩ | ⟨-, -, -, -, -, -, c7, c8, c9, c10, c11, c12⟩ | ⟨-, -, -, -, c5, c6, c7, c8⟩ | ⟨-, -, -, -, -, -, c7, c8, v, -, -, c11⟩ | ⟨-, -, -, -, c5, b, x, -, -, -, -, c10, c11⟩ | ⟨-, -, -, -, -, -, c7, c8, c9⟩ | ⟨-, -, -, -, -, -, c7, c8, v, c9⟩ | ⟨-, -, -, -, -, -, c7, b, x, -, -, -, c11, c12⟩
  · exact ⟨g1, by rw [c8, pk_un hjn], by rw [c9, pk_un hjn], by rw [c11, uL_un hjn, uL_un hjn]⟩
  · have hb := (h.2.2.1 n han (Nat.le_refl _)).1 _ (top c9)
    exact ⟨g1, by rw [c7, pk_un hjn], by rw [c12, pk_un (by omega), pk_un hjn], by rw [c8, uL_un hjn]⟩
  · refine ⟨g1, ?_, by rw [c5, pk_un hjn], by rw [c6, uL_un hjn]⟩
    rcases hr with z | z
    · rw [(c7 z).2.2, pk_un hjn]
    · obtain ⟨d1, d2, d3⟩ := c8 z
      obtain ⟨b1, b2, b3⟩ := (h.2.2.1 n han (Nat.le_refl _)).1 _ (top d1)
      have e9 : upd gel n (-1) (go (oc.toNatClampNeg - 1)).toNatClampNeg = gel (go (oc.toNatClampNeg - 1)).toNatClampNeg := pk_un (by omega)
      rw [e9] at d3
      rw [d3]
      split
      · rename_i q
        have w := (rs_els h b1 b2 q).2.1
        rw [pk_un (by omega), pk_un (by omega), pk_un hjn]
      · rw [pk_un (by omega), pk_un hjn]
  · exact ⟨g1, by rw [c7, pk_un hjn], by rw [c8, pk_un hjn], by rw [c11, uL_un hjn, uL_un hjn]⟩
  · exact ⟨g1, by rw [c11, pk_un hjn, pk_un hjn], by rw [c5, pk_un hjn], by rw [c10, uL_un hjn, uL_un hjn]⟩
  · exact ⟨g1, by rw [c7, pk_un hjn], by rw [c8, pk_un hjn], by rw [c9, uL_un hjn]⟩
  · exact ⟨g1, by rw [c7, pk_un hjn], by rw [c8, pk_un hjn], by rw [c9, uL_un hjn, uL_un hjn]⟩
  · exact ⟨g1, by rw [c11, pk_un hjn, pk_un hjn], by rw [c7, pk_un hjn], by rw [c12, uL_un hjn, uL_un hjn]⟩
/-- the loop goes on -/
theorem rc_next {a : Nat} {more n o oc lc r n2 oc2 lc2 : Int32} {gop gpt gel glb go gop2 gpt2 gel2 glb2 go2 gop0 gpt0 gel0 : Nat → Int32} {gva gva2 gva0 : Nat → Int64} (h : rc_inv a more n oc lc gop gpt gel go gva) (hs : rc_same a gop0 gpt0 gel0 gop gpt gel gva0 gva) (hm : more.toInt = 1) (hn : 0 ≤ n.toInt ∧ n.toInt < 5000) (hn2 : n2.toInt = n.toInt + 1) (hoc : 0 ≤ oc.toInt ∧ oc.toInt ≤ 100) (hlc : 0 ≤ lc.toInt) (hr : r.toInt = 0 ∨ r.toInt = 1)
    (st : rstep n o oc lc r oc2 lc2 gop gpt gel glb go gop2 gpt2 gel2 glb2 go2 gva gva2) : rc_inv a r n2 oc2 lc2 gop2 gpt2 gel2 go2 gva2 ∧ rc_same a gop0 gpt0 gel0 gop2 gpt2 gel2 gva0 gva2 := by
  obtain ⟨h1, h2, -⟩ := h
  obtain ⟨sb, k1, k2⟩ := h2 hm
  have nn := i32_clamp (x := n) hn.1
  have e2 : n2.toNatClampNeg = n.toNatClampNeg + 1 := by rw [i32_natI hn2]; omega
  have S := rs_step k1 (by omega) hoc hlc k2 st
  have B := rs_below k1 (by omega) hoc.1 hr k2 st
  refine ⟨⟨rs_go hn hoc.1 hr h1 st, fun z => ?_, fun z => ?_⟩, fun j hj => ?_⟩
  · rw [e2]
    exact S.1 z
  · rw [e2]
    obtain ⟨q1, q2, q3⟩ := S.2 z
    exact ⟨sb, by have := k1.1; omega, q1, q2, q3⟩
  · obtain ⟨a1, a2, a3, a4⟩ := B j hj
    obtain ⟨b1, b2, b3, b4⟩ := hs j hj
    exact ⟨a1.trans b1, a2.trans b2, a3.trans b3, a4.trans b4⟩
theorem rc_begin {n oc lc : Int32} {gop gpt gel go : Nat → Int32} {gva : Nat → Int64} (ho : oc.toInt = 0) : rc_inv n.toNatClampNeg 1 n oc lc gop gpt gel go gva :=
  ⟨fun j hj => absurd hj (by omega), fun _ => ⟨_, rs_start, by rw [show oc.toNatClampNeg = 0 from i32_nat ho]; rfl⟩, fun z => absurd z (by decide)⟩
/-- put away, so that arithmetic doesn't look into it -/
def bx (P : Prop) : Prop := P
theorem bx.out {P : Prop} (h : bx P) : P := h

/-! the reference: the states between a function's instructions, with types -/
section VFT
variable {lt : Nat → Nat → Int} {rt nl gv tk gt : Nat → Int} {fc gc lc : Int} {f a m i : Nat} {gop gpt gel gla : Nat → Int32} {gva : Nat → Int64} {sb : Nat → List Nat} {B : Nat → List vt} {hh : Nat → Int} {D h D2 h2 : Int32} {bo bg bh bd bo2 bg2 bh2 bd2 stk stk2 : Nat → Int32}
theorem vk_pre {K : Nat} (hI : rs_I a m gop gpt gel gva lc sb) (hK : K ≤ m) (hV : ∀ i, a ≤ i → i < K → vr nl gv tk fc gc f (gop i).toInt (gva i).toInt (B i) (hh i) (B (i + 1)) (hh (i + 1))) (hB : (B a).length = 1) : ∀ k, a + k ≤ K → (B (a + k)).length = (sb (a + k)).length + 1 ∧ vk gop sb B (a + k)
  | 0, _ => ⟨by rw [Nat.add_zero, hB, hI.2.1]; rfl, fun k b hk => by rw [Nat.add_zero, hI.2.1] at hk; simp at hk⟩
  | k + 1, h => by
    obtain ⟨hL, ih⟩ := vk_pre hI hK hV hB k (by omega)
    generalize hi : a + k = i at ih hL
    have e1 : a + (k + 1) = i + 1 := by omega
    rw [e1]
    obtain ⟨v1, v2, v3, v4, v5, v6, v7⟩ := hI.2.2.2 i (by omega) (by omega)
    obtain ⟨o, g, hb, d, R, eB, -⟩ := hV i (by omega) (by omega)
    obtain ⟨s2, s5, s11, s0⟩ := vr_shape (hV i (by omega) (by omega)) eB v1.2.2.2
    have keep : ∀ o' d', (o' = 3 → o = 3) → B (i + 1) = (o', g, hb, d') :: R → sb (i + 1) = sb i → (B (i + 1)).length = (sb (i + 1)).length + 1 ∧ vk gop sb B (i + 1) := by
      intro o' d' ho w1 w2
      refine ⟨by rw [eB] at hL; rw [w1, w2]; exact hL, fun n b hn => ?_⟩
      rw [w2] at hn
      obtain ⟨x, q1, q2⟩ := ih n b hn
      rw [eB] at q1
      cases n with
      | zero =>
        have ex : (o, g, hb, d) = x := by simpa using q1
        exact ⟨(o', g, hb, d'), by rw [w1]; rfl, fun z => q2 (by rw [← ex]; exact ho z)⟩
      | succ n => exact ⟨x, by rw [w1]; simpa using q1, q2⟩
    by_cases p2 : (gop i).toInt = 2 ∨ (gop i).toInt = 3 ∨ (gop i).toInt = 4
    · obtain ⟨y, w⟩ := s2 p2
      refine ⟨by rw [w, v2 p2, List.length_cons, List.length_cons, hL], fun n b hn => ?_⟩
      rw [v2 p2] at hn
      rw [w]
      cases n with
      | zero =>
        have e : b = i := by simpa using hn.symm
        subst e
        exact ⟨_, rfl, fun z => z⟩
      | succ n =>
        obtain ⟨x, q1, q2⟩ := ih n b (by simpa using hn)
        exact ⟨x, by simpa using q1, q2⟩
    by_cases p11 : (gop i).toInt = 11
    · obtain ⟨b, r, w1, w2, -⟩ := v5 p11
      have hR : R ≠ [] := by
        intro e
        rw [eB, e, w1] at hL
        simp at hL
      refine ⟨by rw [eB, w1] at hL; rw [s11 p11 hR, w2]; simpa using hL, fun n b' hn => ?_⟩
      rw [w2] at hn
      obtain ⟨x, q1, q2⟩ := ih (n + 1) b' (by rw [w1]; simpa using hn)
      rw [eB] at q1
      exact ⟨x, by rw [s11 p11 hR]; simpa using q1, q2⟩
    have es := v6 (by omega) (by omega) (by omega) p11
    by_cases p5 : (gop i).toInt = 5
    · exact keep 5 0 (fun z => by omega) (s5 p5) es
    · obtain ⟨d', w⟩ := s0 (by omega) (by omega) (by omega) p5 p11
      exact keep o d' (fun z => z) w es
theorem vI_next2 {S S2 : List vt} {x x2 : Int} (h : vI nl gv tk fc gc f gop gva a m i B hh) (hi : a ≤ i) (him : i ≤ m) (e1 : B i = S) (e2 : hh i = x) (hv : i < m → vr nl gv tk fc gc f (gop i).toInt (gva i).toInt S x S2 x2) (h0 : i < m → 0 ≤ x2 ∧ ∀ y ∈ S2, 0 ≤ y.2.2.1) :
    ∃ B2 hh2, vI nl gv tk fc gc f gop gva a m (i + 1) B2 hh2 ∧ B2 (i + 1) = S2 ∧ hh2 (i + 1) = x2 ∧ ∀ j, j ≤ i → B2 j = B j ∧ hh2 j = hh j := by
  obtain ⟨k1, k2, k3, k4, k5⟩ := h
  have p1 : ∀ j, j ≤ i → (fun j => if j ≤ i then B j else S2) j = B j := fun j hj => if_pos hj
  have p2 : ∀ j, j ≤ i → (fun j => if j ≤ i then hh j else x2) j = hh j := fun j hj => if_pos hj
  have q1 : (fun j => if j ≤ i then B j else S2) (i + 1) = S2 := if_neg (by omega)
  have q2 : (fun j => if j ≤ i then hh j else x2) (i + 1) = x2 := if_neg (by omega)
  refine ⟨fun j => if j ≤ i then B j else S2, fun j => if j ≤ i then hh j else x2, ⟨fun j j1 j2 j3 => ?_, fun j j1 j2 j3 => ?_, by rw [p1 a hi]; exact k3, by rw [p2 a hi]; exact k4, by rw [p1 a hi]; exact k5⟩, q1, q2, fun j hj => ⟨p1 j hj, p2 j hj⟩⟩
  · rw [p1 j (by omega), p2 j (by omega)]
    by_cases q : j < i
    · rw [p1 (j + 1) (by omega), p2 (j + 1) (by omega)]
      exact k1 j j1 q j3
    · have e : j = i := by omega
      subst e
      rw [q1, q2, e1, e2]
      exact hv j3
  · by_cases q : j ≤ i
    · rw [p1 j q, p2 j q]
      exact k2 j j1 q j3
    · have e : j = i + 1 := by omega
      subst e
      rw [q1, q2]
      exact h0 (by omega)
def vyj (lt : Nat → Nat → Int) (rt tk gt : Nat → Int) (f : Nat) (gop gpt gla : Nat → Int32) (gva : Nat → Int64) (B : Nat → List vt) (hh : Nat → Int) (T : Nat → Nat → Int) (j : Nat) : Prop :=
  vty lt rt tk gt f (gop j).toInt (gva j).toInt (gpt j).toInt (fun k => (gla ((gva j).toInt.toNat + k)).toInt) (B j) (hh j) (T j) (T (j + 1))
def vF2 (lt : Nat → Nat → Int) (rt nl gv tk gt : Nat → Int) (fc gc : Int) (f : Nat) (gop gpt gla : Nat → Int32) (gva : Nat → Int64) (a m i : Nat) (D h : Int32) (bo bg bh bd stk : Nat → Int32) (sb : Nat → List Nat) : Prop :=
  ∃ B hh T, vI nl gv tk fc gc f gop gva a m i B hh ∧ (∀ j, a ≤ j → j < i → vyj lt rt tk gt f gop gpt gla gva B hh T j) ∧
   (i ≤ m → B i = vs_stk bo bg bh bd D.toNatClampNeg ∧ hh i = h.toInt ∧ T i = tst stk ∧ D.toInt = (sb i).length + 1 ∧ (∀ k : Nat, (k : Int) + 1 < D.toInt → (bh k).toInt ≤ (bh (k + 1)).toInt) ∧ (bh (D.toInt - 1).toNat).toInt ≤ h.toInt ∧ h.toInt ≤ (i : Int) - a)
theorem vF2_next (F : vF2 lt rt nl gv tk gt fc gc f gop gpt gla gva a m i D h bo bg bh bd stk sb) (s2 : rs_I a m gop gpt gel gva lc sb) (hi : a ≤ i) (him : i ≤ m) (o : vo nl gv tk fc gc f (gop i).toInt (gva i).toInt D h D2 h2 bo bg bh bd bo2 bg2 bh2 bd2) (hp : ∀ j : Nat, 0 ≤ (bh2 j).toInt ∧ (bh2 j).toInt ≤ 5000) (h0 : 0 ≤ h2.toInt)
    (hy : vty lt rt tk gt f (gop i).toInt (gva i).toInt (gpt i).toInt (fun k => (gla ((gva i).toInt.toNat + k)).toInt) (vs_stk bo bg bh bd D.toNatClampNeg) h.toInt (tst stk) (tst stk2)) : vF2 lt rt nl gv tk gt fc gc f gop gpt gla gva a m (i + 1) D2 h2 bo2 bg2 bh2 bd2 stk2 sb := by
  obtain ⟨B, hh, T, k1, kt, k2⟩ := F
  obtain ⟨e1, e2, eT, e3, e4, e5, e6⟩ := k2 him
  obtain ⟨o1, o2, o3, o4⟩ := o
  have hL : i < m → (gop i).toInt = 11 → 2 ≤ D.toInt := fun q z => by
    obtain ⟨b, r, w, -⟩ := (s2.2.2.2 i hi q).2.2.2.2.1 z
    rw [w, List.length_cons] at e3
    omega
  obtain ⟨B2, hh2, j1, j2, j3, j4⟩ := vI_next2 k1 hi him e1 e2 (fun q => (o1 (hL q)).1) (fun _ => ⟨h0, vs_stk_pos hp _⟩)
  have p1 : ∀ j, j ≤ i → (fun j => if j ≤ i then T j else tst stk2) j = T j := fun j hj => if_pos hj
  have q1 : (fun j => if j ≤ i then T j else tst stk2) (i + 1) = tst stk2 := if_neg (by omega)
  refine ⟨B2, hh2, fun j => if j ≤ i then T j else tst stk2, j1, fun j w1 w2 => ?_, fun q => ?_⟩
  · unfold vyj
    by_cases q : j < i
    · rw [p1 j (by omega), p1 (j + 1) (by omega), (j4 j (by omega)).1, (j4 j (by omega)).2]
      exact kt j w1 q
    · have e : j = i := by omega
      subst e
      rw [p1 j (Nat.le_refl _), q1, (j4 j (Nat.le_refl _)).1, (j4 j (Nat.le_refl _)).2, e1, e2, eT]
      exact hy
  have q : i < m := q
  obtain ⟨-, v2, -, -, v5, v6, -⟩ := s2.2.2.2 i hi q
  obtain ⟨-, u2, u3, u4⟩ := o1 (hL q)
  refine ⟨j2, j3, q1, ?_, u2, u3, by omega⟩
  by_cases p2 : (gop i).toInt = 2 ∨ (gop i).toInt = 3 ∨ (gop i).toInt = 4
  · rw [v2 p2, List.length_cons, o2 p2, e3]
    omega
  by_cases p11 : (gop i).toInt = 11
  · obtain ⟨b, r, w1, w2, -⟩ := v5 p11
    rw [w1, List.length_cons] at e3
    rw [w2, o3 p11, e3]
    omega
  · rw [v6 (by omega) (by omega) (by omega) p11, o4 (by omega) (by omega) (by omega) p11, e3]
theorem vF2_start (s2 : rs_I a m gop gpt gel gva lc sb) {y : Int32} (eD : D.toInt = 1) (eh : h.toInt = 0) (e3 : bh = upd bo2 0 y) (ey : y.toInt = 0) (e4 : bd = upd bd2 0 (vp_nar .boolean 0)) : vF2 lt rt nl gv tk gt fc gc f gop gpt gla gva a m a D h bo bg bh bd stk sb := by
  have eDn : D.toNatClampNeg = 1 := by rw [i32_natI eD]; rfl
  have k0 : (vp_nar .boolean 0).toInt = 0 := by decide
  have eS : vs_stk bo bg bh bd 1 = [((bo 0).toInt, (bg 0).toInt, 0, 0)] := by
    show [((bo 0).toInt, (bg 0).toInt, (bh 0).toInt, (bd 0).toInt)] = _
    rw [e3, e4, pk_us, pk_us, ey, k0]
  refine ⟨fun _ => vs_stk bo bg bh bd 1, fun _ => 0, fun _ => tst stk, ⟨fun j j1 j2 _ => by omega, fun j _ _ _ => ⟨Int.le_refl _, fun w hw => ?_⟩, by rw [eS]; rfl, rfl, by rw [eS]; rfl⟩, fun j j1 j2 => by omega, fun _ => ⟨by rw [eDn], eh.symm, rfl, by rw [s2.2.1]; exact eD, fun k hk => by omega, ?_, by omega⟩⟩
  · rw [eS] at hw
    rcases List.mem_cons.mp hw with e | e
    · rw [e]
      exact Int.le_refl _
    · cases e
  · rw [show (D.toInt - 1).toNat = 0 by omega, e3, pk_us]
    omega
/-- what is open where an else stands is no loop -/
theorem vF2_else (F : vF2 lt rt nl gv tk gt fc gc f gop gpt gla gva a m i D h bo bg bh bd stk sb) (s2 : rs_I a m gop gpt gel gva lc sb) (hi : a ≤ i) (him : i < m) (h5 : (gop i).toInt = 5) : 2 ≤ D.toInt ∧ (bo (D.toInt - 1).toNat).toInt ≠ 3 := by
  obtain ⟨B, hh, T, k1, kt, k2⟩ := F
  obtain ⟨e1, e2, eT, e3, e4, e5, e6⟩ := k2 (by omega)
  obtain ⟨b, r, q1, q2, q3⟩ := (s2.2.2.2 i hi him).2.2.2.1 h5
  have hV := fun j j1 j2 => k1.1 j j1 j2 (by omega)
  obtain ⟨-, hk⟩ := vk_pre s2 (Nat.le_of_lt him) hV k1.2.2.1 (i - a) (by omega)
  rw [show a + (i - a) = i by omega] at hk
  obtain ⟨x, x1, x2⟩ := hk 0 b (by rw [q1]; rfl)
  rw [q1, List.length_cons] at e3
  have eD : (D.toNatClampNeg : Int) = D.toInt := i32_clamp (by omega)
  rw [e1, vs_get _ _ (by omega)] at x1
  have ex := (Option.some.inj x1).symm
  rw [ex] at x2
  refine ⟨by omega, fun z => ?_⟩
  have := x2 (by rw [show D.toNatClampNeg - 1 - 0 = (D.toInt - 1).toNat by omega]; exact z)
  omega
def vfin2 (lt : Nat → Nat → Int) (rt nl gv tk gt : Nat → Int) (fc gc : Int) (f : Nat) (gop gpt gel gla : Nat → Int32) (gva : Nat → Int64) (lc : Int) (a m : Nat) : Prop :=
  ∃ sb B hh T, rs_I a m gop gpt gel gva lc sb ∧ sb m = [] ∧ (gop m).toInt = 11 ∧ vI nl gv tk fc gc f gop gva a m m B hh ∧ ∀ j, a ≤ j → j ≤ m → vyj lt rt tk gt f gop gpt gla gva B hh T j
theorem vF2_fin (F : vF2 lt rt nl gv tk gt fc gc f gop gpt gla gva a m (m + 1) D h bo bg bh bd stk sb) (s2 : rs_I a m gop gpt gel gva lc sb) (s3 : sb m = []) (s4 : (gop m).toInt = 11) : vfin2 lt rt nl gv tk gt fc gc f gop gpt gel gla gva lc a m := by
  obtain ⟨B, hh, T, ⟨k1, k2, k3⟩, kt, -⟩ := F
  exact ⟨sb, B, hh, T, s2, s3, s4, ⟨fun j j1 j2 j3 => k1 j j1 (by omega) j3, fun j j1 j2 j3 => k2 j j1 (by omega) j3, k3⟩, fun j j1 j2 => kt j j1 (by omega)⟩
end VFT
theorem nxo_11 {b : Nat → Int32} {q : Nat} : nxo b 11 q = q := rfl

section VC
variable {nl gv tk : Nat → Int} {fc gc lc : Int} {f a m : Nat} {gop gpt gel gla : Nat → Int32} {gva : Nat → Int64} {sb : Nat → List Nat} {B : Nat → List vt} {hh : Nat → Int} {an : mc_A}
set_option maxHeartbeats 2000000 in
theorem vn_at {i f2 : Nat} {bs : List (Nat × Int)} {h : Int} (hI : rs_I a m gop gpt gel gva lc sb) (hm : sb m = []) (hmo : (gop m).toInt = 11) (hm5 : (m : Int) < 5000) (hV : ∀ i, a ≤ i → i < m → vr nl gv tk fc gc f (gop i).toInt (gva i).toInt (B i) (hh i) (B (i + 1)) (hh (i + 1))) (hB : (B a).length = 1)
    (h00 : ∀ i, a ≤ i → i ≤ m → 0 ≤ hh i ∧ ∀ x ∈ B i, 0 ≤ x.2.2.1) (hnl : nl f ≤ 68) (hlc : lc ≤ 2000) (hla : ∀ j : Nat, (j : Int) < lc → 0 ≤ (gla j).toInt)
    (han : ∀ i, a ≤ i → i ≤ m → an i = vann f gop sb B hh i) (h1 : a ≤ i) (h2 : i ≤ m) (e : an i = some (f2, bs, h)) : f2 = f ∧ 0 ≤ h ∧ mc_at an nl gv tk fc gc gop gpt gel gla gva i f bs h := by
  rw [han i h1 h2] at e
  obtain ⟨ef, rfl, hlt, hl1, hl2⟩ := vann_inv e
  have ef := ef.symm
  subst ef
  have VH : ∀ j, a ≤ j → j ≤ m → vh gop gel gva sb B hh j := fun j q1 q2 => by
    have := vh_all hI hV hB (j - a) (by omega)
    rw [show a + (j - a) = j by omega] at this
    exact this
  by_cases hne : ¬ i < m
  · have him : i = m := by omega
    subst him
    obtain ⟨l1, l2⟩ := hl1 (Or.inr hm)
    have h0 := (h00 i h1 (Nat.le_refl _)).1
    refine ⟨rfl, by omega, ?_⟩
    unfold mc_at
    rw [hm, hmo]
    refine ⟨fun z => ?_, fun z => ?_, fun z => ?_, fun z => ?_, fun _ b r z => ?_, fun z => ?_, fun z => ?_, fun z => ?_, fun z => ?_, fun z => ?_, fun z => ?_, fun z => ?_, fun z => ?_, fun z => ?_, fun z => ?_, fun z => ?_, fun z => ?_, fun z => ?_, fun z => ?_, fun z => ?_, fun z => ?_, fun z => ?_, fun z => ?_, fun z => ?_, by omega⟩
    · omega
    · omega
    · omega
    · omega
    · cases z
    all_goals omega
  have him : i < m := Decidable.not_not.mp hne
  obtain ⟨v1, v2, v3, v4, v5, v6, v7⟩ := hI.2.2.2 i h1 him
  have hS := (hI.2.2.1 i h1 h2)
  have hop := v1.2.2.2
  have hL := (VH i h1 h2).1
  have hlen : (vzp (sb i) (B i)).length = (sb i).length := vzp_len hL
  obtain ⟨o, g, hb, d, R, eB, hbh, c0, c14, c1, hq9r⟩ := hV i h1 him
  obtain ⟨c2, c4, c5, c11, c13, c16, c26, c27, cv, cg, hq9r⟩ := hq9r
  obtain ⟨c01, c10, c20, c11b, c21⟩ := hq9r
  have hb0 : 0 ≤ hb := (h00 i h1 h2).2 (o, g, hb, d) (by rw [eB]; exact List.mem_cons_self)
  by_cases p11 : (gop i).toInt = 11
  · obtain ⟨b, r, e1, e2, -⟩ := v5 p11
    have hne : sb i ≠ [] := by rw [e1]; intro z; cases z
    have eh := hl2 ⟨p11, hne⟩
    rw [eB] at hlt eh hL
    have hR : R ≠ [] := by
      intro z
      rw [z, e1] at hL
      simp at hL
    obtain ⟨y1, y2⟩ := (c11 p11).2.2 hR
    have eh' : h = hb + ga g := eh
    have hga : 0 ≤ ga g := by unfold ga; split <;> omega
    refine ⟨rfl, by omega, ?_⟩
    have nx : an (i + 1) = some (f, vzp r R, h) := by
      rw [han _ (by omega) (by omega), vann_live hm (hV _ (by omega)) (by omega) (by rw [y1]; exact hlt), e2, y1, y2, eh']
    unfold mc_at
    rw [p11]
    refine ⟨fun z => ?_, fun z => ?_, fun z => ?_, fun z => ?_, fun _ b9 r9 z => ?_, fun z => ?_, fun z => ?_, fun z => ?_, fun z => ?_, fun z => ?_, fun z => ?_, fun z => ?_, fun z => ?_, fun z => ?_, fun z => ?_, fun z => ?_, fun z => ?_, fun z => ?_, fun z => ?_, fun z => ?_, fun z => ?_, fun z => ?_, fun z => ?_, fun z => ?_, by omega⟩
    · omega
    · omega
    · omega
    · omega
    · rw [e1, eB] at z
      have z' : (b, hb) :: vzp r R = b9 :: r9 := z
      injection z' with z1 z2
      rw [← z2]
      exact nx
    all_goals omega
  obtain ⟨hlv, eh⟩ := hl1 (Or.inl p11)
  subst eh
  have hd : d = 0 := by rw [eB] at hlv; exact (vlive_cons.mp hlv).1
  have h0 := (h00 i h1 h2).1
  have nx : ∀ h', B (i + 1) = B i → hh (i + 1) = h' → (gop i).toInt ≠ 2 → (gop i).toInt ≠ 3 → (gop i).toInt ≠ 4 → an (i + 1) = some (f, vzp (sb i) (B i), h') := by
    intro h' y1 y2 n2 n3 n4
    rw [han _ (by omega) (by omega), vann_live hm (hV _ (by omega)) (by omega) (by rw [y1]; exact hlv), v6 n2 n3 n4 p11, y1, y2]
  have nq : ∀ n m', vq (B i) (B (i + 1)) hb d (hh i) (hh (i + 1)) n m' → (gop i).toInt ≠ 2 → (gop i).toInt ≠ 3 → (gop i).toInt ≠ 4 → n ≤ hh i ∧ an (i + 1) = some (f, vzp (sb i) (B i), hh i - n + m') := by
    intro n m' q n2 n3 n4
    obtain ⟨q1, q2, q3⟩ := q
    obtain ⟨q4, q5⟩ := q3 hd
    exact ⟨by omega, nx _ q1 q5 n2 n3 n4⟩
  have lab : ∀ l : Int, 0 ≤ l → mc_lab an gop gpt gva f (vzp (sb i) (B i)) l := fun l hl => vn_lab hI hm hm5 hV hB han h1 him hlv hl
  refine ⟨rfl, h0, ?_⟩
  unfold mc_at
  refine ⟨fun z => ?_, fun z => ?_, fun z => ?_, fun z => ?_, fun z => absurd z p11, fun z => ?_, fun z => ?_, fun z => ?_, fun z => ?_, fun z => ?_, fun z => ?_, fun z => ?_, fun z => ?_, fun z => ?_, fun z => ?_, fun z => ?_, fun z => ?_, fun z => ?_, fun z => ?_, fun z => ?_, fun z => ?_, fun z => ?_, fun z => ?_, fun z => ?_, ?_⟩
  · obtain ⟨y1, y2⟩ := c1 z
    exact nx _ y1 y2 (by omega) (by omega) (by omega)
  · obtain ⟨y1, y2⟩ := c2 z
    have es := v2 (by omega)
    have hlen2 := ((hI.2.2.1 (i + 1) (by omega) (by omega)).2.2)
    rw [es, List.length_cons] at hlen2
    refine ⟨by omega, ?_⟩
    rw [han _ (by omega) (by omega), vann_live hm (hV _ (by omega)) (by omega) (by rw [y1]; exact vlive_cons.mpr ⟨rfl, hlv⟩), es, y1, y2]
    rfl
  · obtain ⟨y1, y2, y3⟩ := c4 z
    obtain ⟨y4, y5⟩ := y3 hd
    have es := v2 (by omega)
    have hlen2 := ((hI.2.2.1 (i + 1) (by omega) (by omega)).2.2)
    rw [es, List.length_cons] at hlen2
    have hmem : i ∈ sb (i + 1) := by rw [es]; exact List.mem_cons_self
    obtain ⟨p, p1, p2, p3, ⟨r, p4, p5⟩, p6, p7⟩ := rs_close hI hm (m - (i + 1)) (i + 1) (by omega) (by omega) hmem
    obtain ⟨o9, d9, w1, w2, w3, w4⟩ := (VH p (by omega) (by omega)).2 0 i (by rw [p4]; rfl)
    refine ⟨by omega, by omega, ?_, fun z1 => ?_, fun z1 => ?_⟩
    · rw [han _ (by omega) (by omega), vann_live hm (hV _ (by omega)) (by omega) (by rw [y1]; exact vlive_cons.mpr ⟨rfl, hlv⟩), es, y1, y5]
      rfl
    · rcases v3 z with w | ⟨e9, x1, x2, x3, x4, r9, x5⟩
      · omega
      · rw [show (gel i).toInt.toNat = e9 by omega]
        refine ⟨by omega, ?_⟩
        obtain ⟨o8, d8, u1, u2, u3, -⟩ := (VH e9 (by omega) (by omega)).2 0 i (by rw [x5]; rfl)
        obtain ⟨oe, ge, he, de, Re, eBe, -, -, -, -, -, -, ce5, -⟩ := hV e9 (by omega) x3
        obtain ⟨t1, t2, -⟩ := ce5 x4
        rw [eBe] at u1 u3
        have u3' : Re = B i := by simpa using u3
        have u1' : (oe, ge, he, de) = (o8, (gva i).toInt, hh (i + 1), d8) := by simpa using u1
        injection u1' with k1 k2
        injection k2 with k2 k3
        injection k3 with k3 k4
        have es9 : sb (e9 + 1) = sb e9 := (hI.2.2.2 e9 (by omega) x3).2.2.2.2.2.1 (by omega) (by omega) (by omega) (by omega)
        rw [x5] at u2
        have u2' : r9 = sb i := by simpa using u2
        rw [han _ (by omega) (by omega), vann_live hm (hV _ (by omega)) (by omega) (by rw [t1, u3']; exact vlive_cons.mpr ⟨rfl, hlv⟩), es9, x5, t1, t2, u2', u3', k3, y5]
        rfl
    · obtain ⟨op_, gp_, hbp, dp_, Rp, eBp, -, -, -, -, -, -, -, cp11, -⟩ := hV p (by omega) p2
      rw [eBp] at w1 w3
      have w3' : Rp = B i := by simpa using w3
      have w1' : (op_, gp_, hbp, dp_) = (o9, (gva i).toInt, hh (i + 1), d9) := by simpa using w1
      injection w1' with x1 x2
      injection x2 with x2 x3
      injection x3 with x3 x4
      have hR : Rp ≠ [] := by
        rw [w3', eB]
        intro e
        cases e
      obtain ⟨k1, k2⟩ := (cp11 p3).2.2 hR
      have g64 := (cp11 p3).2.1 (by rw [x1]; exact w4 z z1)
      rw [p4] at w2
      have w2' : r = sb i := by simpa using w2
      have e9 : (gpt i).toInt.toNat = p := by omega
      refine ⟨by omega, by omega, ?_⟩
      rw [e9, han _ (by omega) (by omega), vann_live hm (hV _ (by omega)) (by omega) (by rw [k1, w3']; exact hlv), p5, w2', k1, w3', k2, g64, x3, y5]
      show some (f, vzp (sb i) (B i), hh i - 1 + 0) = _
      rw [Int.add_zero]
  · obtain ⟨b, r, q1, q2, q3⟩ := v4 z
    obtain ⟨p, p1, p2, p3, ⟨r2, p4, p5⟩, p6, p7⟩ := rs_close (b := b) hI hm (m - i) i (by omega) h1 (by rw [q1]; exact List.mem_cons_self)
    have p7' := p7 (by omega)
    rw [show (gel b).toNatClampNeg = i from i32_nat q3] at p7'
    obtain ⟨o9, d9, w1, w2, w3, -⟩ := (VH p (by omega) (by omega)).2 0 b (by rw [p4]; rfl)
    obtain ⟨o8, d8, u1, u2, u3, -⟩ := (VH i h1 h2).2 0 b (by rw [q1]; rfl)
    obtain ⟨op_, gp_, hbp, dp_, Rp, eBp, -, -, -, -, -, -, -, cp11, -⟩ := hV p (by omega) p2
    rw [eBp] at w1 w3
    rw [eB] at u1 u3
    have w3' : Rp = B b := by simpa using w3
    have w1' : (op_, gp_, hbp, dp_) = (o9, (gva b).toInt, hh (b + 1), d9) := by simpa using w1
    injection w1' with x1 x2
    injection x2 with x2 x3
    injection x3 with x3 x4
    have u3' : R = B b := by simpa using u3
    have u1' : (o, g, hb, d) = (o8, (gva b).toInt, hh (b + 1), d8) := by simpa using u1
    injection u1' with k1 k2
    injection k2 with k2 k3
    injection k3 with k3 k4
    have hR : R = Rp := by rw [w3', u3']
    rw [q1] at u2
    have u2' : r = sb b := by simpa using u2
    rw [p4] at w2
    have w2' : r2 = sb b := by simpa using w2
    have hlR : vlive R = true := by rw [eB] at hlv; exact (vlive_cons.mp hlv).2
    refine ⟨by omega, ?_⟩
    rw [show (gpt i).toInt.toNat = p by omega, han _ (by omega) (by omega)]
    unfold vann
    rw [if_pos ⟨p3, by rw [p4]; intro e; cases e⟩, eBp, List.tail_cons, if_pos (by rw [← hR]; exact hlR), p4, q1, eB, w2', ← u2', ← hR]
    have eh : hh i = hb + ga g := (c5 z).2.2 hd
    show some (f, (b, hbp) :: vzp r R, hbp + ga gp_) = some (f, (b, hb) :: vzp r R, hh i)
    rw [eh, x2, x3, k2, k3]
  · have w := v1.2.1 (by omega)
    exact ⟨w.2, lab _ w.1⟩
  · have w := v1.2.1 (by omega)
    obtain ⟨y1, y2⟩ := nq _ _ (c13 z) (by omega) (by omega) (by omega)
    exact ⟨y1, w.2, lab _ w.1, by rw [y2, Int.add_zero]⟩
  · obtain ⟨w1, w2, w3⟩ := v1.2.2.1 z
    have y := c14 z hd
    exact ⟨by omega, w1, w2, by omega, fun k hk => lab _ (hla _ (by omega))⟩
  · obtain ⟨y1, y2, y3⟩ := c16 z
    obtain ⟨y4, y5⟩ := nq _ _ y3 (by omega) (by omega) (by omega)
    exact ⟨y1, y2, y4, y5⟩
  · obtain ⟨y1, y2⟩ := nq _ _ (c26 z) (by omega) (by omega) (by omega)
    exact ⟨y1, by rw [y2, Int.add_zero]⟩
  · obtain ⟨y1, y2⟩ := nq _ _ (c27 z) (by omega) (by omega) (by omega)
    exact ⟨y1, by rw [y2, show hh i - 3 + 1 = hh i - 2 by omega]⟩
  · exact ⟨(cv z).1, (cv z).2, hnl⟩
  · obtain ⟨y1, y2⟩ := nq _ _ (c01 (by omega)) (by omega) (by omega) (by omega)
    rw [y2, Int.sub_zero]
  · obtain ⟨y1, y2⟩ := nq _ _ (c10 (by omega)) (by omega) (by omega) (by omega)
    exact ⟨y1, by rw [y2, Int.add_zero]⟩
  · obtain ⟨y1, y2⟩ := nq _ _ (c11b (by omega)) (by omega) (by omega) (by omega)
    exact ⟨y1, by rw [y2, show hh i - 1 + 1 = hh i by omega]⟩
  · obtain ⟨y1, y2⟩ := nq _ _ (c01 (by omega)) (by omega) (by omega) (by omega)
    obtain ⟨w1, w2⟩ := cg (by omega)
    exact ⟨w1, w2, by rw [y2, Int.sub_zero]⟩
  · obtain ⟨y1, y2⟩ := nq _ _ (c10 (by omega)) (by omega) (by omega) (by omega)
    obtain ⟨w1, w2⟩ := cg (by omega)
    exact ⟨w1, w2, y1, by rw [y2, Int.add_zero]⟩
  · obtain ⟨y1, y2⟩ := nq _ _ (c01 (by omega)) (by omega) (by omega) (by omega)
    rw [y2, Int.sub_zero]
  · obtain ⟨y1, y2⟩ := nq _ _ (c11b (by omega)) (by omega) (by omega) (by omega)
    exact ⟨y1, by rw [y2, show hh i - 1 + 1 = hh i by omega]⟩
  · obtain ⟨y1, y2⟩ := nq _ _ (c20 z) (by omega) (by omega) (by omega)
    exact ⟨y1, by rw [y2, Int.add_zero]⟩
  · obtain ⟨y1, y2⟩ := nq _ _ (c11b (by omega)) (by omega) (by omega) (by omega)
    exact ⟨y1, by rw [y2, show hh i - 1 + 1 = hh i by omega]⟩
  · obtain ⟨y1, y2⟩ := nq _ _ (c01 (by omega)) (by omega) (by omega) (by omega)
    rw [y2, Int.sub_zero]
  · obtain ⟨y1, y2⟩ := nq _ _ (c11b (by omega)) (by omega) (by omega) (by omega)
    exact ⟨y1, by rw [y2, show hh i - 1 + 1 = hh i by omega]⟩
  · obtain ⟨y1, y2⟩ := nq _ _ (c21 z) (by omega) (by omega) (by omega)
    exact ⟨y1, by rw [y2, show hh i - 2 + 1 = hh i - 1 by omega]⟩
  · clear c0 c14 c1 c2 c4 c5 c11 c13 c16 c26 c27 cv cg c01 c10 c20 c11b c21 v1 v2 v3 v4 v5 v6 v7 nx nq lab VH
    omega
end VC

section q_24b
/-! the picture is right at each instruction -/
section VB
variable {nl gv tk : Nat → Int} {fc gc lc : Int} {f a m : Nat} {gop gpt gel gla : Nat → Int32} {gva : Nat → Int64} {sb : Nat → List Nat} {B : Nat → List vt} {hh : Nat → Int} {an : mc_A}
theorem vann_live {i : Nat} (hm : sb m = []) (hV : i < m → vr nl gv tk fc gc f (gop i).toInt (gva i).toInt (B i) (hh i) (B (i + 1)) (hh (i + 1))) (hi : i ≤ m) (hl : vlive (B i) = true) : vann f gop sb B hh i = some (f, vzp (sb i) (B i), hh i) := by
  unfold vann
  by_cases q : (gop i).toInt = 11 ∧ sb i ≠ []
  · rw [if_pos q]
    have him : i < m := by
      rcases Nat.lt_or_eq_of_le hi with w | w
      · exact w
      · exact absurd (by rw [w]; exact hm) q.2
    obtain ⟨o, g, hb, d, R, eB, -, -, -, -, -, -, -, c11, -⟩ := hV him
    rw [eB] at hl ⊢
    obtain ⟨l1, l2⟩ := vlive_cons.mp hl
    have e := (c11 q.1).1 l1
    rw [List.tail_cons, if_pos l2, e]
    rfl
  · rw [if_neg q, if_pos hl]
theorem vann_inv {i f2 : Nat} {bs : List (Nat × Int)} {h : Int} (e : vann f gop sb B hh i = some (f2, bs, h)) : f2 = f ∧ bs = vzp (sb i) (B i) ∧ vlive (B i).tail = true ∧ (((gop i).toInt ≠ 11 ∨ sb i = []) → vlive (B i) = true ∧ h = hh i) ∧ ((gop i).toInt = 11 ∧ sb i ≠ [] → h = vtop (B i)) := by
  unfold vann at e
  by_cases q : (gop i).toInt = 11 ∧ sb i ≠ []
  · rw [if_pos q] at e
    split at e
    · rename_i w
      injection e with e
      injection e with e1 e2
      injection e2 with e2 e3
      exact ⟨e1.symm, e2.symm, w, fun z => absurd q (by rcases z with z | z; exact fun y => z y.1; exact fun y => y.2 z), fun _ => e3.symm⟩
    · cases e
  · rw [if_neg q] at e
    split at e
    · rename_i w
      injection e with e
      injection e with e1 e2
      injection e2 with e2 e3
      exact ⟨e1.symm, e2.symm, by rw [← List.drop_one]; exact vlive_drop 1 w, fun _ => ⟨w, e3.symm⟩, fun z => absurd z q⟩
    · cases e
theorem vn_lab {i : Nat} {l : Int} (hI : rs_I a m gop gpt gel gva lc sb) (hm : sb m = []) (hm5 : (m : Int) < 5000) (hV : ∀ i, a ≤ i → i < m → vr nl gv tk fc gc f (gop i).toInt (gva i).toInt (B i) (hh i) (B (i + 1)) (hh (i + 1))) (hB : (B a).length = 1)
    (han : ∀ i, a ≤ i → i ≤ m → an i = vann f gop sb B hh i) (h1 : a ≤ i) (h2 : i < m) (hl : vlive (B i) = true) (h0 : 0 ≤ l) : mc_lab an gop gpt gva f (vzp (sb i) (B i)) l := by
  refine ⟨h0, fun n b _ hn => ?_⟩
  obtain ⟨y, e1, e2, e3⟩ := vzp_get hn
  have VH : ∀ j, a ≤ j → j ≤ m → vh gop gel gva sb B hh j := fun j q1 q2 => by
    have := vh_all hI hV hB (j - a) (by (first | (apply Int.le_antisymm <;> omega) | omega))
    rw [show a + (j - a) = j by (first | (apply Int.le_antisymm <;> omega) | omega)] at this
    exact this
  obtain ⟨o, d, q1, q2, q3, -⟩ := (VH i h1 (by (first | (apply Int.le_antisymm <;> omega) | omega))).2 n b.1 e1
  have ey : y = (o, (gva b.1).toInt, hh (b.1 + 1), d) := by rw [e2] at q1; exact Option.some.inj q1
  rw [ey] at e3
  have hmem : b.1 ∈ sb i := List.mem_of_getElem? e1
  obtain ⟨b1, b2, b3⟩ := (hI.2.2.1 i h1 (by (first | (apply Int.le_antisymm <;> omega) | omega))).1 b.1 hmem
  have hlx : vlive (B b.1) = true := by rw [← q3]; exact vlive_drop _ hl
  have dn1 : (vzp (sb i) (B i)).drop (n + 1) = vzp (sb b.1) (B b.1) := by rw [vzp_drop, q2, q3]
  have hbm : b.1 + 1 ≤ m := by (first | (apply Int.le_antisymm <;> omega) | omega)
  constructor
  · intro z3
    obtain ⟨ob, gb, hbb, db, Rb, eB, -, -, -, -, c2, -⟩ := hV b.1 b1 (by (first | (apply Int.le_antisymm <;> omega) | omega))
    obtain ⟨p1, p2⟩ := c2 (Or.inr z3)
    have hs := (hI.2.2.2 b.1 b1 (by (first | (apply Int.le_antisymm <;> omega) | omega))).2.1 (by (first | (apply Int.le_antisymm <;> omega) | omega))
    have hl1 : vlive (B (b.1 + 1)) = true := by rw [p1]; exact vlive_cons.mpr ⟨rfl, hlx⟩
    rw [han _ (by (first | (apply Int.le_antisymm <;> omega) | omega)) hbm, vann_live hm (hV _ (by (first | (apply Int.le_antisymm <;> omega) | omega))) hbm hl1, e3]
    have ed : (vzp (sb i) (B i)).drop n = b :: (vzp (sb i) (B i)).drop (n + 1) := by
      obtain ⟨w1, w2⟩ := List.getElem?_eq_some_iff.mp hn
      rw [List.drop_eq_getElem_cons w1, w2]
    rw [ed, dn1, hs, p1]
    have : vzp (b.1 :: sb b.1) (((gop b.1).toInt, (gva b.1).toInt, hh b.1, 0) :: B b.1) = (b.1, hh b.1) :: vzp (sb b.1) (B b.1) := rfl
    rw [this, ← p2, show (b.1, hh (b.1 + 1)) = b from Prod.ext rfl e3.symm]
  · intro z3
    obtain ⟨p, p1, p2, p3, ⟨r, p4, p5⟩, p6, -⟩ := rs_close hI hm (m - i) i (by (first | (apply Int.le_antisymm <;> omega) | omega)) h1 hmem
    obtain ⟨o9, d9, w1, w2, w3, -⟩ := (VH p (by (first | (apply Int.le_antisymm <;> omega) | omega)) (by (first | (apply Int.le_antisymm <;> omega) | omega))).2 0 b.1 (by rw [p4]; rfl)
    obtain ⟨op_, gp_, hbp, dp_, Rp, eB, -, -, -, -, -, -, -, c11, -⟩ := hV p (by (first | (apply Int.le_antisymm <;> omega) | omega)) p2
    rw [eB] at w1 w3
    have w3' : Rp = B b.1 := by simpa using w3
    have w1' : (op_, gp_, hbp, dp_) = (o9, (gva b.1).toInt, hh (b.1 + 1), d9) := by simpa using w1
    injection w1' with x1 x2
    injection x2 with x2 x3
    injection x3 with x3 x4
    have hR : Rp ≠ [] := by
      rw [w3']
      intro e
      have := (VH b.1 b1 (by (first | (apply Int.le_antisymm <;> omega) | omega))).1
      rw [e] at this
      simp at this
    obtain ⟨y1, y2⟩ := (c11 p3).2.2 hR
    rw [w3'] at y1
    rw [p4] at w2
    have w2' : r = sb b.1 := by simpa using w2
    have e9 : (gpt b.1).toInt.toNat = p := by (first | (apply Int.le_antisymm <;> omega) | omega)
    refine ⟨by (first | (apply Int.le_antisymm <;> omega) | omega), by (first | (apply Int.le_antisymm <;> omega) | omega), ?_⟩
    rw [e9, han _ (by (first | (apply Int.le_antisymm <;> omega) | omega)) (by (first | (apply Int.le_antisymm <;> omega) | omega)), vann_live hm (hV _ (by (first | (apply Int.le_antisymm <;> omega) | omega))) (by (first | (apply Int.le_antisymm <;> omega) | omega)) (by rw [y1]; exact hlx), dn1, p5, w2', y1, y2, x2, x3, e3]
    rfl
end VB
end q_24b
section q_24c
section VC
variable {nl gv tk : Nat → Int} {fc gc lc : Int} {f a m : Nat} {gop gpt gel gla : Nat → Int32} {gva : Nat → Int64} {sb : Nat → List Nat} {B : Nat → List vt} {hh : Nat → Int} {an : mc_A}
set_option maxHeartbeats 2000000 in
theorem vn_at {i f2 : Nat} {bs : List (Nat × Int)} {h : Int} (hI : rs_I a m gop gpt gel gva lc sb) (hm : sb m = []) (hmo : (gop m).toInt = 11) (hm5 : (m : Int) < 5000) (hV : ∀ i, a ≤ i → i < m → vr nl gv tk fc gc f (gop i).toInt (gva i).toInt (B i) (hh i) (B (i + 1)) (hh (i + 1))) (hB : (B a).length = 1)
    (h00 : ∀ i, a ≤ i → i ≤ m → 0 ≤ hh i ∧ ∀ x ∈ B i, 0 ≤ x.2.2.1) (hnl : nl f ≤ 68) (hlc : lc ≤ 2000) (hla : ∀ j : Nat, (j : Int) < lc → 0 ≤ (gla j).toInt)
    (han : ∀ i, a ≤ i → i ≤ m → an i = vann f gop sb B hh i) (h1 : a ≤ i) (h2 : i ≤ m) (e : an i = some (f2, bs, h)) : f2 = f ∧ 0 ≤ h ∧ mc_at an nl gv tk fc gc gop gpt gel gla gva i f bs h := by
  rw [han i h1 h2] at e
  obtain ⟨ef, rfl, hlt, hl1, hl2⟩ := vann_inv e
  have ef := ef.symm
  subst ef
  have VH : ∀ j, a ≤ j → j ≤ m → vh gop gel gva sb B hh j := fun j q1 q2 => by
    have := vh_all hI hV hB (j - a) (by (first | (apply Int.le_antisymm <;> omega) | omega))
    rw [show a + (j - a) = j by (first | (apply Int.le_antisymm <;> omega) | omega)] at this
    exact this
  by_cases hne : ¬ i < m
  · have him : i = m := by (first | (apply Int.le_antisymm <;> omega) | omega)
    subst him
    obtain ⟨l1, l2⟩ := hl1 (Or.inr hm)
    have h0 := (h00 i h1 (Nat.le_refl _)).1
    refine ⟨rfl, by (first | (apply Int.le_antisymm <;> omega) | omega), ?_⟩
    unfold mc_at
    rw [hm, hmo]
    refine ⟨fun z => ?_, fun z => ?_, fun z => ?_, fun z => ?_, fun _ b r z => ?_, fun z => ?_, fun z => ?_, fun z => ?_, fun z => ?_, fun z => ?_, fun z => ?_, fun z => ?_, fun z => ?_, fun z => ?_, fun z => ?_, fun z => ?_, fun z => ?_, fun z => ?_, fun z => ?_, fun z => ?_, fun z => ?_, fun z => ?_, fun z => ?_, fun z => ?_, by (first | (apply Int.le_antisymm <;> omega) | omega)⟩
    · (first | (apply Int.le_antisymm <;> omega) | omega)
    · (first | (apply Int.le_antisymm <;> omega) | omega)
    · (first | (apply Int.le_antisymm <;> omega) | omega)
    · (first | (apply Int.le_antisymm <;> omega) | omega)
    · cases z
    all_goals (first | (apply Int.le_antisymm <;> omega) | omega)
  have him : i < m := Decidable.not_not.mp hne
  obtain ⟨v1, v2, v3, v4, v5, v6, v7⟩ := hI.2.2.2 i h1 him
  have hS := (hI.2.2.1 i h1 h2)
  have hop := v1.2.2.2
  have hL := (VH i h1 h2).1
  have hlen : (vzp (sb i) (B i)).length = (sb i).length := vzp_len hL
  obtain ⟨o, g, hb, d, R, eB, hbh, c0, c14, c1, hq9r⟩ := hV i h1 him
  obtain ⟨c2, c4, c5, c11, c13, c16, c26, c27, cv, cg, hq9r⟩ := hq9r
  obtain ⟨c01, c10, c20, c11b, c21⟩ := hq9r
  have hb0 : 0 ≤ hb := (h00 i h1 h2).2 (o, g, hb, d) (by rw [eB]; exact List.mem_cons_self)
  by_cases p11 : (gop i).toInt = 11
  · obtain ⟨b, r, e1, e2, -⟩ := v5 p11
    have hne : sb i ≠ [] := by rw [e1]; intro z; cases z
    have eh := hl2 ⟨p11, hne⟩
    rw [eB] at hlt eh hL
    have hR : R ≠ [] := by
      intro z
      rw [z, e1] at hL
      simp at hL
    obtain ⟨y1, y2⟩ := (c11 p11).2.2 hR
    have eh' : h = hb + ga g := eh
    have hga : 0 ≤ ga g := by unfold ga; split <;> (first | (apply Int.le_antisymm <;> omega) | omega)
    refine ⟨rfl, by (first | (apply Int.le_antisymm <;> omega) | omega), ?_⟩
    have nx : an (i + 1) = some (f, vzp r R, h) := by
      rw [han _ (by (first | (apply Int.le_antisymm <;> omega) | omega)) (by (first | (apply Int.le_antisymm <;> omega) | omega)), vann_live hm (hV _ (by (first | (apply Int.le_antisymm <;> omega) | omega))) (by (first | (apply Int.le_antisymm <;> omega) | omega)) (by rw [y1]; exact hlt), e2, y1, y2, eh']
    unfold mc_at
    rw [p11]
    refine ⟨fun z => ?_, fun z => ?_, fun z => ?_, fun z => ?_, fun _ b9 r9 z => ?_, fun z => ?_, fun z => ?_, fun z => ?_, fun z => ?_, fun z => ?_, fun z => ?_, fun z => ?_, fun z => ?_, fun z => ?_, fun z => ?_, fun z => ?_, fun z => ?_, fun z => ?_, fun z => ?_, fun z => ?_, fun z => ?_, fun z => ?_, fun z => ?_, fun z => ?_, by (first | (apply Int.le_antisymm <;> omega) | omega)⟩
    · (first | (apply Int.le_antisymm <;> omega) | omega)
    · (first | (apply Int.le_antisymm <;> omega) | omega)
    · (first | (apply Int.le_antisymm <;> omega) | omega)
    · (first | (apply Int.le_antisymm <;> omega) | omega)
    · rw [e1, eB] at z
      have z' : (b, hb) :: vzp r R = b9 :: r9 := z
      injection z' with z1 z2
      rw [← z2]
      exact nx
    all_goals (first | (apply Int.le_antisymm <;> omega) | omega)
  obtain ⟨hlv, eh⟩ := hl1 (Or.inl p11)
  subst eh
  have hd : d = 0 := by rw [eB] at hlv; exact (vlive_cons.mp hlv).1
  have h0 := (h00 i h1 h2).1
  have nx : ∀ h', B (i + 1) = B i → hh (i + 1) = h' → (gop i).toInt ≠ 2 → (gop i).toInt ≠ 3 → (gop i).toInt ≠ 4 → an (i + 1) = some (f, vzp (sb i) (B i), h') := by
    intro h' y1 y2 n2 n3 n4
    rw [han _ (by (first | (apply Int.le_antisymm <;> omega) | omega)) (by (first | (apply Int.le_antisymm <;> omega) | omega)), vann_live hm (hV _ (by (first | (apply Int.le_antisymm <;> omega) | omega))) (by (first | (apply Int.le_antisymm <;> omega) | omega)) (by rw [y1]; exact hlv), v6 n2 n3 n4 p11, y1, y2]
  have nq : ∀ n m', vq (B i) (B (i + 1)) hb d (hh i) (hh (i + 1)) n m' → (gop i).toInt ≠ 2 → (gop i).toInt ≠ 3 → (gop i).toInt ≠ 4 → n ≤ hh i ∧ an (i + 1) = some (f, vzp (sb i) (B i), hh i - n + m') := by
    intro n m' q n2 n3 n4
    obtain ⟨q1, q2, q3⟩ := q
    obtain ⟨q4, q5⟩ := q3 hd
    exact ⟨by (first | (apply Int.le_antisymm <;> omega) | omega), nx _ q1 q5 n2 n3 n4⟩
  have lab : ∀ l : Int, 0 ≤ l → mc_lab an gop gpt gva f (vzp (sb i) (B i)) l := fun l hl => vn_lab hI hm hm5 hV hB han h1 him hlv hl
  refine ⟨rfl, h0, ?_⟩
  unfold mc_at
  refine ⟨fun z => ?_, fun z => ?_, fun z => ?_, fun z => ?_, fun z => absurd z p11, fun z => ?_, fun z => ?_, fun z => ?_, fun z => ?_, fun z => ?_, fun z => ?_, fun z => ?_, fun z => ?_, fun z => ?_, fun z => ?_, fun z => ?_, fun z => ?_, fun z => ?_, fun z => ?_, fun z => ?_, fun z => ?_, fun z => ?_, fun z => ?_, fun z => ?_, ?_⟩
  · obtain ⟨y1, y2⟩ := c1 z
    exact nx _ y1 y2 (by (first | (apply Int.le_antisymm <;> omega) | omega)) (by (first | (apply Int.le_antisymm <;> omega) | omega)) (by (first | (apply Int.le_antisymm <;> omega) | omega))
  · obtain ⟨y1, y2⟩ := c2 z
    have es := v2 (by (first | (apply Int.le_antisymm <;> omega) | omega))
    have hlen2 := ((hI.2.2.1 (i + 1) (by (first | (apply Int.le_antisymm <;> omega) | omega)) (by (first | (apply Int.le_antisymm <;> omega) | omega))).2.2)
    rw [es, List.length_cons] at hlen2
    refine ⟨by (first | (apply Int.le_antisymm <;> omega) | omega), ?_⟩
    rw [han _ (by (first | (apply Int.le_antisymm <;> omega) | omega)) (by (first | (apply Int.le_antisymm <;> omega) | omega)), vann_live hm (hV _ (by (first | (apply Int.le_antisymm <;> omega) | omega))) (by (first | (apply Int.le_antisymm <;> omega) | omega)) (by rw [y1]; exact vlive_cons.mpr ⟨rfl, hlv⟩), es, y1, y2]
    rfl
  · obtain ⟨y1, y2, y3⟩ := c4 z
    obtain ⟨y4, y5⟩ := y3 hd
    have es := v2 (by (first | (apply Int.le_antisymm <;> omega) | omega))
    have hlen2 := ((hI.2.2.1 (i + 1) (by (first | (apply Int.le_antisymm <;> omega) | omega)) (by (first | (apply Int.le_antisymm <;> omega) | omega))).2.2)
    rw [es, List.length_cons] at hlen2
    have hmem : i ∈ sb (i + 1) := by rw [es]; exact List.mem_cons_self
    obtain ⟨p, p1, p2, p3, ⟨r, p4, p5⟩, p6, p7⟩ := rs_close hI hm (m - (i + 1)) (i + 1) (by (first | (apply Int.le_antisymm <;> omega) | omega)) (by (first | (apply Int.le_antisymm <;> omega) | omega)) hmem
    obtain ⟨o9, d9, w1, w2, w3, w4⟩ := (VH p (by (first | (apply Int.le_antisymm <;> omega) | omega)) (by (first | (apply Int.le_antisymm <;> omega) | omega))).2 0 i (by rw [p4]; rfl)
    refine ⟨by (first | (apply Int.le_antisymm <;> omega) | omega), by (first | (apply Int.le_antisymm <;> omega) | omega), ?_, fun z1 => ?_, fun z1 => ?_⟩
    · rw [han _ (by (first | (apply Int.le_antisymm <;> omega) | omega)) (by (first | (apply Int.le_antisymm <;> omega) | omega)), vann_live hm (hV _ (by (first | (apply Int.le_antisymm <;> omega) | omega))) (by (first | (apply Int.le_antisymm <;> omega) | omega)) (by rw [y1]; exact vlive_cons.mpr ⟨rfl, hlv⟩), es, y1, y5]
      rfl
    · rcases v3 z with w | ⟨e9, x1, x2, x3, x4, r9, x5⟩
      · (first | (apply Int.le_antisymm <;> omega) | omega)
      · rw [show (gel i).toInt.toNat = e9 by (first | (apply Int.le_antisymm <;> omega) | omega)]
        refine ⟨by (first | (apply Int.le_antisymm <;> omega) | omega), ?_⟩
        obtain ⟨o8, d8, u1, u2, u3, -⟩ := (VH e9 (by (first | (apply Int.le_antisymm <;> omega) | omega)) (by (first | (apply Int.le_antisymm <;> omega) | omega))).2 0 i (by rw [x5]; rfl)
        obtain ⟨oe, ge, he, de, Re, eBe, -, -, -, -, -, -, ce5, -⟩ := hV e9 (by (first | (apply Int.le_antisymm <;> omega) | omega)) x3
        obtain ⟨t1, t2, -⟩ := ce5 x4
        rw [eBe] at u1 u3
        have u3' : Re = B i := by simpa using u3
        have u1' : (oe, ge, he, de) = (o8, (gva i).toInt, hh (i + 1), d8) := by simpa using u1
        injection u1' with k1 k2
        injection k2 with k2 k3
        injection k3 with k3 k4
        have es9 : sb (e9 + 1) = sb e9 := (hI.2.2.2 e9 (by (first | (apply Int.le_antisymm <;> omega) | omega)) x3).2.2.2.2.2.1 (by (first | (apply Int.le_antisymm <;> omega) | omega)) (by (first | (apply Int.le_antisymm <;> omega) | omega)) (by (first | (apply Int.le_antisymm <;> omega) | omega)) (by (first | (apply Int.le_antisymm <;> omega) | omega))
        rw [x5] at u2
        have u2' : r9 = sb i := by simpa using u2
        rw [han _ (by (first | (apply Int.le_antisymm <;> omega) | omega)) (by (first | (apply Int.le_antisymm <;> omega) | omega)), vann_live hm (hV _ (by (first | (apply Int.le_antisymm <;> omega) | omega))) (by (first | (apply Int.le_antisymm <;> omega) | omega)) (by rw [t1, u3']; exact vlive_cons.mpr ⟨rfl, hlv⟩), es9, x5, t1, t2, u2', u3', k3, y5]
        rfl
    · obtain ⟨op_, gp_, hbp, dp_, Rp, eBp, -, -, -, -, -, -, -, cp11, -⟩ := hV p (by (first | (apply Int.le_antisymm <;> omega) | omega)) p2
      rw [eBp] at w1 w3
      have w3' : Rp = B i := by simpa using w3
      have w1' : (op_, gp_, hbp, dp_) = (o9, (gva i).toInt, hh (i + 1), d9) := by simpa using w1
      injection w1' with x1 x2
      injection x2 with x2 x3
      injection x3 with x3 x4
      have hR : Rp ≠ [] := by
        rw [w3', eB]
        intro e
        cases e
      obtain ⟨k1, k2⟩ := (cp11 p3).2.2 hR
      have g64 := (cp11 p3).2.1 (by rw [x1]; exact w4 z z1)
      rw [p4] at w2
      have w2' : r = sb i := by simpa using w2
      have e9 : (gpt i).toInt.toNat = p := by (first | (apply Int.le_antisymm <;> omega) | omega)
      refine ⟨by (first | (apply Int.le_antisymm <;> omega) | omega), by (first | (apply Int.le_antisymm <;> omega) | omega), ?_⟩
      rw [e9, han _ (by (first | (apply Int.le_antisymm <;> omega) | omega)) (by (first | (apply Int.le_antisymm <;> omega) | omega)), vann_live hm (hV _ (by (first | (apply Int.le_antisymm <;> omega) | omega))) (by (first | (apply Int.le_antisymm <;> omega) | omega)) (by rw [k1, w3']; exact hlv), p5, w2', k1, w3', k2, g64, x3, y5]
      show some (f, vzp (sb i) (B i), hh i - 1 + 0) = _
      rw [Int.add_zero]
  · obtain ⟨b, r, q1, q2, q3⟩ := v4 z
    obtain ⟨p, p1, p2, p3, ⟨r2, p4, p5⟩, p6, p7⟩ := rs_close (b := b) hI hm (m - i) i (by (first | (apply Int.le_antisymm <;> omega) | omega)) h1 (by rw [q1]; exact List.mem_cons_self)
    have p7' := p7 (by (first | (apply Int.le_antisymm <;> omega) | omega))
    rw [show (gel b).toNatClampNeg = i from i32_nat q3] at p7'
    obtain ⟨o9, d9, w1, w2, w3, -⟩ := (VH p (by (first | (apply Int.le_antisymm <;> omega) | omega)) (by (first | (apply Int.le_antisymm <;> omega) | omega))).2 0 b (by rw [p4]; rfl)
    obtain ⟨o8, d8, u1, u2, u3, -⟩ := (VH i h1 h2).2 0 b (by rw [q1]; rfl)
    obtain ⟨op_, gp_, hbp, dp_, Rp, eBp, -, -, -, -, -, -, -, cp11, -⟩ := hV p (by (first | (apply Int.le_antisymm <;> omega) | omega)) p2
    rw [eBp] at w1 w3
    rw [eB] at u1 u3
    have w3' : Rp = B b := by simpa using w3
    have w1' : (op_, gp_, hbp, dp_) = (o9, (gva b).toInt, hh (b + 1), d9) := by simpa using w1
    injection w1' with x1 x2
    injection x2 with x2 x3
    injection x3 with x3 x4
    have u3' : R = B b := by simpa using u3
    have u1' : (o, g, hb, d) = (o8, (gva b).toInt, hh (b + 1), d8) := by simpa using u1
    injection u1' with k1 k2
    injection k2 with k2 k3
    injection k3 with k3 k4
    have hR : R = Rp := by rw [w3', u3']
    rw [q1] at u2
    have u2' : r = sb b := by simpa using u2
    rw [p4] at w2
    have w2' : r2 = sb b := by simpa using w2
    have hlR : vlive R = true := by rw [eB] at hlv; exact (vlive_cons.mp hlv).2
    refine ⟨by (first | (apply Int.le_antisymm <;> omega) | omega), ?_⟩
    rw [show (gpt i).toInt.toNat = p by (first | (apply Int.le_antisymm <;> omega) | omega), han _ (by (first | (apply Int.le_antisymm <;> omega) | omega)) (by (first | (apply Int.le_antisymm <;> omega) | omega))]
    unfold vann
    rw [if_pos ⟨p3, by rw [p4]; intro e; cases e⟩, eBp, List.tail_cons, if_pos (by rw [← hR]; exact hlR), p4, q1, eB, w2', ← u2', ← hR]
    have eh : hh i = hb + ga g := (c5 z).2.2 hd
    show some (f, (b, hbp) :: vzp r R, hbp + ga gp_) = some (f, (b, hb) :: vzp r R, hh i)
    rw [eh, x2, x3, k2, k3]
  · have w := v1.2.1 (by (first | (apply Int.le_antisymm <;> omega) | omega))
    exact ⟨w.2, lab _ w.1⟩
  · have w := v1.2.1 (by (first | (apply Int.le_antisymm <;> omega) | omega))
    obtain ⟨y1, y2⟩ := nq _ _ (c13 z) (by (first | (apply Int.le_antisymm <;> omega) | omega)) (by (first | (apply Int.le_antisymm <;> omega) | omega)) (by (first | (apply Int.le_antisymm <;> omega) | omega))
    exact ⟨y1, w.2, lab _ w.1, by rw [y2, Int.add_zero]⟩
  · obtain ⟨w1, w2, w3⟩ := v1.2.2.1 z
    have y := c14 z hd
    exact ⟨by (first | (apply Int.le_antisymm <;> omega) | omega), w1, w2, by (first | (apply Int.le_antisymm <;> omega) | omega), fun k hk => lab _ (hla _ (by (first | (apply Int.le_antisymm <;> omega) | omega)))⟩
  · obtain ⟨y1, y2, y3⟩ := c16 z
    obtain ⟨y4, y5⟩ := nq _ _ y3 (by (first | (apply Int.le_antisymm <;> omega) | omega)) (by (first | (apply Int.le_antisymm <;> omega) | omega)) (by (first | (apply Int.le_antisymm <;> omega) | omega))
    exact ⟨y1, y2, y4, y5⟩
  · obtain ⟨y1, y2⟩ := nq _ _ (c26 z) (by (first | (apply Int.le_antisymm <;> omega) | omega)) (by (first | (apply Int.le_antisymm <;> omega) | omega)) (by (first | (apply Int.le_antisymm <;> omega) | omega))
    exact ⟨y1, by rw [y2, Int.add_zero]⟩
  · obtain ⟨y1, y2⟩ := nq _ _ (c27 z) (by (first | (apply Int.le_antisymm <;> omega) | omega)) (by (first | (apply Int.le_antisymm <;> omega) | omega)) (by (first | (apply Int.le_antisymm <;> omega) | omega))
    exact ⟨y1, by rw [y2, show hh i - 3 + 1 = hh i - 2 by (first | (apply Int.le_antisymm <;> omega) | omega)]⟩
  · exact ⟨(cv z).1, (cv z).2, hnl⟩
  · obtain ⟨y1, y2⟩ := nq _ _ (c01 (by (first | (apply Int.le_antisymm <;> omega) | omega))) (by (first | (apply Int.le_antisymm <;> omega) | omega)) (by (first | (apply Int.le_antisymm <;> omega) | omega)) (by (first | (apply Int.le_antisymm <;> omega) | omega))
    rw [y2, Int.sub_zero]
  · obtain ⟨y1, y2⟩ := nq _ _ (c10 (by (first | (apply Int.le_antisymm <;> omega) | omega))) (by (first | (apply Int.le_antisymm <;> omega) | omega)) (by (first | (apply Int.le_antisymm <;> omega) | omega)) (by (first | (apply Int.le_antisymm <;> omega) | omega))
    exact ⟨y1, by rw [y2, Int.add_zero]⟩
  · obtain ⟨y1, y2⟩ := nq _ _ (c11b (by (first | (apply Int.le_antisymm <;> omega) | omega))) (by (first | (apply Int.le_antisymm <;> omega) | omega)) (by (first | (apply Int.le_antisymm <;> omega) | omega)) (by (first | (apply Int.le_antisymm <;> omega) | omega))
    exact ⟨y1, by rw [y2, show hh i - 1 + 1 = hh i by (first | (apply Int.le_antisymm <;> omega) | omega)]⟩
  · obtain ⟨y1, y2⟩ := nq _ _ (c01 (by (first | (apply Int.le_antisymm <;> omega) | omega))) (by (first | (apply Int.le_antisymm <;> omega) | omega)) (by (first | (apply Int.le_antisymm <;> omega) | omega)) (by (first | (apply Int.le_antisymm <;> omega) | omega))
    obtain ⟨w1, w2⟩ := cg (by (first | (apply Int.le_antisymm <;> omega) | omega))
    exact ⟨w1, w2, by rw [y2, Int.sub_zero]⟩
  · obtain ⟨y1, y2⟩ := nq _ _ (c10 (by (first | (apply Int.le_antisymm <;> omega) | omega))) (by (first | (apply Int.le_antisymm <;> omega) | omega)) (by (first | (apply Int.le_antisymm <;> omega) | omega)) (by (first | (apply Int.le_antisymm <;> omega) | omega))
    obtain ⟨w1, w2⟩ := cg (by (first | (apply Int.le_antisymm <;> omega) | omega))
    exact ⟨w1, w2, y1, by rw [y2, Int.add_zero]⟩
  · obtain ⟨y1, y2⟩ := nq _ _ (c01 (by (first | (apply Int.le_antisymm <;> omega) | omega))) (by (first | (apply Int.le_antisymm <;> omega) | omega)) (by (first | (apply Int.le_antisymm <;> omega) | omega)) (by (first | (apply Int.le_antisymm <;> omega) | omega))
    rw [y2, Int.sub_zero]
  · obtain ⟨y1, y2⟩ := nq _ _ (c11b (by (first | (apply Int.le_antisymm <;> omega) | omega))) (by (first | (apply Int.le_antisymm <;> omega) | omega)) (by (first | (apply Int.le_antisymm <;> omega) | omega)) (by (first | (apply Int.le_antisymm <;> omega) | omega))
    exact ⟨y1, by rw [y2, show hh i - 1 + 1 = hh i by (first | (apply Int.le_antisymm <;> omega) | omega)]⟩
  · obtain ⟨y1, y2⟩ := nq _ _ (c20 z) (by (first | (apply Int.le_antisymm <;> omega) | omega)) (by (first | (apply Int.le_antisymm <;> omega) | omega)) (by (first | (apply Int.le_antisymm <;> omega) | omega))
    exact ⟨y1, by rw [y2, Int.add_zero]⟩
  · obtain ⟨y1, y2⟩ := nq _ _ (c11b (by (first | (apply Int.le_antisymm <;> omega) | omega))) (by (first | (apply Int.le_antisymm <;> omega) | omega)) (by (first | (apply Int.le_antisymm <;> omega) | omega)) (by (first | (apply Int.le_antisymm <;> omega) | omega))
    exact ⟨y1, by rw [y2, show hh i - 1 + 1 = hh i by (first | (apply Int.le_antisymm <;> omega) | omega)]⟩
  · obtain ⟨y1, y2⟩ := nq _ _ (c01 (by (first | (apply Int.le_antisymm <;> omega) | omega))) (by (first | (apply Int.le_antisymm <;> omega) | omega)) (by (first | (apply Int.le_antisymm <;> omega) | omega)) (by (first | (apply Int.le_antisymm <;> omega) | omega))
    rw [y2, Int.sub_zero]
  · obtain ⟨y1, y2⟩ := nq _ _ (c11b (by (first | (apply Int.le_antisymm <;> omega) | omega))) (by (first | (apply Int.le_antisymm <;> omega) | omega)) (by (first | (apply Int.le_antisymm <;> omega) | omega)) (by (first | (apply Int.le_antisymm <;> omega) | omega))
    exact ⟨y1, by rw [y2, show hh i - 1 + 1 = hh i by (first | (apply Int.le_antisymm <;> omega) | omega)]⟩
  · obtain ⟨y1, y2⟩ := nq _ _ (c21 z) (by (first | (apply Int.le_antisymm <;> omega) | omega)) (by (first | (apply Int.le_antisymm <;> omega) | omega)) (by (first | (apply Int.le_antisymm <;> omega) | omega))
    exact ⟨y1, by rw [y2, show hh i - 2 + 1 = hh i - 1 by (first | (apply Int.le_antisymm <;> omega) | omega)]⟩
  · clear c0 c14 c1 c2 c4 c5 c11 c13 c16 c26 c27 cv cg c01 c10 c20 c11b c21 v1 v2 v3 v4 v5 v6 v7 nx nq lab VH
    (first | (apply Int.le_antisymm <;> omega) | omega)
end VC
end q_24c
section q_25a
/-! the validator's rows as a state, and what one instruction does to it -/
def vs_stk (bo bg bh bd : Nat → Int32) : Nat → List vt
  | 0 => []
  | k + 1 => ((bo k).toInt, (bg k).toInt, (bh k).toInt, (bd k).toInt) :: vs_stk bo bg bh bd k
theorem vs_stk_eq {bo bg bh bd bo2 bg2 bh2 bd2 : Nat → Int32} : ∀ k : Nat, (∀ j, j < k → bo2 j = bo j ∧ bg2 j = bg j ∧ bh2 j = bh j ∧ bd2 j = bd j) → vs_stk bo2 bg2 bh2 bd2 k = vs_stk bo bg bh bd k
  | 0, _ => rfl
  | k + 1, h => by
    obtain ⟨e1, e2, e3, e4⟩ := h k (Nat.lt_succ_self _)
    show ((bo2 k).toInt, (bg2 k).toInt, (bh2 k).toInt, (bd2 k).toInt) :: vs_stk bo2 bg2 bh2 bd2 k = _
    rw [e1, e2, e3, e4, vs_stk_eq k (fun j hj => h j (Nat.lt_succ_of_lt hj))]
    rfl
theorem vs_stk_pos {bo bg bh bd : Nat → Int32} (hp : ∀ j : Nat, 0 ≤ (bh j).toInt ∧ (bh j).toInt ≤ 5000) : ∀ k : Nat, ∀ x ∈ vs_stk bo bg bh bd k, 0 ≤ x.2.2.1
  | 0, x, h => by cases h
  | k + 1, x, h => by
    rcases List.mem_cons.mp h with e | e
    · rw [e]
      exact (hp k).1
    · exact vs_stk_pos hp k x e
theorem vs_stk_ne {bo bg bh bd : Nat → Int32} {k : Nat} (h : 1 ≤ k) : vs_stk bo bg bh bd k ≠ [] := by
  cases k with
  | zero => (first | (apply Int.le_antisymm <;> omega) | omega)
  | succ k => intro e; cases e
def vo (nl gv tk : Nat → Int) (fc gc : Int) (f : Nat) (op v : Int) (D h D2 h2 : Int32) (bo bg bh bd bo2 bg2 bh2 bd2 : Nat → Int32) : Prop :=
  ((op = 11 → 2 ≤ D.toInt) → vr nl gv tk fc gc f op v (vs_stk bo bg bh bd D.toNatClampNeg) h.toInt (vs_stk bo2 bg2 bh2 bd2 D2.toNatClampNeg) h2.toInt ∧ (∀ k : Nat, (k : Int) + 1 < D2.toInt → (bh2 k).toInt ≤ (bh2 (k + 1)).toInt) ∧ (bh2 (D2.toInt - 1).toNat).toInt ≤ h2.toInt ∧ h2.toInt ≤ h.toInt + 1) ∧
  (op = 2 ∨ op = 3 ∨ op = 4 → D2.toInt = D.toInt + 1) ∧ (op = 11 → D2.toInt = D.toInt - 1) ∧ (op ≠ 2 → op ≠ 3 → op ≠ 4 → op ≠ 11 → D2.toInt = D.toInt)
section VO
variable {nl gv tk : Nat → Int} {fc gc : Int} {f : Nat} {op v : Int} {D h D2 h2 : Int32} {bo bg bh bd bo2 bg2 bh2 bd2 : Nat → Int32}
/-- an instruction that leaves the rows alone -/
theorem vo_plain (hD : 1 ≤ D.toInt) (hm : ∀ k : Nat, (k : Int) + 1 < D.toInt → (bh k).toInt ≤ (bh (k + 1)).toInt) (hT : (bh (D.toInt - 1).toNat).toInt ≤ h.toInt) (r1 : (bh (D.toInt - 1).toNat).toInt ≤ h2.toInt) (r2 : h2.toInt ≤ h.toInt + 1)
    (n0 : op ≠ 0 ∧ op ≠ 12 ∧ op ≠ 14 ∧ op ≠ 15) (n1 : op ≠ 2 ∧ op ≠ 3 ∧ op ≠ 4 ∧ op ≠ 5 ∧ op ≠ 11) (c1 : op = 1 → h2 = h)
    (c16 : op = 16 → 0 ≤ v ∧ v < fc ∧ ((bd (D.toInt - 1).toNat).toInt = 0 → (bh (D.toInt - 1).toNat).toInt + tk v.toNat ≤ h.toInt ∧ h2.toInt = h.toInt - tk v.toNat + gv v.toNat))
    (cv : 32 ≤ op ∧ op ≤ 34 → 0 ≤ v ∧ v < nl f) (cg : op = 35 ∨ op = 36 → 0 ≤ v ∧ v < gc)
    (c : (bd (D.toInt - 1).toNat).toInt = 0 → 
      (op = 13 ∨ op = 26 ∨ op = 33 ∨ op = 36 → (bh (D.toInt - 1).toNat).toInt + 1 ≤ h.toInt ∧ h2.toInt = h.toInt - 1) ∧ (op = 27 → (bh (D.toInt - 1).toNat).toInt + 3 ≤ h.toInt ∧ h2.toInt = h.toInt - 2) ∧
      (op = 32 ∨ op = 35 ∨ op = 63 ∨ op = 65 ∨ op = 66 → h2.toInt = h.toInt + 1) ∧ (op = 54 ∨ op = 55 ∨ op = 58 → (bh (D.toInt - 1).toNat).toInt + 2 ≤ h.toInt ∧ h2.toInt = h.toInt - 2) ∧
      (op = 34 ∨ op = 64 ∨ op = 40 ∨ op = 41 ∨ op = 44 ∨ op = 45 ∨ op = 69 ∨ op = 80 ∨ (103 ≤ op ∧ op < 106) ∨ (121 ≤ op ∧ op < 124) ∨ 138 < op → (bh (D.toInt - 1).toNat).toInt + 1 ≤ h.toInt ∧ h2.toInt = h.toInt) ∧
      ((69 < op ∧ op < 80) ∨ (80 < op ∧ op ≤ 90) ∨ (106 ≤ op ∧ op < 121) ∨ (124 ≤ op ∧ op ≤ 138) → (bh (D.toInt - 1).toNat).toInt + 2 ≤ h.toInt ∧ h2.toInt = h.toInt - 1)) :
    vo nl gv tk fc gc f op v D h D h2 bo bg bh bd bo bg bh bd := by
  obtain ⟨T, eT⟩ : ∃ T, T = (D.toInt - 1).toNat := ⟨_, rfl⟩
  have eD : D.toNatClampNeg = T + 1 := by rw [i32_natI rfl]; (first | (apply Int.le_antisymm <;> omega) | omega)
  rw [← eT] at hT r1 c c16
  refine ⟨fun _ => ⟨?_, hm, by rw [← eT]; exact r1, r2⟩, fun z => by (first | (apply Int.le_antisymm <;> omega) | omega), fun z => by (first | (apply Int.le_antisymm <;> omega) | omega), fun _ _ _ _ => rfl⟩
  rw [eD]
  refine ⟨(bo T).toInt, (bg T).toInt, (bh T).toInt, (bd T).toInt, vs_stk bo bg bh bd T, rfl, hT, fun z => (by clear c c16 cv cg c1 hm; (first | (apply Int.le_antisymm <;> omega) | omega)), fun z => (by clear c c16 cv cg c1 hm; (first | (apply Int.le_antisymm <;> omega) | omega)), fun z => ⟨rfl, by rw [c1 z]⟩, fun z => (by clear c c16 cv cg c1 hm; (first | (apply Int.le_antisymm <;> omega) | omega)), fun z => (by clear c c16 cv cg c1 hm; (first | (apply Int.le_antisymm <;> omega) | omega)), fun z => (by clear c c16 cv cg c1 hm; (first | (apply Int.le_antisymm <;> omega) | omega)), fun z => (by clear c c16 cv cg c1 hm; (first | (apply Int.le_antisymm <;> omega) | omega)), fun z => ⟨rfl, r1, fun y => ?_⟩, fun z => ⟨(c16 z).1, (c16 z).2.1, rfl, r1, (c16 z).2.2⟩, fun z => ⟨rfl, r1, fun y => ?_⟩, fun z => ⟨rfl, r1, fun y => ?_⟩, cv, cg, fun z => ⟨rfl, r1, fun y => ?_⟩, fun z => ⟨rfl, r1, fun y => ?_⟩, fun z => ⟨rfl, r1, fun y => ?_⟩, fun z => ⟨rfl, r1, fun y => ?_⟩, fun z => ⟨rfl, r1, fun y => ?_⟩⟩
  · have w := (c y).1 (by clear n0 n1 c c16 cv cg c1 hm; (first | (apply Int.le_antisymm <;> omega) | omega))
    clear n0 n1 c c16 cv cg c1 hm
    (first | (apply Int.le_antisymm <;> omega) | omega)
  · have w := (c y).1 (by clear n0 n1 c c16 cv cg c1 hm; (first | (apply Int.le_antisymm <;> omega) | omega))
    clear n0 n1 c c16 cv cg c1 hm
    (first | (apply Int.le_antisymm <;> omega) | omega)
  · have w := (c y).2.1 z
    clear n0 n1 c c16 cv cg c1 hm
    (first | (apply Int.le_antisymm <;> omega) | omega)
  · have w := (c y).2.2.1 z
    clear n0 n1 c c16 cv cg c1 hm
    (first | (apply Int.le_antisymm <;> omega) | omega)
  · have w := (c y).1 (by clear n0 n1 c c16 cv cg c1 hm; (first | (apply Int.le_antisymm <;> omega) | omega))
    clear n0 n1 c c16 cv cg c1 hm
    (first | (apply Int.le_antisymm <;> omega) | omega)
  · have w := (c y).2.2.2.1 z
    clear n0 n1 c c16 cv cg c1 hm
    (first | (apply Int.le_antisymm <;> omega) | omega)
  · have w := (c y).2.2.2.2.1 z
    clear n0 n1 c c16 cv cg c1 hm
    (first | (apply Int.le_antisymm <;> omega) | omega)
  · have w := (c y).2.2.2.2.2 z
    clear n0 n1 c c16 cv cg c1 hm
    (first | (apply Int.le_antisymm <;> omega) | omega)
/-- what follows can't be reached -/
theorem vo_die (hD : 1 ≤ D.toInt) (hm : ∀ k : Nat, (k : Int) + 1 < D.toInt → (bh k).toInt ≤ (bh (k + 1)).toInt) (hT : (bh (D.toInt - 1).toNat).toInt ≤ h.toInt) {x : Int32} (e : h2.toInt = (bh (D.toInt - 1).toNat).toInt) (eb : bd2 = upd bd (D.toInt - 1).toNat x)
    (n0 : op = 0 ∨ op = 12 ∨ op = 14 ∨ op = 15) (c : op = 14 → (bd (D.toInt - 1).toNat).toInt = 0 → (bh (D.toInt - 1).toNat).toInt + 1 ≤ h.toInt) : vo nl gv tk fc gc f op v D h D h2 bo bg bh bd bo bg bh bd2 := by
  obtain ⟨T, eT⟩ : ∃ T, T = (D.toInt - 1).toNat := ⟨_, rfl⟩
  have eD : D.toNatClampNeg = T + 1 := by rw [i32_natI rfl]; (first | (apply Int.le_antisymm <;> omega) | omega)
  rw [← eT] at hT e eb c
  refine ⟨fun _ => ⟨?_, hm, by rw [← eT]; (first | (apply Int.le_antisymm <;> omega) | omega), by (first | (apply Int.le_antisymm <;> omega) | omega)⟩, fun z => by (first | (apply Int.le_antisymm <;> omega) | omega), fun z => by (first | (apply Int.le_antisymm <;> omega) | omega), fun _ _ _ _ => rfl⟩
  have e2 : vs_stk bo bg bh bd2 T = vs_stk bo bg bh bd T := vs_stk_eq T (fun j hj => ⟨rfl, rfl, rfl, by rw [eb, pk_un (by (first | (apply Int.le_antisymm <;> omega) | omega))]⟩)
  rw [eD]
  refine ⟨(bo T).toInt, (bg T).toInt, (bh T).toInt, (bd T).toInt, vs_stk bo bg bh bd T, rfl, hT, fun _ => ⟨(bd2 T).toInt, ?_, by (first | (apply Int.le_antisymm <;> omega) | omega)⟩, c, fun z => (by clear c hm; (first | (apply Int.le_antisymm <;> omega) | omega)), fun z => (by clear c hm; (first | (apply Int.le_antisymm <;> omega) | omega)), fun z => (by clear c hm; (first | (apply Int.le_antisymm <;> omega) | omega)), fun z => (by clear c hm; (first | (apply Int.le_antisymm <;> omega) | omega)), fun z => (by clear c hm; (first | (apply Int.le_antisymm <;> omega) | omega)), fun z => (by clear c hm; (first | (apply Int.le_antisymm <;> omega) | omega)), fun z => (by clear c hm; (first | (apply Int.le_antisymm <;> omega) | omega)), fun z => (by clear c hm; (first | (apply Int.le_antisymm <;> omega) | omega)), fun z => (by clear c hm; (first | (apply Int.le_antisymm <;> omega) | omega)), fun z => (by clear c hm; (first | (apply Int.le_antisymm <;> omega) | omega)), fun z => (by clear c hm; (first | (apply Int.le_antisymm <;> omega) | omega)), fun z => (by clear c hm; (first | (apply Int.le_antisymm <;> omega) | omega)), fun z => (by clear c hm; (first | (apply Int.le_antisymm <;> omega) | omega)), fun z => (by clear c hm; (first | (apply Int.le_antisymm <;> omega) | omega)), fun z => (by clear c hm; (first | (apply Int.le_antisymm <;> omega) | omega)), fun z => (by clear c hm; (first | (apply Int.le_antisymm <;> omega) | omega))⟩
  show (_ :: vs_stk bo bg bh bd2 T) = _
  rw [e2]
theorem vo_open (hD : 1 ≤ D.toInt) (hm : ∀ k : Nat, (k : Int) + 1 < D.toInt → (bh k).toInt ≤ (bh (k + 1)).toInt) (hT : (bh (D.toInt - 1).toNat).toInt ≤ h.toInt) {o w : Int32} (ho : o.toInt = op) (hw : w.toInt = v) (eD2 : D2.toInt = D.toInt + 1) (e1 : bo2 = upd bo D.toNatClampNeg o) (e2 : bg2 = upd bg D.toNatClampNeg w) (e3 : bh2 = upd bh D.toNatClampNeg h2) (e4 : bd2 = upd bd D.toNatClampNeg (vp_nar .boolean 0))
    (n0 : op = 2 ∨ op = 3 ∨ op = 4) (r1 : (bh (D.toInt - 1).toNat).toInt ≤ h2.toInt) (r2 : h2.toInt ≤ h.toInt) (c2 : op = 2 ∨ op = 3 → h2.toInt = h.toInt) (c4 : op = 4 → (bd (D.toInt - 1).toNat).toInt = 0 → (bh (D.toInt - 1).toNat).toInt + 1 ≤ h.toInt ∧ h2.toInt = h.toInt - 1) :
    vo nl gv tk fc gc f op v D h D2 h2 bo bg bh bd bo2 bg2 bh2 bd2 := by
  obtain ⟨T, eT⟩ : ∃ T, T = (D.toInt - 1).toNat := ⟨_, rfl⟩
  have eD : D.toNatClampNeg = T + 1 := by rw [i32_natI rfl]; (first | (apply Int.le_antisymm <;> omega) | omega)
  have eDD : D2.toNatClampNeg = T + 1 + 1 := by rw [i32_natI rfl]; (first | (apply Int.le_antisymm <;> omega) | omega)
  rw [← eT] at hT r1 c4
  rw [eD] at e1 e2 e3 e4
  have k0 : (vp_nar .boolean 0).toInt = 0 := by decide
  have es : vs_stk bo2 bg2 bh2 bd2 (T + 1) = vs_stk bo bg bh bd (T + 1) := vs_stk_eq (T + 1) (fun j hj => ⟨by rw [e1, pk_un (by (first | (apply Int.le_antisymm <;> omega) | omega))], by rw [e2, pk_un (by (first | (apply Int.le_antisymm <;> omega) | omega))], by rw [e3, pk_un (by (first | (apply Int.le_antisymm <;> omega) | omega))], by rw [e4, pk_un (by (first | (apply Int.le_antisymm <;> omega) | omega))]⟩)
  have et : vs_stk bo2 bg2 bh2 bd2 (T + 1 + 1) = (op, v, h2.toInt, 0) :: vs_stk bo bg bh bd (T + 1) := by
    show ((bo2 (T + 1)).toInt, (bg2 (T + 1)).toInt, (bh2 (T + 1)).toInt, (bd2 (T + 1)).toInt) :: vs_stk bo2 bg2 bh2 bd2 (T + 1) = _
    rw [es, e1, e2, e3, e4, pk_us, pk_us, pk_us, pk_us, ho, hw, k0]
  refine ⟨fun _ => ⟨?_, fun k hk => ?_, ?_, by (first | (apply Int.le_antisymm <;> omega) | omega)⟩, fun _ => eD2, fun z => by (first | (apply Int.le_antisymm <;> omega) | omega), fun z1 z2 z3 _ => by (first | (apply Int.le_antisymm <;> omega) | omega)⟩
  · rw [eD, eDD, et]
    refine ⟨(bo T).toInt, (bg T).toInt, (bh T).toInt, (bd T).toInt, vs_stk bo bg bh bd T, rfl, hT, fun z => (by clear c2 c4 hm; (first | (apply Int.le_antisymm <;> omega) | omega)), fun z => (by clear c2 c4 hm; (first | (apply Int.le_antisymm <;> omega) | omega)), fun z => (by clear c2 c4 hm; (first | (apply Int.le_antisymm <;> omega) | omega)), fun z => ⟨by rw [c2 z], c2 z⟩, fun z => ⟨by rw [z], r1, c4 z⟩, fun z => (by clear c2 c4 hm; (first | (apply Int.le_antisymm <;> omega) | omega)), fun z => (by clear c2 c4 hm; (first | (apply Int.le_antisymm <;> omega) | omega)), fun z => (by clear c2 c4 hm; (first | (apply Int.le_antisymm <;> omega) | omega)), fun z => (by clear c2 c4 hm; (first | (apply Int.le_antisymm <;> omega) | omega)), fun z => (by clear c2 c4 hm; (first | (apply Int.le_antisymm <;> omega) | omega)), fun z => (by clear c2 c4 hm; (first | (apply Int.le_antisymm <;> omega) | omega)), fun z => (by clear c2 c4 hm; (first | (apply Int.le_antisymm <;> omega) | omega)), fun z => (by clear c2 c4 hm; (first | (apply Int.le_antisymm <;> omega) | omega)), fun z => (by clear c2 c4 hm; (first | (apply Int.le_antisymm <;> omega) | omega)), fun z => (by clear c2 c4 hm; (first | (apply Int.le_antisymm <;> omega) | omega)), fun z => (by clear c2 c4 hm; (first | (apply Int.le_antisymm <;> omega) | omega)), fun z => (by clear c2 c4 hm; (first | (apply Int.le_antisymm <;> omega) | omega)), fun z => (by clear c2 c4 hm; (first | (apply Int.le_antisymm <;> omega) | omega))⟩
  · by_cases q : k + 1 = T + 1
    · rw [e3, q, pk_us, pk_un (by (first | (apply Int.le_antisymm <;> omega) | omega)), show k = T by (first | (apply Int.le_antisymm <;> omega) | omega)]
      exact r1
    · rw [e3, pk_un q, pk_un (show k ≠ T + 1 by (first | (apply Int.le_antisymm <;> omega) | omega))]
      exact hm k (by (first | (apply Int.le_antisymm <;> omega) | omega))
  · rw [e3, show (D2.toInt - 1).toNat = T + 1 by (first | (apply Int.le_antisymm <;> omega) | omega), pk_us]
    exact Int.le_refl _
theorem vo_else (hD : 1 ≤ D.toInt) (hm : ∀ k : Nat, (k : Int) + 1 < D.toInt → (bh k).toInt ≤ (bh (k + 1)).toInt) (hT : (bh (D.toInt - 1).toNat).toInt ≤ h.toInt) {o w : Int32} (ho : o.toInt = 5) (hw : w = bg (D.toInt - 1).toNat) (eD2 : D2.toInt = D.toInt) (e1 : bo2 = upd bo (D.toInt - 1).toNat o) (e2 : bg2 = upd bg (D.toInt - 1).toNat w) (e3 : bh2 = upd bh (D.toInt - 1).toNat h2) (e4 : bd2 = upd bd (D.toInt - 1).toNat (vp_nar .boolean 0))
    (n0 : op = 5) (eh : h2.toInt = (bh (D.toInt - 1).toNat).toInt) (c : (bd (D.toInt - 1).toNat).toInt = 0 → ((bg (D.toInt - 1).toNat).toInt = 64 → h.toInt = (bh (D.toInt - 1).toNat).toInt) ∧ ((bg (D.toInt - 1).toNat).toInt ≠ 64 → h.toInt = (bh (D.toInt - 1).toNat).toInt + 1)) :
    vo nl gv tk fc gc f op v D h D2 h2 bo bg bh bd bo2 bg2 bh2 bd2 := by
  obtain ⟨T, eT⟩ : ∃ T, T = (D.toInt - 1).toNat := ⟨_, rfl⟩
  have eD : D.toNatClampNeg = T + 1 := by rw [i32_natI rfl]; (first | (apply Int.le_antisymm <;> omega) | omega)
  have eDD : D2.toNatClampNeg = T + 1 := by rw [i32_natI rfl]; (first | (apply Int.le_antisymm <;> omega) | omega)
  rw [← eT] at hT c e1 e2 e3 e4 eh hw
  have k0 : (vp_nar .boolean 0).toInt = 0 := by decide
  have es : vs_stk bo2 bg2 bh2 bd2 T = vs_stk bo bg bh bd T := vs_stk_eq T (fun j hj => ⟨by rw [e1, pk_un (by (first | (apply Int.le_antisymm <;> omega) | omega))], by rw [e2, pk_un (by (first | (apply Int.le_antisymm <;> omega) | omega))], by rw [e3, pk_un (by (first | (apply Int.le_antisymm <;> omega) | omega))], by rw [e4, pk_un (by (first | (apply Int.le_antisymm <;> omega) | omega))]⟩)
  have et : vs_stk bo2 bg2 bh2 bd2 (T + 1) = (5, (bg T).toInt, (bh T).toInt, 0) :: vs_stk bo bg bh bd T := by
    show ((bo2 T).toInt, (bg2 T).toInt, (bh2 T).toInt, (bd2 T).toInt) :: vs_stk bo2 bg2 bh2 bd2 T = _
    rw [es, e1, e2, e3, e4, pk_us, pk_us, pk_us, pk_us, ho, hw, k0, eh]
  have hga : (bd T).toInt = 0 → h.toInt = (bh T).toInt + ga (bg T).toInt := by
    intro z
    unfold ga
    split
    · rename_i q
      rw [(c z).1 q]
      (first | (apply Int.le_antisymm <;> omega) | omega)
    · rename_i q
      exact (c z).2 q
  refine ⟨fun _ => ⟨?_, fun k hk => ?_, ?_, by (first | (apply Int.le_antisymm <;> omega) | omega)⟩, fun z => by (first | (apply Int.le_antisymm <;> omega) | omega), fun z => by (first | (apply Int.le_antisymm <;> omega) | omega), fun _ _ _ _ => eD2⟩
  · rw [eD, eDD, et]
    refine ⟨(bo T).toInt, (bg T).toInt, (bh T).toInt, (bd T).toInt, vs_stk bo bg bh bd T, rfl, hT, fun z => (by clear c hga hm; (first | (apply Int.le_antisymm <;> omega) | omega)), fun z => (by clear c hga hm; (first | (apply Int.le_antisymm <;> omega) | omega)), fun z => (by clear c hga hm; (first | (apply Int.le_antisymm <;> omega) | omega)), fun z => (by clear c hga hm; (first | (apply Int.le_antisymm <;> omega) | omega)), fun z => (by clear c hga hm; (first | (apply Int.le_antisymm <;> omega) | omega)), fun z => ⟨rfl, eh, hga⟩, fun z => (by clear c hga hm; (first | (apply Int.le_antisymm <;> omega) | omega)), fun z => (by clear c hga hm; (first | (apply Int.le_antisymm <;> omega) | omega)), fun z => (by clear c hga hm; (first | (apply Int.le_antisymm <;> omega) | omega)), fun z => (by clear c hga hm; (first | (apply Int.le_antisymm <;> omega) | omega)), fun z => (by clear c hga hm; (first | (apply Int.le_antisymm <;> omega) | omega)), fun z => (by clear c hga hm; (first | (apply Int.le_antisymm <;> omega) | omega)), fun z => (by clear c hga hm; (first | (apply Int.le_antisymm <;> omega) | omega)), fun z => (by clear c hga hm; (first | (apply Int.le_antisymm <;> omega) | omega)), fun z => (by clear c hga hm; (first | (apply Int.le_antisymm <;> omega) | omega)), fun z => (by clear c hga hm; (first | (apply Int.le_antisymm <;> omega) | omega)), fun z => (by clear c hga hm; (first | (apply Int.le_antisymm <;> omega) | omega)), fun z => (by clear c hga hm; (first | (apply Int.le_antisymm <;> omega) | omega))⟩
  · by_cases q : k + 1 = T
    · rw [e3, q, pk_us, pk_un (by (first | (apply Int.le_antisymm <;> omega) | omega)), eh, ← q]
      exact hm k (by (first | (apply Int.le_antisymm <;> omega) | omega))
    · rw [e3, pk_un q, pk_un (show k ≠ T by (first | (apply Int.le_antisymm <;> omega) | omega))]
      exact hm k (by (first | (apply Int.le_antisymm <;> omega) | omega))
  · rw [e3, show (D2.toInt - 1).toNat = T by (first | (apply Int.le_antisymm <;> omega) | omega), pk_us]
    exact Int.le_refl _
theorem vo_close (hD : 1 ≤ D.toInt) (hm : ∀ k : Nat, (k : Int) + 1 < D.toInt → (bh k).toInt ≤ (bh (k + 1)).toInt) (hT : (bh (D.toInt - 1).toNat).toInt ≤ h.toInt) (eD2 : D2.toInt = D.toInt - 1) (n0 : op = 11) (c4 : (bo (D.toInt - 1).toNat).toInt = 4 → (bg (D.toInt - 1).toNat).toInt = 64)
    (c : (bd (D.toInt - 1).toNat).toInt = 0 → ((bg (D.toInt - 1).toNat).toInt = 64 → h.toInt = (bh (D.toInt - 1).toNat).toInt) ∧ ((bg (D.toInt - 1).toNat).toInt ≠ 64 → h.toInt = (bh (D.toInt - 1).toNat).toInt + 1))
    (c2 : 2 ≤ D.toInt → ((bg (D.toInt - 1).toNat).toInt = 64 → h2.toInt = (bh (D.toInt - 1).toNat).toInt) ∧ ((bg (D.toInt - 1).toNat).toInt ≠ 64 → h2.toInt = (bh (D.toInt - 1).toNat).toInt + 1)) :
    vo nl gv tk fc gc f op v D h D2 h2 bo bg bh bd bo bg bh bd := by
  obtain ⟨T, eT⟩ : ∃ T, T = (D.toInt - 1).toNat := ⟨_, rfl⟩
  have eD : D.toNatClampNeg = T + 1 := by rw [i32_natI rfl]; (first | (apply Int.le_antisymm <;> omega) | omega)
  have eDD : D2.toNatClampNeg = T := by rw [i32_natI rfl]; (first | (apply Int.le_antisymm <;> omega) | omega)
  rw [← eT] at hT c c2 c4
  refine ⟨fun z2 => ?_, fun z => by (first | (apply Int.le_antisymm <;> omega) | omega), fun _ => eD2, fun _ _ _ z => absurd n0 z⟩
  have h2D := z2 n0
  have hga : (bd T).toInt = 0 → h.toInt = (bh T).toInt + ga (bg T).toInt := by
    intro z
    unfold ga
    split
    · rename_i q
      rw [(c z).1 q]
      (first | (apply Int.le_antisymm <;> omega) | omega)
    · rename_i q
      exact (c z).2 q
  have hga2 : h2.toInt = (bh T).toInt + ga (bg T).toInt := by
    unfold ga
    split
    · rename_i q
      rw [(c2 h2D).1 q]
      (first | (apply Int.le_antisymm <;> omega) | omega)
    · rename_i q
      exact (c2 h2D).2 q
  have hg01 : 0 ≤ ga (bg T).toInt ∧ ga (bg T).toInt ≤ 1 := by unfold ga; split <;> (first | (apply Int.le_antisymm <;> omega) | omega)
  refine ⟨?_, fun k hk => hm k (by (first | (apply Int.le_antisymm <;> omega) | omega)), ?_, by (first | (apply Int.le_antisymm <;> omega) | omega)⟩
  · rw [eD, eDD]
    refine ⟨(bo T).toInt, (bg T).toInt, (bh T).toInt, (bd T).toInt, vs_stk bo bg bh bd T, rfl, hT, fun z => (by clear c c2 c4 hga hga2 hm z2; (first | (apply Int.le_antisymm <;> omega) | omega)), fun z => (by clear c c2 c4 hga hga2 hm z2; (first | (apply Int.le_antisymm <;> omega) | omega)), fun z => (by clear c c2 c4 hga hga2 hm z2; (first | (apply Int.le_antisymm <;> omega) | omega)), fun z => (by clear c c2 c4 hga hga2 hm z2; (first | (apply Int.le_antisymm <;> omega) | omega)), fun z => (by clear c c2 c4 hga hga2 hm z2; (first | (apply Int.le_antisymm <;> omega) | omega)), fun z => (by clear c c2 c4 hga hga2 hm z2; (first | (apply Int.le_antisymm <;> omega) | omega)), fun _ => ⟨hga, c4, fun _ => ⟨rfl, hga2⟩⟩, fun z => (by clear c c2 c4 hga hga2 hm z2; (first | (apply Int.le_antisymm <;> omega) | omega)), fun z => (by clear c c2 c4 hga hga2 hm z2; (first | (apply Int.le_antisymm <;> omega) | omega)), fun z => (by clear c c2 c4 hga hga2 hm z2; (first | (apply Int.le_antisymm <;> omega) | omega)), fun z => (by clear c c2 c4 hga hga2 hm z2; (first | (apply Int.le_antisymm <;> omega) | omega)), fun z => (by clear c c2 c4 hga hga2 hm z2; (first | (apply Int.le_antisymm <;> omega) | omega)), fun z => (by clear c c2 c4 hga hga2 hm z2; (first | (apply Int.le_antisymm <;> omega) | omega)), fun z => (by clear c c2 c4 hga hga2 hm z2; (first | (apply Int.le_antisymm <;> omega) | omega)), fun z => (by clear c c2 c4 hga hga2 hm z2; (first | (apply Int.le_antisymm <;> omega) | omega)), fun z => (by clear c c2 c4 hga hga2 hm z2; (first | (apply Int.le_antisymm <;> omega) | omega)), fun z => (by clear c c2 c4 hga hga2 hm z2; (first | (apply Int.le_antisymm <;> omega) | omega)), fun z => (by clear c c2 c4 hga hga2 hm z2; (first | (apply Int.le_antisymm <;> omega) | omega))⟩
  · have w := hm (D2.toInt - 1).toNat (by (first | (apply Int.le_antisymm <;> omega) | omega))
    rw [show (D2.toInt - 1).toNat + 1 = T by (first | (apply Int.le_antisymm <;> omega) | omega)] at w
    (first | (apply Int.le_antisymm <;> omega) | omega)
end VO
/-- the states up to instruction i -/
def vI (nl gv tk : Nat → Int) (fc gc : Int) (f : Nat) (gop : Nat → Int32) (gva : Nat → Int64) (a m i : Nat) (B : Nat → List vt) (hh : Nat → Int) : Prop :=
  (∀ j, a ≤ j → j < i → j < m → vr nl gv tk fc gc f (gop j).toInt (gva j).toInt (B j) (hh j) (B (j + 1)) (hh (j + 1))) ∧ (∀ j, a ≤ j → j ≤ i → j ≤ m → 0 ≤ hh j ∧ ∀ x ∈ B j, 0 ≤ x.2.2.1) ∧ (B a).length = 1 ∧ hh a = 0 ∧ vlive (B a) = true
theorem vI_next {nl gv tk : Nat → Int} {fc gc : Int} {f a m i : Nat} {gop : Nat → Int32} {gva : Nat → Int64} {B : Nat → List vt} {hh : Nat → Int} {S S2 : List vt} {x x2 : Int} (h : vI nl gv tk fc gc f gop gva a m i B hh) (hi : a ≤ i) (him : i ≤ m) (e1 : B i = S) (e2 : hh i = x) (hv : i < m → vr nl gv tk fc gc f (gop i).toInt (gva i).toInt S x S2 x2) (h0 : i < m → 0 ≤ x2 ∧ ∀ y ∈ S2, 0 ≤ y.2.2.1) :
    ∃ B2 hh2, vI nl gv tk fc gc f gop gva a m (i + 1) B2 hh2 ∧ B2 (i + 1) = S2 ∧ hh2 (i + 1) = x2 := by
  obtain ⟨k1, k2, k3, k4, k5⟩ := h
  have p1 : ∀ j, j ≤ i → (fun j => if j ≤ i then B j else S2) j = B j := fun j hj => if_pos hj
  have p2 : ∀ j, j ≤ i → (fun j => if j ≤ i then hh j else x2) j = hh j := fun j hj => if_pos hj
  have q1 : (fun j => if j ≤ i then B j else S2) (i + 1) = S2 := if_neg (by (first | (apply Int.le_antisymm <;> omega) | omega))
  have q2 : (fun j => if j ≤ i then hh j else x2) (i + 1) = x2 := if_neg (by (first | (apply Int.le_antisymm <;> omega) | omega))
  refine ⟨fun j => if j ≤ i then B j else S2, fun j => if j ≤ i then hh j else x2, ⟨fun j j1 j2 j3 => ?_, fun j j1 j2 j3 => ?_, by rw [p1 a hi]; exact k3, by rw [p2 a hi]; exact k4, by rw [p1 a hi]; exact k5⟩, q1, q2⟩
  · rw [p1 j (by (first | (apply Int.le_antisymm <;> omega) | omega)), p2 j (by (first | (apply Int.le_antisymm <;> omega) | omega))]
    by_cases q : j < i
    · rw [p1 (j + 1) (by (first | (apply Int.le_antisymm <;> omega) | omega)), p2 (j + 1) (by (first | (apply Int.le_antisymm <;> omega) | omega))]
      exact k1 j j1 q j3
    · have e : j = i := by (first | (apply Int.le_antisymm <;> omega) | omega)
      subst e
      rw [q1, q2, e1, e2]
      exact hv j3
  · by_cases q : j ≤ i
    · rw [p1 j q, p2 j q]
      exact k2 j j1 q j3
    · have e : j = i + 1 := by (first | (apply Int.le_antisymm <;> omega) | omega)
      subst e
      rw [q1, q2]
      exact h0 (by (first | (apply Int.le_antisymm <;> omega) | omega))
end q_25a
section q_25b
/-! Validator: what the calls say, as one step -/
section VP
variable {nl gv tk : Nat → Int} {fc gc : Int} {f : Nat} {v : Int} {D h D2 h2 s s2 p0 p1 : Int32} {bo bg bh bd bo2 bg2 bh2 bd2 : Nat → Int32}
theorem ef10 {a b c : Int} (x : a + 1 ≤ b ∧ c = b - 1 + 0) : a + 1 ≤ b ∧ c = b - 1 := by (first | (apply Int.le_antisymm <;> omega) | omega)
theorem ef31 {a b c : Int} (x : a + 3 ≤ b ∧ c = b - 3 + 1) : a + 3 ≤ b ∧ c = b - 2 := by (first | (apply Int.le_antisymm <;> omega) | omega)
theorem ef01 {a b c : Int} (x : a + 0 ≤ b ∧ c = b - 0 + 1) : c = b + 1 := by (first | (apply Int.le_antisymm <;> omega) | omega)
theorem ef20 {a b c : Int} (x : a + 2 ≤ b ∧ c = b - 2 + 0) : a + 2 ≤ b ∧ c = b - 2 := by (first | (apply Int.le_antisymm <;> omega) | omega)
theorem ef11 {a b c : Int} (x : a + 1 ≤ b ∧ c = b - 1 + 1) : a + 1 ≤ b ∧ c = b := by (first | (apply Int.le_antisymm <;> omega) | omega)
theorem ef21 {a b c : Int} (x : a + 2 ≤ b ∧ c = b - 2 + 1) : a + 2 ≤ b ∧ c = b - 1 := by (first | (apply Int.le_antisymm <;> omega) | omega)
theorem vo_num (hD : 1 ≤ D.toInt) (hm : ∀ k : Nat, (k : Int) + 1 < D.toInt → (bh k).toInt ≤ (bh (k + 1)).toInt) (hT : (bh (D.toInt - 1).toNat).toInt ≤ h.toInt) (hop : p0.toInt = 65 ∨ p0.toInt = 66 ∨ 69 ≤ p0.toInt) (hop2 : p0.toInt = 65 ∨ p0.toInt = 66 ∨ (69 ≤ p0.toInt ∧ p0.toInt ≤ 90) ∨ (103 ≤ p0.toInt ∧ p0.toInt ≤ 138) ∨ 138 < p0.toInt) (x : ((bh (D.toInt - 1).toNat).toInt ≤ h2.toInt ∧ h2.toInt ≤ h.toInt + 1) ∧ (s2.toInt = 1 → s.toInt = 1 ∧ ((bd (D.toInt - 1).toNat).toInt = 0 → ((p0.toInt = 65 ∨ p0.toInt = 66) → (bh (D.toInt - 1).toNat).toInt + 0 ≤ h.toInt ∧ h2.toInt = h.toInt - 0 + 1) ∧ (¬ (p0.toInt = 65 ∨ p0.toInt = 66) → (p0.toInt = 69 ∨ p0.toInt = 80 ∨ (103 ≤ p0.toInt ∧ p0.toInt < 106) ∨ (121 ≤ p0.toInt ∧ p0.toInt < 124) ∨ 138 < p0.toInt) → (bh (D.toInt - 1).toNat).toInt + 1 ≤ h.toInt ∧ h2.toInt = h.toInt - 1 + 1) ∧ (¬ (p0.toInt = 65 ∨ p0.toInt = 66) → ¬ (p0.toInt = 69 ∨ p0.toInt = 80 ∨ (103 ≤ p0.toInt ∧ p0.toInt < 106) ∨ (121 ≤ p0.toInt ∧ p0.toInt < 124) ∨ 138 < p0.toInt) → (bh (D.toInt - 1).toNat).toInt + 2 ≤ h.toInt ∧ h2.toInt = h.toInt - 2 + 1)))) (z : s2.toInt = 1) : vo nl gv tk fc gc f p0.toInt v D h D h2 bo bg bh bd bo bg bh bd := by
  have n0 : p0.toInt ≠ 0 ∧ p0.toInt ≠ 12 ∧ p0.toInt ≠ 14 ∧ p0.toInt ≠ 15 := by clear x; (first | (apply Int.le_antisymm <;> omega) | omega)
  have n1 : p0.toInt ≠ 2 ∧ p0.toInt ≠ 3 ∧ p0.toInt ≠ 4 ∧ p0.toInt ≠ 5 ∧ p0.toInt ≠ 11 := by clear x; (first | (apply Int.le_antisymm <;> omega) | omega)
  have n2 : p0.toInt ≠ 1 ∧ p0.toInt ≠ 16 := by clear x; (first | (apply Int.le_antisymm <;> omega) | omega)
  have n3 : ¬ (32 ≤ p0.toInt ∧ p0.toInt ≤ 34) ∧ ¬ (p0.toInt = 35 ∨ p0.toInt = 36) ∧ ¬ (p0.toInt = 13 ∨ p0.toInt = 26 ∨ p0.toInt = 33 ∨ p0.toInt = 36) ∧ ¬ p0.toInt = 27 ∧ ¬ (p0.toInt = 54 ∨ p0.toInt = 55 ∨ p0.toInt = 58) := by clear x; (first | (apply Int.le_antisymm <;> omega) | omega)
  have m1 : (p0.toInt = 32 ∨ p0.toInt = 35 ∨ p0.toInt = 63 ∨ p0.toInt = 65 ∨ p0.toInt = 66) → (p0.toInt = 65 ∨ p0.toInt = 66) := by clear x; (first | (apply Int.le_antisymm <;> omega) | omega)
  have m2 : (p0.toInt = 34 ∨ p0.toInt = 64 ∨ p0.toInt = 40 ∨ p0.toInt = 41 ∨ p0.toInt = 44 ∨ p0.toInt = 45 ∨ p0.toInt = 69 ∨ p0.toInt = 80 ∨ (103 ≤ p0.toInt ∧ p0.toInt < 106) ∨ (121 ≤ p0.toInt ∧ p0.toInt < 124) ∨ 138 < p0.toInt) → ¬ (p0.toInt = 65 ∨ p0.toInt = 66) ∧ (p0.toInt = 69 ∨ p0.toInt = 80 ∨ (103 ≤ p0.toInt ∧ p0.toInt < 106) ∨ (121 ≤ p0.toInt ∧ p0.toInt < 124) ∨ 138 < p0.toInt) := by clear x; (first | (apply Int.le_antisymm <;> omega) | omega)
  have m3 : ((69 < p0.toInt ∧ p0.toInt < 80) ∨ (80 < p0.toInt ∧ p0.toInt ≤ 90) ∨ (106 ≤ p0.toInt ∧ p0.toInt < 121) ∨ (124 ≤ p0.toInt ∧ p0.toInt ≤ 138)) → ¬ (p0.toInt = 65 ∨ p0.toInt = 66) ∧ ¬ (p0.toInt = 69 ∨ p0.toInt = 80 ∨ (103 ≤ p0.toInt ∧ p0.toInt < 106) ∨ (121 ≤ p0.toInt ∧ p0.toInt < 124) ∨ 138 < p0.toInt) := by clear x; (first | (apply Int.le_antisymm <;> omega) | omega)
  obtain ⟨⟨x1, x2⟩, x3⟩ := x
  obtain ⟨-, x4⟩ := x3 z
  refine vo_plain hD hm hT x1 x2 n0 n1 (fun y => absurd y n2.1) (fun y => absurd y n2.2) (fun y => absurd y n3.1) (fun y => absurd y n3.2.1) (fun y => ?_)
  obtain ⟨w1, w2, w3⟩ := x4 y
  exact ⟨fun q => absurd q n3.2.2.1, fun q => absurd q n3.2.2.2.1, fun q => ef01 (w1 (m1 q)), fun q => absurd q n3.2.2.2.2, fun q => ef11 (w2 (m2 q).1 (m2 q).2), fun q => ef21 (w3 (m3 q).1 (m3 q).2)⟩
theorem vo_mem (hD : 1 ≤ D.toInt) (hm : ∀ k : Nat, (k : Int) + 1 < D.toInt → (bh k).toInt ≤ (bh (k + 1)).toInt) (hT : (bh (D.toInt - 1).toNat).toInt ≤ h.toInt) (hop : p0.toInt = 40 ∨ p0.toInt = 41 ∨ p0.toInt = 44 ∨ p0.toInt = 45 ∨ p0.toInt = 54 ∨ p0.toInt = 55 ∨ p0.toInt = 58 ∨ p0.toInt = 63 ∨ p0.toInt = 64) (x : ((bh (D.toInt - 1).toNat).toInt ≤ h2.toInt ∧ h2.toInt ≤ h.toInt + 1) ∧ (s2.toInt = 1 → s.toInt = 1 ∧ ((bd (D.toInt - 1).toNat).toInt = 0 → (p0.toInt = 63 → (bh (D.toInt - 1).toNat).toInt + 0 ≤ h.toInt ∧ h2.toInt = h.toInt - 0 + 1) ∧ (p0.toInt ≠ 63 → (p0.toInt = 54 ∨ p0.toInt = 55 ∨ p0.toInt = 58) → (bh (D.toInt - 1).toNat).toInt + 2 ≤ h.toInt ∧ h2.toInt = h.toInt - 2 + 0) ∧ (p0.toInt ≠ 63 → ¬ (p0.toInt = 54 ∨ p0.toInt = 55 ∨ p0.toInt = 58) → (bh (D.toInt - 1).toNat).toInt + 1 ≤ h.toInt ∧ h2.toInt = h.toInt - 1 + 1)))) (z : s2.toInt = 1) : vo nl gv tk fc gc f p0.toInt v D h D h2 bo bg bh bd bo bg bh bd := by
  have n0 : p0.toInt ≠ 0 ∧ p0.toInt ≠ 12 ∧ p0.toInt ≠ 14 ∧ p0.toInt ≠ 15 := by clear x; (first | (apply Int.le_antisymm <;> omega) | omega)
  have n1 : p0.toInt ≠ 2 ∧ p0.toInt ≠ 3 ∧ p0.toInt ≠ 4 ∧ p0.toInt ≠ 5 ∧ p0.toInt ≠ 11 := by clear x; (first | (apply Int.le_antisymm <;> omega) | omega)
  have n2 : p0.toInt ≠ 1 ∧ p0.toInt ≠ 16 := by clear x; (first | (apply Int.le_antisymm <;> omega) | omega)
  have n3 : ¬ (32 ≤ p0.toInt ∧ p0.toInt ≤ 34) ∧ ¬ (p0.toInt = 35 ∨ p0.toInt = 36) ∧ ¬ (p0.toInt = 13 ∨ p0.toInt = 26 ∨ p0.toInt = 33 ∨ p0.toInt = 36) ∧ ¬ p0.toInt = 27 ∧ ¬ ((69 < p0.toInt ∧ p0.toInt < 80) ∨ (80 < p0.toInt ∧ p0.toInt ≤ 90) ∨ (106 ≤ p0.toInt ∧ p0.toInt < 121) ∨ (124 ≤ p0.toInt ∧ p0.toInt ≤ 138)) := by clear x; (first | (apply Int.le_antisymm <;> omega) | omega)
  have m1 : (p0.toInt = 32 ∨ p0.toInt = 35 ∨ p0.toInt = 63 ∨ p0.toInt = 65 ∨ p0.toInt = 66) → p0.toInt = 63 := by clear x; (first | (apply Int.le_antisymm <;> omega) | omega)
  have m2 : (p0.toInt = 54 ∨ p0.toInt = 55 ∨ p0.toInt = 58) → p0.toInt ≠ 63 := by clear x; (first | (apply Int.le_antisymm <;> omega) | omega)
  have m3 : (p0.toInt = 34 ∨ p0.toInt = 64 ∨ p0.toInt = 40 ∨ p0.toInt = 41 ∨ p0.toInt = 44 ∨ p0.toInt = 45 ∨ p0.toInt = 69 ∨ p0.toInt = 80 ∨ (103 ≤ p0.toInt ∧ p0.toInt < 106) ∨ (121 ≤ p0.toInt ∧ p0.toInt < 124) ∨ 138 < p0.toInt) → p0.toInt ≠ 63 ∧ ¬ (p0.toInt = 54 ∨ p0.toInt = 55 ∨ p0.toInt = 58) := by clear x; (first | (apply Int.le_antisymm <;> omega) | omega)
  obtain ⟨⟨x1, x2⟩, x3⟩ := x
  obtain ⟨-, x4⟩ := x3 z
  refine vo_plain hD hm hT x1 x2 n0 n1 (fun y => absurd y n2.1) (fun y => absurd y n2.2) (fun y => absurd y n3.1) (fun y => absurd y n3.2.1) (fun y => ?_)
  obtain ⟨w1, w2, w3⟩ := x4 y
  exact ⟨fun q => absurd q n3.2.2.1, fun q => absurd q n3.2.2.2.1, fun q => ef01 (w1 (m1 q)), fun q => ef20 (w2 (m2 q) q), fun q => ef11 (w3 (m3 q).1 (m3 q).2), fun q => absurd q n3.2.2.2.2⟩
theorem vo_var {gwaf gwat gclk : Nat → Int32} {h0_function aw_globalCount : Int32} (hD : 1 ≤ D.toInt) (hm : ∀ k : Nat, (k : Int) + 1 < D.toInt → (bh k).toInt ≤ (bh (k + 1)).toInt) (hT : (bh (D.toInt - 1).toNat).toInt ≤ h.toInt) (hop : p0.toInt = 26 ∨ p0.toInt = 27 ∨ (32 ≤ p0.toInt ∧ p0.toInt ≤ 36)) (hv : 32 ≤ p0.toInt → 0 ≤ p1.toInt ∧ p1.toInt = v) (hn : (gwat (gwaf h0_function.toNatClampNeg).toNatClampNeg).toInt + (gclk h0_function.toNatClampNeg).toInt = nl f) (hg : aw_globalCount.toInt = gc) (x : ((bh (D.toInt - 1).toNat).toInt ≤ h2.toInt ∧ h2.toInt ≤ h.toInt + 1) ∧ (s2.toInt = 1 → s.toInt = 1 ∧ (32 ≤ p0.toInt ∧ p0.toInt ≤ 34 → p1.toInt < (gwat (gwaf h0_function.toNatClampNeg).toNatClampNeg).toInt + (gclk h0_function.toNatClampNeg).toInt) ∧ (35 ≤ p0.toInt → p1.toInt < aw_globalCount.toInt) ∧ ((bd (D.toInt - 1).toNat).toInt = 0 → (p0.toInt = 26 → (bh (D.toInt - 1).toNat).toInt + 1 ≤ h.toInt ∧ h2.toInt = h.toInt - 1 + 0) ∧ (p0.toInt = 27 → (bh (D.toInt - 1).toNat).toInt + 3 ≤ h.toInt ∧ h2.toInt = h.toInt - 3 + 1) ∧ (p0.toInt = 32 ∨ p0.toInt = 35 → (bh (D.toInt - 1).toNat).toInt + 0 ≤ h.toInt ∧ h2.toInt = h.toInt - 0 + 1) ∧ (p0.toInt = 33 ∨ p0.toInt = 36 → (bh (D.toInt - 1).toNat).toInt + 1 ≤ h.toInt ∧ h2.toInt = h.toInt - 1 + 0) ∧ (p0.toInt = 34 → (bh (D.toInt - 1).toNat).toInt + 1 ≤ h.toInt ∧ h2.toInt = h.toInt - 1 + 1)))) (z : s2.toInt = 1) : vo nl gv tk fc gc f p0.toInt v D h D h2 bo bg bh bd bo bg bh bd := by
  have n0 : p0.toInt ≠ 0 ∧ p0.toInt ≠ 12 ∧ p0.toInt ≠ 14 ∧ p0.toInt ≠ 15 := by clear x hv; (first | (apply Int.le_antisymm <;> omega) | omega)
  have n1 : p0.toInt ≠ 2 ∧ p0.toInt ≠ 3 ∧ p0.toInt ≠ 4 ∧ p0.toInt ≠ 5 ∧ p0.toInt ≠ 11 := by clear x hv; (first | (apply Int.le_antisymm <;> omega) | omega)
  have n2 : p0.toInt ≠ 1 ∧ p0.toInt ≠ 16 := by clear x hv; (first | (apply Int.le_antisymm <;> omega) | omega)
  have n3 : ¬ (p0.toInt = 54 ∨ p0.toInt = 55 ∨ p0.toInt = 58) ∧ ¬ ((69 < p0.toInt ∧ p0.toInt < 80) ∨ (80 < p0.toInt ∧ p0.toInt ≤ 90) ∨ (106 ≤ p0.toInt ∧ p0.toInt < 121) ∨ (124 ≤ p0.toInt ∧ p0.toInt ≤ 138)) ∧ ¬ p0.toInt = 13 := by clear x hv; (first | (apply Int.le_antisymm <;> omega) | omega)
  have m1 : (p0.toInt = 32 ∨ p0.toInt = 35 ∨ p0.toInt = 63 ∨ p0.toInt = 65 ∨ p0.toInt = 66) → p0.toInt = 32 ∨ p0.toInt = 35 := by clear x hv; (first | (apply Int.le_antisymm <;> omega) | omega)
  have m3 : (p0.toInt = 34 ∨ p0.toInt = 64 ∨ p0.toInt = 40 ∨ p0.toInt = 41 ∨ p0.toInt = 44 ∨ p0.toInt = 45 ∨ p0.toInt = 69 ∨ p0.toInt = 80 ∨ (103 ≤ p0.toInt ∧ p0.toInt < 106) ∨ (121 ≤ p0.toInt ∧ p0.toInt < 124) ∨ 138 < p0.toInt) → p0.toInt = 34 := by clear x hv; (first | (apply Int.le_antisymm <;> omega) | omega)
  have m4 : (p0.toInt = 35 ∨ p0.toInt = 36) → 32 ≤ p0.toInt ∧ 35 ≤ p0.toInt := by clear x hv; (first | (apply Int.le_antisymm <;> omega) | omega)
  obtain ⟨⟨x1, x2⟩, x3⟩ := x
  obtain ⟨-, x5, x6, x4⟩ := x3 z
  refine vo_plain hD hm hT x1 x2 n0 n1 (fun y => absurd y n2.1) (fun y => absurd y n2.2) (fun y => ?_) (fun y => ?_) (fun y => ?_)
  · obtain ⟨h1, h2⟩ := hv y.1
    have h3 := x5 y
    rw [← h2, ← hn]
    exact ⟨h1, h3⟩
  · obtain ⟨h1, h2⟩ := hv (m4 y).1
    have h3 := x6 (m4 y).2
    rw [← h2, ← hg]
    exact ⟨h1, h3⟩
  · obtain ⟨w1, w2, w3, w4, w5⟩ := x4 y
    refine ⟨fun q => ?_, fun q => ef31 (w2 q), fun q => ef01 (w3 (m1 q)), fun q => absurd q n3.1, fun q => ef11 (w5 (m3 q)), fun q => absurd q n3.2.1⟩
    rcases q with q | q | q | q
    · exact absurd q n3.2.2
    · exact ef10 (w1 q)
    · exact ef10 (w4 (Or.inl q))
    · exact ef10 (w4 (Or.inr q))
theorem vo_jump {gwaf gwat gwag gcop gcpt : Nat → Int32} {gcva : Nat → Int64} (hD : 1 ≤ D.toInt) (hm : ∀ k : Nat, (k : Int) + 1 < D.toInt → (bh k).toInt ≤ (bh (k + 1)).toInt) (hT : (bh (D.toInt - 1).toNat).toInt ≤ h.toInt) (hop : 12 ≤ p0.toInt ∧ p0.toInt ≤ 16) (hv0 : p0.toInt = 16 → 0 ≤ v) (hv : v = (gcva p1.toNatClampNeg).toInt) (ht : p0.toInt = 16 → v < fc → tk v.toNat = (gwat (gwaf (gcva p1.toNatClampNeg).toInt.toNat).toNatClampNeg).toInt ∧ gv v.toNat = (if (gwag (gwaf (gcva p1.toNatClampNeg).toInt.toNat).toNatClampNeg).toInt = 64 then 0 else 1)) (hg0 : bh2 = bh) (x : (p0.toInt = 12 ∨ p0.toInt = 14 ∨ p0.toInt = 15 → (h2.toInt = (bh (D.toInt - 1).toNat).toInt ∧ bd2 = upd bd (D.toInt - 1).toNat (vp_nar .boolean 1)) ∧ (s2.toInt = 1 → s.toInt = 1 ∧ (p0.toInt = 14 → (bd (D.toInt - 1).toNat).toInt = 0 → (bh (D.toInt - 1).toNat).toInt + 1 ≤ h.toInt))) ∧ (p0.toInt = 13 → bd2 = bd ∧ ((bh (D.toInt - 1).toNat).toInt ≤ h2.toInt ∧ h2.toInt ≤ h.toInt + 1) ∧ (s2.toInt = 1 → s.toInt = 1 ∧ ((bd (D.toInt - 1).toNat).toInt = 0 → (bh (D.toInt - 1).toNat).toInt + 1 ≤ h.toInt ∧ h2.toInt = h.toInt - 1))) ∧ (p0.toInt = 16 → bd2 = bd ∧ ((bh (D.toInt - 1).toNat).toInt ≤ h2.toInt ∧ h2.toInt ≤ h.toInt + 1) ∧ (s2.toInt = 1 → s.toInt = 1 ∧ (gcva p1.toNatClampNeg).toInt < fc ∧ ((bd (D.toInt - 1).toNat).toInt = 0 → (bh (D.toInt - 1).toNat).toInt + (gwat (gwaf (gcva p1.toNatClampNeg).toInt.toNat).toNatClampNeg).toInt ≤ h.toInt ∧ h2.toInt = h.toInt - (gwat (gwaf (gcva p1.toNatClampNeg).toInt.toNat).toNatClampNeg).toInt + (if (gwag (gwaf (gcva p1.toNatClampNeg).toInt.toNat).toNatClampNeg).toInt = 64 then 0 else 1))))) (z : s2.toInt = 1) : vo nl gv tk fc gc f p0.toInt v D h D h2 bo bg bh bd bo bg bh bd2 := by
  obtain ⟨x1, x2, x3⟩ := x
  by_cases q : p0.toInt = 12 ∨ p0.toInt = 14 ∨ p0.toInt = 15
  · obtain ⟨⟨y1, y2⟩, y3⟩ := x1 q
    exact vo_die hD hm hT y1 y2 (by (first | (apply Int.le_antisymm <;> omega) | omega)) (y3 z).2
  by_cases q13 : p0.toInt = 13
  · obtain ⟨rfl, ⟨y1, y2⟩, y3⟩ := x2 q13
    obtain ⟨-, y4⟩ := y3 z
    exact vo_plain hD hm hT y1 y2 (by (first | (apply Int.le_antisymm <;> omega) | omega)) (by (first | (apply Int.le_antisymm <;> omega) | omega)) (fun y => by (first | (apply Int.le_antisymm <;> omega) | omega)) (fun y => by (first | (apply Int.le_antisymm <;> omega) | omega)) (fun y => by (first | (apply Int.le_antisymm <;> omega) | omega)) (fun y => by (first | (apply Int.le_antisymm <;> omega) | omega)) (fun y => ⟨fun _ => y4 y, fun w => by (first | (apply Int.le_antisymm <;> omega) | omega), fun w => by (first | (apply Int.le_antisymm <;> omega) | omega), fun w => by (first | (apply Int.le_antisymm <;> omega) | omega), fun w => by (first | (apply Int.le_antisymm <;> omega) | omega), fun w => by (first | (apply Int.le_antisymm <;> omega) | omega)⟩)
  · have q16 : p0.toInt = 16 := by (first | (apply Int.le_antisymm <;> omega) | omega)
    obtain ⟨rfl, ⟨y1, y2⟩, y3⟩ := x3 q16
    obtain ⟨-, y5, y4⟩ := y3 z
    rw [← hv] at y5 y4
    obtain ⟨t1, t2⟩ := ht q16 y5
    rw [← hv] at t1 t2
    rw [← t1, ← t2] at y4
    exact vo_plain hD hm hT y1 y2 (by (first | (apply Int.le_antisymm <;> omega) | omega)) (by (first | (apply Int.le_antisymm <;> omega) | omega)) (fun y => by (first | (apply Int.le_antisymm <;> omega) | omega)) (fun _ => ⟨hv0 q16, y5, y4⟩) (fun y => by (first | (apply Int.le_antisymm <;> omega) | omega)) (fun y => by (first | (apply Int.le_antisymm <;> omega) | omega)) (fun y => ⟨fun w => by (first | (apply Int.le_antisymm <;> omega) | omega), fun w => by (first | (apply Int.le_antisymm <;> omega) | omega), fun w => by (first | (apply Int.le_antisymm <;> omega) | omega), fun w => by (first | (apply Int.le_antisymm <;> omega) | omega), fun w => by (first | (apply Int.le_antisymm <;> omega) | omega), fun w => by (first | (apply Int.le_antisymm <;> omega) | omega)⟩)
theorem vo_blocks (hD : 1 ≤ D.toInt) (hm : ∀ k : Nat, (k : Int) + 1 < D.toInt → (bh k).toInt ≤ (bh (k + 1)).toInt) (hT : (bh (D.toInt - 1).toNat).toInt ≤ h.toInt) (hop : (0 ≤ p0.toInt ∧ p0.toInt ≤ 5) ∨ p0.toInt = 11) (hv : p0.toInt = 2 ∨ p0.toInt = 3 ∨ p0.toInt = 4 → p1.toInt = v) (x : (p0.toInt = 0 → (h2.toInt = (bh (D.toInt - 1).toNat).toInt ∧ bd2 = upd bd (D.toInt - 1).toNat (vp_nar .boolean 1)) ∧ D2 = D ∧ bo2 = bo ∧ bg2 = bg ∧ bh2 = bh ∧ (s2.toInt = 1 → s.toInt = 1)) ∧ (p0.toInt = 1 → h2 = h ∧ bd2 = bd ∧ D2 = D ∧ bo2 = bo ∧ bg2 = bg ∧ bh2 = bh ∧ (s2.toInt = 1 → s.toInt = 1)) ∧ (p0.toInt = 2 ∨ p0.toInt = 3 → (D2.toInt = D.toInt + 1 ∧ bo2 = upd bo D.toNatClampNeg p0 ∧ bg2 = upd bg D.toNatClampNeg p1 ∧ bh2 = upd bh D.toNatClampNeg h2 ∧ bd2 = upd bd D.toNatClampNeg (vp_nar .boolean 0)) ∧ h2 = h ∧ (s2.toInt = 1 → s.toInt = 1)) ∧ (p0.toInt = 4 → (D2.toInt = D.toInt + 1 ∧ bo2 = upd bo D.toNatClampNeg p0 ∧ bg2 = upd bg D.toNatClampNeg p1 ∧ bh2 = upd bh D.toNatClampNeg h2 ∧ bd2 = upd bd D.toNatClampNeg (vp_nar .boolean 0)) ∧ ((bh (D.toInt - 1).toNat).toInt ≤ h2.toInt ∧ h2.toInt ≤ h.toInt) ∧ (s2.toInt = 1 → s.toInt = 1 ∧ ((bd (D.toInt - 1).toNat).toInt = 0 → (bh (D.toInt - 1).toNat).toInt + 1 ≤ h.toInt ∧ h2.toInt = h.toInt - 1))) ∧ (p0.toInt = 5 → D2.toInt = D.toInt ∧ (bo2 = upd bo (D.toInt - 1).toNat p0 ∧ (∃ v : Int32, v = bg (D.toInt - 1).toNat ∧ bg2 = upd bg (D.toInt - 1).toNat v) ∧ bh2 = upd bh (D.toInt - 1).toNat h2 ∧ bd2 = upd bd (D.toInt - 1).toNat (vp_nar .boolean 0)) ∧ (s2.toInt = 1 → s.toInt = 1 ∧ h2.toInt = (bh (D.toInt - 1).toNat).toInt ∧ ((bd (D.toInt - 1).toNat).toInt = 0 → ((bg (D.toInt - 1).toNat).toInt = 64 → h.toInt = (bh (D.toInt - 1).toNat).toInt) ∧ ((bg (D.toInt - 1).toNat).toInt ≠ 64 → h.toInt = (bh (D.toInt - 1).toNat).toInt + 1)))) ∧ (p0.toInt = 11 → bo2 = bo ∧ bg2 = bg ∧ bh2 = bh ∧ bd2 = bd ∧ D2.toInt = D.toInt - 1 ∧ (s2.toInt = 1 → s.toInt = 1 ∧ ((bd (D.toInt - 1).toNat).toInt = 0 → ((bg (D.toInt - 1).toNat).toInt = 64 → h.toInt = (bh (D.toInt - 1).toNat).toInt) ∧ ((bg (D.toInt - 1).toNat).toInt ≠ 64 → h.toInt = (bh (D.toInt - 1).toNat).toInt + 1)) ∧ ((bo (D.toInt - 1).toNat).toInt = 4 → (bg (D.toInt - 1).toNat).toInt = 64) ∧ (2 ≤ D.toInt → ((bg (D.toInt - 1).toNat).toInt = 64 → h2.toInt = (bh (D.toInt - 1).toNat).toInt) ∧ ((bg (D.toInt - 1).toNat).toInt ≠ 64 → h2.toInt = (bh (D.toInt - 1).toNat).toInt + 1))))) (z : s2.toInt = 1) : vo nl gv tk fc gc f p0.toInt v D h D2 h2 bo bg bh bd bo2 bg2 bh2 bd2 := by
  obtain ⟨x0, x1, x2, x4, x5, x11⟩ := x
  by_cases q0 : p0.toInt = 0
  · obtain ⟨⟨y1, y2⟩, y3, y4, y5, y6, -⟩ := x0 q0
    subst y3; subst y4; subst y5; subst y6
    exact vo_die hD hm hT y1 y2 (by (first | (apply Int.le_antisymm <;> omega) | omega)) (fun y => by (first | (apply Int.le_antisymm <;> omega) | omega))
  by_cases q1 : p0.toInt = 1
  · obtain ⟨y1, y2, y3, y4, y5, y6, -⟩ := x1 q1
    subst y1; subst y2; subst y3; subst y4; subst y5; subst y6
    exact vo_plain hD hm hT hT (by (first | (apply Int.le_antisymm <;> omega) | omega)) (by (first | (apply Int.le_antisymm <;> omega) | omega)) (by (first | (apply Int.le_antisymm <;> omega) | omega)) (fun _ => rfl) (fun y => by (first | (apply Int.le_antisymm <;> omega) | omega)) (fun y => by (first | (apply Int.le_antisymm <;> omega) | omega)) (fun y => by (first | (apply Int.le_antisymm <;> omega) | omega)) (fun y => ⟨fun w => by (first | (apply Int.le_antisymm <;> omega) | omega), fun w => by (first | (apply Int.le_antisymm <;> omega) | omega), fun w => by (first | (apply Int.le_antisymm <;> omega) | omega), fun w => by (first | (apply Int.le_antisymm <;> omega) | omega), fun w => by (first | (apply Int.le_antisymm <;> omega) | omega), fun w => by (first | (apply Int.le_antisymm <;> omega) | omega)⟩)
  by_cases q2 : p0.toInt = 2 ∨ p0.toInt = 3
  · obtain ⟨⟨y1, y2, y3, y4, y5⟩, y6, -⟩ := x2 q2
    exact vo_open hD hm hT rfl (hv (by (first | (apply Int.le_antisymm <;> omega) | omega))) y1 y2 y3 y4 y5 (by (first | (apply Int.le_antisymm <;> omega) | omega)) (by rw [y6]; exact hT) (by rw [y6]; exact Int.le_refl _) (fun _ => by rw [y6]) (fun y => by (first | (apply Int.le_antisymm <;> omega) | omega))
  by_cases q4 : p0.toInt = 4
  · obtain ⟨⟨y1, y2, y3, y4, y5⟩, ⟨y6, y7⟩, y8⟩ := x4 q4
    exact vo_open hD hm hT rfl (hv (by (first | (apply Int.le_antisymm <;> omega) | omega))) y1 y2 y3 y4 y5 (by (first | (apply Int.le_antisymm <;> omega) | omega)) y6 y7 (fun y => by (first | (apply Int.le_antisymm <;> omega) | omega)) (fun _ => (y8 z).2)
  by_cases q5 : p0.toInt = 5
  · obtain ⟨y1, ⟨y2, ⟨w, y3, y4⟩, y5, y6⟩, y7⟩ := x5 q5
    obtain ⟨-, y8, y9⟩ := y7 z
    exact vo_else hD hm hT q5 y3 y1 y2 y4 y5 y6 q5 y8 y9
  · have q11 : p0.toInt = 11 := by (first | (apply Int.le_antisymm <;> omega) | omega)
    obtain ⟨y1, y2, y3, y4, y5, y6⟩ := x11 q11
    obtain ⟨-, y7, y8, y9⟩ := y6 z
    subst y1; subst y2; subst y3; subst y4
    exact vo_close hD hm hT y5 q11 y8 y7 y9
end VP
section VF
variable {nl gv tk : Nat → Int} {fc gc lc : Int} {f a m i : Nat} {gop gpt gel : Nat → Int32} {gva : Nat → Int64} {sb : Nat → List Nat} {D h D2 h2 : Int32} {bo bg bh bd bo2 bg2 bh2 bd2 : Nat → Int32}
def vF (nl gv tk : Nat → Int) (fc gc : Int) (f : Nat) (gop : Nat → Int32) (gva : Nat → Int64) (a m i : Nat) (D h : Int32) (bo bg bh bd : Nat → Int32) (sb : Nat → List Nat) : Prop :=
  ∃ B hh, vI nl gv tk fc gc f gop gva a m i B hh ∧ (i ≤ m → B i = vs_stk bo bg bh bd D.toNatClampNeg ∧ hh i = h.toInt ∧ D.toInt = (sb i).length + 1 ∧ (∀ k : Nat, (k : Int) + 1 < D.toInt → (bh k).toInt ≤ (bh (k + 1)).toInt) ∧ (bh (D.toInt - 1).toNat).toInt ≤ h.toInt ∧ h.toInt ≤ (i : Int) - a)
theorem vf_val (s2 : rs_I a m gop gpt gel gva lc sb) (s4 : (gop m).toInt = 11) (h1 : a ≤ i) (h2 : i ≤ m) : rs_val gop gpt gva lc i := by
  by_cases q : i < m
  · exact (s2.2.2.2 i h1 q).1
  · have e : i = m := by (first | (apply Int.le_antisymm <;> omega) | omega)
    subst e
    unfold rs_val
    exact ⟨fun z => by (first | (apply Int.le_antisymm <;> omega) | omega), fun z => by (first | (apply Int.le_antisymm <;> omega) | omega), fun z => by (first | (apply Int.le_antisymm <;> omega) | omega), by (first | (apply Int.le_antisymm <;> omega) | omega)⟩
theorem vf_open (s2 : rs_I a m gop gpt gel gva lc sb) (s4 : (gop m).toInt = 11) (h1 : a ≤ i) (h2 : i ≤ m) (ho : (gop i).toInt = 2 ∨ (gop i).toInt = 3 ∨ (gop i).toInt = 4) : (sb i).length < 100 := by
  by_cases q : i < m
  · have e := (s2.2.2.2 i h1 q).2.1 ho
    have l := (s2.2.2.1 (i + 1) (by (first | (apply Int.le_antisymm <;> omega) | omega)) (by (first | (apply Int.le_antisymm <;> omega) | omega))).2.2
    rw [e, List.length_cons] at l
    (first | (apply Int.le_antisymm <;> omega) | omega)
  · have e : i = m := by (first | (apply Int.le_antisymm <;> omega) | omega)
    subst e
    (first | (apply Int.le_antisymm <;> omega) | omega)
theorem vF_next (F : vF nl gv tk fc gc f gop gva a m i D h bo bg bh bd sb) (s2 : rs_I a m gop gpt gel gva lc sb) (hi : a ≤ i) (him : i ≤ m) (o : vo nl gv tk fc gc f (gop i).toInt (gva i).toInt D h D2 h2 bo bg bh bd bo2 bg2 bh2 bd2) (hp : ∀ j : Nat, 0 ≤ (bh2 j).toInt ∧ (bh2 j).toInt ≤ 5000) (h0 : 0 ≤ h2.toInt) : vF nl gv tk fc gc f gop gva a m (i + 1) D2 h2 bo2 bg2 bh2 bd2 sb := by
  obtain ⟨B, hh, k1, k2⟩ := F
  obtain ⟨e1, e2, e3, e4, e5, e6⟩ := k2 him
  obtain ⟨o1, o2, o3, o4⟩ := o
  have hL : i < m → (gop i).toInt = 11 → 2 ≤ D.toInt := fun q z => by
    obtain ⟨b, r, w, -⟩ := (s2.2.2.2 i hi q).2.2.2.2.1 z
    rw [w, List.length_cons] at e3
    (first | (apply Int.le_antisymm <;> omega) | omega)
  obtain ⟨B2, hh2, j1, j2, j3⟩ := vI_next k1 hi him e1 e2 (fun q => (o1 (hL q)).1) (fun _ => ⟨h0, vs_stk_pos hp _⟩)
  refine ⟨B2, hh2, j1, fun q => ?_⟩
  have q : i < m := q
  obtain ⟨-, v2, -, -, v5, v6, -⟩ := s2.2.2.2 i hi q
  obtain ⟨-, u2, u3, u4⟩ := o1 (hL q)
  refine ⟨j2, j3, ?_, u2, u3, by (first | (apply Int.le_antisymm <;> omega) | omega)⟩
  by_cases p2 : (gop i).toInt = 2 ∨ (gop i).toInt = 3 ∨ (gop i).toInt = 4
  · rw [v2 p2, List.length_cons, o2 p2, e3]
    (first | (apply Int.le_antisymm <;> omega) | omega)
  by_cases p11 : (gop i).toInt = 11
  · obtain ⟨b, r, w1, w2, -⟩ := v5 p11
    rw [w1, List.length_cons] at e3
    rw [w2, o3 p11, e3]
    (first | (apply Int.le_antisymm <;> omega) | omega)
  · rw [v6 (by (first | (apply Int.le_antisymm <;> omega) | omega)) (by (first | (apply Int.le_antisymm <;> omega) | omega)) (by (first | (apply Int.le_antisymm <;> omega) | omega)) p11, o4 (by (first | (apply Int.le_antisymm <;> omega) | omega)) (by (first | (apply Int.le_antisymm <;> omega) | omega)) (by (first | (apply Int.le_antisymm <;> omega) | omega)) p11, e3]
theorem vF_start (s2 : rs_I a m gop gpt gel gva lc sb) {x y : Int32} (eD : D.toInt = 1) (eh : h.toInt = 0) (e3 : bh = upd bo2 0 y) (ey : y.toInt = 0) (e4 : bd = upd bd2 0 (vp_nar .boolean 0)) : vF nl gv tk fc gc f gop gva a m a D h bo bg bh bd sb := by
  have eDn : D.toNatClampNeg = 1 := by rw [i32_natI eD]; rfl
  have k0 : (vp_nar .boolean 0).toInt = 0 := by decide
  have eS : vs_stk bo bg bh bd 1 = [((bo 0).toInt, (bg 0).toInt, 0, 0)] := by
    show [((bo 0).toInt, (bg 0).toInt, (bh 0).toInt, (bd 0).toInt)] = _
    rw [e3, e4, pk_us, pk_us, ey, k0]
  refine ⟨fun _ => vs_stk bo bg bh bd 1, fun _ => 0, ⟨fun j j1 j2 _ => by (first | (apply Int.le_antisymm <;> omega) | omega), fun j _ _ _ => ⟨Int.le_refl _, fun w hw => ?_⟩, by rw [eS]; rfl, rfl, by rw [eS]; rfl⟩, fun _ => ⟨by rw [eDn], eh.symm, by rw [s2.2.1]; exact eD, fun k hk => by (first | (apply Int.le_antisymm <;> omega) | omega), ?_, by (first | (apply Int.le_antisymm <;> omega) | omega)⟩⟩
  · rw [eS] at hw
    rcases List.mem_cons.mp hw with e | e
    · rw [e]
      exact Int.le_refl _
    · cases e
  · rw [show (D.toInt - 1).toNat = 0 by (first | (apply Int.le_antisymm <;> omega) | omega), e3, pk_us]
    (first | (apply Int.le_antisymm <;> omega) | omega)
/-- a function that is valid -/
def vfin (nl gv tk : Nat → Int) (fc gc : Int) (f : Nat) (gop gpt gel : Nat → Int32) (gva : Nat → Int64) (lc : Int) (a m : Nat) : Prop :=
  ∃ sb B hh, rs_I a m gop gpt gel gva lc sb ∧ sb m = [] ∧ (gop m).toInt = 11 ∧ vI nl gv tk fc gc f gop gva a m m B hh
theorem vF_fin (F : vF nl gv tk fc gc f gop gva a m (m + 1) D h bo bg bh bd sb) (s2 : rs_I a m gop gpt gel gva lc sb) (s3 : sb m = []) (s4 : (gop m).toInt = 11) : vfin nl gv tk fc gc f gop gpt gel gva lc a m := by
  obtain ⟨B, hh, ⟨k1, k2, k3⟩, -⟩ := F
  exact ⟨sb, B, hh, s2, s3, s4, fun j j1 j2 j3 => k1 j j1 (by (first | (apply Int.le_antisymm <;> omega) | omega)) j3, fun j j1 j2 j3 => k2 j j1 (by (first | (apply Int.le_antisymm <;> omega) | omega)) j3, k3⟩
end VF
end q_25b
section q_26
/-! Validator: a function -/
abbrev b_VA_checkFunction : ByteArray := prog_12_method_5_code
def y_VA_checkFunction : MethodName := ⟨R_VA, "checkFunction", "(I)V"⟩
abbrev w_VA_checkFunction : List Cond := .code y_VA_checkFunction b_VA_checkFunction 4 none :: lw_g
theorem kC_VA_checkFunction : Cond.code y_VA_checkFunction b_VA_checkFunction 4 none ∈ lw_g := in_c6 207 rfl rfl
theorem d_VA_checkFunction_0 : decode b_VA_checkFunction 0 = .ok (.aload_n 0, 1) := bz_c42 (by decide +kernel)
theorem d_VA_checkFunction_1 : decode b_VA_checkFunction 1 = .ok (.iload_n 1, 1) := bz_c27 (by decide +kernel)
theorem d_VA_checkFunction_2 : decode b_VA_checkFunction 2 = .ok (.putfield 111, 3) := bz_c181 (by decide +kernel)
theorem d_VA_checkFunction_5 : decode b_VA_checkFunction 5 = .ok (.aload_n 0, 1) := bz_c42 (by decide +kernel)
theorem d_VA_checkFunction_6 : decode b_VA_checkFunction 6 = .ok (.iconst 0, 1) := bz_c3 (by decide +kernel)
theorem d_VA_checkFunction_7 : decode b_VA_checkFunction 7 = .ok (.putfield 114, 3) := bz_c181 (by decide +kernel)
theorem d_VA_checkFunction_10 : decode b_VA_checkFunction 10 = .ok (.aload_n 0, 1) := bz_c42 (by decide +kernel)
theorem d_VA_checkFunction_11 : decode b_VA_checkFunction 11 = .ok (.iconst 0, 1) := bz_c3 (by decide +kernel)
theorem d_VA_checkFunction_12 : decode b_VA_checkFunction 12 = .ok (.putfield 117, 3) := bz_c181 (by decide +kernel)
theorem d_VA_checkFunction_15 : decode b_VA_checkFunction 15 = .ok (.aload_n 0, 1) := bz_c42 (by decide +kernel)
theorem d_VA_checkFunction_16 : decode b_VA_checkFunction 16 = .ok (.iconst 2, 1) := bz_c5 (by decide +kernel)
theorem d_VA_checkFunction_17 : decode b_VA_checkFunction 17 = .ok (.aload_n 0, 1) := bz_c42 (by decide +kernel)
theorem d_VA_checkFunction_18 : decode b_VA_checkFunction 18 = .ok (.getfield 28, 3) := bz_c180 (by decide +kernel)
theorem d_VA_checkFunction_21 : decode b_VA_checkFunction 21 = .ok (.iload_n 1, 1) := bz_c27 (by decide +kernel)
theorem d_VA_checkFunction_22 : decode b_VA_checkFunction 22 = .ok (.invokevirtual 120, 3) := bz_c182 (by decide +kernel)
theorem d_VA_checkFunction_25 : decode b_VA_checkFunction 25 = .ok (.invokevirtual 124, 3) := bz_c182 (by decide +kernel)
theorem d_VA_checkFunction_28 : decode b_VA_checkFunction 28 = .ok (.aload_n 0, 1) := bz_c42 (by decide +kernel)
theorem d_VA_checkFunction_29 : decode b_VA_checkFunction 29 = .ok (.getfield 38, 3) := bz_c180 (by decide +kernel)
theorem d_VA_checkFunction_32 : decode b_VA_checkFunction 32 = .ok (.getfield 128, 3) := bz_c180 (by decide +kernel)
theorem d_VA_checkFunction_35 : decode b_VA_checkFunction 35 = .ok (.iload_n 1, 1) := bz_c27 (by decide +kernel)
theorem d_VA_checkFunction_36 : decode b_VA_checkFunction 36 = .ok (.iaload, 1) := bz_c46 (by decide +kernel)
theorem d_VA_checkFunction_37 : decode b_VA_checkFunction 37 = .ok (.istore_n 2, 1) := bz_c61 (by decide +kernel)
theorem d_VA_checkFunction_38 : decode b_VA_checkFunction 38 = .ok (.iload_n 2, 1) := bz_c28 (by decide +kernel)
theorem d_VA_checkFunction_39 : decode b_VA_checkFunction 39 = .ok (.aload_n 0, 1) := bz_c42 (by decide +kernel)
theorem d_VA_checkFunction_40 : decode b_VA_checkFunction 40 = .ok (.getfield 38, 3) := bz_c180 (by decide +kernel)
theorem d_VA_checkFunction_43 : decode b_VA_checkFunction 43 = .ok (.getfield 128, 3) := bz_c180 (by decide +kernel)
theorem d_VA_checkFunction_46 : decode b_VA_checkFunction 46 = .ok (.iload_n 1, 1) := bz_c27 (by decide +kernel)
theorem d_VA_checkFunction_47 : decode b_VA_checkFunction 47 = .ok (.iconst 1, 1) := bz_c4 (by decide +kernel)
theorem d_VA_checkFunction_48 : decode b_VA_checkFunction 48 = .ok (.iadd, 1) := bz_c96 (by decide +kernel)
theorem d_VA_checkFunction_49 : decode b_VA_checkFunction 49 = .ok (.iaload, 1) := bz_c46 (by decide +kernel)
theorem d_VA_checkFunction_50 : decode b_VA_checkFunction 50 = .ok (.if_icmp .ge 122, 3) := bz_c162 (by decide +kernel)
theorem d_VA_checkFunction_53 : decode b_VA_checkFunction 53 = .ok (.aload_n 0, 1) := bz_c42 (by decide +kernel)
theorem d_VA_checkFunction_54 : decode b_VA_checkFunction 54 = .ok (.getfield 39, 3) := bz_c180 (by decide +kernel)
theorem d_VA_checkFunction_57 : decode b_VA_checkFunction 57 = .ok (.ifCond .eq 115, 3) := bz_c153 (by decide +kernel)
theorem d_VA_checkFunction_60 : decode b_VA_checkFunction 60 = .ok (.aload_n 0, 1) := bz_c42 (by decide +kernel)
theorem d_VA_checkFunction_61 : decode b_VA_checkFunction 61 = .ok (.getfield 38, 3) := bz_c180 (by decide +kernel)
theorem d_VA_checkFunction_64 : decode b_VA_checkFunction 64 = .ok (.getfield 133, 3) := bz_c180 (by decide +kernel)
theorem d_VA_checkFunction_67 : decode b_VA_checkFunction 67 = .ok (.iload_n 2, 1) := bz_c28 (by decide +kernel)
theorem d_VA_checkFunction_68 : decode b_VA_checkFunction 68 = .ok (.iaload, 1) := bz_c46 (by decide +kernel)
theorem d_VA_checkFunction_69 : decode b_VA_checkFunction 69 = .ok (.istore_n 3, 1) := bz_c62 (by decide +kernel)
theorem d_VA_checkFunction_70 : decode b_VA_checkFunction 70 = .ok (.iload_n 3, 1) := bz_c29 (by decide +kernel)
theorem d_VA_checkFunction_71 : decode b_VA_checkFunction 71 = .ok (.iconst 5, 1) := bz_c8 (by decide +kernel)
theorem d_VA_checkFunction_72 : decode b_VA_checkFunction 72 = .ok (.if_icmp .le 9, 3) := bz_c164 (by decide +kernel)
theorem d_VA_checkFunction_75 : decode b_VA_checkFunction 75 = .ok (.iload_n 3, 1) := bz_c29 (by decide +kernel)
theorem d_VA_checkFunction_76 : decode b_VA_checkFunction 76 = .ok (.bipush 11, 2) := bz_c16 (by decide +kernel)
theorem d_VA_checkFunction_78 : decode b_VA_checkFunction 78 = .ok (.if_icmp .ne 21, 3) := bz_c160 (by decide +kernel)
theorem d_VA_checkFunction_81 : decode b_VA_checkFunction 81 = .ok (.aload_n 0, 1) := bz_c42 (by decide +kernel)
theorem d_VA_checkFunction_82 : decode b_VA_checkFunction 82 = .ok (.iload_n 3, 1) := bz_c29 (by decide +kernel)
theorem d_VA_checkFunction_83 : decode b_VA_checkFunction 83 = .ok (.aload_n 0, 1) := bz_c42 (by decide +kernel)
theorem d_VA_checkFunction_84 : decode b_VA_checkFunction 84 = .ok (.getfield 38, 3) := bz_c180 (by decide +kernel)
theorem d_VA_checkFunction_87 : decode b_VA_checkFunction 87 = .ok (.getfield 136, 3) := bz_c180 (by decide +kernel)
theorem d_VA_checkFunction_90 : decode b_VA_checkFunction 90 = .ok (.iload_n 2, 1) := bz_c28 (by decide +kernel)
theorem d_VA_checkFunction_91 : decode b_VA_checkFunction 91 = .ok (.laload, 1) := bz_c47 (by decide +kernel)
theorem d_VA_checkFunction_92 : decode b_VA_checkFunction 92 = .ok (.l2i, 1) := bz_c136 (by decide +kernel)
theorem d_VA_checkFunction_93 : decode b_VA_checkFunction 93 = .ok (.invokevirtual 140, 3) := bz_c182 (by decide +kernel)
theorem d_VA_checkFunction_96 : decode b_VA_checkFunction 96 = .ok (.goto 70, 3) := bz_c167 (by decide +kernel)
theorem d_VA_checkFunction_99 : decode b_VA_checkFunction 99 = .ok (.iload_n 3, 1) := bz_c29 (by decide +kernel)
theorem d_VA_checkFunction_100 : decode b_VA_checkFunction 100 = .ok (.bipush 16, 2) := bz_c16 (by decide +kernel)
theorem d_VA_checkFunction_102 : decode b_VA_checkFunction 102 = .ok (.if_icmp .gt 12, 3) := bz_c163 (by decide +kernel)
theorem d_VA_checkFunction_105 : decode b_VA_checkFunction 105 = .ok (.aload_n 0, 1) := bz_c42 (by decide +kernel)
theorem d_VA_checkFunction_106 : decode b_VA_checkFunction 106 = .ok (.iload_n 3, 1) := bz_c29 (by decide +kernel)
theorem d_VA_checkFunction_107 : decode b_VA_checkFunction 107 = .ok (.iload_n 2, 1) := bz_c28 (by decide +kernel)
theorem d_VA_checkFunction_108 : decode b_VA_checkFunction 108 = .ok (.invokevirtual 143, 3) := bz_c182 (by decide +kernel)
theorem d_VA_checkFunction_111 : decode b_VA_checkFunction 111 = .ok (.goto 55, 3) := bz_c167 (by decide +kernel)
theorem d_VA_checkFunction_114 : decode b_VA_checkFunction 114 = .ok (.iload_n 3, 1) := bz_c29 (by decide +kernel)
theorem d_VA_checkFunction_115 : decode b_VA_checkFunction 115 = .ok (.bipush 36, 2) := bz_c16 (by decide +kernel)
theorem d_VA_checkFunction_117 : decode b_VA_checkFunction 117 = .ok (.if_icmp .gt 21, 3) := bz_c163 (by decide +kernel)
theorem d_VA_checkFunction_120 : decode b_VA_checkFunction 120 = .ok (.aload_n 0, 1) := bz_c42 (by decide +kernel)
theorem d_VA_checkFunction_121 : decode b_VA_checkFunction 121 = .ok (.iload_n 3, 1) := bz_c29 (by decide +kernel)
theorem d_VA_checkFunction_122 : decode b_VA_checkFunction 122 = .ok (.aload_n 0, 1) := bz_c42 (by decide +kernel)
theorem d_VA_checkFunction_123 : decode b_VA_checkFunction 123 = .ok (.getfield 38, 3) := bz_c180 (by decide +kernel)
theorem d_VA_checkFunction_126 : decode b_VA_checkFunction 126 = .ok (.getfield 136, 3) := bz_c180 (by decide +kernel)
theorem d_VA_checkFunction_129 : decode b_VA_checkFunction 129 = .ok (.iload_n 2, 1) := bz_c28 (by decide +kernel)
theorem d_VA_checkFunction_130 : decode b_VA_checkFunction 130 = .ok (.laload, 1) := bz_c47 (by decide +kernel)
theorem d_VA_checkFunction_131 : decode b_VA_checkFunction 131 = .ok (.l2i, 1) := bz_c136 (by decide +kernel)
theorem d_VA_checkFunction_132 : decode b_VA_checkFunction 132 = .ok (.invokevirtual 146, 3) := bz_c182 (by decide +kernel)
theorem d_VA_checkFunction_135 : decode b_VA_checkFunction 135 = .ok (.goto 31, 3) := bz_c167 (by decide +kernel)
theorem d_VA_checkFunction_138 : decode b_VA_checkFunction 138 = .ok (.iload_n 3, 1) := bz_c29 (by decide +kernel)
theorem d_VA_checkFunction_139 : decode b_VA_checkFunction 139 = .ok (.bipush 64, 2) := bz_c16 (by decide +kernel)
theorem d_VA_checkFunction_141 : decode b_VA_checkFunction 141 = .ok (.if_icmp .gt 20, 3) := bz_c163 (by decide +kernel)
theorem d_VA_checkFunction_144 : decode b_VA_checkFunction 144 = .ok (.aload_n 0, 1) := bz_c42 (by decide +kernel)
theorem d_VA_checkFunction_145 : decode b_VA_checkFunction 145 = .ok (.iload_n 3, 1) := bz_c29 (by decide +kernel)
theorem d_VA_checkFunction_146 : decode b_VA_checkFunction 146 = .ok (.aload_n 0, 1) := bz_c42 (by decide +kernel)
theorem d_VA_checkFunction_147 : decode b_VA_checkFunction 147 = .ok (.getfield 38, 3) := bz_c180 (by decide +kernel)
theorem d_VA_checkFunction_150 : decode b_VA_checkFunction 150 = .ok (.getfield 149, 3) := bz_c180 (by decide +kernel)
theorem d_VA_checkFunction_153 : decode b_VA_checkFunction 153 = .ok (.iload_n 2, 1) := bz_c28 (by decide +kernel)
theorem d_VA_checkFunction_154 : decode b_VA_checkFunction 154 = .ok (.iaload, 1) := bz_c46 (by decide +kernel)
theorem d_VA_checkFunction_155 : decode b_VA_checkFunction 155 = .ok (.invokevirtual 152, 3) := bz_c182 (by decide +kernel)
theorem d_VA_checkFunction_158 : decode b_VA_checkFunction 158 = .ok (.goto 8, 3) := bz_c167 (by decide +kernel)
theorem d_VA_checkFunction_161 : decode b_VA_checkFunction 161 = .ok (.aload_n 0, 1) := bz_c42 (by decide +kernel)
theorem d_VA_checkFunction_162 : decode b_VA_checkFunction 162 = .ok (.iload_n 3, 1) := bz_c29 (by decide +kernel)
theorem d_VA_checkFunction_163 : decode b_VA_checkFunction 163 = .ok (.invokevirtual 155, 3) := bz_c182 (by decide +kernel)
theorem d_VA_checkFunction_166 : decode b_VA_checkFunction 166 = .ok (.iinc 2 1, 3) := by decide +kernel
theorem d_VA_checkFunction_169 : decode b_VA_checkFunction 169 = .ok (.goto (-131), 3) := bz_c167 (by decide +kernel)
theorem d_VA_checkFunction_172 : decode b_VA_checkFunction 172 = .ok (.return_, 1) := bz_c177 (by decide +kernel)
theorem kM_VA_140 : Cond.methodLink R_VA 140 y_VA_checkBlocks ∈ lw_g := in_c6 216 rfl rfl
theorem kV_VA_checkBlocks : Cond.instanceMethod y_VA_checkBlocks ∈ lw_g := in_c6 218 rfl rfl
theorem kS_VA_checkBlocks : Cond.selects R_VA y_VA_checkBlocks y_VA_checkBlocks ∈ lw_g := in_s 85 (by decide +kernel) rfl
theorem kM_VA_143 : Cond.methodLink R_VA 143 y_VA_checkJump ∈ lw_g := in_c7 0 rfl rfl
theorem kV_VA_checkJump : Cond.instanceMethod y_VA_checkJump ∈ lw_g := in_c7 2 rfl rfl
theorem kS_VA_checkJump : Cond.selects R_VA y_VA_checkJump y_VA_checkJump ∈ lw_g := in_s 91 (by decide +kernel) rfl
theorem kM_VA_146 : Cond.methodLink R_VA 146 y_VA_checkVariable ∈ lw_g := in_c7 25 rfl rfl
theorem kV_VA_checkVariable : Cond.instanceMethod y_VA_checkVariable ∈ lw_g := in_c7 27 rfl rfl
theorem kS_VA_checkVariable : Cond.selects R_VA y_VA_checkVariable y_VA_checkVariable ∈ lw_g := in_s 95 (by decide +kernel) rfl
theorem kM_VA_152 : Cond.methodLink R_VA 152 y_VA_checkMemory ∈ lw_g := in_c7 33 rfl rfl
theorem kV_VA_checkMemory : Cond.instanceMethod y_VA_checkMemory ∈ lw_g := in_c7 35 rfl rfl
theorem kS_VA_checkMemory : Cond.selects R_VA y_VA_checkMemory y_VA_checkMemory ∈ lw_g := in_s 97 (by decide +kernel) rfl
theorem kM_VA_155 : Cond.methodLink R_VA 155 y_VA_checkNumber ∈ lw_g := in_c7 42 rfl rfl
theorem kV_VA_checkNumber : Cond.instanceMethod y_VA_checkNumber ∈ lw_g := in_c7 44 rfl rfl
theorem kS_VA_checkNumber : Cond.selects R_VA y_VA_checkNumber y_VA_checkNumber ∈ lw_g := in_s 98 (by decide +kernel) rfl
theorem kF_VA_128 : Cond.fieldLink R_VA 128 "WaferForge$Codes" "firsts" "[I" ∈ lw_g := in_c1 84 rfl rfl
theorem kF_VA_133 : Cond.fieldLink R_VA 133 "WaferForge$Codes" "ops" "[I" ∈ lw_g := in_c1 99 rfl rfl
abbrev at_VA_checkFunction (dC : Nat → ClassId) (dI : Nat → Nat → Nat) (h0 aw ac ty bo bg bh bd wat wap wag waf wgt wgc cfi clk clt cop cva cpt cel cla : Nat) (cty cbo cbg cbh cbd cwaf cwat cwap cwag cwgt cwgc ccfi cclk cclt ccop ccva ccpt ccel ccla : ClassId) (law : List Value) (aw_functionCount : Int32) (aw_hasMemory : Int32) (aw_globalCount : Int32) (ac_length : Int32) (ac_labelCount : Int32) (gwaf : Nat → Int32) (gwat : Nat → Int32) (gwap : Nat → Int32) (gwag : Nat → Int32) (gwgt : Nat → Int32) (gwgc : Nat → Int32) (gcfi : Nat → Int32) (gclk : Nat → Int32) (gclt : Nat → Int32) (gcop : Nat → Int32) (gcva : Nat → Int64) (gcpt : Nat → Int32) (gcel : Nat → Int32) (gcla : Nat → Int32) (A : Nat → Prop) (u : (Nat → Int32) × (Nat → Int32) × (Nat → Int32) × (Nat → Int32) × (Nat → Int32) × Int32 × Int32 × Int32 × Int32) (t : State) : Prop := match u with | (gbd, gbg, gbh, gbo, gty, h0_depth, h0_function, h0_height, h0_sound) => va_P (dC, dI) cls (wz_89 h0 aw ac h0_sound h0_function ty h0_height bo bg bh bd h0_depth aw law ac cfi clk clt ac_length cop cva cpt cel ac_labelCount cla ty cty gty bo cbo gbo bg cbg gbg bh cbh gbh bd cbd gbd waf cwaf gwaf wat cwat gwat wap cwap gwap wag cwag gwag wgt cwgt gwgt wgc cwgc gwgc cfi ccfi gcfi clk cclk gclk clt cclt gclt cop ccop gcop cva ccva gcva cpt ccpt gcpt cel ccel gcel cla ccla gcla) t.heap ∧ va_K (dC, dI) cls [(cty, .int), (cbo, .int), (cbg, .int), (cbh, .int), (cbd, .boolean), (cwaf, .int), (cwat, .int), (cwap, .int), (cwag, .int), (cwgt, .int), (cwgc, .boolean), (ccfi, .int), (cclk, .int), (cclt, .int), (ccop, .int), (ccva, .long), (ccpt, .int), (ccel, .int), (ccla, .int)] t ∧ va_D A (wz_89 h0 aw ac h0_sound h0_function ty h0_height bo bg bh bd h0_depth aw law ac cfi clk clt ac_length cop cva cpt cel ac_labelCount cla ty cty gty bo cbo gbo bg cbg gbg bh cbh gbh bd cbd gbd waf cwaf gwaf wat cwat gwat wap cwap gwap wag cwag gwag wgt cwgt gwgt wgc cwgc gwgc cfi ccfi gcfi clk cclk gclk clt cclt gclt cop ccop gcop cva ccva gcva cpt ccpt gcpt cel ccel gcel cla ccla gcla)
set_option maxHeartbeats 4000000 in
set_option maxRecDepth 100000 in
theorem c_VA_checkFunction (l : Launch) (dC : Nat → ClassId) (dI : Nat → Nat → Nat) (sz : Nat) (h0 aw ac ty bo bg bh bd wat wap wag waf wgt wgc cfi clk clt cop cva cpt cel cla : Nat) (cty cbo cbg cbh cbd cwaf cwat cwap cwag cwgt cwgc ccfi cclk cclt ccop ccva ccpt ccel ccla : ClassId) (h0_sound : Int32) (h0_function : Int32) (h0_height : Int32) (h0_depth : Int32) (law : List Value) (aw_functionCount : Int32) (aw_hasMemory : Int32) (aw_globalCount : Int32) (ac_length : Int32) (ac_labelCount : Int32) (gty : Nat → Int32) (gbo : Nat → Int32) (gbg : Nat → Int32) (gbh : Nat → Int32) (gbd : Nat → Int32) (gwaf : Nat → Int32) (gwat : Nat → Int32) (gwap : Nat → Int32) (gwag : Nat → Int32) (gwgt : Nat → Int32) (gwgc : Nat → Int32) (gcfi : Nat → Int32) (gclk : Nat → Int32) (gclt : Nat → Int32) (gcop : Nat → Int32) (gcva : Nat → Int64) (gcpt : Nat → Int32) (gcel : Nat → Int32) (gcla : Nat → Int32) (nl : Nat → Int) (gv : Nat → Int) (tk : Nat → Int) (paw_1 : law[1]? = some (.ref ac)) (paw_3 : law[3]? = some (.ref wat)) (paw_4 : law[4]? = some (.ref wap)) (paw_5 : law[5]? = some (.ref wag)) (paw_6 : law[6]? = some (.int aw_functionCount)) (paw_7 : law[7]? = some (.ref waf)) (paw_8 : law[8]? = some (.int aw_hasMemory)) (paw_11 : law[11]? = some (.int aw_globalCount)) (paw_12 : law[12]? = some (.ref wgt)) (paw_15 : law[15]? = some (.ref wgc)) (plaw : law.length = 21) (b_h0_sound : h0_sound = 0 ∨ h0_sound = 1) (b_h0_height : 0 ≤ h0_height.toInt ∧ h0_height.toInt ≤ 5000) (b_h0_depth : 0 ≤ h0_depth.toInt ∧ h0_depth.toInt ≤ 101) (b_ac_labelCount : 0 ≤ ac_labelCount.toInt ∧ ac_labelCount.toInt ≤ 2000) (b_gty : ∀ j : Nat, (gty j).toInt ≠ 64) (b_gbh : ∀ j : Nat, 0 ≤ (gbh j).toInt ∧ (gbh j).toInt ≤ 5000) (b_aw_functionCount : 0 ≤ aw_functionCount.toInt ∧ aw_functionCount.toInt ≤ 30) (b_aw_hasMemory : aw_hasMemory = 0 ∨ aw_hasMemory = 1) (b_aw_globalCount : 0 ≤ aw_globalCount.toInt ∧ aw_globalCount.toInt ≤ 20) (p0 : Int32) (ba0 : 0 ≤ p0.toInt ∧ p0.toInt ≤ 29) (hpf : p0.toInt < aw_functionCount.toInt ∧ aw_functionCount.toInt ≤ 30) (hwf : ∀ f : Nat, (f : Int) < aw_functionCount.toInt → vw_fun gwaf gwat gwap gclk gclt f) (hrg : rd_G aw_globalCount.toInt gwgt) (hlb : ∀ j : Nat, (j : Int) < ac_labelCount.toInt → 0 ≤ (gcla j).toInt) (hfi : 0 ≤ (gcfi p0.toNatClampNeg).toInt ∧ (gcfi p0.toNatClampNeg).toInt ≤ (gcfi (p0.toNatClampNeg + 1)).toInt ∧ (gcfi (p0.toNatClampNeg + 1)).toInt ≤ 5000) (hrc : rc_fin (gcfi p0.toNatClampNeg).toNatClampNeg (gcfi (p0.toNatClampNeg + 1)).toNatClampNeg gcop gcpt gcel gcva ac_labelCount.toInt) (hgv : ∀ f : Nat, (f : Int) < aw_functionCount.toInt → gv f = if (gwag (gwaf f).toNatClampNeg).toInt = 64 then 0 else 1) (hnl : ∀ f : Nat, (f : Int) < aw_functionCount.toInt → nl f = (gwat (gwaf f).toNatClampNeg).toInt + (gclk f).toInt) (htk : ∀ f : Nat, (f : Int) < aw_functionCount.toInt → tk f = (gwat (gwaf f).toNatClampNeg).toInt) : Met l y_VA_checkFunction w_VA_checkFunction ({ frames := 4, cells := 0, slots := 0, locals := 90 }) (va_Pc [.ref h0, .int p0] (fun U => U.heap.size = sz ∧ va_P (dC, dI) cls (wz_89 h0 aw ac h0_sound h0_function ty h0_height bo bg bh bd h0_depth aw law ac cfi clk clt ac_length cop cva cpt cel ac_labelCount cla ty cty gty bo cbo gbo bg cbg gbg bh cbh gbh bd cbd gbd waf cwaf gwaf wat cwat gwat wap cwap gwap wag cwag gwag wgt cwgt gwgt wgc cwgc gwgc cfi ccfi gcfi clk cclk gclk clt cclt gclt cop ccop gcop cva ccva gcva cpt ccpt gcpt cel ccel gcel cla ccla gcla) U.heap ∧ va_K (dC, dI) cls [(cty, .int), (cbo, .int), (cbg, .int), (cbh, .int), (cbd, .boolean), (cwaf, .int), (cwat, .int), (cwap, .int), (cwag, .int), (cwgt, .int), (cwgc, .boolean), (ccfi, .int), (cclk, .int), (cclt, .int), (ccop, .int), (ccva, .long), (ccpt, .int), (ccel, .int), (ccla, .int)] U ∧ va_D (fun _ => True) (wz_89 h0 aw ac h0_sound h0_function ty h0_height bo bg bh bd h0_depth aw law ac cfi clk clt ac_length cop cva cpt cel ac_labelCount cla ty cty gty bo cbo gbo bg cbg gbg bh cbh gbh bd cbd gbd waf cwaf gwaf wat cwat gwat wap cwap gwap wag cwag gwag wgt cwgt gwgt wgc cwgc gwgc cfi ccfi gcfi clk cclk gclk clt cclt gclt cop ccop gcop cva ccva gcva cpt ccpt gcpt cel ccel gcel cla ccla gcla))) (va_Qv (fun (u : (Nat → Int32) × (Nat → Int32) × (Nat → Int32) × (Nat → Int32) × (Nat → Int32) × Int32 × Int32 × Int32 × Int32) => match u with | (gbd2, gbg2, gbh2, gbo2, gty2, h0_depth2, h0_function2, h0_height2, h0_sound2) => (∀ j : Nat, 0 ≤ (gbh2 j).toInt ∧ (gbh2 j).toInt ≤ 5000) ∧ (∀ j : Nat, (gty2 j).toInt ≠ 64) ∧ (0 ≤ h0_depth2.toInt ∧ h0_depth2.toInt ≤ 101) ∧ (0 ≤ h0_height2.toInt ∧ h0_height2.toInt ≤ 5000) ∧ (h0_sound2 = 0 ∨ h0_sound2 = 1) ∧ ((h0_sound2.toInt = 1 → h0_sound.toInt = 1 ∧ vfin nl gv tk aw_functionCount.toInt aw_globalCount.toInt p0.toNatClampNeg gcop gcpt gcel gcva ac_labelCount.toInt (gcfi p0.toNatClampNeg).toNatClampNeg ((gcfi (p0.toNatClampNeg + 1)).toNatClampNeg - 1)))) (at_VA_checkFunction dC dI h0 aw ac ty bo bg bh bd wat wap wag waf wgt wgc cfi clk clt cop cva cpt cel cla cty cbo cbg cbh cbd cwaf cwat cwap cwag cwgt cwgc ccfi cclk cclt ccop ccva ccpt ccel ccla law aw_functionCount aw_hasMemory aw_globalCount ac_length ac_labelCount gwaf gwat gwap gwag gwgt gwgc gcfi gclk gclt gcop gcva gcpt gcel gcla (va_A (wz_89 h0 aw ac h0_sound h0_function ty h0_height bo bg bh bd h0_depth aw law ac cfi clk clt ac_length cop cva cpt cel ac_labelCount cla ty cty gty bo cbo gbo bg cbg gbg bh cbh gbh bd cbd gbd waf cwaf gwaf wat cwat gwat wap cwap gwap wag cwag gwag wgt cwgt gwgt wgc cwgc gwgc cfi ccfi gcfi clk cclk gclk clt cclt gclt cop ccop gcop cva ccva gcva cpt ccpt gcpt cel ccel gcel cla ccla gcla) sz)) (va_A (wz_89 h0 aw ac h0_sound h0_function ty h0_height bo bg bh bd h0_depth aw law ac cfi clk clt ac_length cop cva cpt cel ac_labelCount cla ty cty gty bo cbo gbo bg cbg gbg bh cbh gbh bd cbd gbd waf cwaf gwaf wat cwat gwat wap cwap gwap wag cwag gwag wgt cwgt gwgt wgc cwgc gwgc cfi ccfi gcfi clk cclk gclk clt cclt gclt cop ccop gcop cva ccva gcva cpt ccpt gcpt cel ccel gcel cla ccla gcla) sz)) 0 0 (va_A (wz_89 h0 aw ac h0_sound h0_function ty h0_height bo bg bh bd h0_depth aw law ac cfi clk clt ac_length cop cva cpt cel ac_labelCount cla ty cty gty bo cbo gbo bg cbg gbg bh cbh gbh bd cbd gbd waf cwaf gwaf wat cwat gwat wap cwap gwap wag cwag gwag wgt cwgt gwgt wgc cwgc gwgc cfi ccfi gcfi clk cclk gclk clt cclt gclt cop ccop gcop cva ccva gcva cpt ccpt gcpt cel ccel gcel cla ccla gcla) sz) := by
  refine Met.ofW (cc := b_VA_checkFunction) (maxL := 4) (ret := none) (by decide) rfl ?_
  intro p e s m args below meth c s₁ B hml hv
  obtain ⟨rfl, hsz, hP, hK, hD0⟩ := hv
  have hx := B.exec
  have hb := B.bytes
  have hr := B.returns
  have hts0 := atoms_spec (ws := w_VA_checkFunction) B.pre
  have hts : ∀ w ∈ lw_g, w.before _ s = true := fun w h => hts0 w (List.mem_cons_of_mem _ h)
  have hown : s.vm.findClass R_VA = some m.cls := findClass_of_methodNamed B.named
  have hlocks := B.notSynchronized
  clear hts0
  subst hsz
  have hD := hD0.self (sz := s.heap.size)
  generalize hAe : va_A (wz_89 h0 aw ac h0_sound h0_function ty h0_height bo bg bh bd h0_depth aw law ac cfi clk clt ac_length cop cva cpt cel ac_labelCount cla ty cty gty bo cbo gbo bg cbg gbg bh cbh gbh bd cbd gbd waf cwaf gwaf wat cwat gwat wap cwap gwap wag cwag gwag wgt cwgt gwgt wgc cwgc gwgc cfi ccfi gcfi clk cclk gclk clt cclt gclt cop ccop gcop cva ccva gcva cpt ccpt gcpt cel ccel gcel cla ccla gcla) s.heap.size = A at hD ⊢
  have hA : ∀ q : Nat, s.heap.size ≤ q → A q := fun q h => by rw [← hAe]; exact Or.inr h
  clear hAe
  have hP : va_P (dC, dI) cls (wz_89 h0 aw ac h0_sound h0_function ty h0_height bo bg bh bd h0_depth aw law ac cfi clk clt ac_length cop cva cpt cel ac_labelCount cla ty cty gty bo cbo gbo bg cbg gbg bh cbh gbh bd cbd gbd waf cwaf gwaf wat cwat gwat wap cwap gwap wag cwag gwag wgt cwgt gwgt wgc cwgc gwgc cfi ccfi gcfi clk cclk gclk clt cclt gclt cop ccop gcop cva ccva gcva cpt ccpt gcpt cel ccel gcel cla ccla gcla) s.heap := hP
  have hl := lv_entry ([.ref h0, .int p0]) (n := 4) (Nat.le_of_ble_eq_true rfl)
  rw [lg_entry_eq]
  generalize (lg_sl ([.ref h0, .int p0]) ++ List.replicate (4 - (lg_sl ([.ref h0, .int p0])).length) Slot.unset).toArray = ls at hl ⊢
  have hl : lv_has ls 4 [(0, .ref h0), (1, .int p0)] := hl
  have k0 : (0 : Int32).toInt = 0 := by decide
  refine w_gen (A := A) hP (fun H locs hP hS => ?_)
  have k1 : (1 : Int32).toInt = 1 := by decide
  have k2 : (2 : Int32).toInt = 2 := by decide
  have k5 : (5 : Int32).toInt = 5 := by decide
  have k11 : (11 : Int32).toInt = 11 := by decide
  have k16 : (16 : Int32).toInt = 16 := by decide
  have k36 : (36 : Int32).toInt = 36 := by decide
  have k64 : (64 : Int32).toInt = 64 := by decide
  have lo_p0 := i32_lo p0
  have hi_p0 := i32_hi p0
  have th0_sound := b01 b_h0_sound
  have taw_hasMemory := b01 b_aw_hasMemory
  obtain ⟨sb, s1, s2, s3, s4⟩ := hrc
  obtain ⟨m, em⟩ : ∃ m, m = (gcfi (p0.toNatClampNeg + 1)).toNatClampNeg - 1 := ⟨_, rfl⟩
  rw [← em] at s2 s3 s4
  obtain ⟨a, ea⟩ : ∃ a, a = (gcfi p0.toNatClampNeg).toNatClampNeg := ⟨_, rfl⟩
  rw [← ea] at s1 s2
  have ca := i32_clamp (x := (gcfi p0.toNatClampNeg)) (by (first | (apply Int.le_antisymm <;> omega) | omega))
  have cb := i32_clamp (x := (gcfi (p0.toNatClampNeg + 1))) (by (first | (apply Int.le_antisymm <;> omega) | omega))
  have c9 := i32_clamp (x := p0) (by (first | (apply Int.le_antisymm <;> omega) | omega))
  have w9 := hwf p0.toNatClampNeg (by (first | (apply Int.le_antisymm <;> omega) | omega))
  have w8 := w9.1
  refine lv_aload_n hx hb d_VA_checkFunction_0 rfl (lv_at hl 0 rfl) ?_
  refine lv_iload_n hx hb d_VA_checkFunction_1 rfl (lv_at hl 1 rfl) ?_
  refine va_put (D := (dC, dI)) (ci := 9) (v := .int p0) (ty := .int) (C := R_VA) (T := F_VA) (N := 11) hx hb hts i_VA t_VA t_VA_ok n_VA hown hK hP hD hS 0 rfl rfl 3 (by decide) (hts _ kF_VA_111) (fun _ h9 => h9) rfl (by decide +kernel) rfl rfl (Nat.le_of_ble_eq_true rfl) d_VA_checkFunction_2 (fun H locs hP hD hS => ?_)
  refine lv_aload_n hx hb d_VA_checkFunction_5 rfl (lv_at hl 0 rfl) ?_
  refine lv_iconst (v := 0) hx hb d_VA_checkFunction_6 (by decide) ?_
  refine va_put (D := (dC, dI)) (ci := 9) (v := .int 0) (ty := .int) (C := R_VA) (T := F_VA) (N := 11) hx hb hts i_VA t_VA t_VA_ok n_VA hown hK hP hD hS 0 rfl rfl 5 (by decide) (hts _ kF_VA_114) (fun _ h9 => h9) rfl (by decide +kernel) rfl rfl (Nat.le_of_ble_eq_true rfl) d_VA_checkFunction_7 (fun H locs hP hD hS => ?_)
  refine lv_aload_n hx hb d_VA_checkFunction_10 rfl (lv_at hl 0 rfl) ?_
  refine lv_iconst (v := 0) hx hb d_VA_checkFunction_11 (by decide) ?_
  refine va_put (D := (dC, dI)) (ci := 9) (v := .int 0) (ty := .int) (C := R_VA) (T := F_VA) (N := 11) hx hb hts i_VA t_VA t_VA_ok n_VA hown hK hP hD hS 0 rfl rfl 10 (by decide) (hts _ kF_VA_117) (fun _ h9 => h9) rfl (by decide +kernel) rfl rfl (Nat.le_of_ble_eq_true rfl) d_VA_checkFunction_12 (fun H locs hP hD hS => ?_)
  refine lv_aload_n hx hb d_VA_checkFunction_15 rfl (lv_at hl 0 rfl) ?_
  refine lv_iconst (v := 2) hx hb d_VA_checkFunction_16 (by decide) ?_
  refine lv_aload_n hx hb d_VA_checkFunction_17 rfl (lv_at hl 0 rfl) ?_
  refine va_get (D := (dC, dI)) (ci := 9) (v := .ref aw) (C := R_VA) (T := F_VA) (N := 11) hx hb hts i_VA hown hK hP 0 rfl rfl 0 (by decide) (hts _ kF_VA_28) (fun _ h9 => h9) rfl d_VA_checkFunction_18 ?_
  refine lv_iload_n hx hb d_VA_checkFunction_21 rfl (lv_at hl 1 rfl) ?_
  have hPc := hP.sb (wq := (wz_16 aw law waf cwaf gwaf wag cwag gwag)) [1, 8, 11] rfl
  have hDc := hD.sb (wq := (wz_16 aw law waf cwaf gwaf wag cwag gwag)) [1, 8, 11] (by decide) rfl
  have hKc := hK.sb (tyq := [(cwaf, .int), (cwag, .int)]) [5, 8] rfl
  have hFc := va_free (wc := (wz_16 aw law waf cwaf gwaf wag cwag gwag)) hD hS hA [1, 8, 11] rfl
  refine va_calli (va_runV (As := [.int p0]) (rest := [.int 2, .ref h0]) ⟨hx, hb, hml, hown, hts⟩ (c_WA_gives l dC dI aw waf wag H.size cwaf cwag gwaf gwag law paw_7 paw_5 plaw p0 (by (first | (apply Int.le_antisymm <;> omega) | omega)) (w8)) (cwV 1 hts (gV kM_VA_120 kV_WA_gives kS_WA_gives kI_WA kC_WA_gives) rfl rfl rfl (by decide +kernel) ⟨Nat.le_of_ble_eq_true rfl, Nat.le_of_ble_eq_true rfl⟩) ⟨fun a U g mk z => by obtain ⟨z0, z1, zP, zK, zD⟩ := z; exact ⟨z0, z1, zP, va_K.moved (u := U) (U := U.calling g mk a) (Vm.Alike.refl U.vm) zK, zD⟩, va_recv hKc hPc (ci := 10) (q0 := 0) rfl rfl, fun U hU hW => ⟨rfl, by rw [hU], va_P.he hU.symm hPc, va_K.moved hW.alike hKc, hDc.weaken (fun _ _ _ _ => trivial)⟩⟩ rfl rfl hl.1 rfl (lv_room (Nat.le_of_ble_eq_true rfl)) d_VA_checkFunction_22 ⟨(Nat.zero_le _), (Nat.zero_le _)⟩) hS (fun q _ h => hFc q h) hFc (fun r1 u t H1 locs ht hvm hw hB hz1 hk1 hS => ?_)
  try dsimp only at hw
  have er1 := hw
  try clear hw
  obtain ⟨hP1, hK1, hD1⟩ := hB
  replace hP1 := va_P.he ht hP1
  obtain ⟨hP, hD⟩ := va_join (wr := [(h0, .inr (9, [.ref aw, .ref ac, .int h0_sound, .int p0, .ref ty, .int 0, .ref bo, .ref bg, .ref bh, .ref bd, .int 0])), (ac, .inr (3, [.ref cfi, .ref clk, .ref clt, .int ac_length, .ref cop, .ref cva, .ref cpt, .ref cel, .int ac_labelCount, .ref cla])), (ty, .inl (cty, 5000, .inl gty)), (bo, .inl (cbo, 101, .inl gbo)), (bg, .inl (cbg, 101, .inl gbg)), (bh, .inl (cbh, 101, .inl gbh)), (bd, .inl (cbd, 101, .inl gbd)), (wat, .inl (cwat, 20, .inl gwat)), (wap, .inl (cwap, 160, .inl gwap)), (wgt, .inl (cwgt, 20, .inl gwgt)), (wgc, .inl (cwgc, 20, .inl gwgc)), (cfi, .inl (ccfi, 31, .inl gcfi)), (clk, .inl (cclk, 30, .inl gclk)), (clt, .inl (cclt, 1800, .inl gclt)), (cop, .inl (ccop, 5000, .inl gcop)), (cva, .inl (ccva, 5000, .inr (.inl gcva))), (cpt, .inl (ccpt, 5000, .inl gcpt)), (cel, .inl (ccel, 5000, .inl gcel)), (cla, .inl (ccla, 2000, .inl gcla))]) (w1 := (wz_16 aw law waf cwaf gwaf wag cwag gwag)) hP hD [1, 8, 11] [0, 2, 3, 4, 5, 6, 7, 9, 10, 12, 13, 14, 15, 16, 17, 18, 19, 20, 21] rfl rfl (by decide) (by decide) hk1 hFc hP1 hD1
  clear hPc hDc hKc hFc hz1 hk1 hP1 hK1 hD1
  rename Heap => H
  have hP : va_P (dC, dI) cls [(h0, .inr (9, [.ref aw, .ref ac, .int h0_sound, .int p0, .ref ty, .int 0, .ref bo, .ref bg, .ref bh, .ref bd, .int 0])), (ac, .inr (3, [.ref cfi, .ref clk, .ref clt, .int ac_length, .ref cop, .ref cva, .ref cpt, .ref cel, .int ac_labelCount, .ref cla])), (ty, .inl (cty, 5000, .inl gty)), (bo, .inl (cbo, 101, .inl gbo)), (bg, .inl (cbg, 101, .inl gbg)), (bh, .inl (cbh, 101, .inl gbh)), (bd, .inl (cbd, 101, .inl gbd)), (wat, .inl (cwat, 20, .inl gwat)), (wap, .inl (cwap, 160, .inl gwap)), (wgt, .inl (cwgt, 20, .inl gwgt)), (wgc, .inl (cwgc, 20, .inl gwgc)), (cfi, .inl (ccfi, 31, .inl gcfi)), (clk, .inl (cclk, 30, .inl gclk)), (clt, .inl (cclt, 1800, .inl gclt)), (cop, .inl (ccop, 5000, .inl gcop)), (cva, .inl (ccva, 5000, .inr (.inl gcva))), (cpt, .inl (ccpt, 5000, .inl gcpt)), (cel, .inl (ccel, 5000, .inl gcel)), (cla, .inl (ccla, 2000, .inl gcla)), (aw, .inr (10, law)), (waf, .inl (cwaf, 30, .inl gwaf)), (wag, .inl (cwag, 20, .inl gwag))] H := hP
  have hD : va_D A [(h0, .inr (9, [.ref aw, .ref ac, .int h0_sound, .int p0, .ref ty, .int 0, .ref bo, .ref bg, .ref bh, .ref bd, .int 0])), (ac, .inr (3, [.ref cfi, .ref clk, .ref clt, .int ac_length, .ref cop, .ref cva, .ref cpt, .ref cel, .int ac_labelCount, .ref cla])), (ty, .inl (cty, 5000, .inl gty)), (bo, .inl (cbo, 101, .inl gbo)), (bg, .inl (cbg, 101, .inl gbg)), (bh, .inl (cbh, 101, .inl gbh)), (bd, .inl (cbd, 101, .inl gbd)), (wat, .inl (cwat, 20, .inl gwat)), (wap, .inl (cwap, 160, .inl gwap)), (wgt, .inl (cwgt, 20, .inl gwgt)), (wgc, .inl (cwgc, 20, .inl gwgc)), (cfi, .inl (ccfi, 31, .inl gcfi)), (clk, .inl (cclk, 30, .inl gclk)), (clt, .inl (cclt, 1800, .inl gclt)), (cop, .inl (ccop, 5000, .inl gcop)), (cva, .inl (ccva, 5000, .inr (.inl gcva))), (cpt, .inl (ccpt, 5000, .inl gcpt)), (cel, .inl (ccel, 5000, .inl gcel)), (cla, .inl (ccla, 2000, .inl gcla)), (aw, .inr (10, law)), (waf, .inl (cwaf, 30, .inl gwaf)), (wag, .inl (cwag, 20, .inl gwag))] := hD
  have hPc := hP.sb (wq := (wz_67 h0 aw ac h0_sound p0 ty 0 bo bg bh bd 0 bo cbo gbo bg cbg gbg bh cbh gbh bd cbd gbd)) [0, 3, 4, 5, 6] rfl
  have hDc := hD.sb (wq := (wz_67 h0 aw ac h0_sound p0 ty 0 bo bg bh bd 0 bo cbo gbo bg cbg gbg bh cbh gbh bd cbd gbd)) [0, 3, 4, 5, 6] (by decide) rfl
  have hKc := hK.sb (tyq := [(cbo, .int), (cbg, .int), (cbh, .int), (cbd, .boolean)]) [1, 2, 3, 4] rfl
  have hFc := va_free (wc := (wz_67 h0 aw ac h0_sound p0 ty 0 bo bg bh bd 0 bo cbo gbo bg cbg gbg bh cbh gbh bd cbd gbd)) hD hS hA [0, 3, 4, 5, 6] rfl
  refine va_callv (va_runV (As := [.int 2, .int r1]) (rest := []) ⟨hx, hb, hml, hown, hts⟩ (c_VA_open l dC dI H.size h0 aw ac ty bo bg bh bd cbo cbg cbh cbd h0_sound p0 0 0 gbo gbg gbh gbd (by (try dsimp only) <;> (first | (apply Int.le_antisymm <;> omega) | omega)) (by (try dsimp only) <;> (first | (apply Int.le_antisymm <;> omega) | omega)) (b_gbh) 2 r1 (by (first | (apply Int.le_antisymm <;> omega) | omega))) (cwV 2 hts (gV kM_VA_124 kV_VA_open kS_VA_open kI_VA kC_VA_open) rfl rfl rfl (by decide +kernel) ⟨Nat.le_of_ble_eq_true rfl, Nat.le_of_ble_eq_true rfl⟩) ⟨fun a U g mk z => by obtain ⟨z0, z1, zP, zK, zD⟩ := z; exact ⟨z0, z1, zP, va_K.moved (u := U) (U := U.calling g mk a) (Vm.Alike.refl U.vm) zK, zD⟩, va_recv hKc hPc (ci := 9) (q0 := 0) rfl rfl, fun U hU hW => ⟨rfl, by rw [hU], va_P.he hU.symm hPc, va_K.moved hW.alike hKc, hDc.weaken (fun _ _ _ _ => trivial)⟩⟩ rfl rfl hl.1 rfl (lv_room (Nat.le_of_ble_eq_true rfl)) d_VA_checkFunction_25 ⟨(Nat.zero_le _), (Nat.zero_le _)⟩) hS (fun q _ h => hFc q h) hFc (fun u t H1 locs ht hvm hw hB hz1 hk1 hS => ?_)
  obtain ⟨n3, n4, n5, n6, n7⟩ := u
  try dsimp only at hw
  obtain ⟨bn5, bn7, xr2⟩ := hw
  try clear hw
  obtain ⟨hP1, hK1, hD1⟩ := hB
  replace hP1 := va_P.he ht hP1
  obtain ⟨hP, hD⟩ := va_join (wr := [(ac, .inr (3, [.ref cfi, .ref clk, .ref clt, .int ac_length, .ref cop, .ref cva, .ref cpt, .ref cel, .int ac_labelCount, .ref cla])), (ty, .inl (cty, 5000, .inl gty)), (wat, .inl (cwat, 20, .inl gwat)), (wap, .inl (cwap, 160, .inl gwap)), (wgt, .inl (cwgt, 20, .inl gwgt)), (wgc, .inl (cwgc, 20, .inl gwgc)), (cfi, .inl (ccfi, 31, .inl gcfi)), (clk, .inl (cclk, 30, .inl gclk)), (clt, .inl (cclt, 1800, .inl gclt)), (cop, .inl (ccop, 5000, .inl gcop)), (cva, .inl (ccva, 5000, .inr (.inl gcva))), (cpt, .inl (ccpt, 5000, .inl gcpt)), (cel, .inl (ccel, 5000, .inl gcel)), (cla, .inl (ccla, 2000, .inl gcla)), (aw, .inr (10, law)), (waf, .inl (cwaf, 30, .inl gwaf)), (wag, .inl (cwag, 20, .inl gwag))]) (w1 := (wz_67 h0 aw ac h0_sound p0 ty 0 bo bg bh bd n7 bo cbo n6 bg cbg n4 bh cbh n5 bd cbd n3)) hP hD [0, 3, 4, 5, 6] [1, 2, 7, 8, 9, 10, 11, 12, 13, 14, 15, 16, 17, 18, 19, 20, 21] rfl rfl (by decide) (by decide) hk1 hFc hP1 hD1
  clear hPc hDc hKc hFc hz1 hk1 hP1 hK1 hD1
  rename Heap => H
  have hP : va_P (dC, dI) cls (wz_90 ac cfi clk clt ac_length cop cva cpt cel ac_labelCount cla ty cty gty wat cwat gwat wap cwap gwap wgt cwgt gwgt wgc cwgc gwgc cfi ccfi gcfi clk cclk gclk clt cclt gclt cop ccop gcop cva ccva gcva cpt ccpt gcpt cel ccel gcel cla ccla gcla aw law waf cwaf gwaf wag cwag gwag h0 aw ac h0_sound p0 ty 0 bo bg bh bd n7 bo cbo n6 bg cbg n4 bh cbh n5 bd cbd n3) H := hP
  have hD : va_D A (wz_90 ac cfi clk clt ac_length cop cva cpt cel ac_labelCount cla ty cty gty wat cwat gwat wap cwap gwap wgt cwgt gwgt wgc cwgc gwgc cfi ccfi gcfi clk cclk gclk clt cclt gclt cop ccop gcop cva ccva gcva cpt ccpt gcpt cel ccel gcel cla ccla gcla aw law waf cwaf gwaf wag cwag gwag h0 aw ac h0_sound p0 ty 0 bo bg bh bd n7 bo cbo n6 bg cbg n4 bh cbh n5 bd cbd n3) := hD
  refine lv_aload_n hx hb d_VA_checkFunction_28 rfl (lv_at hl 0 rfl) ?_
  refine va_get (D := (dC, dI)) (ci := 9) (v := .ref ac) (C := R_VA) (T := F_VA) (N := 11) hx hb hts i_VA hown hK hP 17 rfl rfl 1 (by decide) (hts _ kF_VA_38) (fun _ h9 => h9) rfl d_VA_checkFunction_29 ?_
  refine va_get (D := (dC, dI)) (ci := 3) (v := .ref cfi) (C := R_CD) (T := F_CD) (N := 10) hx hb hts i_CD hown hK hP 0 rfl rfl 0 (by decide) (hts _ kF_VA_128) (fun _ h9 => h9) rfl d_VA_checkFunction_32 ?_
  refine lv_iload_n hx hb d_VA_checkFunction_35 rfl (lv_at hl 1 rfl) ?_
  have g36 : vp_in p0 31 := vp_in_iff.mpr ⟨by (first | (apply Int.le_antisymm <;> omega) | omega), by (first | (apply Int.le_antisymm <;> omega) | omega)⟩
  refine va_iald hx hb hK hP 6 11 rfl rfl g36 d_VA_checkFunction_36 ?_
  refine lv_topi (fun x8 ex8 => ?_)
  have tx8 : x8.toInt = (gcfi p0.toNatClampNeg).toInt := by rw [ex8]
  refine lv_istore_n (lv' := [(2, .int x8), (0, .ref h0), (1, .int p0)]) hx hb d_VA_checkFunction_37 rfl hl (by decide) rfl (fun ls hl => ?_)
  refine w_loop (σ := Int32 × (Nat → Int32) × (Nat → Int32) × (Nat → Int32) × (Nat → Int32) × (Nat → Int32) × Int32 × Int32 × Int32) (fun u H locs ls => match u with | (j38_l2, j38_bd, j38_bg, j38_bh, j38_bo, j38_ty, j38_h0_depth, j38_h0_height, j38_h0_sound) => (∀ j : Nat, 0 ≤ (j38_bh j).toInt ∧ (j38_bh j).toInt ≤ 5000) ∧ (∀ j : Nat, (j38_ty j).toInt ≠ 64) ∧ (0 ≤ j38_h0_depth.toInt ∧ j38_h0_depth.toInt ≤ 101) ∧ (0 ≤ j38_h0_height.toInt ∧ j38_h0_height.toInt ≤ 5000) ∧ (j38_h0_sound = 0 ∨ j38_h0_sound = 1) ∧ ((gcfi p0.toNatClampNeg).toInt ≤ j38_l2.toInt ∧ j38_l2.toInt ≤ (gcfi (p0.toNatClampNeg + 1)).toInt) ∧ (j38_h0_sound.toInt = 1 → h0_sound.toInt = 1) ∧ (j38_h0_sound.toInt = 1 → vF nl gv tk aw_functionCount.toInt aw_globalCount.toInt p0.toNatClampNeg gcop gcva a m j38_l2.toNatClampNeg j38_h0_depth j38_h0_height j38_bo j38_bg j38_bh j38_bd sb) ∧ va_P (dC, dI) cls (wz_90 ac cfi clk clt ac_length cop cva cpt cel ac_labelCount cla ty cty j38_ty wat cwat gwat wap cwap gwap wgt cwgt gwgt wgc cwgc gwgc cfi ccfi gcfi clk cclk gclk clt cclt gclt cop ccop gcop cva ccva gcva cpt ccpt gcpt cel ccel gcel cla ccla gcla aw law waf cwaf gwaf wag cwag gwag h0 aw ac j38_h0_sound p0 ty j38_h0_height bo bg bh bd j38_h0_depth bo cbo j38_bo bg cbg j38_bg bh cbh j38_bh bd cbd j38_bd) H ∧ va_D A (wz_90 ac cfi clk clt ac_length cop cva cpt cel ac_labelCount cla ty cty j38_ty wat cwat gwat wap cwap gwap wgt cwgt gwgt wgc cwgc gwgc cfi ccfi gcfi clk cclk gclk clt cclt gclt cop ccop gcop cva ccva gcva cpt ccpt gcpt cel ccel gcel cla ccla gcla aw law waf cwaf gwaf wag cwag gwag h0 aw ac j38_h0_sound p0 ty j38_h0_height bo bg bh bd j38_h0_depth bo cbo j38_bo bg cbg j38_bg bh cbh j38_bh bd cbd j38_bd) ∧ va_S A s.heap H locs ∧ lv_has ls 4 [(0, .ref h0), (1, .int p0), (2, .int j38_l2)]) (fun u => match u with | (j38_l2, j38_bd, j38_bg, j38_bh, j38_bo, j38_ty, j38_h0_depth, j38_h0_height, j38_h0_sound) => ((gcfi (p0.toNatClampNeg + 1)).toInt - j38_l2.toInt).toNat) ?_ (x8, n3, n4, n5, n6, gty, n7, 0, h0_sound) ⟨bn5, b_gty, bn7, by (try dsimp only) <;> (first | (apply Int.le_antisymm <;> omega) | omega), b_h0_sound, by (try dsimp only) <;> (first | (apply Int.le_antisymm <;> omega) | omega), by (try dsimp only) <;> (first | (apply Int.le_antisymm <;> omega) | omega), fun _ => by rw [show x8.toNatClampNeg = a from by rw [ex8]; exact ea.symm]; exact vF_start (x := 0) s2 (by (first | (apply Int.le_antisymm <;> omega) | omega)) rfl xr2.2.2.2.1 rfl xr2.2.2.2.2, hP, hD, hS, lv_sub hl [1, 2, 0] rfl⟩
  intro N38 ih38 u H locs ls hN38 hI
  obtain ⟨j38_l2, j38_bd, j38_bg, j38_bh, j38_bo, j38_ty, j38_h0_depth, j38_h0_height, j38_h0_sound⟩ := u
  obtain ⟨b_j38_bh, b_j38_ty, b_j38_h0_depth, b_j38_h0_height, b_j38_h0_sound, v1, v2, v5, hP, hD, hS, hl⟩ := hI
  have tj38_h0_sound := b01 b_j38_h0_sound
  have hN38 : ((gcfi (p0.toNatClampNeg + 1)).toInt - j38_l2.toInt).toNat < N38 + 1 := hN38
  refine lv_iload_n hx hb d_VA_checkFunction_38 rfl (lv_at hl 2 rfl) ?_
  refine lv_aload_n hx hb d_VA_checkFunction_39 rfl (lv_at hl 0 rfl) ?_
  refine va_get (D := (dC, dI)) (ci := 9) (v := .ref ac) (C := R_VA) (T := F_VA) (N := 11) hx hb hts i_VA hown hK hP 17 rfl rfl 1 (by decide) (hts _ kF_VA_38) (fun _ h9 => h9) rfl d_VA_checkFunction_40 ?_
  refine va_get (D := (dC, dI)) (ci := 3) (v := .ref cfi) (C := R_CD) (T := F_CD) (N := 10) hx hb hts i_CD hown hK hP 0 rfl rfl 0 (by decide) (hts _ kF_VA_128) (fun _ h9 => h9) rfl d_VA_checkFunction_43 ?_
  refine lv_iload_n hx hb d_VA_checkFunction_46 rfl (lv_at hl 1 rfl) ?_
  refine lv_iconst (v := 1) hx hb d_VA_checkFunction_47 (by decide) ?_
  refine lv_iadd hx hb d_VA_checkFunction_48 ?_
  refine lv_topi (fun x9 ex9 => ?_)
  have tx9 : x9.toInt = p0.toInt + 1 := by have z := i32_add ex9 (by (first | (apply Int.le_antisymm <;> omega) | omega)) (by (first | (apply Int.le_antisymm <;> omega) | omega)); first | exact z | (first | (apply Int.le_antisymm <;> omega) | omega)
  have g49 : vp_in x9 31 := vp_in_iff.mpr ⟨by (first | (apply Int.le_antisymm <;> omega) | omega), by (first | (apply Int.le_antisymm <;> omega) | omega)⟩
  refine va_iald hx hb hK hP 6 11 rfl rfl g49 d_VA_checkFunction_49 ?_
  refine lv_topi (fun x10 ex10 => ?_)
  rw [i32_natI (x := x9) (n := p0.toInt + 1) (by (first | (apply Int.le_antisymm <;> omega) | omega)), show (p0.toInt + 1).toNat = p0.toNatClampNeg + 1 from by (first | (apply Int.le_antisymm <;> omega) | omega)] at ex10
  have tx10 : x10.toInt = (gcfi (p0.toNatClampNeg + 1)).toInt := by rw [ex10]
  refine lv_icmp_ge (tgt := 172) hx hb d_VA_checkFunction_50 (by decide) (fun c50 => ?_) (fun c50 => ?_)
  · have q50 := leI c50
    have hP9 := hP.sb (wq := (wz_89 h0 aw ac j38_h0_sound p0 ty j38_h0_height bo bg bh bd j38_h0_depth aw law ac cfi clk clt ac_length cop cva cpt cel ac_labelCount cla ty cty j38_ty bo cbo j38_bo bg cbg j38_bg bh cbh j38_bh bd cbd j38_bd waf cwaf gwaf wat cwat gwat wap cwap gwap wag cwag gwag wgt cwgt gwgt wgc cwgc gwgc cfi ccfi gcfi clk cclk gclk clt cclt gclt cop ccop gcop cva ccva gcva cpt ccpt gcpt cel ccel gcel cla ccla gcla)) [17, 14, 0, 1, 18, 19, 20, 21, 15, 2, 3, 16, 4, 5, 6, 7, 8, 9, 10, 11, 12, 13] rfl
    have hD9 := hD.sb (wq := (wz_89 h0 aw ac j38_h0_sound p0 ty j38_h0_height bo bg bh bd j38_h0_depth aw law ac cfi clk clt ac_length cop cva cpt cel ac_labelCount cla ty cty j38_ty bo cbo j38_bo bg cbg j38_bg bh cbh j38_bh bd cbd j38_bd waf cwaf gwaf wat cwat gwat wap cwap gwap wag cwag gwag wgt cwgt gwgt wgc cwgc gwgc cfi ccfi gcfi clk cclk gclk clt cclt gclt cop ccop gcop cva ccva gcva cpt ccpt gcpt cel ccel gcel cla ccla gcla)) [17, 14, 0, 1, 18, 19, 20, 21, 15, 2, 3, 16, 4, 5, 6, 7, 8, 9, 10, 11, 12, 13] (by decide) rfl
    exact W.vret hx hb hr (fun t ht hW => ⟨⟨(j38_bd, j38_bg, j38_bh, j38_bo, j38_ty, j38_h0_depth, p0, j38_h0_height, j38_h0_sound), rfl, ⟨b_j38_bh, b_j38_ty, b_j38_h0_depth, b_j38_h0_height, b_j38_h0_sound, fun z => ⟨by (try dsimp only at z); (first | (apply Int.le_antisymm <;> omega) | omega), by have F9 := v5 z; rw [show j38_l2.toNatClampNeg = m + 1 from by rw [i32_natI rfl]; (try dsimp only at z); (first | (apply Int.le_antisymm <;> omega) | omega)] at F9; rw [← em, ← ea]; exact vF_fin F9 s2 s3 s4⟩⟩, va_P.he ht.symm hP9, va_K.moved hW.alike hK, hD9⟩, hS.F ht⟩) hS.2.2 d_VA_checkFunction_172
  · have q50 := nleI c50
    refine lv_aload_n hx hb d_VA_checkFunction_53 rfl (lv_at hl 0 rfl) ?_
    refine va_get (D := (dC, dI)) (ci := 9) (v := .int j38_h0_sound) (C := R_VA) (T := F_VA) (N := 11) hx hb hts i_VA hown hK hP 17 rfl rfl 2 (by decide) (hts _ kF_VA_39) (fun _ h9 => h9) rfl d_VA_checkFunction_54 ?_
    refine lv_if_eq (tgt := 172) hx hb d_VA_checkFunction_57 (by decide) (fun c57 => ?_) (fun c57 => ?_)
    · have q57 := eqI c57
      have hP9 := hP.sb (wq := (wz_89 h0 aw ac j38_h0_sound p0 ty j38_h0_height bo bg bh bd j38_h0_depth aw law ac cfi clk clt ac_length cop cva cpt cel ac_labelCount cla ty cty j38_ty bo cbo j38_bo bg cbg j38_bg bh cbh j38_bh bd cbd j38_bd waf cwaf gwaf wat cwat gwat wap cwap gwap wag cwag gwag wgt cwgt gwgt wgc cwgc gwgc cfi ccfi gcfi clk cclk gclk clt cclt gclt cop ccop gcop cva ccva gcva cpt ccpt gcpt cel ccel gcel cla ccla gcla)) [17, 14, 0, 1, 18, 19, 20, 21, 15, 2, 3, 16, 4, 5, 6, 7, 8, 9, 10, 11, 12, 13] rfl
      have hD9 := hD.sb (wq := (wz_89 h0 aw ac j38_h0_sound p0 ty j38_h0_height bo bg bh bd j38_h0_depth aw law ac cfi clk clt ac_length cop cva cpt cel ac_labelCount cla ty cty j38_ty bo cbo j38_bo bg cbg j38_bg bh cbh j38_bh bd cbd j38_bd waf cwaf gwaf wat cwat gwat wap cwap gwap wag cwag gwag wgt cwgt gwgt wgc cwgc gwgc cfi ccfi gcfi clk cclk gclk clt cclt gclt cop ccop gcop cva ccva gcva cpt ccpt gcpt cel ccel gcel cla ccla gcla)) [17, 14, 0, 1, 18, 19, 20, 21, 15, 2, 3, 16, 4, 5, 6, 7, 8, 9, 10, 11, 12, 13] (by decide) rfl
      exact W.vret hx hb hr (fun t ht hW => ⟨⟨(j38_bd, j38_bg, j38_bh, j38_bo, j38_ty, j38_h0_depth, p0, j38_h0_height, j38_h0_sound), rfl, ⟨b_j38_bh, b_j38_ty, b_j38_h0_depth, b_j38_h0_height, b_j38_h0_sound, fun z => ⟨by (try dsimp only at z); (first | (apply Int.le_antisymm <;> omega) | omega), by have F9 := v5 z; rw [show j38_l2.toNatClampNeg = m + 1 from by rw [i32_natI rfl]; (try dsimp only at z); (first | (apply Int.le_antisymm <;> omega) | omega)] at F9; rw [← em, ← ea]; exact vF_fin F9 s2 s3 s4⟩⟩, va_P.he ht.symm hP9, va_K.moved hW.alike hK, hD9⟩, hS.F ht⟩) hS.2.2 d_VA_checkFunction_172
    · have q57 := neI c57
      have ci := i32_clamp (x := j38_l2) (by (first | (apply Int.le_antisymm <;> omega) | omega))
      obtain ⟨B9, hh9, k1, k2⟩ := v5 (by (first | (apply Int.le_antisymm <;> omega) | omega))
      obtain ⟨k3, k4, k5, k6, k7, k8⟩ := k2 (by (first | (apply Int.le_antisymm <;> omega) | omega))
      clear k1 k2 k3 k4
      have k5a : 1 ≤ j38_h0_depth.toInt := by (first | (apply Int.le_antisymm <;> omega) | omega)
      have hvl := vf_val s2 s4 (i := j38_l2.toNatClampNeg) (by (first | (apply Int.le_antisymm <;> omega) | omega)) (by (first | (apply Int.le_antisymm <;> omega) | omega))
      have hvo := vf_open s2 s4 (i := j38_l2.toNatClampNeg) (by (first | (apply Int.le_antisymm <;> omega) | omega)) (by (first | (apply Int.le_antisymm <;> omega) | omega))
      refine lv_aload_n hx hb d_VA_checkFunction_60 rfl (lv_at hl 0 rfl) ?_
      refine va_get (D := (dC, dI)) (ci := 9) (v := .ref ac) (C := R_VA) (T := F_VA) (N := 11) hx hb hts i_VA hown hK hP 17 rfl rfl 1 (by decide) (hts _ kF_VA_38) (fun _ h9 => h9) rfl d_VA_checkFunction_61 ?_
      refine va_get (D := (dC, dI)) (ci := 3) (v := .ref cop) (C := R_CD) (T := F_CD) (N := 10) hx hb hts i_CD hown hK hP 0 rfl rfl 4 (by decide) (hts _ kF_VA_133) (fun _ h9 => h9) rfl d_VA_checkFunction_64 ?_
      refine lv_iload_n hx hb d_VA_checkFunction_67 rfl (lv_at hl 2 rfl) ?_
      have g68 : vp_in j38_l2 5000 := vp_in_iff.mpr ⟨by (first | (apply Int.le_antisymm <;> omega) | omega), by (first | (apply Int.le_antisymm <;> omega) | omega)⟩
      refine va_iald hx hb hK hP 9 14 rfl rfl g68 d_VA_checkFunction_68 ?_
      refine lv_topi (fun x11 ex11 => ?_)
      have t69 : x11.toInt = (gcop j38_l2.toNatClampNeg).toInt := by rw [ex11]
      have b69 := ex11
      refine lv_istore_n (lv' := [(3, .int x11), (0, .ref h0), (1, .int p0), (2, .int j38_l2)]) hx hb d_VA_checkFunction_69 rfl hl (by decide) rfl (fun ls hl => ?_)
      refine lv_iload_n hx hb d_VA_checkFunction_70 rfl (lv_at hl 0 rfl) ?_
      refine lv_iconst (v := 5) hx hb d_VA_checkFunction_71 (by decide) ?_
      refine w_cut (pc2 := 166) (σ := (Nat → Int32) × (Nat → Int32) × (Nat → Int32) × (Nat → Int32) × (Nat → Int32) × Int32 × Int32 × Int32) (fun u H locs ls => match u with | (j166_bd, j166_bg, j166_bh, j166_bo, j166_ty, j166_h0_depth, j166_h0_height, j166_h0_sound) => (∀ j : Nat, 0 ≤ (j166_bh j).toInt ∧ (j166_bh j).toInt ≤ 5000) ∧ (∀ j : Nat, (j166_ty j).toInt ≠ 64) ∧ (0 ≤ j166_h0_depth.toInt ∧ j166_h0_depth.toInt ≤ 101) ∧ (0 ≤ j166_h0_height.toInt ∧ j166_h0_height.toInt ≤ 5000) ∧ (j166_h0_sound = 0 ∨ j166_h0_sound = 1) ∧ (j166_h0_sound.toInt = 1 → vo nl gv tk aw_functionCount.toInt aw_globalCount.toInt p0.toNatClampNeg (gcop j38_l2.toNatClampNeg).toInt (gcva j38_l2.toNatClampNeg).toInt j38_h0_depth j38_h0_height j166_h0_depth j166_h0_height j38_bo j38_bg j38_bh j38_bd j166_bo j166_bg j166_bh j166_bd) ∧ va_P (dC, dI) cls (wz_90 ac cfi clk clt ac_length cop cva cpt cel ac_labelCount cla ty cty j166_ty wat cwat gwat wap cwap gwap wgt cwgt gwgt wgc cwgc gwgc cfi ccfi gcfi clk cclk gclk clt cclt gclt cop ccop gcop cva ccva gcva cpt ccpt gcpt cel ccel gcel cla ccla gcla aw law waf cwaf gwaf wag cwag gwag h0 aw ac j166_h0_sound p0 ty j166_h0_height bo bg bh bd j166_h0_depth bo cbo j166_bo bg cbg j166_bg bh cbh j166_bh bd cbd j166_bd) H ∧ va_D A (wz_90 ac cfi clk clt ac_length cop cva cpt cel ac_labelCount cla ty cty j166_ty wat cwat gwat wap cwap gwap wgt cwgt gwgt wgc cwgc gwgc cfi ccfi gcfi clk cclk gclk clt cclt gclt cop ccop gcop cva ccva gcva cpt ccpt gcpt cel ccel gcel cla ccla gcla aw law waf cwaf gwaf wag cwag gwag h0 aw ac j166_h0_sound p0 ty j166_h0_height bo bg bh bd j166_h0_depth bo cbo j166_bo bg cbg j166_bg bh cbh j166_bh bd cbd j166_bd) ∧ va_S A s.heap H locs ∧ lv_has ls 4 [(0, .ref h0), (1, .int p0), (2, .int j38_l2)]) (fun u => match u with | (j166_bd, j166_bg, j166_bh, j166_bo, j166_ty, j166_h0_depth, j166_h0_height, j166_h0_sound) => []) ?_ (fun jn166 => ?_)
      · intro u H locs ls hI
        obtain ⟨j166_bd, j166_bg, j166_bh, j166_bo, j166_ty, j166_h0_depth, j166_h0_height, j166_h0_sound⟩ := u
        obtain ⟨b_j166_bh, b_j166_ty, b_j166_h0_depth, b_j166_h0_height, b_j166_h0_sound, w1, hP, hD, hS, hl⟩ := hI
        have tj166_h0_sound := b01 b_j166_h0_sound
        obtain ⟨x12, ex12⟩ : ∃ z : Int32, z = j38_l2 + 1 := ⟨_, rfl⟩
        have tx12 : x12.toInt = j38_l2.toInt + 1 := by have z := i32_add ex12 (by (first | (apply Int.le_antisymm <;> omega) | omega)) (by (first | (apply Int.le_antisymm <;> omega) | omega)); first | exact z | (first | (apply Int.le_antisymm <;> omega) | omega)
        refine lv_iinc (v := x12) (lv' := [(2, .int x12), (0, .ref h0), (1, .int p0)]) hx hb d_VA_checkFunction_166 hl (k := 2) rfl (by rw [ex12]; rfl) (by decide) rfl (fun ls hl => ?_)
        refine lv_goto (tgt := 38) hx hb d_VA_checkFunction_169 (by decide) ?_
        exact ih38 (x12, j166_bd, j166_bg, j166_bh, j166_bo, j166_ty, j166_h0_depth, j166_h0_height, j166_h0_sound) _ _ _ (by show ((gcfi (p0.toNatClampNeg + 1)).toInt - x12.toInt).toNat < N38; (first | (apply Int.le_antisymm <;> omega) | omega)) ⟨b_j166_bh, b_j166_ty, b_j166_h0_depth, b_j166_h0_height, b_j166_h0_sound, by (try dsimp only) <;> (first | (apply Int.le_antisymm <;> omega) | omega), by (try dsimp only) <;> (first | (apply Int.le_antisymm <;> omega) | omega), fun z => by rw [show x12.toNatClampNeg = j38_l2.toNatClampNeg + 1 from by rw [i32_natI tx12]; (first | (apply Int.le_antisymm <;> omega) | omega)]; exact vF_next (v5 (by (first | (apply Int.le_antisymm <;> omega) | omega))) s2 (by (first | (apply Int.le_antisymm <;> omega) | omega)) (by (first | (apply Int.le_antisymm <;> omega) | omega)) (w1 z) b_j166_bh (by (first | (apply Int.le_antisymm <;> omega) | omega)), hP, hD, hS, lv_sub hl [1, 2, 0] rfl⟩
      · skip
        refine lv_icmp_le (tgt := 81) hx hb d_VA_checkFunction_72 (by decide) (fun c72 => ?_) (fun c72 => ?_)
        · have q72 := leI c72
          refine lv_aload_n hx hb d_VA_checkFunction_81 rfl (lv_at hl 1 rfl) ?_
          refine lv_iload_n hx hb d_VA_checkFunction_82 rfl (lv_at hl 0 rfl) ?_
          refine lv_aload_n hx hb d_VA_checkFunction_83 rfl (lv_at hl 1 rfl) ?_
          refine va_get (D := (dC, dI)) (ci := 9) (v := .ref ac) (C := R_VA) (T := F_VA) (N := 11) hx hb hts i_VA hown hK hP 17 rfl rfl 1 (by decide) (hts _ kF_VA_38) (fun _ h9 => h9) rfl d_VA_checkFunction_84 ?_
          refine va_get (D := (dC, dI)) (ci := 3) (v := .ref cva) (C := R_CD) (T := F_CD) (N := 10) hx hb hts i_CD hown hK hP 0 rfl rfl 5 (by decide) (hts _ kF_VA_136) (fun _ h9 => h9) rfl d_VA_checkFunction_87 ?_
          refine lv_iload_n hx hb d_VA_checkFunction_90 rfl (lv_at hl 3 rfl) ?_
          have g91 : vp_in j38_l2 5000 := vp_in_iff.mpr ⟨by (first | (apply Int.le_antisymm <;> omega) | omega), by (first | (apply Int.le_antisymm <;> omega) | omega)⟩
          refine va_lald hx hb hK hP 10 15 rfl rfl g91 d_VA_checkFunction_91 ?_
          refine lv_topl (fun x13 ex13 => ?_)
          refine lv_l2i hx hb d_VA_checkFunction_92 rfl ?_
          refine lv_topi (fun x14 ex14 => ?_)
          have v9 : 0 ≤ (gcva j38_l2.toNatClampNeg).toInt ∧ (gcva j38_l2.toNatClampNeg).toInt ≤ 2147483647 → x14.toInt = (gcva j38_l2.toNatClampNeg).toInt := fun z => by have y := l2i_t ex14 (by rw [ex13]; (first | (apply Int.le_antisymm <;> omega) | omega)) (by rw [ex13]; (first | (apply Int.le_antisymm <;> omega) | omega)); rw [y, ex13]
          have hPc := hP.sb (wq := (wz_86 h0 aw ac j38_h0_sound p0 ty j38_h0_height bo bg bh bd j38_h0_depth ty cty j38_ty bo cbo j38_bo bg cbg j38_bg bh cbh j38_bh bd cbd j38_bd)) [17, 1, 18, 19, 20, 21] rfl
          have hDc := hD.sb (wq := (wz_86 h0 aw ac j38_h0_sound p0 ty j38_h0_height bo bg bh bd j38_h0_depth ty cty j38_ty bo cbo j38_bo bg cbg j38_bg bh cbh j38_bh bd cbd j38_bd)) [17, 1, 18, 19, 20, 21] (by decide) rfl
          have hKc := hK.sb (tyq := [(cty, .int), (cbo, .int), (cbg, .int), (cbh, .int), (cbd, .boolean)]) [0, 1, 2, 3, 4] rfl
          have hFc := va_free (wc := (wz_86 h0 aw ac j38_h0_sound p0 ty j38_h0_height bo bg bh bd j38_h0_depth ty cty j38_ty bo cbo j38_bo bg cbg j38_bg bh cbh j38_bh bd cbd j38_bd)) hD hS hA [17, 1, 18, 19, 20, 21] rfl
          refine va_callv (va_runV (As := [.int x11, .int x14]) (rest := []) ⟨hx, hb, hml, hown, hts⟩ (c_VA_checkBlocks l dC dI H.size h0 aw ac ty bo bg bh bd cty cbo cbg cbh cbd j38_h0_sound p0 j38_h0_height j38_h0_depth j38_ty j38_bo j38_bg j38_bh j38_bd (b_j38_h0_sound) (b_j38_h0_height) (b_j38_h0_depth) (b_j38_ty) (b_j38_bh) x11 x14 (k5a) (k7) (by (first | (apply Int.le_antisymm <;> omega) | omega)) (fun q => by have := hvo (by (first | (apply Int.le_antisymm <;> omega) | omega)); (first | (apply Int.le_antisymm <;> omega) | omega)) (by have q := hvl.2.2.2; (first | (apply Int.le_antisymm <;> omega) | omega))) (cwV 2 hts (gV kM_VA_140 kV_VA_checkBlocks kS_VA_checkBlocks kI_VA kC_VA_checkBlocks) rfl rfl rfl (by decide +kernel) ⟨Nat.le_of_ble_eq_true rfl, Nat.le_of_ble_eq_true rfl⟩) ⟨fun a U g mk z => by obtain ⟨z0, z1, zP, zK, zD⟩ := z; exact ⟨z0, z1, zP, va_K.moved (u := U) (U := U.calling g mk a) (Vm.Alike.refl U.vm) zK, zD⟩, va_recv hKc hPc (ci := 9) (q0 := 0) rfl rfl, fun U hU hW => ⟨rfl, by rw [hU], va_P.he hU.symm hPc, va_K.moved hW.alike hKc, hDc.weaken (fun _ _ _ _ => trivial)⟩⟩ rfl rfl hl.1 rfl (lv_room (Nat.le_of_ble_eq_true rfl)) d_VA_checkFunction_93 ⟨(Nat.zero_le _), (Nat.zero_le _)⟩) hS (fun q _ h => hFc q h) hFc (fun u t H1 locs ht hvm hw hB hz1 hk1 hS => ?_)
          obtain ⟨n16, n17, n18, n19, n20, n21, n22, n23⟩ := u
          try dsimp only at hw
          obtain ⟨bn18, bn20, bn21, bn22, bn23, xr15⟩ := hw
          try clear hw
          have tn23 := b01 bn23
          obtain ⟨hP1, hK1, hD1⟩ := hB
          replace hP1 := va_P.he ht hP1
          obtain ⟨hP, hD⟩ := va_join (wr := [(ac, .inr (3, [.ref cfi, .ref clk, .ref clt, .int ac_length, .ref cop, .ref cva, .ref cpt, .ref cel, .int ac_labelCount, .ref cla])), (wat, .inl (cwat, 20, .inl gwat)), (wap, .inl (cwap, 160, .inl gwap)), (wgt, .inl (cwgt, 20, .inl gwgt)), (wgc, .inl (cwgc, 20, .inl gwgc)), (cfi, .inl (ccfi, 31, .inl gcfi)), (clk, .inl (cclk, 30, .inl gclk)), (clt, .inl (cclt, 1800, .inl gclt)), (cop, .inl (ccop, 5000, .inl gcop)), (cva, .inl (ccva, 5000, .inr (.inl gcva))), (cpt, .inl (ccpt, 5000, .inl gcpt)), (cel, .inl (ccel, 5000, .inl gcel)), (cla, .inl (ccla, 2000, .inl gcla)), (aw, .inr (10, law)), (waf, .inl (cwaf, 30, .inl gwaf)), (wag, .inl (cwag, 20, .inl gwag))]) (w1 := (wz_86 h0 aw ac n23 p0 ty n22 bo bg bh bd n21 ty cty n20 bo cbo n19 bg cbg n17 bh cbh n18 bd cbd n16)) hP hD [17, 1, 18, 19, 20, 21] [0, 2, 3, 4, 5, 6, 7, 8, 9, 10, 11, 12, 13, 14, 15, 16] rfl rfl (by decide) (by decide) hk1 hFc hP1 hD1
          clear hPc hDc hKc hFc hz1 hk1 hP1 hK1 hD1
          rename Heap => H
          have hP : va_P (dC, dI) cls (wz_91 ac cfi clk clt ac_length cop cva cpt cel ac_labelCount cla wat cwat gwat wap cwap gwap wgt cwgt gwgt wgc cwgc gwgc cfi ccfi gcfi clk cclk gclk clt cclt gclt cop ccop gcop cva ccva gcva cpt ccpt gcpt cel ccel gcel cla ccla gcla aw law waf cwaf gwaf wag cwag gwag h0 aw ac n23 p0 ty n22 bo bg bh bd n21 ty cty n20 bo cbo n19 bg cbg n17 bh cbh n18 bd cbd n16) H := hP
          have hD : va_D A (wz_91 ac cfi clk clt ac_length cop cva cpt cel ac_labelCount cla wat cwat gwat wap cwap gwap wgt cwgt gwgt wgc cwgc gwgc cfi ccfi gcfi clk cclk gclk clt cclt gclt cop ccop gcop cva ccva gcva cpt ccpt gcpt cel ccel gcel cla ccla gcla aw law waf cwaf gwaf wag cwag gwag h0 aw ac n23 p0 ty n22 bo bg bh bd n21 ty cty n20 bo cbo n19 bg cbg n17 bh cbh n18 bd cbd n16) := hD
          refine lv_goto (tgt := 166) hx hb d_VA_checkFunction_96 (by decide) ?_
          exact jn166 (n16, n17, n18, n19, n20, n21, n22, n23) _ _ _ ⟨bn18, bn20, bn21, bn22, bn23, fun z => by rw [← t69]; exact vo_blocks k5a k6 k7 (by have q := hvl.2.2.2; (first | (apply Int.le_antisymm <;> omega) | omega)) (fun q => v9 (by have := hvl.1 (by (first | (apply Int.le_antisymm <;> omega) | omega)); (first | (apply Int.le_antisymm <;> omega) | omega))) xr15 z, hP.sub [0, 17, 1, 2, 3, 4, 5, 6, 7, 8, 9, 10, 11, 12, 13, 14, 15, 16, 18, 19, 20, 21] rfl, hD.sub [0, 17, 1, 2, 3, 4, 5, 6, 7, 8, 9, 10, 11, 12, 13, 14, 15, 16, 18, 19, 20, 21] (by decide) rfl, hS, lv_sub hl [1, 2, 3] rfl⟩
        · have q72 := nleI c72
          refine lv_iload_n hx hb d_VA_checkFunction_75 rfl (lv_at hl 0 rfl) ?_
          refine lv_bipush (v := 11) hx hb d_VA_checkFunction_76 (by decide) ?_
          refine lv_icmp_ne (tgt := 99) hx hb d_VA_checkFunction_78 (by decide) (fun c78 => ?_) (fun c78 => ?_)
          · have q78 := neI c78
            refine lv_iload_n hx hb d_VA_checkFunction_99 rfl (lv_at hl 0 rfl) ?_
            refine lv_bipush (v := 16) hx hb d_VA_checkFunction_100 (by decide) ?_
            refine lv_icmp_gt (tgt := 114) hx hb d_VA_checkFunction_102 (by decide) (fun c102 => ?_) (fun c102 => ?_)
            · have q102 := ltI c102
              refine lv_iload_n hx hb d_VA_checkFunction_114 rfl (lv_at hl 0 rfl) ?_
              refine lv_bipush (v := 36) hx hb d_VA_checkFunction_115 (by decide) ?_
              refine lv_icmp_gt (tgt := 138) hx hb d_VA_checkFunction_117 (by decide) (fun c117 => ?_) (fun c117 => ?_)
              · have q117 := ltI c117
                refine lv_iload_n hx hb d_VA_checkFunction_138 rfl (lv_at hl 0 rfl) ?_
                refine lv_bipush (v := 64) hx hb d_VA_checkFunction_139 (by decide) ?_
                refine lv_icmp_gt (tgt := 161) hx hb d_VA_checkFunction_141 (by decide) (fun c141 => ?_) (fun c141 => ?_)
                · have q141 := ltI c141
                  refine lv_aload_n hx hb d_VA_checkFunction_161 rfl (lv_at hl 1 rfl) ?_
                  refine lv_iload_n hx hb d_VA_checkFunction_162 rfl (lv_at hl 0 rfl) ?_
                  have hPc := hP.sb (wq := (wz_65 h0 aw ac j38_h0_sound p0 ty j38_h0_height bo bg bh bd j38_h0_depth ty cty j38_ty bh cbh j38_bh bd cbd j38_bd)) [17, 1, 20, 21] rfl
                  have hDc := hD.sb (wq := (wz_65 h0 aw ac j38_h0_sound p0 ty j38_h0_height bo bg bh bd j38_h0_depth ty cty j38_ty bh cbh j38_bh bd cbd j38_bd)) [17, 1, 20, 21] (by decide) rfl
                  have hKc := hK.sb (tyq := [(cty, .int), (cbh, .int), (cbd, .boolean)]) [0, 3, 4] rfl
                  have hFc := va_free (wc := (wz_65 h0 aw ac j38_h0_sound p0 ty j38_h0_height bo bg bh bd j38_h0_depth ty cty j38_ty bh cbh j38_bh bd cbd j38_bd)) hD hS hA [17, 1, 20, 21] rfl
                  refine va_callv (va_runV (As := [.int x11]) (rest := []) ⟨hx, hb, hml, hown, hts⟩ (c_VA_checkNumber l dC dI H.size h0 aw ac ty bo bg bh bd cty cbh cbd j38_h0_sound p0 j38_h0_height j38_h0_depth j38_ty j38_bh j38_bd (b_j38_h0_sound) (b_j38_h0_height) (b_j38_h0_depth) (b_j38_ty) (b_j38_bh) x11 (k5a) (k7) (by (first | (apply Int.le_antisymm <;> omega) | omega))) (cwV 1 hts (gV kM_VA_155 kV_VA_checkNumber kS_VA_checkNumber kI_VA kC_VA_checkNumber) rfl rfl rfl (by decide +kernel) ⟨Nat.le_of_ble_eq_true rfl, Nat.le_of_ble_eq_true rfl⟩) ⟨fun a U g mk z => by obtain ⟨z0, z1, zP, zK, zD⟩ := z; exact ⟨z0, z1, zP, va_K.moved (u := U) (U := U.calling g mk a) (Vm.Alike.refl U.vm) zK, zD⟩, va_recv hKc hPc (ci := 9) (q0 := 0) rfl rfl, fun U hU hW => ⟨rfl, by rw [hU], va_P.he hU.symm hPc, va_K.moved hW.alike hKc, hDc.weaken (fun _ _ _ _ => trivial)⟩⟩ rfl rfl hl.1 rfl (lv_room (Nat.le_of_ble_eq_true rfl)) d_VA_checkFunction_163 ⟨(Nat.zero_le _), (Nat.zero_le _)⟩) hS (fun q _ h => hFc q h) hFc (fun u t H1 locs ht hvm hw hB hz1 hk1 hS => ?_)
                  obtain ⟨n25, n26, n27⟩ := u
                  try dsimp only at hw
                  obtain ⟨bn25, bn26, bn27, xr24⟩ := hw
                  try clear hw
                  have tn27 := b01 bn27
                  obtain ⟨hP1, hK1, hD1⟩ := hB
                  replace hP1 := va_P.he ht hP1
                  obtain ⟨hP, hD⟩ := va_join (wr := [(ac, .inr (3, [.ref cfi, .ref clk, .ref clt, .int ac_length, .ref cop, .ref cva, .ref cpt, .ref cel, .int ac_labelCount, .ref cla])), (wat, .inl (cwat, 20, .inl gwat)), (wap, .inl (cwap, 160, .inl gwap)), (wgt, .inl (cwgt, 20, .inl gwgt)), (wgc, .inl (cwgc, 20, .inl gwgc)), (cfi, .inl (ccfi, 31, .inl gcfi)), (clk, .inl (cclk, 30, .inl gclk)), (clt, .inl (cclt, 1800, .inl gclt)), (cop, .inl (ccop, 5000, .inl gcop)), (cva, .inl (ccva, 5000, .inr (.inl gcva))), (cpt, .inl (ccpt, 5000, .inl gcpt)), (cel, .inl (ccel, 5000, .inl gcel)), (cla, .inl (ccla, 2000, .inl gcla)), (aw, .inr (10, law)), (waf, .inl (cwaf, 30, .inl gwaf)), (wag, .inl (cwag, 20, .inl gwag)), (bo, .inl (cbo, 101, .inl j38_bo)), (bg, .inl (cbg, 101, .inl j38_bg))]) (w1 := (wz_65 h0 aw ac n27 p0 ty n26 bo bg bh bd j38_h0_depth ty cty n25 bh cbh j38_bh bd cbd j38_bd)) hP hD [17, 1, 20, 21] [0, 2, 3, 4, 5, 6, 7, 8, 9, 10, 11, 12, 13, 14, 15, 16, 18, 19] rfl rfl (by decide) (by decide) hk1 hFc hP1 hD1
                  clear hPc hDc hKc hFc hz1 hk1 hP1 hK1 hD1
                  rename Heap => H
                  have hP : va_P (dC, dI) cls [(ac, .inr (3, [.ref cfi, .ref clk, .ref clt, .int ac_length, .ref cop, .ref cva, .ref cpt, .ref cel, .int ac_labelCount, .ref cla])), (wat, .inl (cwat, 20, .inl gwat)), (wap, .inl (cwap, 160, .inl gwap)), (wgt, .inl (cwgt, 20, .inl gwgt)), (wgc, .inl (cwgc, 20, .inl gwgc)), (cfi, .inl (ccfi, 31, .inl gcfi)), (clk, .inl (cclk, 30, .inl gclk)), (clt, .inl (cclt, 1800, .inl gclt)), (cop, .inl (ccop, 5000, .inl gcop)), (cva, .inl (ccva, 5000, .inr (.inl gcva))), (cpt, .inl (ccpt, 5000, .inl gcpt)), (cel, .inl (ccel, 5000, .inl gcel)), (cla, .inl (ccla, 2000, .inl gcla)), (aw, .inr (10, law)), (waf, .inl (cwaf, 30, .inl gwaf)), (wag, .inl (cwag, 20, .inl gwag)), (bo, .inl (cbo, 101, .inl j38_bo)), (bg, .inl (cbg, 101, .inl j38_bg)), (h0, .inr (9, [.ref aw, .ref ac, .int n27, .int p0, .ref ty, .int n26, .ref bo, .ref bg, .ref bh, .ref bd, .int j38_h0_depth])), (ty, .inl (cty, 5000, .inl n25)), (bh, .inl (cbh, 101, .inl j38_bh)), (bd, .inl (cbd, 101, .inl j38_bd))] H := hP
                  have hD : va_D A [(ac, .inr (3, [.ref cfi, .ref clk, .ref clt, .int ac_length, .ref cop, .ref cva, .ref cpt, .ref cel, .int ac_labelCount, .ref cla])), (wat, .inl (cwat, 20, .inl gwat)), (wap, .inl (cwap, 160, .inl gwap)), (wgt, .inl (cwgt, 20, .inl gwgt)), (wgc, .inl (cwgc, 20, .inl gwgc)), (cfi, .inl (ccfi, 31, .inl gcfi)), (clk, .inl (cclk, 30, .inl gclk)), (clt, .inl (cclt, 1800, .inl gclt)), (cop, .inl (ccop, 5000, .inl gcop)), (cva, .inl (ccva, 5000, .inr (.inl gcva))), (cpt, .inl (ccpt, 5000, .inl gcpt)), (cel, .inl (ccel, 5000, .inl gcel)), (cla, .inl (ccla, 2000, .inl gcla)), (aw, .inr (10, law)), (waf, .inl (cwaf, 30, .inl gwaf)), (wag, .inl (cwag, 20, .inl gwag)), (bo, .inl (cbo, 101, .inl j38_bo)), (bg, .inl (cbg, 101, .inl j38_bg)), (h0, .inr (9, [.ref aw, .ref ac, .int n27, .int p0, .ref ty, .int n26, .ref bo, .ref bg, .ref bh, .ref bd, .int j38_h0_depth])), (ty, .inl (cty, 5000, .inl n25)), (bh, .inl (cbh, 101, .inl j38_bh)), (bd, .inl (cbd, 101, .inl j38_bd))] := hD
                  exact jn166 (j38_bd, j38_bg, j38_bh, j38_bo, n25, j38_h0_depth, n26, n27) _ _ _ ⟨b_j38_bh, bn25, b_j38_h0_depth, bn26, bn27, fun z => by rw [← t69]; exact vo_num k5a k6 k7 (by have q := hvl.2.2.2; (first | (apply Int.le_antisymm <;> omega) | omega)) (by have q := hvl.2.2.2; (first | (apply Int.le_antisymm <;> omega) | omega)) xr24 z, hP.sub [0, 19, 1, 2, 3, 4, 5, 6, 7, 8, 9, 10, 11, 12, 13, 14, 15, 18, 16, 17, 20, 21] rfl, hD.sub [0, 19, 1, 2, 3, 4, 5, 6, 7, 8, 9, 10, 11, 12, 13, 14, 15, 18, 16, 17, 20, 21] (by decide) rfl, hS, lv_sub hl [1, 2, 3] rfl⟩
                · have q141 := nltI c141
                  refine lv_aload_n hx hb d_VA_checkFunction_144 rfl (lv_at hl 1 rfl) ?_
                  refine lv_iload_n hx hb d_VA_checkFunction_145 rfl (lv_at hl 0 rfl) ?_
                  refine lv_aload_n hx hb d_VA_checkFunction_146 rfl (lv_at hl 1 rfl) ?_
                  refine va_get (D := (dC, dI)) (ci := 9) (v := .ref ac) (C := R_VA) (T := F_VA) (N := 11) hx hb hts i_VA hown hK hP 17 rfl rfl 1 (by decide) (hts _ kF_VA_38) (fun _ h9 => h9) rfl d_VA_checkFunction_147 ?_
                  refine va_get (D := (dC, dI)) (ci := 3) (v := .ref cpt) (C := R_CD) (T := F_CD) (N := 10) hx hb hts i_CD hown hK hP 0 rfl rfl 6 (by decide) (hts _ kF_VA_149) (fun _ h9 => h9) rfl d_VA_checkFunction_150 ?_
                  refine lv_iload_n hx hb d_VA_checkFunction_153 rfl (lv_at hl 3 rfl) ?_
                  have g154 : vp_in j38_l2 5000 := vp_in_iff.mpr ⟨by (first | (apply Int.le_antisymm <;> omega) | omega), by (first | (apply Int.le_antisymm <;> omega) | omega)⟩
                  refine va_iald hx hb hK hP 11 16 rfl rfl g154 d_VA_checkFunction_154 ?_
                  refine lv_topi (fun x28 ex28 => ?_)
                  have hPc := hP.sb (wq := (wz_72 h0 aw ac j38_h0_sound p0 ty j38_h0_height bo bg bh bd j38_h0_depth aw law ty cty j38_ty bh cbh j38_bh bd cbd j38_bd)) [17, 14, 1, 20, 21] rfl
                  have hDc := hD.sb (wq := (wz_72 h0 aw ac j38_h0_sound p0 ty j38_h0_height bo bg bh bd j38_h0_depth aw law ty cty j38_ty bh cbh j38_bh bd cbd j38_bd)) [17, 14, 1, 20, 21] (by decide) rfl
                  have hKc := hK.sb (tyq := [(cty, .int), (cbh, .int), (cbd, .boolean)]) [0, 3, 4] rfl
                  have hFc := va_free (wc := (wz_72 h0 aw ac j38_h0_sound p0 ty j38_h0_height bo bg bh bd j38_h0_depth aw law ty cty j38_ty bh cbh j38_bh bd cbd j38_bd)) hD hS hA [17, 14, 1, 20, 21] rfl
                  refine va_callv (va_runV (As := [.int x11, .int x28]) (rest := []) ⟨hx, hb, hml, hown, hts⟩ (c_VA_checkMemory l dC dI H.size h0 aw ac ty bo bg bh bd cty cbh cbd j38_h0_sound p0 j38_h0_height j38_h0_depth law aw_hasMemory j38_ty j38_bh j38_bd paw_8 plaw (b_j38_h0_sound) (b_j38_h0_height) (b_j38_h0_depth) (b_j38_ty) (b_j38_bh) (b_aw_hasMemory) x11 x28 (k5a) (k7) (by (first | (apply Int.le_antisymm <;> omega) | omega))) (cwV 2 hts (gV kM_VA_152 kV_VA_checkMemory kS_VA_checkMemory kI_VA kC_VA_checkMemory) rfl rfl rfl (by decide +kernel) ⟨Nat.le_of_ble_eq_true rfl, Nat.le_of_ble_eq_true rfl⟩) ⟨fun a U g mk z => by obtain ⟨z0, z1, zP, zK, zD⟩ := z; exact ⟨z0, z1, zP, va_K.moved (u := U) (U := U.calling g mk a) (Vm.Alike.refl U.vm) zK, zD⟩, va_recv hKc hPc (ci := 9) (q0 := 0) rfl rfl, fun U hU hW => ⟨rfl, by rw [hU], va_P.he hU.symm hPc, va_K.moved hW.alike hKc, hDc.weaken (fun _ _ _ _ => trivial)⟩⟩ rfl rfl hl.1 rfl (lv_room (Nat.le_of_ble_eq_true rfl)) d_VA_checkFunction_155 ⟨(Nat.zero_le _), (Nat.zero_le _)⟩) hS (fun q _ h => hFc q h) hFc (fun u t H1 locs ht hvm hw hB hz1 hk1 hS => ?_)
                  obtain ⟨n30, n31, n32⟩ := u
                  try dsimp only at hw
                  obtain ⟨bn30, bn31, bn32, xr29⟩ := hw
                  try clear hw
                  have tn32 := b01 bn32
                  obtain ⟨hP1, hK1, hD1⟩ := hB
                  replace hP1 := va_P.he ht hP1
                  obtain ⟨hP, hD⟩ := va_join (wr := [(ac, .inr (3, [.ref cfi, .ref clk, .ref clt, .int ac_length, .ref cop, .ref cva, .ref cpt, .ref cel, .int ac_labelCount, .ref cla])), (wat, .inl (cwat, 20, .inl gwat)), (wap, .inl (cwap, 160, .inl gwap)), (wgt, .inl (cwgt, 20, .inl gwgt)), (wgc, .inl (cwgc, 20, .inl gwgc)), (cfi, .inl (ccfi, 31, .inl gcfi)), (clk, .inl (cclk, 30, .inl gclk)), (clt, .inl (cclt, 1800, .inl gclt)), (cop, .inl (ccop, 5000, .inl gcop)), (cva, .inl (ccva, 5000, .inr (.inl gcva))), (cpt, .inl (ccpt, 5000, .inl gcpt)), (cel, .inl (ccel, 5000, .inl gcel)), (cla, .inl (ccla, 2000, .inl gcla)), (waf, .inl (cwaf, 30, .inl gwaf)), (wag, .inl (cwag, 20, .inl gwag)), (bo, .inl (cbo, 101, .inl j38_bo)), (bg, .inl (cbg, 101, .inl j38_bg))]) (w1 := (wz_72 h0 aw ac n32 p0 ty n31 bo bg bh bd j38_h0_depth aw law ty cty n30 bh cbh j38_bh bd cbd j38_bd)) hP hD [17, 14, 1, 20, 21] [0, 2, 3, 4, 5, 6, 7, 8, 9, 10, 11, 12, 13, 15, 16, 18, 19] rfl rfl (by decide) (by decide) hk1 hFc hP1 hD1
                  clear hPc hDc hKc hFc hz1 hk1 hP1 hK1 hD1
                  rename Heap => H
                  have hP : va_P (dC, dI) cls [(ac, .inr (3, [.ref cfi, .ref clk, .ref clt, .int ac_length, .ref cop, .ref cva, .ref cpt, .ref cel, .int ac_labelCount, .ref cla])), (wat, .inl (cwat, 20, .inl gwat)), (wap, .inl (cwap, 160, .inl gwap)), (wgt, .inl (cwgt, 20, .inl gwgt)), (wgc, .inl (cwgc, 20, .inl gwgc)), (cfi, .inl (ccfi, 31, .inl gcfi)), (clk, .inl (cclk, 30, .inl gclk)), (clt, .inl (cclt, 1800, .inl gclt)), (cop, .inl (ccop, 5000, .inl gcop)), (cva, .inl (ccva, 5000, .inr (.inl gcva))), (cpt, .inl (ccpt, 5000, .inl gcpt)), (cel, .inl (ccel, 5000, .inl gcel)), (cla, .inl (ccla, 2000, .inl gcla)), (waf, .inl (cwaf, 30, .inl gwaf)), (wag, .inl (cwag, 20, .inl gwag)), (bo, .inl (cbo, 101, .inl j38_bo)), (bg, .inl (cbg, 101, .inl j38_bg)), (h0, .inr (9, [.ref aw, .ref ac, .int n32, .int p0, .ref ty, .int n31, .ref bo, .ref bg, .ref bh, .ref bd, .int j38_h0_depth])), (aw, .inr (10, law)), (ty, .inl (cty, 5000, .inl n30)), (bh, .inl (cbh, 101, .inl j38_bh)), (bd, .inl (cbd, 101, .inl j38_bd))] H := hP
                  have hD : va_D A [(ac, .inr (3, [.ref cfi, .ref clk, .ref clt, .int ac_length, .ref cop, .ref cva, .ref cpt, .ref cel, .int ac_labelCount, .ref cla])), (wat, .inl (cwat, 20, .inl gwat)), (wap, .inl (cwap, 160, .inl gwap)), (wgt, .inl (cwgt, 20, .inl gwgt)), (wgc, .inl (cwgc, 20, .inl gwgc)), (cfi, .inl (ccfi, 31, .inl gcfi)), (clk, .inl (cclk, 30, .inl gclk)), (clt, .inl (cclt, 1800, .inl gclt)), (cop, .inl (ccop, 5000, .inl gcop)), (cva, .inl (ccva, 5000, .inr (.inl gcva))), (cpt, .inl (ccpt, 5000, .inl gcpt)), (cel, .inl (ccel, 5000, .inl gcel)), (cla, .inl (ccla, 2000, .inl gcla)), (waf, .inl (cwaf, 30, .inl gwaf)), (wag, .inl (cwag, 20, .inl gwag)), (bo, .inl (cbo, 101, .inl j38_bo)), (bg, .inl (cbg, 101, .inl j38_bg)), (h0, .inr (9, [.ref aw, .ref ac, .int n32, .int p0, .ref ty, .int n31, .ref bo, .ref bg, .ref bh, .ref bd, .int j38_h0_depth])), (aw, .inr (10, law)), (ty, .inl (cty, 5000, .inl n30)), (bh, .inl (cbh, 101, .inl j38_bh)), (bd, .inl (cbd, 101, .inl j38_bd))] := hD
                  refine lv_goto (tgt := 166) hx hb d_VA_checkFunction_158 (by decide) ?_
                  exact jn166 (j38_bd, j38_bg, j38_bh, j38_bo, n30, j38_h0_depth, n31, n32) _ _ _ ⟨b_j38_bh, bn30, b_j38_h0_depth, bn31, bn32, fun z => by rw [← t69]; exact vo_mem k5a k6 k7 (by have q := hvl.2.2.2; (first | (apply Int.le_antisymm <;> omega) | omega)) xr29 z, hP.sub [0, 19, 1, 2, 3, 4, 5, 6, 7, 8, 9, 10, 11, 12, 18, 13, 14, 17, 15, 16, 20, 21] rfl, hD.sub [0, 19, 1, 2, 3, 4, 5, 6, 7, 8, 9, 10, 11, 12, 18, 13, 14, 17, 15, 16, 20, 21] (by decide) rfl, hS, lv_sub hl [1, 2, 3] rfl⟩
              · have q117 := nltI c117
                refine lv_aload_n hx hb d_VA_checkFunction_120 rfl (lv_at hl 1 rfl) ?_
                refine lv_iload_n hx hb d_VA_checkFunction_121 rfl (lv_at hl 0 rfl) ?_
                refine lv_aload_n hx hb d_VA_checkFunction_122 rfl (lv_at hl 1 rfl) ?_
                refine va_get (D := (dC, dI)) (ci := 9) (v := .ref ac) (C := R_VA) (T := F_VA) (N := 11) hx hb hts i_VA hown hK hP 17 rfl rfl 1 (by decide) (hts _ kF_VA_38) (fun _ h9 => h9) rfl d_VA_checkFunction_123 ?_
                refine va_get (D := (dC, dI)) (ci := 3) (v := .ref cva) (C := R_CD) (T := F_CD) (N := 10) hx hb hts i_CD hown hK hP 0 rfl rfl 5 (by decide) (hts _ kF_VA_136) (fun _ h9 => h9) rfl d_VA_checkFunction_126 ?_
                refine lv_iload_n hx hb d_VA_checkFunction_129 rfl (lv_at hl 3 rfl) ?_
                have g130 : vp_in j38_l2 5000 := vp_in_iff.mpr ⟨by (first | (apply Int.le_antisymm <;> omega) | omega), by (first | (apply Int.le_antisymm <;> omega) | omega)⟩
                refine va_lald hx hb hK hP 10 15 rfl rfl g130 d_VA_checkFunction_130 ?_
                refine lv_topl (fun x33 ex33 => ?_)
                refine lv_l2i hx hb d_VA_checkFunction_131 rfl ?_
                refine lv_topi (fun x34 ex34 => ?_)
                have v9 : 0 ≤ (gcva j38_l2.toNatClampNeg).toInt ∧ (gcva j38_l2.toNatClampNeg).toInt ≤ 2147483647 → x34.toInt = (gcva j38_l2.toNatClampNeg).toInt := fun z => by have y := l2i_t ex34 (by rw [ex33]; (first | (apply Int.le_antisymm <;> omega) | omega)) (by rw [ex33]; (first | (apply Int.le_antisymm <;> omega) | omega)); rw [y, ex33]
                have hPc := hP.sb (wq := (wz_75 h0 aw ac j38_h0_sound p0 ty j38_h0_height bo bg bh bd j38_h0_depth aw law ac cfi clk clt ac_length cop cva cpt cel ac_labelCount cla ty cty j38_ty bh cbh j38_bh bd cbd j38_bd waf cwaf gwaf wat cwat gwat wap cwap gwap wgt cwgt gwgt wgc cwgc gwgc clk cclk gclk clt cclt gclt)) [17, 14, 0, 1, 20, 21, 15, 2, 3, 4, 5, 7, 8] rfl
                have hDc := hD.sb (wq := (wz_75 h0 aw ac j38_h0_sound p0 ty j38_h0_height bo bg bh bd j38_h0_depth aw law ac cfi clk clt ac_length cop cva cpt cel ac_labelCount cla ty cty j38_ty bh cbh j38_bh bd cbd j38_bd waf cwaf gwaf wat cwat gwat wap cwap gwap wgt cwgt gwgt wgc cwgc gwgc clk cclk gclk clt cclt gclt)) [17, 14, 0, 1, 20, 21, 15, 2, 3, 4, 5, 7, 8] (by decide) rfl
                have hKc := hK.sb (tyq := [(cty, .int), (cbh, .int), (cbd, .boolean), (cwaf, .int), (cwat, .int), (cwap, .int), (cwgt, .int), (cwgc, .boolean), (cclk, .int), (cclt, .int)]) [0, 3, 4, 5, 6, 7, 9, 10, 12, 13] rfl
                have hFc := va_free (wc := (wz_75 h0 aw ac j38_h0_sound p0 ty j38_h0_height bo bg bh bd j38_h0_depth aw law ac cfi clk clt ac_length cop cva cpt cel ac_labelCount cla ty cty j38_ty bh cbh j38_bh bd cbd j38_bd waf cwaf gwaf wat cwat gwat wap cwap gwap wgt cwgt gwgt wgc cwgc gwgc clk cclk gclk clt cclt gclt)) hD hS hA [17, 14, 0, 1, 20, 21, 15, 2, 3, 4, 5, 7, 8] rfl
                refine va_callv (va_runV (As := [.int x11, .int x34]) (rest := []) ⟨hx, hb, hml, hown, hts⟩ (c_VA_checkVariable l dC dI H.size h0 aw ac ty bo bg bh bd wat wap waf wgt wgc cfi clk clt cop cva cpt cel cla cty cbh cbd cwaf cwat cwap cwgt cwgc cclk cclt j38_h0_sound p0 j38_h0_height j38_h0_depth law aw_functionCount aw_globalCount ac_length ac_labelCount j38_ty j38_bh j38_bd gwaf gwat gwap gwgt gwgc gclk gclt paw_1 paw_3 paw_4 paw_6 paw_7 paw_11 paw_12 paw_15 plaw (b_j38_h0_sound) (b_j38_h0_height) (b_j38_h0_depth) (b_j38_ty) (b_j38_bh) (b_aw_functionCount) (b_aw_globalCount) x11 x34 (k5a) (k7) (by (first | (apply Int.le_antisymm <;> omega) | omega)) (by (first | (apply Int.le_antisymm <;> omega) | omega)) (hwf) (hrg) (by have q := hvl.2.2.2; (first | (apply Int.le_antisymm <;> omega) | omega)) (fun q => by have := hvl.2.1 (by have q9 := hvl.2.2.2; (first | (apply Int.le_antisymm <;> omega) | omega)); have := v9 (by (first | (apply Int.le_antisymm <;> omega) | omega)); (first | (apply Int.le_antisymm <;> omega) | omega))) (cwV 2 hts (gV kM_VA_146 kV_VA_checkVariable kS_VA_checkVariable kI_VA kC_VA_checkVariable) rfl rfl rfl (by decide +kernel) ⟨Nat.le_of_ble_eq_true rfl, Nat.le_of_ble_eq_true rfl⟩) ⟨fun a U g mk z => by obtain ⟨z0, z1, zP, zK, zD⟩ := z; exact ⟨z0, z1, zP, va_K.moved (u := U) (U := U.calling g mk a) (Vm.Alike.refl U.vm) zK, zD⟩, va_recv hKc hPc (ci := 9) (q0 := 0) rfl rfl, fun U hU hW => ⟨rfl, by rw [hU], va_P.he hU.symm hPc, va_K.moved hW.alike hKc, hDc.weaken (fun _ _ _ _ => trivial)⟩⟩ rfl rfl hl.1 rfl (lv_room (Nat.le_of_ble_eq_true rfl)) d_VA_checkFunction_132 ⟨(Nat.zero_le _), (Nat.zero_le _)⟩) hS (fun q _ h => hFc q h) hFc (fun u t H1 locs ht hvm hw hB hz1 hk1 hS => ?_)
                obtain ⟨n36, n37, n38⟩ := u
                try dsimp only at hw
                obtain ⟨bn36, bn37, bn38, xr35⟩ := hw
                try clear hw
                have tn38 := b01 bn38
                obtain ⟨hP1, hK1, hD1⟩ := hB
                replace hP1 := va_P.he ht hP1
                obtain ⟨hP, hD⟩ := va_join (wr := [(cfi, .inl (ccfi, 31, .inl gcfi)), (cop, .inl (ccop, 5000, .inl gcop)), (cva, .inl (ccva, 5000, .inr (.inl gcva))), (cpt, .inl (ccpt, 5000, .inl gcpt)), (cel, .inl (ccel, 5000, .inl gcel)), (cla, .inl (ccla, 2000, .inl gcla)), (wag, .inl (cwag, 20, .inl gwag)), (bo, .inl (cbo, 101, .inl j38_bo)), (bg, .inl (cbg, 101, .inl j38_bg))]) (w1 := (wz_75 h0 aw ac n38 p0 ty n37 bo bg bh bd j38_h0_depth aw law ac cfi clk clt ac_length cop cva cpt cel ac_labelCount cla ty cty n36 bh cbh j38_bh bd cbd j38_bd waf cwaf gwaf wat cwat gwat wap cwap gwap wgt cwgt gwgt wgc cwgc gwgc clk cclk gclk clt cclt gclt)) hP hD [17, 14, 0, 1, 20, 21, 15, 2, 3, 4, 5, 7, 8] [6, 9, 10, 11, 12, 13, 16, 18, 19] rfl rfl (by decide) (by decide) hk1 hFc hP1 hD1
                clear hPc hDc hKc hFc hz1 hk1 hP1 hK1 hD1
                rename Heap => H
                have hP : va_P (dC, dI) cls [(cfi, .inl (ccfi, 31, .inl gcfi)), (cop, .inl (ccop, 5000, .inl gcop)), (cva, .inl (ccva, 5000, .inr (.inl gcva))), (cpt, .inl (ccpt, 5000, .inl gcpt)), (cel, .inl (ccel, 5000, .inl gcel)), (cla, .inl (ccla, 2000, .inl gcla)), (wag, .inl (cwag, 20, .inl gwag)), (bo, .inl (cbo, 101, .inl j38_bo)), (bg, .inl (cbg, 101, .inl j38_bg)), (h0, .inr (9, [.ref aw, .ref ac, .int n38, .int p0, .ref ty, .int n37, .ref bo, .ref bg, .ref bh, .ref bd, .int j38_h0_depth])), (aw, .inr (10, law)), (ac, .inr (3, [.ref cfi, .ref clk, .ref clt, .int ac_length, .ref cop, .ref cva, .ref cpt, .ref cel, .int ac_labelCount, .ref cla])), (ty, .inl (cty, 5000, .inl n36)), (bh, .inl (cbh, 101, .inl j38_bh)), (bd, .inl (cbd, 101, .inl j38_bd)), (waf, .inl (cwaf, 30, .inl gwaf)), (wat, .inl (cwat, 20, .inl gwat)), (wap, .inl (cwap, 160, .inl gwap)), (wgt, .inl (cwgt, 20, .inl gwgt)), (wgc, .inl (cwgc, 20, .inl gwgc)), (clk, .inl (cclk, 30, .inl gclk)), (clt, .inl (cclt, 1800, .inl gclt))] H := hP
                have hD : va_D A [(cfi, .inl (ccfi, 31, .inl gcfi)), (cop, .inl (ccop, 5000, .inl gcop)), (cva, .inl (ccva, 5000, .inr (.inl gcva))), (cpt, .inl (ccpt, 5000, .inl gcpt)), (cel, .inl (ccel, 5000, .inl gcel)), (cla, .inl (ccla, 2000, .inl gcla)), (wag, .inl (cwag, 20, .inl gwag)), (bo, .inl (cbo, 101, .inl j38_bo)), (bg, .inl (cbg, 101, .inl j38_bg)), (h0, .inr (9, [.ref aw, .ref ac, .int n38, .int p0, .ref ty, .int n37, .ref bo, .ref bg, .ref bh, .ref bd, .int j38_h0_depth])), (aw, .inr (10, law)), (ac, .inr (3, [.ref cfi, .ref clk, .ref clt, .int ac_length, .ref cop, .ref cva, .ref cpt, .ref cel, .int ac_labelCount, .ref cla])), (ty, .inl (cty, 5000, .inl n36)), (bh, .inl (cbh, 101, .inl j38_bh)), (bd, .inl (cbd, 101, .inl j38_bd)), (waf, .inl (cwaf, 30, .inl gwaf)), (wat, .inl (cwat, 20, .inl gwat)), (wap, .inl (cwap, 160, .inl gwap)), (wgt, .inl (cwgt, 20, .inl gwgt)), (wgc, .inl (cwgc, 20, .inl gwgc)), (clk, .inl (cclk, 30, .inl gclk)), (clt, .inl (cclt, 1800, .inl gclt))] := hD
                refine lv_goto (tgt := 166) hx hb d_VA_checkFunction_135 (by decide) ?_
                exact jn166 (j38_bd, j38_bg, j38_bh, j38_bo, n36, j38_h0_depth, n37, n38) _ _ _ ⟨b_j38_bh, bn36, b_j38_h0_depth, bn37, bn38, fun z => by rw [← t69]; exact vo_var (gwaf := gwaf) (gwat := gwat) (gclk := gclk) k5a k6 k7 (by have q := hvl.2.2.2; (first | (apply Int.le_antisymm <;> omega) | omega)) (fun q => ⟨by have := hvl.2.1 (by have q9 := hvl.2.2.2; (first | (apply Int.le_antisymm <;> omega) | omega)); have := v9 (by (first | (apply Int.le_antisymm <;> omega) | omega)); (first | (apply Int.le_antisymm <;> omega) | omega), v9 (by have := hvl.2.1 (by have q9 := hvl.2.2.2; (first | (apply Int.le_antisymm <;> omega) | omega)); (first | (apply Int.le_antisymm <;> omega) | omega))⟩) (hnl _ (by (first | (apply Int.le_antisymm <;> omega) | omega))).symm rfl xr35 z, hP.sub [11, 12, 16, 17, 18, 19, 0, 20, 21, 1, 2, 3, 4, 5, 10, 15, 6, 9, 7, 8, 13, 14] rfl, hD.sub [11, 12, 16, 17, 18, 19, 0, 20, 21, 1, 2, 3, 4, 5, 10, 15, 6, 9, 7, 8, 13, 14] (by decide) rfl, hS, lv_sub hl [1, 2, 3] rfl⟩
            · have q102 := nltI c102
              refine lv_aload_n hx hb d_VA_checkFunction_105 rfl (lv_at hl 1 rfl) ?_
              refine lv_iload_n hx hb d_VA_checkFunction_106 rfl (lv_at hl 0 rfl) ?_
              refine lv_iload_n hx hb d_VA_checkFunction_107 rfl (lv_at hl 3 rfl) ?_
              have hPc := hP.sb (wq := (wz_83 h0 aw ac j38_h0_sound p0 ty j38_h0_height bo bg bh bd j38_h0_depth aw law ac cfi clk clt ac_length cop cva cpt cel ac_labelCount cla ty cty j38_ty bo cbo j38_bo bg cbg j38_bg bh cbh j38_bh bd cbd j38_bd waf cwaf gwaf wat cwat gwat wap cwap gwap wag cwag gwag clk cclk gclk clt cclt gclt cop ccop gcop cva ccva gcva cpt ccpt gcpt cla ccla gcla)) [17, 14, 0, 1, 18, 19, 20, 21, 15, 2, 3, 16, 7, 8, 9, 10, 11, 13] rfl
              have hDc := hD.sb (wq := (wz_83 h0 aw ac j38_h0_sound p0 ty j38_h0_height bo bg bh bd j38_h0_depth aw law ac cfi clk clt ac_length cop cva cpt cel ac_labelCount cla ty cty j38_ty bo cbo j38_bo bg cbg j38_bg bh cbh j38_bh bd cbd j38_bd waf cwaf gwaf wat cwat gwat wap cwap gwap wag cwag gwag clk cclk gclk clt cclt gclt cop ccop gcop cva ccva gcva cpt ccpt gcpt cla ccla gcla)) [17, 14, 0, 1, 18, 19, 20, 21, 15, 2, 3, 16, 7, 8, 9, 10, 11, 13] (by decide) rfl
              have hKc := hK.sb (tyq := [(cty, .int), (cbo, .int), (cbg, .int), (cbh, .int), (cbd, .boolean), (cwaf, .int), (cwat, .int), (cwap, .int), (cwag, .int), (cclk, .int), (cclt, .int), (ccop, .int), (ccva, .long), (ccpt, .int), (ccla, .int)]) [0, 1, 2, 3, 4, 5, 6, 7, 8, 12, 13, 14, 15, 16, 18] rfl
              have hFc := va_free (wc := (wz_83 h0 aw ac j38_h0_sound p0 ty j38_h0_height bo bg bh bd j38_h0_depth aw law ac cfi clk clt ac_length cop cva cpt cel ac_labelCount cla ty cty j38_ty bo cbo j38_bo bg cbg j38_bg bh cbh j38_bh bd cbd j38_bd waf cwaf gwaf wat cwat gwat wap cwap gwap wag cwag gwag clk cclk gclk clt cclt gclt cop ccop gcop cva ccva gcva cpt ccpt gcpt cla ccla gcla)) hD hS hA [17, 14, 0, 1, 18, 19, 20, 21, 15, 2, 3, 16, 7, 8, 9, 10, 11, 13] rfl
              refine va_callv (va_runV (As := [.int x11, .int j38_l2]) (rest := []) ⟨hx, hb, hml, hown, hts⟩ (c_VA_checkJump l dC dI H.size h0 aw ac ty bo bg bh bd wat wap wag waf cfi clk clt cop cva cpt cel cla cty cbo cbg cbh cbd cwaf cwat cwap cwag cclk cclt ccop ccva ccpt ccla j38_h0_sound p0 j38_h0_height j38_h0_depth law aw_functionCount ac_length ac_labelCount j38_ty j38_bo j38_bg j38_bh j38_bd gwaf gwat gwap gwag gclk gclt gcop gcva gcpt gcla paw_1 paw_3 paw_4 paw_5 paw_6 paw_7 plaw (b_j38_h0_sound) (b_j38_h0_height) (b_j38_h0_depth) (b_ac_labelCount) (b_j38_ty) (b_j38_bh) (b_aw_functionCount) x11 j38_l2 (by (try dsimp only) <;> (first | (apply Int.le_antisymm <;> omega) | omega)) (k5a) (k7) (by (first | (apply Int.le_antisymm <;> omega) | omega)) (by (first | (apply Int.le_antisymm <;> omega) | omega)) (hwf) (hlb) (b69) (hvl) (by have q := hvl.2.2.2; (first | (apply Int.le_antisymm <;> omega) | omega))) (cwV 2 hts (gV kM_VA_143 kV_VA_checkJump kS_VA_checkJump kI_VA kC_VA_checkJump) rfl rfl rfl (by decide +kernel) ⟨Nat.le_of_ble_eq_true rfl, Nat.le_of_ble_eq_true rfl⟩) ⟨fun a U g mk z => by obtain ⟨z0, z1, zP, zK, zD⟩ := z; exact ⟨z0, z1, zP, va_K.moved (u := U) (U := U.calling g mk a) (Vm.Alike.refl U.vm) zK, zD⟩, va_recv hKc hPc (ci := 9) (q0 := 0) rfl rfl, fun U hU hW => ⟨rfl, by rw [hU], va_P.he hU.symm hPc, va_K.moved hW.alike hKc, hDc.weaken (fun _ _ _ _ => trivial)⟩⟩ rfl rfl hl.1 rfl (lv_room (Nat.le_of_ble_eq_true rfl)) d_VA_checkFunction_108 ⟨(Nat.zero_le _), (Nat.zero_le _)⟩) hS (fun q _ h => hFc q h) hFc (fun u t H1 locs ht hvm hw hB hz1 hk1 hS => ?_)
              obtain ⟨n40, n41, n42, n43⟩ := u
              try dsimp only at hw
              obtain ⟨bn41, bn42, bn43, xr39⟩ := hw
              try clear hw
              have tn43 := b01 bn43
              obtain ⟨hP1, hK1, hD1⟩ := hB
              replace hP1 := va_P.he ht hP1
              obtain ⟨hP, hD⟩ := va_join (wr := [(wgt, .inl (cwgt, 20, .inl gwgt)), (wgc, .inl (cwgc, 20, .inl gwgc)), (cfi, .inl (ccfi, 31, .inl gcfi)), (cel, .inl (ccel, 5000, .inl gcel))]) (w1 := (wz_83 h0 aw ac n43 p0 ty n42 bo bg bh bd j38_h0_depth aw law ac cfi clk clt ac_length cop cva cpt cel ac_labelCount cla ty cty n41 bo cbo j38_bo bg cbg j38_bg bh cbh j38_bh bd cbd n40 waf cwaf gwaf wat cwat gwat wap cwap gwap wag cwag gwag clk cclk gclk clt cclt gclt cop ccop gcop cva ccva gcva cpt ccpt gcpt cla ccla gcla)) hP hD [17, 14, 0, 1, 18, 19, 20, 21, 15, 2, 3, 16, 7, 8, 9, 10, 11, 13] [4, 5, 6, 12] rfl rfl (by decide) (by decide) hk1 hFc hP1 hD1
              clear hPc hDc hKc hFc hz1 hk1 hP1 hK1 hD1
              rename Heap => H
              have hP : va_P (dC, dI) cls [(wgt, .inl (cwgt, 20, .inl gwgt)), (wgc, .inl (cwgc, 20, .inl gwgc)), (cfi, .inl (ccfi, 31, .inl gcfi)), (cel, .inl (ccel, 5000, .inl gcel)), (h0, .inr (9, [.ref aw, .ref ac, .int n43, .int p0, .ref ty, .int n42, .ref bo, .ref bg, .ref bh, .ref bd, .int j38_h0_depth])), (aw, .inr (10, law)), (ac, .inr (3, [.ref cfi, .ref clk, .ref clt, .int ac_length, .ref cop, .ref cva, .ref cpt, .ref cel, .int ac_labelCount, .ref cla])), (ty, .inl (cty, 5000, .inl n41)), (bo, .inl (cbo, 101, .inl j38_bo)), (bg, .inl (cbg, 101, .inl j38_bg)), (bh, .inl (cbh, 101, .inl j38_bh)), (bd, .inl (cbd, 101, .inl n40)), (waf, .inl (cwaf, 30, .inl gwaf)), (wat, .inl (cwat, 20, .inl gwat)), (wap, .inl (cwap, 160, .inl gwap)), (wag, .inl (cwag, 20, .inl gwag)), (clk, .inl (cclk, 30, .inl gclk)), (clt, .inl (cclt, 1800, .inl gclt)), (cop, .inl (ccop, 5000, .inl gcop)), (cva, .inl (ccva, 5000, .inr (.inl gcva))), (cpt, .inl (ccpt, 5000, .inl gcpt)), (cla, .inl (ccla, 2000, .inl gcla))] H := hP
              have hD : va_D A [(wgt, .inl (cwgt, 20, .inl gwgt)), (wgc, .inl (cwgc, 20, .inl gwgc)), (cfi, .inl (ccfi, 31, .inl gcfi)), (cel, .inl (ccel, 5000, .inl gcel)), (h0, .inr (9, [.ref aw, .ref ac, .int n43, .int p0, .ref ty, .int n42, .ref bo, .ref bg, .ref bh, .ref bd, .int j38_h0_depth])), (aw, .inr (10, law)), (ac, .inr (3, [.ref cfi, .ref clk, .ref clt, .int ac_length, .ref cop, .ref cva, .ref cpt, .ref cel, .int ac_labelCount, .ref cla])), (ty, .inl (cty, 5000, .inl n41)), (bo, .inl (cbo, 101, .inl j38_bo)), (bg, .inl (cbg, 101, .inl j38_bg)), (bh, .inl (cbh, 101, .inl j38_bh)), (bd, .inl (cbd, 101, .inl n40)), (waf, .inl (cwaf, 30, .inl gwaf)), (wat, .inl (cwat, 20, .inl gwat)), (wap, .inl (cwap, 160, .inl gwap)), (wag, .inl (cwag, 20, .inl gwag)), (clk, .inl (cclk, 30, .inl gclk)), (clt, .inl (cclt, 1800, .inl gclt)), (cop, .inl (ccop, 5000, .inl gcop)), (cva, .inl (ccva, 5000, .inr (.inl gcva))), (cpt, .inl (ccpt, 5000, .inl gcpt)), (cla, .inl (ccla, 2000, .inl gcla))] := hD
              refine lv_goto (tgt := 166) hx hb d_VA_checkFunction_111 (by decide) ?_
              exact jn166 (n40, j38_bg, j38_bh, j38_bo, n41, j38_h0_depth, n42, n43) _ _ _ ⟨b_j38_bh, bn41, b_j38_h0_depth, bn42, bn43, fun z => by rw [← t69]; exact vo_jump (gwaf := gwaf) (gwat := gwat) (gwag := gwag) (gcop := gcop) (gcpt := gcpt) (p1 := j38_l2) k5a k6 k7 (by have q := hvl.2.2.2; (first | (apply Int.le_antisymm <;> omega) | omega)) (fun q => by have := hvl.2.1 (by (first | (apply Int.le_antisymm <;> omega) | omega)); (first | (apply Int.le_antisymm <;> omega) | omega)) rfl (fun q q2 => by have u1 := hvl.2.1 (by (first | (apply Int.le_antisymm <;> omega) | omega)); exact ⟨htk _ (by (first | (apply Int.le_antisymm <;> omega) | omega)), hgv _ (by (first | (apply Int.le_antisymm <;> omega) | omega))⟩) rfl xr39 z, hP.sub [6, 7, 13, 14, 0, 1, 2, 16, 17, 18, 19, 20, 3, 21, 5, 12, 15, 4, 8, 9, 10, 11] rfl, hD.sub [6, 7, 13, 14, 0, 1, 2, 16, 17, 18, 19, 20, 3, 21, 5, 12, 15, 4, 8, 9, 10, 11] (by decide) rfl, hS, lv_sub hl [1, 2, 3] rfl⟩
          · have q78 := eqI c78
            refine lv_aload_n hx hb d_VA_checkFunction_81 rfl (lv_at hl 1 rfl) ?_
            refine lv_iload_n hx hb d_VA_checkFunction_82 rfl (lv_at hl 0 rfl) ?_
            refine lv_aload_n hx hb d_VA_checkFunction_83 rfl (lv_at hl 1 rfl) ?_
            refine va_get (D := (dC, dI)) (ci := 9) (v := .ref ac) (C := R_VA) (T := F_VA) (N := 11) hx hb hts i_VA hown hK hP 17 rfl rfl 1 (by decide) (hts _ kF_VA_38) (fun _ h9 => h9) rfl d_VA_checkFunction_84 ?_
            refine va_get (D := (dC, dI)) (ci := 3) (v := .ref cva) (C := R_CD) (T := F_CD) (N := 10) hx hb hts i_CD hown hK hP 0 rfl rfl 5 (by decide) (hts _ kF_VA_136) (fun _ h9 => h9) rfl d_VA_checkFunction_87 ?_
            refine lv_iload_n hx hb d_VA_checkFunction_90 rfl (lv_at hl 3 rfl) ?_
            have g91 : vp_in j38_l2 5000 := vp_in_iff.mpr ⟨by (first | (apply Int.le_antisymm <;> omega) | omega), by (first | (apply Int.le_antisymm <;> omega) | omega)⟩
            refine va_lald hx hb hK hP 10 15 rfl rfl g91 d_VA_checkFunction_91 ?_
            refine lv_topl (fun x44 ex44 => ?_)
            refine lv_l2i hx hb d_VA_checkFunction_92 rfl ?_
            refine lv_topi (fun x45 ex45 => ?_)
            have v9 : 0 ≤ (gcva j38_l2.toNatClampNeg).toInt ∧ (gcva j38_l2.toNatClampNeg).toInt ≤ 2147483647 → x45.toInt = (gcva j38_l2.toNatClampNeg).toInt := fun z => by have y := l2i_t ex45 (by rw [ex44]; (first | (apply Int.le_antisymm <;> omega) | omega)) (by rw [ex44]; (first | (apply Int.le_antisymm <;> omega) | omega)); rw [y, ex44]
            have hPc := hP.sb (wq := (wz_86 h0 aw ac j38_h0_sound p0 ty j38_h0_height bo bg bh bd j38_h0_depth ty cty j38_ty bo cbo j38_bo bg cbg j38_bg bh cbh j38_bh bd cbd j38_bd)) [17, 1, 18, 19, 20, 21] rfl
            have hDc := hD.sb (wq := (wz_86 h0 aw ac j38_h0_sound p0 ty j38_h0_height bo bg bh bd j38_h0_depth ty cty j38_ty bo cbo j38_bo bg cbg j38_bg bh cbh j38_bh bd cbd j38_bd)) [17, 1, 18, 19, 20, 21] (by decide) rfl
            have hKc := hK.sb (tyq := [(cty, .int), (cbo, .int), (cbg, .int), (cbh, .int), (cbd, .boolean)]) [0, 1, 2, 3, 4] rfl
            have hFc := va_free (wc := (wz_86 h0 aw ac j38_h0_sound p0 ty j38_h0_height bo bg bh bd j38_h0_depth ty cty j38_ty bo cbo j38_bo bg cbg j38_bg bh cbh j38_bh bd cbd j38_bd)) hD hS hA [17, 1, 18, 19, 20, 21] rfl
            refine va_callv (va_runV (As := [.int x11, .int x45]) (rest := []) ⟨hx, hb, hml, hown, hts⟩ (c_VA_checkBlocks l dC dI H.size h0 aw ac ty bo bg bh bd cty cbo cbg cbh cbd j38_h0_sound p0 j38_h0_height j38_h0_depth j38_ty j38_bo j38_bg j38_bh j38_bd (b_j38_h0_sound) (b_j38_h0_height) (b_j38_h0_depth) (b_j38_ty) (b_j38_bh) x11 x45 (k5a) (k7) (by (first | (apply Int.le_antisymm <;> omega) | omega)) (fun q => by have := hvo (by (first | (apply Int.le_antisymm <;> omega) | omega)); (first | (apply Int.le_antisymm <;> omega) | omega)) (by have q := hvl.2.2.2; (first | (apply Int.le_antisymm <;> omega) | omega))) (cwV 2 hts (gV kM_VA_140 kV_VA_checkBlocks kS_VA_checkBlocks kI_VA kC_VA_checkBlocks) rfl rfl rfl (by decide +kernel) ⟨Nat.le_of_ble_eq_true rfl, Nat.le_of_ble_eq_true rfl⟩) ⟨fun a U g mk z => by obtain ⟨z0, z1, zP, zK, zD⟩ := z; exact ⟨z0, z1, zP, va_K.moved (u := U) (U := U.calling g mk a) (Vm.Alike.refl U.vm) zK, zD⟩, va_recv hKc hPc (ci := 9) (q0 := 0) rfl rfl, fun U hU hW => ⟨rfl, by rw [hU], va_P.he hU.symm hPc, va_K.moved hW.alike hKc, hDc.weaken (fun _ _ _ _ => trivial)⟩⟩ rfl rfl hl.1 rfl (lv_room (Nat.le_of_ble_eq_true rfl)) d_VA_checkFunction_93 ⟨(Nat.zero_le _), (Nat.zero_le _)⟩) hS (fun q _ h => hFc q h) hFc (fun u t H1 locs ht hvm hw hB hz1 hk1 hS => ?_)
            obtain ⟨n47, n48, n49, n50, n51, n52, n53, n54⟩ := u
            try dsimp only at hw
            obtain ⟨bn49, bn51, bn52, bn53, bn54, xr46⟩ := hw
            try clear hw
            have tn54 := b01 bn54
            obtain ⟨hP1, hK1, hD1⟩ := hB
            replace hP1 := va_P.he ht hP1
            obtain ⟨hP, hD⟩ := va_join (wr := [(ac, .inr (3, [.ref cfi, .ref clk, .ref clt, .int ac_length, .ref cop, .ref cva, .ref cpt, .ref cel, .int ac_labelCount, .ref cla])), (wat, .inl (cwat, 20, .inl gwat)), (wap, .inl (cwap, 160, .inl gwap)), (wgt, .inl (cwgt, 20, .inl gwgt)), (wgc, .inl (cwgc, 20, .inl gwgc)), (cfi, .inl (ccfi, 31, .inl gcfi)), (clk, .inl (cclk, 30, .inl gclk)), (clt, .inl (cclt, 1800, .inl gclt)), (cop, .inl (ccop, 5000, .inl gcop)), (cva, .inl (ccva, 5000, .inr (.inl gcva))), (cpt, .inl (ccpt, 5000, .inl gcpt)), (cel, .inl (ccel, 5000, .inl gcel)), (cla, .inl (ccla, 2000, .inl gcla)), (aw, .inr (10, law)), (waf, .inl (cwaf, 30, .inl gwaf)), (wag, .inl (cwag, 20, .inl gwag))]) (w1 := (wz_86 h0 aw ac n54 p0 ty n53 bo bg bh bd n52 ty cty n51 bo cbo n50 bg cbg n48 bh cbh n49 bd cbd n47)) hP hD [17, 1, 18, 19, 20, 21] [0, 2, 3, 4, 5, 6, 7, 8, 9, 10, 11, 12, 13, 14, 15, 16] rfl rfl (by decide) (by decide) hk1 hFc hP1 hD1
            clear hPc hDc hKc hFc hz1 hk1 hP1 hK1 hD1
            rename Heap => H
            have hP : va_P (dC, dI) cls (wz_91 ac cfi clk clt ac_length cop cva cpt cel ac_labelCount cla wat cwat gwat wap cwap gwap wgt cwgt gwgt wgc cwgc gwgc cfi ccfi gcfi clk cclk gclk clt cclt gclt cop ccop gcop cva ccva gcva cpt ccpt gcpt cel ccel gcel cla ccla gcla aw law waf cwaf gwaf wag cwag gwag h0 aw ac n54 p0 ty n53 bo bg bh bd n52 ty cty n51 bo cbo n50 bg cbg n48 bh cbh n49 bd cbd n47) H := hP
            have hD : va_D A (wz_91 ac cfi clk clt ac_length cop cva cpt cel ac_labelCount cla wat cwat gwat wap cwap gwap wgt cwgt gwgt wgc cwgc gwgc cfi ccfi gcfi clk cclk gclk clt cclt gclt cop ccop gcop cva ccva gcva cpt ccpt gcpt cel ccel gcel cla ccla gcla aw law waf cwaf gwaf wag cwag gwag h0 aw ac n54 p0 ty n53 bo bg bh bd n52 ty cty n51 bo cbo n50 bg cbg n48 bh cbh n49 bd cbd n47) := hD
            refine lv_goto (tgt := 166) hx hb d_VA_checkFunction_96 (by decide) ?_
            exact jn166 (n47, n48, n49, n50, n51, n52, n53, n54) _ _ _ ⟨bn49, bn51, bn52, bn53, bn54, fun z => by rw [← t69]; exact vo_blocks k5a k6 k7 (by have q := hvl.2.2.2; (first | (apply Int.le_antisymm <;> omega) | omega)) (fun q => v9 (by have := hvl.1 (by (first | (apply Int.le_antisymm <;> omega) | omega)); (first | (apply Int.le_antisymm <;> omega) | omega))) xr46 z, hP.sub [0, 17, 1, 2, 3, 4, 5, 6, 7, 8, 9, 10, 11, 12, 13, 14, 15, 16, 18, 19, 20, 21] rfl, hD.sub [0, 17, 1, 2, 3, 4, 5, 6, 7, 8, 9, 10, 11, 12, 13, 14, 15, 16, 18, 19, 20, 21] (by decide) rfl, hS, lv_sub hl [1, 2, 3] rfl⟩
end q_26
section q_27
/-! a module that may be run: what the machine asks of its tables -/
def mo_ok (fc gc : Int) (gwaf gwat gwag gcfi gclk gcop gcpt gcel gcla : Nat → Int32) (gcva : Nat → Int64) : Prop :=
  ∃ (an : mc_A) (nl gv tk : Nat → Int),
    (∀ f : Nat, (f : Int) < fc → f < 30 ∧ 0 ≤ (gwaf f).toInt ∧ (gwaf f).toInt < 20) ∧
    (∀ f : Nat, (f : Int) < fc → gv f = if (gwag (gwaf f).toNatClampNeg).toInt = 64 then 0 else 1) ∧
    (∀ f : Nat, (f : Int) < fc → nl f = (gwat (gwaf f).toNatClampNeg).toInt + (gclk f).toInt ∧ 0 ≤ (gwat (gwaf f).toNatClampNeg).toInt ∧ (gwat (gwaf f).toNatClampNeg).toInt ≤ 8 ∧ 0 ≤ (gclk f).toInt ∧ (gclk f).toInt ≤ 60) ∧
    (∀ f : Nat, (f : Int) < fc → tk f = (gwat (gwaf f).toNatClampNeg).toInt) ∧
    (∀ f : Nat, (f : Int) < fc → 0 ≤ (gcfi f).toInt ∧ an (gcfi f).toInt.toNat = some (f, [], 0)) ∧ gc ≤ 20 ∧
    ∀ (i f : Nat) (bs : List (Nat × Int)) (h : Int), an i = some (f, bs, h) → (f : Int) < fc ∧ 0 ≤ h ∧ mc_at an nl gv tk fc gc gcop gcpt gcel gcla gcva i f bs h
section MO
variable {nl gv tk : Nat → Int} {fc gc lc len : Int} {gwaf gwat gwap gwag gcfi gclk gclt gcop gcpt gcel gcla : Nat → Int32} {gcva : Nat → Int64}
theorem mo_mono (hc : ∀ f : Nat, (f : Int) < fc → (gcfi f).toInt ≤ (gcfi (f + 1)).toInt) {f1 : Nat} : ∀ k : Nat, ((f1 + 1 + k : Nat) : Int) ≤ fc → (gcfi (f1 + 1)).toInt ≤ (gcfi (f1 + 1 + k)).toInt
  | 0, _ => Int.le_refl _
  | k + 1, h => by
    have w := mo_mono hc (f1 := f1) k (by (first | (apply Int.le_antisymm <;> omega) | omega))
    have q := hc (f1 + 1 + k) (by (first | (apply Int.le_antisymm <;> omega) | omega))
    rw [show f1 + 1 + (k + 1) = f1 + 1 + k + 1 by (first | (apply Int.le_antisymm <;> omega) | omega)]
    (first | (apply Int.le_antisymm <;> omega) | omega)
theorem mo_of (hgc : gc ≤ 20) (hfn : ∀ f : Nat, (f : Int) < fc → f < 30) (hwf : ∀ f : Nat, (f : Int) < fc → vw_fun gwaf gwat gwap gclk gclt f) (hgv : ∀ f : Nat, (f : Int) < fc → gv f = if (gwag (gwaf f).toNatClampNeg).toInt = 64 then 0 else 1) (hnl : ∀ f : Nat, (f : Int) < fc → nl f = (gwat (gwaf f).toNatClampNeg).toInt + (gclk f).toInt) (htk : ∀ f : Nat, (f : Int) < fc → tk f = (gwat (gwaf f).toNatClampNeg).toInt)
    (hC : rd_C fc len lc gcfi gclk gclt gcop gcpt gcel gcva) (hl5 : len ≤ 5000) (hlc : lc ≤ 2000) (hla : ∀ j : Nat, (j : Int) < lc → 0 ≤ (gcla j).toInt) (hv : ∀ f : Nat, (f : Int) < fc → vfin nl gv tk fc gc f gcop gcpt gcel gcva lc (gcfi f).toNatClampNeg ((gcfi (f + 1)).toNatClampNeg - 1)) :
    mo_ok fc gc gwaf gwat gwag gcfi gclk gcop gcpt gcel gcla gcva := by
  have h1 : ∀ f : Nat, ∃ q : (Nat → List Nat) × (Nat → List vt) × (Nat → Int), (f : Int) < fc → rs_I (gcfi f).toNatClampNeg ((gcfi (f + 1)).toNatClampNeg - 1) gcop gcpt gcel gcva lc q.1 ∧ q.1 ((gcfi (f + 1)).toNatClampNeg - 1) = [] ∧ (gcop ((gcfi (f + 1)).toNatClampNeg - 1)).toInt = 11 ∧ vI nl gv tk fc gc f gcop gcva (gcfi f).toNatClampNeg ((gcfi (f + 1)).toNatClampNeg - 1) ((gcfi (f + 1)).toNatClampNeg - 1) q.2.1 q.2.2 := by
    intro f
    by_cases hf : (f : Int) < fc
    · obtain ⟨sb, B, hh, k⟩ := hv f hf
      exact ⟨(sb, B, hh), fun _ => k⟩
    · exact ⟨(fun _ => [], fun _ => [], fun _ => 0), fun z => absurd z hf⟩
  obtain ⟨Q, hQ⟩ := Classical.axiomOfChoice h1
  have hcm : ∀ f : Nat, (f : Int) < fc → 0 ≤ (gcfi f).toInt ∧ (gcfi f).toInt < (gcfi (f + 1)).toInt ∧ (gcfi (f + 1)).toInt ≤ len := by
    intro f hf
    obtain ⟨a1, a2, a3, ⟨sb, a4, -⟩, -⟩ := hC.1 f hf
    have c1 := i32_clamp (x := gcfi f) a1
    have c2 := i32_clamp (x := gcfi (f + 1)) (by (first | (apply Int.le_antisymm <;> omega) | omega))
    exact ⟨a1, by (first | (apply Int.le_antisymm <;> omega) | omega), a3⟩
  obtain ⟨an, ean⟩ : ∃ an : mc_A, an = fun (i : Nat) => match (List.range 30).find? (fun f : Nat => decide ((f : Int) < fc) && decide ((gcfi f).toInt ≤ (i : Int)) && decide ((i : Int) < (gcfi (f + 1)).toInt)) with | some f => vann f gcop (Q f).1 (Q f).2.1 (Q f).2.2 i | none => none := ⟨_, rfl⟩
  have hin : ∀ (f i : Nat), (f : Int) < fc → (gcfi f).toInt ≤ (i : Int) → (i : Int) < (gcfi (f + 1)).toInt → an i = vann f gcop (Q f).1 (Q f).2.1 (Q f).2.2 i := by
    intro f i hf i1 i2
    rw [ean]
    dsimp only
    cases e : (List.range 30).find? (fun f : Nat => decide ((f : Int) < fc) && decide ((gcfi f).toInt ≤ (i : Int)) && decide ((i : Int) < (gcfi (f + 1)).toInt)) with
    | none =>
      have := List.find?_eq_none.mp e f (List.mem_range.mpr (hfn f hf))
      simp [hf, i1, i2] at this
    | some f2 =>
      have p := List.find?_some e
      simp only [Bool.and_eq_true, decide_eq_true_eq] at p
      obtain ⟨⟨p1, p2⟩, p3⟩ := p
      have hc : ∀ f : Nat, (f : Int) < fc → (gcfi f).toInt ≤ (gcfi (f + 1)).toInt := fun f h => by have := hcm f h; (first | (apply Int.le_antisymm <;> omega) | omega)
      have e2 : f2 = f := by
        rcases Nat.lt_trichotomy f2 f with w | w | w
        · have := mo_mono hc (f1 := f2) (f - (f2 + 1)) (by (first | (apply Int.le_antisymm <;> omega) | omega))
          rw [show f2 + 1 + (f - (f2 + 1)) = f by (first | (apply Int.le_antisymm <;> omega) | omega)] at this
          (first | (apply Int.le_antisymm <;> omega) | omega)
        · exact w
        · have := mo_mono hc (f1 := f) (f2 - (f + 1)) (by (first | (apply Int.le_antisymm <;> omega) | omega))
          rw [show f + 1 + (f2 - (f + 1)) = f2 by (first | (apply Int.le_antisymm <;> omega) | omega)] at this
          (first | (apply Int.le_antisymm <;> omega) | omega)
      rw [e2]
  have hout : ∀ (i f : Nat) (bs : List (Nat × Int)) (h : Int), an i = some (f, bs, h) → ∃ f2 : Nat, (f2 : Int) < fc ∧ (gcfi f2).toInt ≤ (i : Int) ∧ (i : Int) < (gcfi (f2 + 1)).toInt := by
    intro i f bs h e
    rw [ean] at e
    dsimp only at e
    cases e9 : (List.range 30).find? (fun f : Nat => decide ((f : Int) < fc) && decide ((gcfi f).toInt ≤ (i : Int)) && decide ((i : Int) < (gcfi (f + 1)).toInt)) with
    | none => rw [e9] at e; cases e
    | some f2 =>
      have p := List.find?_some e9
      simp only [Bool.and_eq_true, decide_eq_true_eq] at p
      exact ⟨f2, p.1.1, p.1.2, p.2⟩
  refine ⟨an, nl, gv, tk, fun f hf => ⟨hfn f hf, (hwf f hf).1⟩, hgv, fun f hf => ⟨hnl f hf, (hwf f hf).2.1⟩, htk, fun f hf => ?_, hgc, fun i f bs h e => ?_⟩
  · obtain ⟨c1, c2, c3⟩ := hcm f hf
    refine ⟨c1, ?_⟩
    obtain ⟨s1, s2, s3, k1, k2, k3, k4, k5⟩ := hQ f hf
    have cc := i32_clamp (x := gcfi f) c1
    have cd := i32_clamp (x := gcfi (f + 1)) (by (first | (apply Int.le_antisymm <;> omega) | omega))
    rw [hin f _ hf (by (first | (apply Int.le_antisymm <;> omega) | omega)) (by (first | (apply Int.le_antisymm <;> omega) | omega)), show (gcfi f).toInt.toNat = (gcfi f).toNatClampNeg from (i32_natI rfl).symm, vann_live (nl := nl) (gv := gv) (tk := tk) (fc := fc) (gc := gc) (gva := gcva) s2 (fun q => k1 _ (Nat.le_refl _) q q) (by (first | (apply Int.le_antisymm <;> omega) | omega)) k5, s1.2.1, k4]
    rfl
  · obtain ⟨f2, hf, i1, i2⟩ := hout i f bs h e
    obtain ⟨c1, c2, c3⟩ := hcm f2 hf
    have cc := i32_clamp (x := gcfi f2) c1
    have cd := i32_clamp (x := gcfi (f2 + 1)) (by (first | (apply Int.le_antisymm <;> omega) | omega))
    obtain ⟨s1, s2, s3, k1, k2, k3, k4, k5⟩ := hQ f2 hf
    obtain ⟨e1, e2, e3⟩ := vn_at (a := (gcfi f2).toNatClampNeg) (m := (gcfi (f2 + 1)).toNatClampNeg - 1) (f := f2) (nl := nl) (gv := gv) (tk := tk) (fc := fc) (gc := gc) (gla := gcla) (an := an) s1 s2 s3 (by (first | (apply Int.le_antisymm <;> omega) | omega)) (fun j j1 j2 => k1 j j1 j2 j2) k3 (fun j j1 j2 => k2 j j1 j2 j2) (by have w := (hwf f2 hf).2.1; rw [hnl f2 hf]; (first | (apply Int.le_antisymm <;> omega) | omega)) hlc hla (fun j j1 j2 => hin f2 j hf (by (first | (apply Int.le_antisymm <;> omega) | omega)) (by (first | (apply Int.le_antisymm <;> omega) | omega))) (by (first | (apply Int.le_antisymm <;> omega) | omega)) (by (first | (apply Int.le_antisymm <;> omega) | omega)) e
    rw [e1]
    exact ⟨hf, e2, e3⟩
theorem vw_of {tc : Int} (hT : rd_T tc gwat gwap) (htc : tc ≤ 20) (hF : rd_F fc gwaf) (hC : rd_C fc len lc gcfi gclk gclt gcop gcpt gcel gcva) (hw : ∀ f : Nat, (f : Int) < fc → (gwaf f).toInt < tc) : ∀ f : Nat, (f : Int) < fc → vw_fun gwaf gwat gwap gclk gclt f := by
  intro f hf
  have h0 := hF f hf
  have h1 := hw f hf
  have c1 := i32_clamp (x := gwaf f) h0
  obtain ⟨-, -, -, -, b1, b2, b3⟩ := hC.1 f hf
  obtain ⟨t1, t2⟩ := hT.1 (gwaf f).toNatClampNeg (by (first | (apply Int.le_antisymm <;> omega) | omega))
  refine ⟨⟨h0, by (first | (apply Int.le_antisymm <;> omega) | omega)⟩, ⟨t1, t2, b1, b2⟩, fun j hj => ?_, b3⟩
  have e1 : (8 * (gwaf f).toInt + (j : Int)).toNat / 8 = (gwaf f).toNatClampNeg := by (first | (apply Int.le_antisymm <;> omega) | omega)
  exact hT.2 _ (by (first | (apply Int.le_antisymm <;> omega) | omega)) (by rw [e1]; (first | (apply Int.le_antisymm <;> omega) | omega))
end MO
end q_27

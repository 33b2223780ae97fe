/-! the picture is right at each instruction -/
section VB
variable {nl gv tk : Nat → Int} {fc gc lc : Int} {f a m : Nat} {gop gpt gel gla : Nat → Int32} {gva : Nat → Int64} {sb : Nat → List Nat} {B : Nat → List vt} {hh : Nat → Int} {an : mc_A}
theorem vann_live {i : Nat} (hm : sb m = []) (hV : i < m → vr nl gv tk fc gc f (gop i).toInt (gva i).toInt (B i) (hh i) (B (i + 1)) (hh (i + 1))) (hi : i ≤ m) (hl : vlive (B i) = true) : vann f gop sb B hh i = some (f, vzp (sb i) (B i), hh i) := by
  unfold vann
  by_cases q : (gop i).toInt = 11 ∧ sb i ≠ []
  · rw [if_pos q]
    have him : i < m := by
      rcases Nat.lt_or_eq_of_le hi with w | w
      · exact w
      · exact absurd (by rw [w]; exact hm) q.2
    obtain ⟨o, g, hb, d, R, eB, -, -, -, -, -, -, -, c11, -⟩ := hV him
    rw [eB] at hl ⊢
    obtain ⟨l1, l2⟩ := vlive_cons.mp hl
    have e := (c11 q.1).1 l1
    rw [List.tail_cons, if_pos l2, e]
    rfl
  · rw [if_neg q, if_pos hl]
theorem vann_inv {i f2 : Nat} {bs : List (Nat × Int)} {h : Int} (e : vann f gop sb B hh i = some (f2, bs, h)) : f2 = f ∧ bs = vzp (sb i) (B i) ∧ vlive (B i).tail = true ∧ (((gop i).toInt ≠ 11 ∨ sb i = []) → vlive (B i) = true ∧ h = hh i) ∧ ((gop i).toInt = 11 ∧ sb i ≠ [] → h = vtop (B i)) := by
  unfold vann at e
  by_cases q : (gop i).toInt = 11 ∧ sb i ≠ []
  · rw [if_pos q] at e
    split at e
    · rename_i w
      injection e with e
      injection e with e1 e2
      injection e2 with e2 e3
      exact ⟨e1.symm, e2.symm, w, fun z => absurd q (by rcases z with z | z; exact fun y => z y.1; exact fun y => y.2 z), fun _ => e3.symm⟩
    · cases e
  · rw [if_neg q] at e
    split at e
    · rename_i w
      injection e with e
      injection e with e1 e2
      injection e2 with e2 e3
      exact ⟨e1.symm, e2.symm, by rw [← List.drop_one]; exact vlive_drop 1 w, fun _ => ⟨w, e3.symm⟩, fun z => absurd z q⟩
    · cases e
theorem vn_lab {i : Nat} {l : Int} (hI : rs_I a m gop gpt gel gva lc sb) (hm : sb m = []) (hm5 : (m : Int) < 5000) (hV : ∀ i, a ≤ i → i < m → vr nl gv tk fc gc f (gop i).toInt (gva i).toInt (B i) (hh i) (B (i + 1)) (hh (i + 1))) (hB : (B a).length = 1)
    (han : ∀ i, a ≤ i → i ≤ m → an i = vann f gop sb B hh i) (h1 : a ≤ i) (h2 : i < m) (hl : vlive (B i) = true) (h0 : 0 ≤ l) : mc_lab an gop gpt gva f (vzp (sb i) (B i)) l := by
  refine ⟨h0, fun n b _ hn => ?_⟩
  obtain ⟨y, e1, e2, e3⟩ := vzp_get hn
  have VH : ∀ j, a ≤ j → j ≤ m → vh gop gel gva sb B hh j := fun j q1 q2 => by
    have := vh_all hI hV hB (j - a) (by omega)
    rw [show a + (j - a) = j by omega] at this
    exact this
  obtain ⟨o, d, q1, q2, q3, -⟩ := (VH i h1 (by omega)).2 n b.1 e1
  have ey : y = (o, (gva b.1).toInt, hh (b.1 + 1), d) := by rw [e2] at q1; exact Option.some.inj q1
  rw [ey] at e3
  have hmem : b.1 ∈ sb i := List.mem_of_getElem? e1
  obtain ⟨b1, b2, b3⟩ := (hI.2.2.1 i h1 (by omega)).1 b.1 hmem
  have hlx : vlive (B b.1) = true := by rw [← q3]; exact vlive_drop _ hl
  have dn1 : (vzp (sb i) (B i)).drop (n + 1) = vzp (sb b.1) (B b.1) := by rw [vzp_drop, q2, q3]
  have hbm : b.1 + 1 ≤ m := by omega
  constructor
  · intro z3
    obtain ⟨ob, gb, hbb, db, Rb, eB, -, -, -, -, c2, -⟩ := hV b.1 b1 (by omega)
    obtain ⟨p1, p2⟩ := c2 (Or.inr z3)
    have hs := (hI.2.2.2 b.1 b1 (by omega)).2.1 (by omega)
    have hl1 : vlive (B (b.1 + 1)) = true := by rw [p1]; exact vlive_cons.mpr ⟨rfl, hlx⟩
    rw [han _ (by omega) hbm, vann_live hm (hV _ (by omega)) hbm hl1, e3]
    have ed : (vzp (sb i) (B i)).drop n = b :: (vzp (sb i) (B i)).drop (n + 1) := by
      obtain ⟨w1, w2⟩ := List.getElem?_eq_some_iff.mp hn
      rw [List.drop_eq_getElem_cons w1, w2]
    rw [ed, dn1, hs, p1]
    have : vzp (b.1 :: sb b.1) (((gop b.1).toInt, (gva b.1).toInt, hh b.1, 0) :: B b.1) = (b.1, hh b.1) :: vzp (sb b.1) (B b.1) := rfl
    rw [this, ← p2, show (b.1, hh (b.1 + 1)) = b from Prod.ext rfl e3.symm]
  · intro z3
    obtain ⟨p, p1, p2, p3, ⟨r, p4, p5⟩, p6, -⟩ := rs_close hI hm (m - i) i (by omega) h1 hmem
    obtain ⟨o9, d9, w1, w2, w3, -⟩ := (VH p (by omega) (by omega)).2 0 b.1 (by rw [p4]; rfl)
    obtain ⟨op_, gp_, hbp, dp_, Rp, eB, -, -, -, -, -, -, -, c11, -⟩ := hV p (by omega) p2
    rw [eB] at w1 w3
    have w3' : Rp = B b.1 := by simpa using w3
    have w1' : (op_, gp_, hbp, dp_) = (o9, (gva b.1).toInt, hh (b.1 + 1), d9) := by simpa using w1
    injection w1' with x1 x2
    injection x2 with x2 x3
    injection x3 with x3 x4
    have hR : Rp ≠ [] := by
      rw [w3']
      intro e
      have := (VH b.1 b1 (by omega)).1
      rw [e] at this
      simp at this
    obtain ⟨y1, y2⟩ := (c11 p3).2.2 hR
    rw [w3'] at y1
    rw [p4] at w2
    have w2' : r = sb b.1 := by simpa using w2
    have e9 : (gpt b.1).toInt.toNat = p := by omega
    refine ⟨by omega, by omega, ?_⟩
    rw [e9, han _ (by omega) (by omega), vann_live hm (hV _ (by omega)) (by omega) (by rw [y1]; exact hlx), dn1, p5, w2', y1, y2, x2, x3, e3]
    rfl
end VB

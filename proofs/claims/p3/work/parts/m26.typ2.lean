section WB
variable {lt : Nat → Nat → Int} {rt nl gv tk gt : Nat → Int} {fc gc lc : Int} {f a m : Nat} {gop gpt gel gla : Nat → Int32} {gva : Nat → Int64} {sb : Nat → List Nat} {B : Nat → List vt} {hh : Nat → Int} {an : mc_A} {T : Nat → Nat → Int}
theorem wn_lab {i : Nat} {l h' hb : Int} (hI : rs_I a m gop gpt gel gva lc sb) (hm : sb m = []) (hV : ∀ i, a ≤ i → i < m → vr nl gv tk fc gc f (gop i).toInt (gva i).toInt (B i) (hh i) (B (i + 1)) (hh (i + 1)))
    (hY : ∀ i, a ≤ i → i < m → vty lt rt tk gt f (gop i).toInt (gva i).toInt (gpt i).toInt (fun k => (gla ((gva i).toInt.toNat + k)).toInt) (B i) (hh i) (T i) (T (i + 1))) (hB : (B a).length = 1) (h00 : ∀ i, a ≤ i → i ≤ m → 0 ≤ hh i ∧ ∀ x ∈ B i, 0 ≤ x.2.2.1)
    (han : ∀ i, a ≤ i → i ≤ m → an i = wann f sb B hh i) (h1 : a ≤ i) (h2 : i < m) (hl : vlive (B i) = true) (hb0 : 0 ≤ hb) (hbh : hb ≤ h') (hbx : ∀ x ∈ B i, x.2.2.1 ≤ hb) (h0 : 0 ≤ l) (hc : crr (B i) l hb h' (T i)) : mr_lab an T (rt f) gop gpt gva f (vzp (sb i) (B i)) i h' l := by
  have VH : ∀ j, a ≤ j → j ≤ m → vh gop gel gva sb B hh j := fun j q1 q2 => by
    have := vh_all hI hV hB (j - a) (by omega)
    rw [show a + (j - a) = j by omega] at this
    exact this
  have VK : ∀ j, a ≤ j → j ≤ m → vk gop sb B j := fun j q1 q2 => by
    have := vk_all hI hV hB (j - a) (by omega)
    rw [show a + (j - a) = j by omega] at this
    exact this
  have hL := (VH i h1 (by omega)).1
  have hlen : (vzp (sb i) (B i)).length = (sb i).length := vzp_len hL
  obtain ⟨x, hx, hxc⟩ := hc
  have hlt : l.toNat < (B i).length := (List.getElem?_eq_some_iff.mp hx).1
  refine ⟨h0, by omega, fun e r0 => ?_, fun n b hn hb' => ?_⟩
  · obtain ⟨o, g, hb2, d, R, eB, -, -, ⟨y, y1, y2, y3, y4⟩, -⟩ := hY i h1 (by omega)
    have hR : R.length = (sb i).length := by rw [eB, List.length_cons] at hL; omega
    rw [show l.toNat = R.length by omega, y1] at hx
    have exy : y = x := Option.some.inj hx
    subst exy
    obtain ⟨k1, k2⟩ := hxc y2 (y3 r0)
    exact ⟨by omega, fun z => k2 (y4 z)⟩
  · obtain ⟨y, e1, e2, e3⟩ := vzp_get hb'
    obtain ⟨o, d, q1, q2, q3, -⟩ := (VH i h1 (by omega)).2 n b.1 e1
    obtain ⟨y9, k1, k2⟩ := VK i h1 (by omega) n b.1 e1
    rw [e2] at k1
    have ey9 := (Option.some.inj k1).symm
    subst ey9
    rw [show l.toNat = n by omega, e2] at hx
    have exy := (Option.some.inj hx).symm
    subst exy
    have ey : x = (o, (gva b.1).toInt, hh (b.1 + 1), d) := by rw [e2] at q1; exact Option.some.inj q1
    have hxm := hbx x (List.mem_of_getElem? e2)
    rw [ey] at e3 hxc hxm k2
    have hmem : b.1 ∈ sb i := List.mem_of_getElem? e1
    obtain ⟨b1, b2, b3⟩ := (hI.2.2.1 i h1 (by omega)).1 b.1 hmem
    have hlx : vlive (B b.1) = true := by rw [← q3]; exact vlive_drop _ hl
    have dn1 : (vzp (sb i) (B i)).drop (n + 1) = vzp (sb b.1) (B b.1) := by rw [vzp_drop, q2, q3]
    have hbm : b.1 + 1 ≤ m := by omega
    have e3' : b.2 = hh (b.1 + 1) := e3
    have hxm' : hh (b.1 + 1) ≤ hb := hxm
    have sgi : sgt (T (b.1 + 1)) (T i) (hh (b.1 + 1)) := wt_frame hI hV hB hY b1 (show i < m by omega) hmem (i - (b.1 + 1)) i (by omega) (by omega)
    constructor
    · intro z3
      obtain ⟨ob, gb, hbb, db, Rb, eB, -, -, -, -, c2, -⟩ := hV b.1 b1 (by omega)
      obtain ⟨p1, p2⟩ := c2 (Or.inr z3)
      have hs := (hI.2.2.2 b.1 b1 (by omega)).2.1 (by omega)
      have hl1 : vlive (B (b.1 + 1)) = true := by rw [p1]; exact vlive_cons.mpr ⟨rfl, hlx⟩
      refine ⟨?_, by omega, by rw [e3']; exact sgi.symm.tle⟩
      rw [han _ (by omega) hbm, wann_live hl1, e3]
      have ed : (vzp (sb i) (B i)).drop n = b :: (vzp (sb i) (B i)).drop (n + 1) := by
        obtain ⟨w1, w2⟩ := List.getElem?_eq_some_iff.mp hb'
        rw [List.drop_eq_getElem_cons w1, w2]
      rw [ed, dn1, hs, p1]
      have : vzp (b.1 :: sb b.1) (((gop b.1).toInt, (gva b.1).toInt, hh b.1, 0) :: B b.1) = (b.1, hh b.1) :: vzp (sb b.1) (B b.1) := rfl
      rw [this, ← p2, show (b.1, hh (b.1 + 1)) = b from Prod.ext rfl e3.symm]
    · intro z3
      obtain ⟨p, p1, p2, p3, ⟨r, p4, p5⟩, p6, -⟩ := rs_close hI hm (m - i) i (by omega) h1 hmem
      obtain ⟨o9, d9, w1, w2, w3, -⟩ := (VH p (by omega) (by omega)).2 0 b.1 (by rw [p4]; rfl)
      obtain ⟨op_, gp_, hbp, dp_, Rp, eB, -, -, -, -, -, -, -, c11, -⟩ := hV p (by omega) p2
      obtain ⟨oy, gy, hby, dy, Ry, eBy, -, -, -, t11, -⟩ := hY p (by omega) (by omega)
      rw [eB] at w1 w3
      have w3' : Rp = B b.1 := by simpa using w3
      have w1' : (op_, gp_, hbp, dp_) = (o9, (gva b.1).toInt, hh (b.1 + 1), d9) := by simpa using w1
      rw [eB] at eBy
      injection eBy with u1 u2
      injection w1' with x1 x2
      injection x2 with x2 x3
      injection x3 with x3 x4
      injection u1 with u3 u4
      injection u4 with u4 u5
      injection u5 with u5 u6
      have hR : Rp ≠ [] := by
        rw [w3']
        intro e
        have := (VH b.1 b1 (by omega)).1
        rw [e] at this
        simp at this
      obtain ⟨y1, y2⟩ := (c11 p3).2.2 hR
      rw [w3'] at y1
      rw [p4] at w2
      have w2' : r = sb b.1 := by simpa using w2
      have e9 : (gpt b.1).toNatClampNeg = p := i32_nat p6
      rw [e9]
      have hmp : b.1 ∈ sb p := by rw [p4]; exact List.mem_cons_self
      have sgp : sgt (T (b.1 + 1)) (T (p + 1)) (hh (b.1 + 1)) := wt_frame hI hV hB hY b1 (show p < m by omega) hmp (p - b.1) (p + 1) (by omega) (by omega)
      refine ⟨?_, by omega, by rw [e3']; exact (sgi.symm.trans sgp).tle, fun g6 => ?_⟩
      · rw [han _ (by omega) (by omega), wann_live (by rw [y1]; exact hlx), dn1, p5, w2', y1, y2, x2, x3, e3]
      · have o3 : o ≠ 3 := fun z => z3 (k2 z)
        obtain ⟨k3, k4⟩ := hxc o3 g6
        refine ⟨by omega, fun z => k4 ?_⟩
        have tg := t11 p3 (by rw [← u2]; exact hR) (by rw [← u4, x2]; exact g6)
        rw [← u5, x3, ← u4, x2] at tg
        rw [e3', tg] at z
        have w := (hI.2.2.2 b.1 b1 (by omega)).1.1 b3
        show (gva b.1).toInt = 127
        omega
set_option maxHeartbeats 4000000 in
theorem wn_at {i f2 : Nat} {bs : List (Nat × Int)} {h : Int} (hI : rs_I a m gop gpt gel gva lc sb) (hm : sb m = []) (hmo : (gop m).toInt = 11) (hV : ∀ i, a ≤ i → i < m → vr nl gv tk fc gc f (gop i).toInt (gva i).toInt (B i) (hh i) (B (i + 1)) (hh (i + 1)))
    (hY0 : ∀ i, a ≤ i → i ≤ m → ∃ T2 : Nat → Int, (i < m → T2 = T (i + 1)) ∧ vty lt rt tk gt f (gop i).toInt (gva i).toInt (gpt i).toInt (fun k => (gla ((gva i).toInt.toNat + k)).toInt) (B i) (hh i) (T i) T2) (hB : (B a).length = 1) (h00 : ∀ i, a ≤ i → i ≤ m → 0 ≤ hh i ∧ ∀ x ∈ B i, 0 ≤ x.2.2.1) (hla : ∀ i, a ≤ i → i < m → (gop i).toInt = 14 → ∀ k : Nat, (k : Int) ≤ (gpt i).toInt → 0 ≤ (gla ((gva i).toInt.toNat + k)).toInt)
    (han : ∀ i, a ≤ i → i ≤ m → an i = wann f sb B hh i) (h1 : a ≤ i) (h2 : i ≤ m) (e : an i = some (f2, bs, h)) : f2 = f ∧ 0 ≤ h ∧ mr_at an T lt rt nl gv tk gt fc gc gop gpt gel gla gva i f bs h := by
  rw [han i h1 h2] at e
  obtain ⟨ef, rfl, hlv, rfl⟩ := wann_inv e
  have ef := ef.symm
  subst ef
  have h0 := (h00 i h1 h2).1
  have VH : ∀ j, a ≤ j → j ≤ m → vh gop gel gva sb B hh j := fun j q1 q2 => by
    have := vh_all hI hV hB (j - a) (by omega)
    rw [show a + (j - a) = j by omega] at this
    exact this
  have hY : ∀ i, a ≤ i → i < m → vty lt rt tk gt f (gop i).toInt (gva i).toInt (gpt i).toInt (fun k => (gla ((gva i).toInt.toNat + k)).toInt) (B i) (hh i) (T i) (T (i + 1)) := fun i q1 q2 => by
    obtain ⟨T2, e, v⟩ := hY0 i q1 (by omega)
    rw [← e q2]
    exact v
  obtain ⟨T2, eT2, o, g, hb, d, R, eB, sg, mx, ⟨y, y1, y2, y3, y4⟩, t11, td⟩ := hY0 i h1 h2
  have hd : d = 0 := by rw [eB] at hlv; exact (vlive_cons.mp hlv).1
  obtain ⟨t1, t4, t5, t12, t13, t14, t15, t16, t26, t27, hq9r⟩ := td hd
  obtain ⟨t32, t33, t34, t35, t36, tpl⟩ := hq9r
  have hb0 : 0 ≤ hb := (h00 i h1 h2).2 (o, g, hb, d) (by rw [eB]; exact List.mem_cons_self)
  have hL := (VH i h1 h2).1
  have hlen : (vzp (sb i) (B i)).length = (sb i).length := vzp_len hL
  have hRl : R.length = (sb i).length := by rw [eB, List.length_cons] at hL; omega
  have ret : crr (B i) R.length hb (hh i) (T i) → rt f ≠ 0 → 1 ≤ hh i ∧ (rt f = 127 → T i (hh i - 1).toNat ≠ 126) := by
    rintro ⟨x, hx, hxc⟩ r0
    rw [Int.toNat_natCast, y1] at hx
    have exy := (Option.some.inj hx).symm
    subst exy
    obtain ⟨k1, k2⟩ := hxc y2 (y3 r0)
    exact ⟨by omega, fun z => k2 (y4 z)⟩
  refine ⟨rfl, h0, ?_⟩
  by_cases hne : ¬ i < m
  · have him : i = m := by omega
    subst him
    have hR0 : R = [] := by rw [hm] at hRl; exact List.eq_nil_of_length_eq_zero hRl
    unfold mr_at
    unfold opl
    rw [hm, hmo]
    refine ⟨fun z => by omega, fun z => by omega, fun z => by omega, fun z => by omega, fun _ b r z => ?_, fun _ r0 => ?_, fun z => by omega, fun z => by omega, fun z => by omega, fun z => by omega, fun z => by omega, fun z => by omega, fun z => by omega, fun z => by omega, fun z => by omega, fun z => by omega, fun z => by omega, fun z => by omega, fun z => by omega, fun z => by omega⟩
    · cases z
    · rw [eB, hR0] at y1
      have ex : (o, g, hb, d) = y := by simpa using y1
      have g64 := y3 r0
      rw [← ex] at g64 y4
      obtain ⟨k1, k2⟩ := t5 (Or.inr hmo) g64
      exact ⟨by omega, fun z => k2 (y4 z)⟩
  have him : i < m := Decidable.not_not.mp hne
  have eT := eT2 him
  subst eT
  obtain ⟨v1, v2, v3, v4, v5, v6, v7⟩ := hI.2.2.2 i h1 him
  have hS := (hI.2.2.1 i h1 h2)
  have hop := v1.2.2.2
  obtain ⟨o', g', hb', d', R', eB', hbh, c0, c14, c1, hq9r⟩ := hV i h1 him
  obtain ⟨c2, c4, c5, c11, c13, c16, c26, c27, cv, cg, hq9r⟩ := hq9r
  obtain ⟨c01, c10, c20, c11b, c21⟩ := hq9r
  have vpl := vr_pl (hV i h1 him) eB
  rw [eB] at eB'
  injection eB' with w1 w2
  injection w1 with w1 w3
  injection w3 with w3 w4
  injection w4 with w4 w5
  subst w1 w3 w4 w5 w2
  have nx : ∀ h', B (i + 1) = B i → hh (i + 1) = h' → (gop i).toInt ≠ 2 → (gop i).toInt ≠ 3 → (gop i).toInt ≠ 4 → (gop i).toInt ≠ 11 → an (i + 1) = some (f, vzp (sb i) (B i), h') := by
    intro h' y1 y2 n2 n3 n4 n11
    rw [han _ (by omega) (by omega), wann_live (by rw [y1]; exact hlv), v6 n2 n3 n4 n11, y1, y2]
  have nq : ∀ n m', vq (B i) (B (i + 1)) hb d (hh i) (hh (i + 1)) n m' → (gop i).toInt ≠ 2 → (gop i).toInt ≠ 3 → (gop i).toInt ≠ 4 → (gop i).toInt ≠ 11 → hb + n ≤ hh i ∧ an (i + 1) = some (f, vzp (sb i) (B i), hh i - n + m') := by
    intro n m' q n2 n3 n4 n11
    obtain ⟨q1, q2, q3⟩ := q
    obtain ⟨q4, q5⟩ := q3 hd
    exact ⟨q4, nx _ q1 q5 n2 n3 n4 n11⟩
  have lab : ∀ l h' : Int, hb ≤ h' → 0 ≤ l → crr (B i) l hb h' (T i) → mr_lab an T (rt f) gop gpt gva f (vzp (sb i) (B i)) i h' l := fun l h' q hl hc => wn_lab hI hm hV hY hB h00 han h1 him hlv hb0 q mx hl hc
  unfold mr_at
  refine ⟨fun z => ?_, fun z => ?_, fun z => ?_, fun z => ?_, fun z => ?_, fun z => ?_, fun z => ?_, fun z => ?_, fun z => ?_, fun z => ?_, fun z => ?_, fun z => ?_, fun z => ?_, fun z => ?_, fun z => ?_, fun z => ?_, fun z => ?_, fun z => ?_, fun z => ?_, fun z => ?_⟩
  · obtain ⟨y1, y2⟩ := c1 z
    exact ⟨nx _ y1 y2 (by omega) (by omega) (by omega) (by omega), (t1 (Or.inl z)).tle⟩
  · obtain ⟨y1, y2⟩ := c2 z
    have es := v2 (by omega)
    have hlen2 := ((hI.2.2.1 (i + 1) (by omega) (by omega)).2.2)
    rw [es, List.length_cons] at hlen2
    refine ⟨by omega, ?_, (t1 (Or.inr z)).tle⟩
    rw [han _ (by omega) (by omega), wann_live (by rw [y1]; exact vlive_cons.mpr ⟨rfl, hlv⟩), es, y1, y2]
    rfl
  · obtain ⟨y1, y2, y3⟩ := c4 z
    obtain ⟨y4, y5⟩ := y3 hd
    have es := v2 (by omega)
    have hlen2 := ((hI.2.2.1 (i + 1) (by omega) (by omega)).2.2)
    rw [es, List.length_cons] at hlen2
    have hmem : i ∈ sb (i + 1) := by rw [es]; exact List.mem_cons_self
    obtain ⟨p, p1, p2, p3, ⟨r, p4, p5⟩, p6, p7⟩ := rs_close hI hm (m - (i + 1)) (i + 1) (by omega) (by omega) hmem
    obtain ⟨o9, d9, w1, w2, w3, w4⟩ := (VH p (by omega) (by omega)).2 0 i (by rw [p4]; rfl)
    have hmp : i ∈ sb p := by rw [p4]; exact List.mem_cons_self
    have s1 := t4 z
    refine ⟨by omega, by omega, ?_, s1.tle, fun z1 => ?_, fun z1 => ?_⟩
    · rw [han _ (by omega) (by omega), wann_live (by rw [y1]; exact vlive_cons.mpr ⟨rfl, hlv⟩), es, y1, y5]
      rfl
    · rcases v3 z with w | ⟨e9, x1, x2, x3, x4, r9, x5⟩
      · omega
      · rw [show (gel i).toNatClampNeg = e9 from i32_nat x1]
        obtain ⟨o8, d8, u1, u2, u3, -⟩ := (VH e9 (by omega) (by omega)).2 0 i (by rw [x5]; rfl)
        obtain ⟨oe, ge, he, de, Re, eBe, -, -, -, -, -, -, ce5, -⟩ := hV e9 (by omega) x3
        obtain ⟨s5, s6, -⟩ := ce5 x4
        rw [eBe] at u1 u3
        have u3' : Re = B i := by simpa using u3
        have u1' : (oe, ge, he, de) = (o8, (gva i).toInt, hh (i + 1), d8) := by simpa using u1
        injection u1' with k1 k2
        injection k2 with k2 k3
        injection k3 with k3 k4
        have es9 : sb (e9 + 1) = sb e9 := (hI.2.2.2 e9 (by omega) x3).2.2.2.2.2.1 (by omega) (by omega) (by omega) (by omega)
        rw [x5] at u2
        have u2' : r9 = sb i := by simpa using u2
        have hme : i ∈ sb e9 := by rw [x5]; exact List.mem_cons_self
        refine ⟨?_, ?_⟩
        · rw [han _ (by omega) (by omega), wann_live (by rw [s5, u3']; exact vlive_cons.mpr ⟨rfl, hlv⟩), es9, x5, s5, s6, u2', u3', k3, y5]
          rfl
        · have q := wt_frame hI hV hB hY h1 (show e9 < m by omega) hme (e9 - i) (e9 + 1) (by omega) (by omega)
          rw [y5] at q
          exact (s1.trans q).tle
    · obtain ⟨op_, gp_, hbp, dp_, Rp, eBp, -, -, -, -, -, -, -, cp11, -⟩ := hV p (by omega) p2
      rw [eBp] at w1 w3
      have w3' : Rp = B i := by simpa using w3
      have w1' : (op_, gp_, hbp, dp_) = (o9, (gva i).toInt, hh (i + 1), d9) := by simpa using w1
      injection w1' with x1 x2
      injection x2 with x2 x3
      injection x3 with x3 x4
      have hR : Rp ≠ [] := by
        rw [w3', eB]
        intro e
        cases e
      obtain ⟨k1, k2⟩ := (cp11 p3).2.2 hR
      have g64 := (cp11 p3).2.1 (by rw [x1]; exact w4 z z1)
      rw [p4] at w2
      have w2' : r = sb i := by simpa using w2
      have e9 : (gpt i).toNatClampNeg = p := i32_nat p6
      rw [e9]
      refine ⟨?_, ?_⟩
      · rw [han _ (by omega) (by omega), wann_live (by rw [k1, w3']; exact hlv), p5, w2', k1, w3', k2, g64, x3, y5]
        show some (f, vzp (sb i) (B i), hh i - 1 + 0) = _
        rw [Int.add_zero]
      · have q := wt_frame hI hV hB hY h1 (show p < m by omega) hmp (p - i) (p + 1) (by omega) (by omega)
        rw [y5] at q
        exact (s1.trans q).tle
  · obtain ⟨b, r, q1, q2, q3⟩ := v4 z
    have hmb : b ∈ sb i := by rw [q1]; exact List.mem_cons_self
    obtain ⟨p, p1, p2, p3, ⟨r2, p4, p5⟩, p6, p7⟩ := rs_close (b := b) hI hm (m - i) i (by omega) h1 hmb
    obtain ⟨o9, d9, w1, w2, w3, -⟩ := (VH p (by omega) (by omega)).2 0 b (by rw [p4]; rfl)
    obtain ⟨o8, d8, u1, u2, u3, -⟩ := (VH i h1 h2).2 0 b (by rw [q1]; rfl)
    obtain ⟨op_, gp_, hbp, dp_, Rp, eBp, -, -, -, -, -, -, -, cp11, -⟩ := hV p (by omega) p2
    obtain ⟨oy, gy, hby, dy, Ry, eBy, -, -, -, tp11, -⟩ := hY p (by omega) (by omega)
    have b1 := ((hI.2.2.1 i h1 h2).1 b hmb)
    rw [eBp] at eBy
    injection eBy with a1 a2
    injection a1 with a3 a4
    injection a4 with a4 a5
    injection a5 with a5 a6
    rw [eBp] at w1 w3
    rw [eB] at u1 u3
    have w3' : Rp = B b := by simpa using w3
    have w1' : (op_, gp_, hbp, dp_) = (o9, (gva b).toInt, hh (b + 1), d9) := by simpa using w1
    injection w1' with x1 x2
    injection x2 with x2 x3
    injection x3 with x3 x4
    have u3' : R = B b := by simpa using u3
    have u1' : (o, g, hb, d) = (o8, (gva b).toInt, hh (b + 1), d8) := by simpa using u1
    injection u1' with k1 k2
    injection k2 with k2 k3
    injection k3 with k3 k4
    have hR : R = Rp := by rw [w3', u3']
    have hRn : R ≠ [] := by
      rw [u3']
      intro e
      have := (VH b b1.1 (by omega)).1
      rw [e] at this
      simp at this
    rw [q1] at u2
    have u2' : r = sb b := by simpa using u2
    rw [p4] at w2
    have w2' : r2 = sb b := by simpa using w2
    have hlR : vlive R = true := by rw [eB] at hlv; exact (vlive_cons.mp hlv).2
    obtain ⟨z1, z2⟩ := (cp11 p3).2.2 (by rw [← hR]; exact hRn)
    have eh : hh i = hb + ga g := (c5 z).2.2 hd
    have e9 : (gpt b).toNatClampNeg = p := i32_nat p6
    refine ⟨(b, hb), vzp r R, by rw [q1, eB]; rfl, b1.2.2, ?_, ?_⟩
    · show an ((gpt b).toNatClampNeg + 1) = _
      rw [e9, han _ (by omega) (by omega), wann_live (by rw [z1, ← hR]; exact hlR), p5, z1, z2, ← hR, w2', u2', x2, x3, eh, k2, k3]
    · show tle (T i) (T ((gpt b).toNatClampNeg + 1)) _
      rw [e9]
      have hmp : b ∈ sb p := by rw [p4]; exact List.mem_cons_self
      have sgp : sgt (T (b + 1)) (T (p + 1)) (hh (b + 1)) := wt_frame hI hV hB hY b1.1 (show p < m by omega) hmp (p - b) (p + 1) (by omega) (by omega)
      have sgi : sgt (T (b + 1)) (T i) (hh (b + 1)) := wt_frame hI hV hB hY b1.1 (show i < m by omega) hmb (i - (b + 1)) i (by omega) (by omega)
      intro k hk kz
      by_cases q : (k : Int) < hb
      · exact (sgi.symm.trans sgp).tle k (by rw [← k3]; exact q) kz
      · have g6 : g ≠ 64 := by
          intro w
          rw [w] at eh
          unfold ga at eh
          rw [if_pos rfl] at eh
          omega
        have ga1 : ga g = 1 := by unfold ga; rw [if_neg g6]
        obtain ⟨k5, k6⟩ := t5 (Or.inl z) g6
        have tg := tp11 p3 (by rw [← a2, ← hR]; exact hRn) (by rw [← a4, x2, ← k2]; exact g6)
        rw [← a5, x3, ← a4, x2, ← k2, ← k3] at tg
        rw [show k = hb.toNat by omega, tg] at kz
        have w := (hI.2.2.2 b b1.1 (by omega)).1.1 b1.2.2
        rw [show k = (hh i - 1).toNat by omega]
        exact k6 (by omega)
  · intro b9 r9 zz
    obtain ⟨b, r, e1, e2, -⟩ := v5 z
    have hR : R ≠ [] := by
      intro w
      rw [w, e1] at hRl
      simp at hRl
    obtain ⟨y1, y2⟩ := (c11 z).2.2 hR
    have eh : hh i = hb + ga g := (c11 z).1 hd
    rw [e1, eB] at zz
    have zz' : (b, hb) :: vzp r R = b9 :: r9 := zz
    injection zz' with z1 z2
    have hlR : vlive R = true := by rw [eB] at hlv; exact (vlive_cons.mp hlv).2
    refine ⟨by rw [← z2, han _ (by omega) (by omega), wann_live (by rw [y1]; exact hlR), e2, y1, y2, eh], ?_⟩
    intro k hk kz
    by_cases q : (k : Int) < hb
    · exact sg.tle k q kz
    · have g6 : g ≠ 64 := by
        intro w
        rw [w] at eh
        unfold ga at eh
        rw [if_pos rfl] at eh
        omega
      have ga1 : ga g = 1 := by unfold ga; rw [if_neg g6]
      obtain ⟨k5, k6⟩ := t5 (Or.inr z) g6
      have tg := t11 z hR g6
      have hmb : b ∈ sb i := by rw [e1]; exact List.mem_cons_self
      have b1 := ((hI.2.2.1 i h1 h2).1 b hmb)
      obtain ⟨o8, d8, u1, u2, u3, -⟩ := (VH i h1 h2).2 0 b (by rw [e1]; rfl)
      rw [eB] at u1
      have u1' : (o, g, hb, d) = (o8, (gva b).toInt, hh (b + 1), d8) := by simpa using u1
      injection u1' with k1 k2
      injection k2 with k2 k3
      have w := (hI.2.2.2 b b1.1 (by omega)).1.1 b1.2.2
      rw [show k = hb.toNat by omega, tg] at kz
      rw [show k = (hh i - 1).toNat by omega]
      exact k6 (by omega)
  · rcases z with z | ⟨z, zz⟩
    · exact ret (t15 z)
    · intro r0
      obtain ⟨b, r, e1, e2, -⟩ := v5 z
      rw [e1, eB] at zz
      cases zz
  · have w := v1.2.1 (by omega)
    exact lab _ _ hbh w.1 (t12 z)
  · have w := v1.2.1 (by omega)
    obtain ⟨y1, y2⟩ := nq _ _ (c13 z) (by omega) (by omega) (by omega) (by omega)
    exact ⟨by omega, lab _ _ (by omega) w.1 (t13 z).1, by rw [y2, Int.add_zero], (t13 z).2⟩
  · obtain ⟨w1, w2, w3⟩ := v1.2.2.1 z
    have y := c14 z hd
    exact ⟨by omega, fun k hk => lab _ _ (by omega) (hla i h1 him z k hk) (t14 z k hk)⟩
  · obtain ⟨y1, y2, y3⟩ := c16 z
    obtain ⟨y4, y5⟩ := nq _ _ y3 (by omega) (by omega) (by omega) (by omega)
    obtain ⟨s1, s2, s3⟩ := t16 z
    exact ⟨y1, y2, by omega, y5, s1.tle, s2, fun r0 _ => Or.inr (s3 r0)⟩
  · obtain ⟨y1, y2⟩ := nq _ _ (c26 z) (by omega) (by omega) (by omega) (by omega)
    exact ⟨by omega, by rw [y2, Int.add_zero], (t26 z).tle⟩
  · obtain ⟨y1, y2⟩ := nq _ _ (c27 z) (by omega) (by omega) (by omega) (by omega)
    exact ⟨by omega, by rw [y2, show hh i - 3 + 1 = hh i - 2 by omega], (t27 z).1.tle, (t27 z).2⟩
  · exact cv z
  · obtain ⟨y1, y2⟩ := nq _ _ (c01 (by omega)) (by omega) (by omega) (by omega) (by omega)
    exact ⟨by rw [y2, Int.sub_zero], (t32 z).1.tle, fun q => by rw [← (t32 z).2]; exact q⟩
  · obtain ⟨y1, y2⟩ := nq _ _ (c10 (by omega)) (by omega) (by omega) (by omega) (by omega)
    exact ⟨by omega, by rw [y2, Int.add_zero], (t33 z).1.tle, (t33 z).2⟩
  · obtain ⟨y1, y2⟩ := nq _ _ (c11b (by omega)) (by omega) (by omega) (by omega) (by omega)
    obtain ⟨s1, s2, s3⟩ := t34 z
    refine ⟨by omega, by rw [y2, show hh i - 1 + 1 = hh i by omega], fun k hk kz => ?_, s3⟩
    by_cases q : (k : Int) < hh i - 1
    · exact s1.tle k q kz
    · rw [show k = (hh i - 1).toNat by omega] at kz ⊢
      exact s2 kz
  · exact cg z
  · obtain ⟨y1, y2⟩ := nq _ _ (c01 (by omega)) (by omega) (by omega) (by omega) (by omega)
    exact ⟨by rw [y2, Int.sub_zero], (t35 z).1.tle, fun q => by rw [← (t35 z).2]; exact q⟩
  · obtain ⟨y1, y2⟩ := nq _ _ (c10 (by omega)) (by omega) (by omega) (by omega) (by omega)
    exact ⟨by omega, by rw [y2, Int.add_zero], (t36 z).1.tle, (t36 z).2⟩
  · have z' := z
    unfold opl at z'
    obtain ⟨y1, y2⟩ := nq _ _ (vpl z) (by omega) (by omega) (by omega) (by omega)
    obtain ⟨s1, s2, s3⟩ := tpl z
    exact ⟨by omega, y2, s1.tle, fun q k => by rw [← s2 q]; exact k, fun q => s3 (by omega) (by unfold sm32; omega)⟩
end WB

section q_m56
/-! the reference: what was compiled runs -/
/-- a label is there; one that carries finds what it carries -/
def crz (B : List vt) (l hb h : Int) : Prop := ∃ x : vt, B[l.toNat]? = some x ∧ (x.1 ≠ 3 → x.2.1 ≠ 64 → hb + 1 ≤ h)
def lz (x : ci) (B : List vt) (h : Int) : Prop := ∃ (o g hb d : Int) (R : List vt), B = (o, g, hb, d) :: R ∧ ((x.1 = 12 → crz B x.2 hb h) ∧ (x.1 = 13 → crz B x.2 hb (h - 1)) ∧ (x.1 = 15 → crz B R.length hb h)) ∧ x.1 ≠ 14 ∧ x.1 ≠ 110 ∧ x.1 ≠ 112
def fz (B : List vt) (h : Int) : Prop := ∃ (o g hb d : Int) (R : List vt), B = (o, g, hb, d) :: R ∧ (d = 0 → g ≠ 64 → hb + 1 ≤ h)
def c1z (N : Int) (gv tk : Nat → Int) (fc gc : Int) (x : ci) (B : List vt) (h : Int) (B2 : List vt) (h2 : Int) : Prop := c1 N gv tk fc gc x B h B2 h2 ∧ lz x B h
def cz (N : Int) (gv tk : Nat → Int) (fc gc : Int) : List ci → List vt → Int → List vt → Int → Prop
  | [], B, h, B2, h2 => B2 = B ∧ h2 = h
  | x :: l, B, h, B2, h2 => ∃ B1 h1, c1z N gv tk fc gc x B h B1 h1 ∧ cz N gv tk fc gc l B1 h1 B2 h2
section CZ
variable {N fc gc : Int} {gv tk : Nat → Int}
theorem cz_app {a b : List ci} : ∀ {B : List vt} {h : Int} {B1 : List vt} {h1 : Int} {B2 : List vt} {h2 : Int}, cz N gv tk fc gc a B h B1 h1 → cz N gv tk fc gc b B1 h1 B2 h2 → cz N gv tk fc gc (a ++ b) B h B2 h2 := by
  induction a with
  | nil =>
    intro B h B1 h1 B2 h2 H1 H2
    obtain ⟨rfl, rfl⟩ := H1
    exact H2
  | cons x a ih =>
    intro B h B1 h1 B2 h2 H1 H2
    obtain ⟨B3, h3, p, q⟩ := H1
    exact ⟨B3, h3, p, ih q H2⟩
theorem cz_one {x : ci} {B B2 : List vt} {h h2 : Int} (H : c1z N gv tk fc gc x B h B2 h2) : cz N gv tk fc gc [x] B h B2 h2 := ⟨B2, h2, H, rfl, rfl⟩
theorem cz_cons {x : ci} {l : List ci} {B B1 B2 : List vt} {h h1 h2 : Int} (H : c1z N gv tk fc gc x B h B1 h1) (H2 : cz N gv tk fc gc l B1 h1 B2 h2) : cz N gv tk fc gc (x :: l) B h B2 h2 := ⟨B1, h1, H, H2⟩
theorem cz_mono {N2 : Int} (e : N ≤ N2) {l : List ci} : ∀ {B B2 : List vt} {h h2 : Int}, cz N gv tk fc gc l B h B2 h2 → cz N2 gv tk fc gc l B h B2 h2 := by
  induction l with
  | nil => exact fun H => H
  | cons x l ih =>
    intro B B2 h h2 H
    obtain ⟨B1, h1, p, q⟩ := H
    exact ⟨B1, h1, ⟨c1_mono e p.1, p.2⟩, ih q⟩
theorem cz_seq : ∀ {l : List ci} {B : List vt} {h : Int} {B2 : List vt} {h2 : Int}, cz N gv tk fc gc l B h B2 h2 → ∃ (Bs : Nat → List vt) (hs : Nat → Int), Bs 0 = B ∧ hs 0 = h ∧ Bs l.length = B2 ∧ hs l.length = h2 ∧ ∀ (i : Nat) (x : ci), l[i]? = some x → c1z N gv tk fc gc x (Bs i) (hs i) (Bs (i + 1)) (hs (i + 1)) := by
  intro l
  induction l with
  | nil => intro B h B2 h2 H; exact ⟨fun _ => B, fun _ => h, rfl, rfl, H.1.symm, H.2.symm, fun i x hx => by simp at hx⟩
  | cons y l ih =>
    intro B h B2 h2 H
    obtain ⟨B1, h1, q1, q2⟩ := H
    obtain ⟨Bs, hs, e1, e2, e4, e5, e3⟩ := ih q2
    refine ⟨fun i => match i with | 0 => B | i + 1 => Bs i, fun i => match i with | 0 => h | i + 1 => hs i, rfl, rfl, e4, e5, fun i x hx => ?_⟩
    cases i with
    | zero =>
      have e : y = x := by simpa using hx
      subst e
      show c1z N gv tk fc gc y B h (Bs 0) (hs 0)
      rw [e1, e2]
      exact q1
    | succ i => exact e3 i x (by simpa using hx)
end CZ
def so9 : List vt → Prop
  | [] => True
  | x :: R => (∀ y ∈ R, y.2.2.1 ≤ x.2.2.1) ∧ so9 R
section WZ
variable {rt nl gv tk : Nat → Int} {fc gc lc g0 : Int} {f a m : Nat} {gop gpt gel gla : Nat → Int32} {gva : Nat → Int64} {sb : Nat → List Nat} {B : Nat → List vt} {hh : Nat → Int} {an : mc_A}
theorem wz_inv (hI : rs_I a m gop gpt gel gva lc sb) (hV : ∀ i, a ≤ i → i < m → vr nl gv tk fc gc f (gop i).toInt (gva i).toInt (B i) (hh i) (B (i + 1)) (hh (i + 1))) (hB0 : B a = [(0, g0, 0, 0)]) : ∀ k, a + k ≤ m → so9 (B (a + k)) ∧ ∃ x : vt, (B (a + k))[(B (a + k)).length - 1]? = some x ∧ x.1 ≠ 3 ∧ x.2.1 = g0
  | 0, _ => by
    rw [Nat.add_zero, hB0]
    exact ⟨⟨fun y hy => (by cases hy), trivial⟩, (0, g0, 0, 0), rfl, (show (0 : Int) ≠ 3 by decide), rfl⟩
  | k + 1, h => by
    obtain ⟨s1, x, x1, x2, x3⟩ := wz_inv hI hV hB0 k (by (first | (apply Int.le_antisymm <;> omega) | omega))
    have hL := (vh_all hI hV (by rw [hB0]; rfl) k (by (first | (apply Int.le_antisymm <;> omega) | omega))).1
    generalize hi : a + k = i at s1 x1 hL
    rw [show a + (k + 1) = i + 1 by (first | (apply Int.le_antisymm <;> omega) | omega)]
    have him : i < m := by (first | (apply Int.le_antisymm <;> omega) | omega)
    have hai : a ≤ i := by (first | (apply Int.le_antisymm <;> omega) | omega)
    obtain ⟨v1, v2, v3, v4, v5, v6, v7⟩ := hI.2.2.2 i hai him
    have hV1 := hV i hai him
    obtain ⟨o, g, hb, d, R, eB, hbh, c0, c14, c1, c2, c4, c5, c11, cr9⟩ := hV i hai him
    obtain ⟨w1, w2, w3, w4⟩ := vr_shape hV1 eB v1.2.2.2
    rw [eB] at s1 x1 hL
    have push : ∀ y : vt, hb ≤ y.2.2.1 → B (i + 1) = y :: B i → so9 (B (i + 1)) ∧ ∃ x : vt, (B (i + 1))[(B (i + 1)).length - 1]? = some x ∧ x.1 ≠ 3 ∧ x.2.1 = g0 := by
      intro y hy e
      rw [e, eB]
      refine ⟨⟨fun z hz => ?_, s1⟩, x, ?_, x2, x3⟩
      · rcases List.mem_cons.mp hz with q | q
        · rw [q]; exact hy
        · have q1 : z.2.2.1 ≤ hb := s1.1 z q
          (first | (apply Int.le_antisymm <;> omega) | omega)
      · rw [show (y :: (o, g, hb, d) :: R).length - 1 = ((o, g, hb, d) :: R).length - 1 + 1 by simp]
        simpa using x1
    by_cases q2 : (gop i).toInt = 2 ∨ (gop i).toInt = 3
    · obtain ⟨e1, e2⟩ := c2 q2
      exact push _ hbh e1
    by_cases q4 : (gop i).toInt = 4
    · obtain ⟨e1, e2, -⟩ := c4 q4
      exact push _ e2 e1
    by_cases q11 : (gop i).toInt = 11
    · obtain ⟨b, r, e1, -⟩ := v5 q11
      have hR : R ≠ [] := by
        intro w
        rw [w, e1] at hL
        simp at hL
      rw [w3 q11 hR]
      refine ⟨s1.2, x, ?_, x2, x3⟩
      obtain ⟨n, hn⟩ : ∃ n, R.length = n + 1 := ⟨R.length - 1, by have := List.length_pos_iff.mpr hR; (first | (apply Int.le_antisymm <;> omega) | omega)⟩
      rw [List.length_cons, hn, Nat.add_sub_cancel] at x1
      rw [hn, Nat.add_sub_cancel]
      simpa using x1
    have same : ∀ o9 d9 : Int, (o9 = o ∨ o9 = 5) → B (i + 1) = (o9, g, hb, d9) :: R → so9 (B (i + 1)) ∧ ∃ x : vt, (B (i + 1))[(B (i + 1)).length - 1]? = some x ∧ x.1 ≠ 3 ∧ x.2.1 = g0 := by
      intro o9 d9 ho e
      rw [e]
      refine ⟨⟨s1.1, s1.2⟩, ?_⟩
      cases R with
      | nil =>
        have ex : (o, g, hb, d) = x := by simpa using x1
        rw [← ex] at x2 x3
        refine ⟨(o9, g, hb, d9), rfl, ?_, x3⟩
        show o9 ≠ 3
        have x2' : o ≠ 3 := x2
        (first | (apply Int.le_antisymm <;> omega) | omega)
      | cons y R2 => exact ⟨x, by simpa using x1, x2, x3⟩
    by_cases q5 : (gop i).toInt = 5
    · exact same 5 0 (Or.inr rfl) (w2 q5)
    · obtain ⟨d9, e9⟩ := w4 (by (first | (apply Int.le_antisymm <;> omega) | omega)) (by (first | (apply Int.le_antisymm <;> omega) | omega)) (by (first | (apply Int.le_antisymm <;> omega) | omega)) q5 q11
      exact same o d9 (Or.inl rfl) e9
theorem wz_lab {i : Nat} {l h' hb : Int} (hI : rs_I a m gop gpt gel gva lc sb) (hm : sb m = []) (hV : ∀ i, a ≤ i → i < m → vr nl gv tk fc gc f (gop i).toInt (gva i).toInt (B i) (hh i) (B (i + 1)) (hh (i + 1)))
    (hB0 : B a = [(0, g0, 0, 0)]) (hrt : rt f = 0 ∨ rt f = 126) (hrg : rt f ≠ 0 → g0 ≠ 64) (han : ∀ i, a ≤ i → i ≤ m → an i = wann f sb B hh i) (h1 : a ≤ i) (h2 : i < m) (hl : vlive (B i) = true) (hb0 : 0 ≤ hb) (hbh : hb ≤ h') (hbx : ∀ x ∈ B i, x.2.2.1 ≤ hb) (h0 : 0 ≤ l) (hc : crz (B i) l hb h') : mr_lab an (fun _ _ => 126) (rt f) gop gpt gva f (vzp (sb i) (B i)) i h' l := by
  have tl0 : ∀ n : Int, tle (fun _ => (126 : Int)) (fun _ => (126 : Int)) n := fun n k _ z => absurd rfl z
  have hB : (B a).length = 1 := by rw [hB0]; rfl
  have VH : ∀ j, a ≤ j → j ≤ m → vh gop gel gva sb B hh j := fun j q1 q2 => by
    have := vh_all hI hV hB (j - a) (by (first | (apply Int.le_antisymm <;> omega) | omega))
    rw [show a + (j - a) = j by (first | (apply Int.le_antisymm <;> omega) | omega)] at this
    exact this
  have VK : ∀ j, a ≤ j → j ≤ m → vk gop sb B j := fun j q1 q2 => by
    have := vk_all hI hV hB (j - a) (by (first | (apply Int.le_antisymm <;> omega) | omega))
    rw [show a + (j - a) = j by (first | (apply Int.le_antisymm <;> omega) | omega)] at this
    exact this
  have hL := (VH i h1 (by (first | (apply Int.le_antisymm <;> omega) | omega))).1
  have hlen : (vzp (sb i) (B i)).length = (sb i).length := vzp_len hL
  obtain ⟨x, hx, hxc⟩ := hc
  have hlt : l.toNat < (B i).length := (List.getElem?_eq_some_iff.mp hx).1
  refine ⟨h0, by (first | (apply Int.le_antisymm <;> omega) | omega), fun e r0 => ?_, fun n b hn hb' => ?_⟩
  · obtain ⟨-, y, y1, y2, y3⟩ := wz_inv hI hV hB0 (i - a) (by (first | (apply Int.le_antisymm <;> omega) | omega))
    rw [show a + (i - a) = i by (first | (apply Int.le_antisymm <;> omega) | omega)] at y1
    rw [show l.toNat = (B i).length - 1 by (first | (apply Int.le_antisymm <;> omega) | omega), y1] at hx
    have exy : y = x := Option.some.inj hx
    subst exy
    have k1 := hxc y2 (by rw [y3]; exact hrg r0)
    exact ⟨by (first | (apply Int.le_antisymm <;> omega) | omega), fun z => by rcases hrt with q | q <;> (rw [q] at z; exact absurd z (by decide))⟩
  · obtain ⟨y, e1, e2, e3⟩ := vzp_get hb'
    obtain ⟨o, d, q1, q2, q3, -⟩ := (VH i h1 (by (first | (apply Int.le_antisymm <;> omega) | omega))).2 n b.1 e1
    obtain ⟨y9, k1, k2⟩ := VK i h1 (by (first | (apply Int.le_antisymm <;> omega) | omega)) n b.1 e1
    rw [e2] at k1
    have ey9 := (Option.some.inj k1).symm
    subst ey9
    rw [show l.toNat = n by (first | (apply Int.le_antisymm <;> omega) | omega), e2] at hx
    have exy := (Option.some.inj hx).symm
    subst exy
    have ey : x = (o, (gva b.1).toInt, hh (b.1 + 1), d) := by rw [e2] at q1; exact Option.some.inj q1
    have hxm := hbx x (List.mem_of_getElem? e2)
    rw [ey] at e3 hxc hxm k2
    have hmem : b.1 ∈ sb i := List.mem_of_getElem? e1
    obtain ⟨b1, b2, b3⟩ := (hI.2.2.1 i h1 (by (first | (apply Int.le_antisymm <;> omega) | omega))).1 b.1 hmem
    have hlx : vlive (B b.1) = true := by rw [← q3]; exact vlive_drop _ hl
    have dn1 : (vzp (sb i) (B i)).drop (n + 1) = vzp (sb b.1) (B b.1) := by rw [vzp_drop, q2, q3]
    have hbm : b.1 + 1 ≤ m := by (first | (apply Int.le_antisymm <;> omega) | omega)
    have e3' : b.2 = hh (b.1 + 1) := e3
    have hxm' : hh (b.1 + 1) ≤ hb := hxm
    constructor
    · intro z3
      obtain ⟨ob, gb, hbb, db, Rb, eB, -, -, -, -, c2, -⟩ := hV b.1 b1 (by (first | (apply Int.le_antisymm <;> omega) | omega))
      obtain ⟨p1, p2⟩ := c2 (Or.inr z3)
      have hs := (hI.2.2.2 b.1 b1 (by (first | (apply Int.le_antisymm <;> omega) | omega))).2.1 (by (first | (apply Int.le_antisymm <;> omega) | omega))
      have hl1 : vlive (B (b.1 + 1)) = true := by rw [p1]; exact vlive_cons.mpr ⟨rfl, hlx⟩
      refine ⟨?_, by (first | (apply Int.le_antisymm <;> omega) | omega), tl0 _⟩
      rw [han _ (by (first | (apply Int.le_antisymm <;> omega) | omega)) hbm, wann_live hl1, e3]
      have ed : (vzp (sb i) (B i)).drop n = b :: (vzp (sb i) (B i)).drop (n + 1) := by
        obtain ⟨w1, w2⟩ := List.getElem?_eq_some_iff.mp hb'
        rw [List.drop_eq_getElem_cons w1, w2]
      rw [ed, dn1, hs, p1]
      have : vzp (b.1 :: sb b.1) (((gop b.1).toInt, (gva b.1).toInt, hh b.1, 0) :: B b.1) = (b.1, hh b.1) :: vzp (sb b.1) (B b.1) := rfl
      rw [this, ← p2, show (b.1, hh (b.1 + 1)) = b from Prod.ext rfl e3.symm]
    · intro z3
      obtain ⟨p, p1, p2, p3, ⟨r, p4, p5⟩, p6, -⟩ := rs_close hI hm (m - i) i (by (first | (apply Int.le_antisymm <;> omega) | omega)) h1 hmem
      obtain ⟨o9, d9, w1, w2, w3, -⟩ := (VH p (by (first | (apply Int.le_antisymm <;> omega) | omega)) (by (first | (apply Int.le_antisymm <;> omega) | omega))).2 0 b.1 (by rw [p4]; rfl)
      obtain ⟨op_, gp_, hbp, dp_, Rp, eB, -, -, -, -, -, -, -, c11, -⟩ := hV p (by (first | (apply Int.le_antisymm <;> omega) | omega)) p2
      rw [eB] at w1 w3
      have w3' : Rp = B b.1 := by simpa using w3
      have w1' : (op_, gp_, hbp, dp_) = (o9, (gva b.1).toInt, hh (b.1 + 1), d9) := by simpa using w1
      injection w1' with x1 x2
      injection x2 with x2 x3
      injection x3 with x3 x4
      have hR : Rp ≠ [] := by
        rw [w3']
        intro e
        have := (VH b.1 b1 (by (first | (apply Int.le_antisymm <;> omega) | omega))).1
        rw [e] at this
        simp at this
      obtain ⟨y1, y2⟩ := (c11 p3).2.2 hR
      rw [w3'] at y1
      rw [p4] at w2
      have w2' : r = sb b.1 := by simpa using w2
      have e9 : (gpt b.1).toNatClampNeg = p := i32_nat p6
      rw [e9]
      refine ⟨?_, by (first | (apply Int.le_antisymm <;> omega) | omega), tl0 _, fun g6 => ?_⟩
      · rw [han _ (by (first | (apply Int.le_antisymm <;> omega) | omega)) (by (first | (apply Int.le_antisymm <;> omega) | omega)), wann_live (by rw [y1]; exact hlx), dn1, p5, w2', y1, y2, x2, x3, e3]
      · have o3 : o ≠ 3 := fun z => z3 (k2 z)
        have k3 := hxc o3 g6
        exact ⟨by (first | (apply Int.le_antisymm <;> omega) | omega), fun z => absurd rfl z⟩
set_option maxHeartbeats 4000000 in
theorem wz_at {i f2 : Nat} {bs : List (Nat × Int)} {h : Int} (hI : rs_I a m gop gpt gel gva lc sb) (hm : sb m = []) (hmo : (gop m).toInt = 11) (hV : ∀ i, a ≤ i → i < m → vr nl gv tk fc gc f (gop i).toInt (gva i).toInt (B i) (hh i) (B (i + 1)) (hh (i + 1)))
    (hY : ∀ i, a ≤ i → i < m → lz ((gop i).toInt, (gva i).toInt) (B i) (hh i)) (hF : fz (B m) (hh m)) (hB0 : B a = [(0, g0, 0, 0)]) (hrt : rt f = 0 ∨ rt f = 126) (hrg : rt f ≠ 0 → g0 ≠ 64) (h00 : ∀ i, a ≤ i → i ≤ m → 0 ≤ hh i ∧ ∀ x ∈ B i, 0 ≤ x.2.2.1)
    (han : ∀ i, a ≤ i → i ≤ m → an i = wann f sb B hh i) (h1 : a ≤ i) (h2 : i ≤ m) (e : an i = some (f2, bs, h)) : f2 = f ∧ 0 ≤ h ∧ mr_at an (fun _ _ => 126) (fun _ _ => 126) rt nl gv tk (fun _ => 126) fc gc gop gpt gel gla gva i f bs h := by
  have tl0 : ∀ n : Int, tle (fun _ => (126 : Int)) (fun _ => (126 : Int)) n := fun n k _ z => absurd rfl z
  have hB : (B a).length = 1 := by rw [hB0]; rfl
  rw [han i h1 h2] at e
  obtain ⟨ef, rfl, hlv, rfl⟩ := wann_inv e
  have ef := ef.symm
  subst ef
  have h0 := (h00 i h1 h2).1
  have VH : ∀ j, a ≤ j → j ≤ m → vh gop gel gva sb B hh j := fun j q1 q2 => by
    have := vh_all hI hV hB (j - a) (by (first | (apply Int.le_antisymm <;> omega) | omega))
    rw [show a + (j - a) = j by (first | (apply Int.le_antisymm <;> omega) | omega)] at this
    exact this
  obtain ⟨so, y, y1, y2, y3⟩ := wz_inv hI hV hB0 (i - a) (by (first | (apply Int.le_antisymm <;> omega) | omega))
  rw [show a + (i - a) = i by (first | (apply Int.le_antisymm <;> omega) | omega)] at so y1
  have hL := (VH i h1 h2).1
  have hlen : (vzp (sb i) (B i)).length = (sb i).length := vzp_len hL
  refine ⟨rfl, h0, ?_⟩
  by_cases hne : ¬ i < m
  · have him : i = m := by (first | (apply Int.le_antisymm <;> omega) | omega)
    subst him
    obtain ⟨o, g, hb, d, R, eB, f1⟩ := hF
    have hd : d = 0 := by rw [eB] at hlv; exact (vlive_cons.mp hlv).1
    have hb0 : 0 ≤ hb := (h00 i h1 h2).2 (o, g, hb, d) (by rw [eB]; exact List.mem_cons_self)
    have hRl : R.length = (sb i).length := by rw [eB, List.length_cons] at hL; (first | (apply Int.le_antisymm <;> omega) | omega)
    have hR0 : R = [] := by rw [hm] at hRl; exact List.eq_nil_of_length_eq_zero hRl
    unfold mr_at
    unfold opl
    rw [hm, hmo]
    refine ⟨fun z => by (first | (apply Int.le_antisymm <;> omega) | omega), fun z => by (first | (apply Int.le_antisymm <;> omega) | omega), fun z => by (first | (apply Int.le_antisymm <;> omega) | omega), fun z => by (first | (apply Int.le_antisymm <;> omega) | omega), fun _ b r z => ?_, fun _ r0 => ?_, fun z => by (first | (apply Int.le_antisymm <;> omega) | omega), fun z => by (first | (apply Int.le_antisymm <;> omega) | omega), fun z => by (first | (apply Int.le_antisymm <;> omega) | omega), fun z => by (first | (apply Int.le_antisymm <;> omega) | omega), fun z => by (first | (apply Int.le_antisymm <;> omega) | omega), fun z => by (first | (apply Int.le_antisymm <;> omega) | omega), fun z => by (first | (apply Int.le_antisymm <;> omega) | omega), fun z => by (first | (apply Int.le_antisymm <;> omega) | omega), fun z => by (first | (apply Int.le_antisymm <;> omega) | omega), fun z => by (first | (apply Int.le_antisymm <;> omega) | omega), fun z => by (first | (apply Int.le_antisymm <;> omega) | omega), fun z => by (first | (apply Int.le_antisymm <;> omega) | omega), fun z => by (first | (apply Int.le_antisymm <;> omega) | omega), fun z => by (first | (apply Int.le_antisymm <;> omega) | omega)⟩
    · cases z
    · rw [eB, hR0] at y1
      have ex : (o, g, hb, d) = y := by simpa using y1
      rw [← ex] at y3
      have y3' : g = g0 := y3
      have k1 := f1 hd (by rw [y3']; exact hrg r0)
      exact ⟨by (first | (apply Int.le_antisymm <;> omega) | omega), fun z => by rcases hrt with q | q <;> (rw [q] at z; exact absurd z (by decide))⟩
  have him : i < m := Decidable.not_not.mp hne
  obtain ⟨v1, v2, v3, v4, v5, v6, v7⟩ := hI.2.2.2 i h1 him
  have hS := (hI.2.2.1 i h1 h2)
  have hop := v1.2.2.2
  obtain ⟨o, g, hb, d, R, eB, hbh, c0, c14, c1, hq9r⟩ := hV i h1 him
  obtain ⟨c2, c4, c5, c11, c13, c16, c26, c27, cv, cg, hq9r⟩ := hq9r
  obtain ⟨c01, c10, c20, c11b, c21⟩ := hq9r
  have vpl := vr_pl (hV i h1 him) eB
  have hd : d = 0 := by rw [eB] at hlv; exact (vlive_cons.mp hlv).1
  have hb0 : 0 ≤ hb := (h00 i h1 h2).2 (o, g, hb, d) (by rw [eB]; exact List.mem_cons_self)
  have hRl : R.length = (sb i).length := by rw [eB, List.length_cons] at hL; (first | (apply Int.le_antisymm <;> omega) | omega)
  have mx : ∀ x ∈ B i, x.2.2.1 ≤ hb := by
    rw [eB] at so ⊢
    intro x hx
    rcases List.mem_cons.mp hx with q | q
    · rw [q]; exact Int.le_refl _
    · exact so.1 x q
  obtain ⟨t12, t13, t15, n14, n110, n112⟩ : ((gop i).toInt = 12 → crz (B i) (gva i).toInt hb (hh i)) ∧ ((gop i).toInt = 13 → crz (B i) (gva i).toInt hb (hh i - 1)) ∧ ((gop i).toInt = 15 → crz (B i) R.length hb (hh i)) ∧ (gop i).toInt ≠ 14 ∧ (gop i).toInt ≠ 110 ∧ (gop i).toInt ≠ 112 := by
    obtain ⟨o', g', hb', d', R', eB', ⟨u1, u2, u3⟩, u4, u5, u6⟩ := hY i h1 him
    rw [eB] at eB'
    injection eB' with w1 w2
    injection w1 with w1 w3
    injection w3 with w3 w4
    injection w4 with w4 w5
    subst w1 w3 w4 w5 w2
    exact ⟨u1, u2, u3, u4, u5, u6⟩
  have nx : ∀ h', B (i + 1) = B i → hh (i + 1) = h' → (gop i).toInt ≠ 2 → (gop i).toInt ≠ 3 → (gop i).toInt ≠ 4 → (gop i).toInt ≠ 11 → an (i + 1) = some (f, vzp (sb i) (B i), h') := by
    intro h' y1 y2 n2 n3 n4 n11
    rw [han _ (by (first | (apply Int.le_antisymm <;> omega) | omega)) (by (first | (apply Int.le_antisymm <;> omega) | omega)), wann_live (by rw [y1]; exact hlv), v6 n2 n3 n4 n11, y1, y2]
  have nq : ∀ n m', vq (B i) (B (i + 1)) hb d (hh i) (hh (i + 1)) n m' → (gop i).toInt ≠ 2 → (gop i).toInt ≠ 3 → (gop i).toInt ≠ 4 → (gop i).toInt ≠ 11 → hb + n ≤ hh i ∧ an (i + 1) = some (f, vzp (sb i) (B i), hh i - n + m') := by
    intro n m' q n2 n3 n4 n11
    obtain ⟨q1, q2, q3⟩ := q
    obtain ⟨q4, q5⟩ := q3 hd
    exact ⟨q4, nx _ q1 q5 n2 n3 n4 n11⟩
  have lab : ∀ l h' : Int, hb ≤ h' → 0 ≤ l → crz (B i) l hb h' → mr_lab an (fun _ _ => 126) (rt f) gop gpt gva f (vzp (sb i) (B i)) i h' l := fun l h' q hl hc => wz_lab hI hm hV hB0 hrt hrg han h1 him hlv hb0 q mx hl hc
  unfold mr_at
  refine ⟨fun z => ?_, fun z => ?_, fun z => ?_, fun z => ?_, fun z => ?_, fun z => ?_, fun z => ?_, fun z => ?_, fun z => absurd z n14, fun z => ?_, fun z => ?_, fun z => ?_, fun z => ?_, fun z => ?_, fun z => ?_, fun z => ?_, fun z => ?_, fun z => ?_, fun z => ?_, fun z => ?_⟩
  · obtain ⟨y1, y2⟩ := c1 z
    exact ⟨nx _ y1 y2 (by (first | (apply Int.le_antisymm <;> omega) | omega)) (by (first | (apply Int.le_antisymm <;> omega) | omega)) (by (first | (apply Int.le_antisymm <;> omega) | omega)) (by (first | (apply Int.le_antisymm <;> omega) | omega)), tl0 _⟩
  · obtain ⟨y1, y2⟩ := c2 z
    have es := v2 (by (first | (apply Int.le_antisymm <;> omega) | omega))
    have hlen2 := ((hI.2.2.1 (i + 1) (by (first | (apply Int.le_antisymm <;> omega) | omega)) (by (first | (apply Int.le_antisymm <;> omega) | omega))).2.2)
    rw [es, List.length_cons] at hlen2
    refine ⟨by (first | (apply Int.le_antisymm <;> omega) | omega), ?_, tl0 _⟩
    rw [han _ (by (first | (apply Int.le_antisymm <;> omega) | omega)) (by (first | (apply Int.le_antisymm <;> omega) | omega)), wann_live (by rw [y1]; exact vlive_cons.mpr ⟨rfl, hlv⟩), es, y1, y2]
    rfl
  · obtain ⟨y1, y2, y3⟩ := c4 z
    obtain ⟨y4, y5⟩ := y3 hd
    have es := v2 (by (first | (apply Int.le_antisymm <;> omega) | omega))
    have hlen2 := ((hI.2.2.1 (i + 1) (by (first | (apply Int.le_antisymm <;> omega) | omega)) (by (first | (apply Int.le_antisymm <;> omega) | omega))).2.2)
    rw [es, List.length_cons] at hlen2
    have hmem : i ∈ sb (i + 1) := by rw [es]; exact List.mem_cons_self
    obtain ⟨p, p1, p2, p3, ⟨r, p4, p5⟩, p6, p7⟩ := rs_close hI hm (m - (i + 1)) (i + 1) (by (first | (apply Int.le_antisymm <;> omega) | omega)) (by (first | (apply Int.le_antisymm <;> omega) | omega)) hmem
    obtain ⟨o9, d9, w1, w2, w3, w4⟩ := (VH p (by (first | (apply Int.le_antisymm <;> omega) | omega)) (by (first | (apply Int.le_antisymm <;> omega) | omega))).2 0 i (by rw [p4]; rfl)
    refine ⟨by (first | (apply Int.le_antisymm <;> omega) | omega), by (first | (apply Int.le_antisymm <;> omega) | omega), ?_, tl0 _, fun z1 => ?_, fun z1 => ?_⟩
    · rw [han _ (by (first | (apply Int.le_antisymm <;> omega) | omega)) (by (first | (apply Int.le_antisymm <;> omega) | omega)), wann_live (by rw [y1]; exact vlive_cons.mpr ⟨rfl, hlv⟩), es, y1, y5]
      rfl
    · rcases v3 z with w | ⟨e9, x1, x2, x3, x4, r9, x5⟩
      · (first | (apply Int.le_antisymm <;> omega) | omega)
      · rw [show (gel i).toNatClampNeg = e9 from i32_nat x1]
        obtain ⟨o8, d8, u1, u2, u3, -⟩ := (VH e9 (by (first | (apply Int.le_antisymm <;> omega) | omega)) (by (first | (apply Int.le_antisymm <;> omega) | omega))).2 0 i (by rw [x5]; rfl)
        obtain ⟨oe, ge, he, de, Re, eBe, -, -, -, -, -, -, ce5, -⟩ := hV e9 (by (first | (apply Int.le_antisymm <;> omega) | omega)) x3
        obtain ⟨s5, s6, -⟩ := ce5 x4
        rw [eBe] at u1 u3
        have u3' : Re = B i := by simpa using u3
        have u1' : (oe, ge, he, de) = (o8, (gva i).toInt, hh (i + 1), d8) := by simpa using u1
        injection u1' with k1 k2
        injection k2 with k2 k3
        injection k3 with k3 k4
        have es9 : sb (e9 + 1) = sb e9 := (hI.2.2.2 e9 (by (first | (apply Int.le_antisymm <;> omega) | omega)) x3).2.2.2.2.2.1 (by (first | (apply Int.le_antisymm <;> omega) | omega)) (by (first | (apply Int.le_antisymm <;> omega) | omega)) (by (first | (apply Int.le_antisymm <;> omega) | omega)) (by (first | (apply Int.le_antisymm <;> omega) | omega))
        rw [x5] at u2
        have u2' : r9 = sb i := by simpa using u2
        refine ⟨?_, tl0 _⟩
        rw [han _ (by (first | (apply Int.le_antisymm <;> omega) | omega)) (by (first | (apply Int.le_antisymm <;> omega) | omega)), wann_live (by rw [s5, u3']; exact vlive_cons.mpr ⟨rfl, hlv⟩), es9, x5, s5, s6, u2', u3', k3, y5]
        rfl
    · obtain ⟨op_, gp_, hbp, dp_, Rp, eBp, -, -, -, -, -, -, -, cp11, -⟩ := hV p (by (first | (apply Int.le_antisymm <;> omega) | omega)) p2
      rw [eBp] at w1 w3
      have w3' : Rp = B i := by simpa using w3
      have w1' : (op_, gp_, hbp, dp_) = (o9, (gva i).toInt, hh (i + 1), d9) := by simpa using w1
      injection w1' with x1 x2
      injection x2 with x2 x3
      injection x3 with x3 x4
      have hR : Rp ≠ [] := by
        rw [w3', eB]
        intro e
        cases e
      obtain ⟨k1, k2⟩ := (cp11 p3).2.2 hR
      have g64 := (cp11 p3).2.1 (by rw [x1]; exact w4 z z1)
      rw [p4] at w2
      have w2' : r = sb i := by simpa using w2
      have e9 : (gpt i).toNatClampNeg = p := i32_nat p6
      rw [e9]
      refine ⟨?_, tl0 _⟩
      rw [han _ (by (first | (apply Int.le_antisymm <;> omega) | omega)) (by (first | (apply Int.le_antisymm <;> omega) | omega)), wann_live (by rw [k1, w3']; exact hlv), p5, w2', k1, w3', k2, g64, x3, y5]
      show some (f, vzp (sb i) (B i), hh i - 1 + 0) = _
      rw [Int.add_zero]
  · obtain ⟨b, r, q1, q2, q3⟩ := v4 z
    have hmb : b ∈ sb i := by rw [q1]; exact List.mem_cons_self
    obtain ⟨p, p1, p2, p3, ⟨r2, p4, p5⟩, p6, p7⟩ := rs_close (b := b) hI hm (m - i) i (by (first | (apply Int.le_antisymm <;> omega) | omega)) h1 hmb
    obtain ⟨o9, d9, w1, w2, w3, -⟩ := (VH p (by (first | (apply Int.le_antisymm <;> omega) | omega)) (by (first | (apply Int.le_antisymm <;> omega) | omega))).2 0 b (by rw [p4]; rfl)
    obtain ⟨o8, d8, u1, u2, u3, -⟩ := (VH i h1 h2).2 0 b (by rw [q1]; rfl)
    obtain ⟨op_, gp_, hbp, dp_, Rp, eBp, -, -, -, -, -, -, -, cp11, -⟩ := hV p (by (first | (apply Int.le_antisymm <;> omega) | omega)) p2
    have b1 := ((hI.2.2.1 i h1 h2).1 b hmb)
    rw [eBp] at w1 w3
    rw [eB] at u1 u3
    have w3' : Rp = B b := by simpa using w3
    have w1' : (op_, gp_, hbp, dp_) = (o9, (gva b).toInt, hh (b + 1), d9) := by simpa using w1
    injection w1' with x1 x2
    injection x2 with x2 x3
    injection x3 with x3 x4
    have u3' : R = B b := by simpa using u3
    have u1' : (o, g, hb, d) = (o8, (gva b).toInt, hh (b + 1), d8) := by simpa using u1
    injection u1' with k1 k2
    injection k2 with k2 k3
    injection k3 with k3 k4
    have hR : R = Rp := by rw [w3', u3']
    have hRn : R ≠ [] := by
      rw [u3']
      intro e
      have := (VH b b1.1 (by (first | (apply Int.le_antisymm <;> omega) | omega))).1
      rw [e] at this
      simp at this
    rw [q1] at u2
    have u2' : r = sb b := by simpa using u2
    rw [p4] at w2
    have w2' : r2 = sb b := by simpa using w2
    have hlR : vlive R = true := by rw [eB] at hlv; exact (vlive_cons.mp hlv).2
    obtain ⟨z1, z2⟩ := (cp11 p3).2.2 (by rw [← hR]; exact hRn)
    have eh : hh i = hb + ga g := (c5 z).2.2 hd
    have e9 : (gpt b).toNatClampNeg = p := i32_nat p6
    refine ⟨(b, hb), vzp r R, by rw [q1, eB]; rfl, b1.2.2, ?_, tl0 _⟩
    show an ((gpt b).toNatClampNeg + 1) = _
    rw [e9, han _ (by (first | (apply Int.le_antisymm <;> omega) | omega)) (by (first | (apply Int.le_antisymm <;> omega) | omega)), wann_live (by rw [z1, ← hR]; exact hlR), p5, z1, z2, ← hR, w2', u2', x2, x3, eh, k2, k3]
  · intro b9 r9 zz
    obtain ⟨b, r, e1, e2, -⟩ := v5 z
    have hR : R ≠ [] := by
      intro w
      rw [w, e1] at hRl
      simp at hRl
    obtain ⟨y1, y2⟩ := (c11 z).2.2 hR
    have eh : hh i = hb + ga g := (c11 z).1 hd
    rw [e1, eB] at zz
    have zz' : (b, hb) :: vzp r R = b9 :: r9 := zz
    injection zz' with z1 z2
    have hlR : vlive R = true := by rw [eB] at hlv; exact (vlive_cons.mp hlv).2
    exact ⟨by rw [← z2, han _ (by (first | (apply Int.le_antisymm <;> omega) | omega)) (by (first | (apply Int.le_antisymm <;> omega) | omega)), wann_live (by rw [y1]; exact hlR), e2, y1, y2, eh], tl0 _⟩
  · rcases z with z | ⟨z, zz⟩
    · intro r0
      obtain ⟨x, hx, hxc⟩ := t15 z
      rw [Int.toNat_natCast, show R.length = (B i).length - 1 by rw [eB]; rfl, y1] at hx
      have exy := (Option.some.inj hx).symm
      subst exy
      have k1 := hxc y2 (by rw [y3]; exact hrg r0)
      exact ⟨by (first | (apply Int.le_antisymm <;> omega) | omega), fun z => by rcases hrt with q | q <;> (rw [q] at z; exact absurd z (by decide))⟩
    · intro r0
      obtain ⟨b, r, e1, e2, -⟩ := v5 z
      rw [e1, eB] at zz
      cases zz
  · have w := v1.2.1 (by (first | (apply Int.le_antisymm <;> omega) | omega))
    exact lab _ _ hbh w.1 (t12 z)
  · have w := v1.2.1 (by (first | (apply Int.le_antisymm <;> omega) | omega))
    obtain ⟨y1, y2⟩ := nq _ _ (c13 z) (by (first | (apply Int.le_antisymm <;> omega) | omega)) (by (first | (apply Int.le_antisymm <;> omega) | omega)) (by (first | (apply Int.le_antisymm <;> omega) | omega)) (by (first | (apply Int.le_antisymm <;> omega) | omega))
    exact ⟨by (first | (apply Int.le_antisymm <;> omega) | omega), lab _ _ (by (first | (apply Int.le_antisymm <;> omega) | omega)) w.1 (t13 z), by rw [y2, Int.add_zero], tl0 _⟩
  · obtain ⟨y1, y2, y3⟩ := c16 z
    obtain ⟨y4, y5⟩ := nq _ _ y3 (by (first | (apply Int.le_antisymm <;> omega) | omega)) (by (first | (apply Int.le_antisymm <;> omega) | omega)) (by (first | (apply Int.le_antisymm <;> omega) | omega)) (by (first | (apply Int.le_antisymm <;> omega) | omega))
    exact ⟨y1, y2, by (first | (apply Int.le_antisymm <;> omega) | omega), y5, tl0 _, fun k _ z9 => absurd z9 (show ¬ (126 : Int) = 127 by decide), fun _ z9 => absurd rfl z9⟩
  · obtain ⟨y1, y2⟩ := nq _ _ (c26 z) (by (first | (apply Int.le_antisymm <;> omega) | omega)) (by (first | (apply Int.le_antisymm <;> omega) | omega)) (by (first | (apply Int.le_antisymm <;> omega) | omega)) (by (first | (apply Int.le_antisymm <;> omega) | omega))
    exact ⟨by (first | (apply Int.le_antisymm <;> omega) | omega), by rw [y2, Int.add_zero], tl0 _⟩
  · obtain ⟨y1, y2⟩ := nq _ _ (c27 z) (by (first | (apply Int.le_antisymm <;> omega) | omega)) (by (first | (apply Int.le_antisymm <;> omega) | omega)) (by (first | (apply Int.le_antisymm <;> omega) | omega)) (by (first | (apply Int.le_antisymm <;> omega) | omega))
    exact ⟨by (first | (apply Int.le_antisymm <;> omega) | omega), by rw [y2, show hh i - 3 + 1 = hh i - 2 by (first | (apply Int.le_antisymm <;> omega) | omega)], tl0 _, fun z9 => absurd rfl z9⟩
  · exact cv z
  · obtain ⟨y1, y2⟩ := nq _ _ (c01 (by (first | (apply Int.le_antisymm <;> omega) | omega))) (by (first | (apply Int.le_antisymm <;> omega) | omega)) (by (first | (apply Int.le_antisymm <;> omega) | omega)) (by (first | (apply Int.le_antisymm <;> omega) | omega)) (by (first | (apply Int.le_antisymm <;> omega) | omega))
    exact ⟨by rw [y2, Int.sub_zero], tl0 _, fun z9 => absurd rfl z9⟩
  · obtain ⟨y1, y2⟩ := nq _ _ (c10 (by (first | (apply Int.le_antisymm <;> omega) | omega))) (by (first | (apply Int.le_antisymm <;> omega) | omega)) (by (first | (apply Int.le_antisymm <;> omega) | omega)) (by (first | (apply Int.le_antisymm <;> omega) | omega)) (by (first | (apply Int.le_antisymm <;> omega) | omega))
    exact ⟨by (first | (apply Int.le_antisymm <;> omega) | omega), by rw [y2, Int.add_zero], tl0 _, fun z9 => absurd z9 (show ¬ (126 : Int) = 127 by decide)⟩
  · obtain ⟨y1, y2⟩ := nq _ _ (c11b (by (first | (apply Int.le_antisymm <;> omega) | omega))) (by (first | (apply Int.le_antisymm <;> omega) | omega)) (by (first | (apply Int.le_antisymm <;> omega) | omega)) (by (first | (apply Int.le_antisymm <;> omega) | omega)) (by (first | (apply Int.le_antisymm <;> omega) | omega))
    exact ⟨by (first | (apply Int.le_antisymm <;> omega) | omega), by rw [y2, show hh i - 1 + 1 = hh i by (first | (apply Int.le_antisymm <;> omega) | omega)], tl0 _, fun z9 => absurd z9 (show ¬ (126 : Int) = 127 by decide)⟩
  · exact cg z
  · obtain ⟨y1, y2⟩ := nq _ _ (c01 (by (first | (apply Int.le_antisymm <;> omega) | omega))) (by (first | (apply Int.le_antisymm <;> omega) | omega)) (by (first | (apply Int.le_antisymm <;> omega) | omega)) (by (first | (apply Int.le_antisymm <;> omega) | omega)) (by (first | (apply Int.le_antisymm <;> omega) | omega))
    exact ⟨by rw [y2, Int.sub_zero], tl0 _, fun z9 => absurd rfl z9⟩
  · obtain ⟨y1, y2⟩ := nq _ _ (c10 (by (first | (apply Int.le_antisymm <;> omega) | omega))) (by (first | (apply Int.le_antisymm <;> omega) | omega)) (by (first | (apply Int.le_antisymm <;> omega) | omega)) (by (first | (apply Int.le_antisymm <;> omega) | omega)) (by (first | (apply Int.le_antisymm <;> omega) | omega))
    exact ⟨by (first | (apply Int.le_antisymm <;> omega) | omega), by rw [y2, Int.add_zero], tl0 _, fun z9 => absurd z9 (show ¬ (126 : Int) = 127 by decide)⟩
  · have z' := z
    unfold opl at z'
    obtain ⟨y1, y2⟩ := nq _ _ (vpl z) (by (first | (apply Int.le_antisymm <;> omega) | omega)) (by (first | (apply Int.le_antisymm <;> omega) | omega)) (by (first | (apply Int.le_antisymm <;> omega) | omega)) (by (first | (apply Int.le_antisymm <;> omega) | omega))
    exact ⟨by (first | (apply Int.le_antisymm <;> omega) | omega), y2, tl0 _, fun _ z9 => absurd rfl z9, fun q => by (first | (apply Int.le_antisymm <;> omega) | omega)⟩
end WZ
end q_m56
section q_m57
/-! the reference: what was compiled runs, as its machine knows it -/
def cxq (Q : Nat → List (Nat × Nat) → List ci → Prop) (cfi mlc gop : Nat → Int32) (gva : Nat → Int64) (f : Nat) : Prop :=
  ∃ (R : List (Nat × Nat)) (l : List ci), Q f R l ∧ (mlc f).toInt = (rsum R : Int) ∧ 0 ≤ (cfi f).toInt ∧ (cfi (f + 1)).toInt = (cfi f).toInt + (l.length : Int) + 1 ∧ mtc gop gva (cfi f).toNatClampNeg (l ++ [(11, 0)])
theorem cxq_ext {Q : Nat → List (Nat × Nat) → List ci → Prop} {cfi mlc gop cfi2 mlc2 gop2 : Nat → Int32} {gva gva2 : Nat → Int64} {f : Nat} (h : cxq Q cfi mlc gop gva f) (e1 : cfi2 f = cfi f) (e2 : cfi2 (f + 1) = cfi (f + 1)) (e3 : mlc2 f = mlc f) (e4 : ∀ j : Nat, (j : Int) < (cfi (f + 1)).toInt → gop2 j = gop j ∧ gva2 j = gva j) : cxq Q cfi2 mlc2 gop2 gva2 f := by
  obtain ⟨R, l, q1, q3, q4, q5, q6⟩ := h
  refine ⟨R, l, q1, by rw [e3]; exact q3, by rw [e1]; exact q4, by rw [e1, e2]; exact q5, fun i x hx => ?_⟩
  have hi : i < (l ++ [((11 : Int), (0 : Int))]).length := (List.getElem?_eq_some_iff.mp hx).1
  rw [List.length_append, List.length_singleton] at hi
  have c := i32_clamp (x := cfi f) q4
  have w := e4 ((cfi f).toNatClampNeg + i) (by (first | (apply Int.le_antisymm <;> omega) | omega))
  rw [e1, w.1, w.2]
  exact q6 i x hx
def Qc (gv tk gg : Nat → Int) (fc gc : Int) (f : Nat) (R : List (Nat × Nat)) (l : List ci) : Prop := ∃ B h, cz (tk f + (rsum R : Int)) gv tk fc gc l [(0, gg f, 0, 0)] 0 B h ∧ fz B h
/-- a function's pictures -/
def vfz (nl gv tk : Nat → Int) (fc gc g0 : Int) (f : Nat) (gop gpt gel : Nat → Int32) (gva : Nat → Int64) (lc : Int) (a m : Nat) (sb : Nat → List Nat) (B : Nat → List vt) (hh : Nat → Int) : Prop :=
  rs_I a m gop gpt gel gva lc sb ∧ sb m = [] ∧ (gop m).toInt = 11 ∧ (∀ i, a ≤ i → i < m → vr nl gv tk fc gc f (gop i).toInt (gva i).toInt (B i) (hh i) (B (i + 1)) (hh (i + 1))) ∧ (∀ i, a ≤ i → i < m → lz ((gop i).toInt, (gva i).toInt) (B i) (hh i)) ∧ fz (B m) (hh m) ∧ B a = [(0, g0, 0, 0)] ∧ hh a = 0 ∧ ∀ i, a ≤ i → i ≤ m → 0 ≤ hh i ∧ ∀ x ∈ B i, 0 ≤ x.2.2.1
theorem lz_v {op v v2 h : Int} {B : List vt} (H : lz (op, v) B h) (e : op = 12 ∨ op = 13 → v2 = v) : lz (op, v2) B h := by
  obtain ⟨o, g, hb, d, R, eB, ⟨h1, h2, h3⟩, h4⟩ := H
  exact ⟨o, g, hb, d, R, eB, ⟨fun z => by have q := e (Or.inl z); subst q; exact h1 z, fun z => by have q := e (Or.inr z); subst q; exact h2 z, h3⟩, h4⟩
theorem vfz_of {gv tk nl gg : Nat → Int} {fc gc lc : Int} {cfi mlc gop gpt gel : Nat → Int32} {gva : Nat → Int64} {f : Nat} (h : cxq (Qc gv tk gg fc gc) cfi mlc gop gva f) (hn : nl f = tk f + (mlc f).toInt) (hr : rc_fin (cfi f).toNatClampNeg (cfi (f + 1)).toNatClampNeg gop gpt gel gva lc) : ∃ q : (Nat → List Nat) × (Nat → List vt) × (Nat → Int), vfz nl gv tk fc gc (gg f) f gop gpt gel gva lc (cfi f).toNatClampNeg ((cfi (f + 1)).toNatClampNeg - 1) q.1 q.2.1 q.2.2 := by
  obtain ⟨R, l, ⟨B, hh, q2, qf⟩, q3, q4, q5, q6⟩ := h
  obtain ⟨sb, r1, r2, r3, r4⟩ := hr
  obtain ⟨Bs, hs, e1, e2, e4, e5, e3⟩ := cz_seq q2
  have c1_ := i32_clamp (x := cfi f) q4
  have c2_ := i32_clamp (x := cfi (f + 1)) (by (first | (apply Int.le_antisymm <;> omega) | omega))
  obtain ⟨a, ea⟩ : ∃ a, a = (cfi f).toNatClampNeg := ⟨_, rfl⟩
  obtain ⟨m, em⟩ : ∃ m, m = (cfi (f + 1)).toNatClampNeg - 1 := ⟨_, rfl⟩
  rw [← em] at r2 r3 r4 ⊢
  rw [← ea] at r2 q6 ⊢
  have hm : m = a + l.length := by (first | (apply Int.le_antisymm <;> omega) | omega)
  have st : ∀ i, i < l.length → ∃ x, l[i]? = some x ∧ c1z (tk f + (rsum R : Int)) gv tk fc gc x (Bs i) (hs i) (Bs (i + 1)) (hs (i + 1)) := fun i hi => ⟨l[i], List.getElem?_eq_getElem hi, e3 i l[i] (List.getElem?_eq_getElem hi)⟩
  refine ⟨(sb, fun j => Bs (j - a), fun j => hs (j - a)), r2, r3, r4, fun j j1 j2 => ?_, fun j j1 j2 => ?_, ?_, ?_, ?_, fun j j1 j2 => ?_⟩
  · dsimp only
    obtain ⟨x, hx, hc⟩ := st (j - a) (by (first | (apply Int.le_antisymm <;> omega) | omega))
    have hx2 : (l ++ [((11 : Int), (0 : Int))])[j - a]? = some x := by rw [List.getElem?_append_left (by (first | (apply Int.le_antisymm <;> omega) | omega))]; exact hx
    obtain ⟨w1, w2⟩ := q6 (j - a) x hx2
    rw [show a + (j - a) = j by (first | (apply Int.le_antisymm <;> omega) | omega)] at w1 w2
    rw [show j + 1 - a = j - a + 1 by (first | (apply Int.le_antisymm <;> omega) | omega), w1]
    have v1 := vr_nl (nl := nl) (f := f) hc.1.1 (by rw [hn, q3])
    by_cases z : x.1 = 65 ∨ x.1 = 66 ∨ x.1 = 40 ∨ x.1 = 41 ∨ x.1 = 44 ∨ x.1 = 45 ∨ x.1 = 54 ∨ x.1 = 55 ∨ x.1 = 58
    · exact vr_v v1 (by (first | (apply Int.le_antisymm <;> omega) | omega))
    · rw [w2 (by (first | (apply Int.le_antisymm <;> omega) | omega)) (by (first | (apply Int.le_antisymm <;> omega) | omega)) (by (first | (apply Int.le_antisymm <;> omega) | omega))]
      exact v1
  · dsimp only
    obtain ⟨x, hx, hc⟩ := st (j - a) (by (first | (apply Int.le_antisymm <;> omega) | omega))
    have hx2 : (l ++ [((11 : Int), (0 : Int))])[j - a]? = some x := by rw [List.getElem?_append_left (by (first | (apply Int.le_antisymm <;> omega) | omega))]; exact hx
    obtain ⟨w1, w2⟩ := q6 (j - a) x hx2
    rw [show a + (j - a) = j by (first | (apply Int.le_antisymm <;> omega) | omega)] at w1 w2
    rw [w1]
    obtain ⟨x1, x2⟩ := x
    exact lz_v hc.2 (fun z => w2 (by dsimp only; (first | (apply Int.le_antisymm <;> omega) | omega)) (by dsimp only; (first | (apply Int.le_antisymm <;> omega) | omega)) (by dsimp only; (first | (apply Int.le_antisymm <;> omega) | omega)))
  · show fz (Bs (m - a)) (hs (m - a))
    rw [show m - a = l.length by (first | (apply Int.le_antisymm <;> omega) | omega), e4, e5]
    exact qf
  · show Bs (a - a) = _
    rw [Nat.sub_self, e1]
  · show hs (a - a) = 0
    rw [Nat.sub_self, e2]
  · dsimp only
    by_cases z : j = a
    · rw [z, Nat.sub_self, e1, e2]
      refine ⟨Int.le_refl _, fun y hy => ?_⟩
      rw [List.mem_singleton.mp hy]
      exact Int.le_refl _
    · obtain ⟨x, hx, hc⟩ := st (j - a - 1) (by (first | (apply Int.le_antisymm <;> omega) | omega))
      rw [show j - a - 1 + 1 = j - a by (first | (apply Int.le_antisymm <;> omega) | omega)] at hc
      exact hc.1.2
section RKZ
variable {rt nl gv tk gg : Nat → Int} {fc gc cu : Int} {b en el mca mpc mre mlc : Nat → Int32} {mto : Nat → Int64} {M2 : Nat → Nat → Int32} {n lc : Int32} {cfi gop gpt gel gla : Nat → Int32} {gva : Nat → Int64} {pos : Nat → Nat}
set_option maxHeartbeats 4000000 in
theorem rko_comp (hby : ∀ j, -128 ≤ (b j).toInt ∧ (b j).toInt ≤ 127) (hC : mdc b en el mca mlc M2 fc cu n lc cfi gop gpt gel gla gva pos) (hX : ∀ f : Nat, (f : Int) < fc → (0 ≤ (mto f).toInt ∧ (mto f).toInt < 20) ∧ tk f = (mpc (mto f).toInt.toNat).toInt ∧ (rt f = 0 ↔ (mre (mto f).toInt.toNat).toInt = 0) ∧ (rt f = 0 ∨ rt f = 126) ∧ gv f = ga0 (rt f) ∧ nl f = tk f + (mlc f).toInt ∧ (rt f ≠ 0 → gg f ≠ 64)) (hfn : ∀ f : Nat, (f : Int) < fc → f < 30) (hcu : cu ≤ 32000)
    (hv : ∀ f : Nat, (f : Int) < fc → cxq (Qc gv tk gg fc gc) cfi mlc gop gva f) : ∃ an, rko b en el mca mpc mre mlc mto fc gc (fun _ _ => 126) (fun _ _ => 126) rt nl gv tk (fun _ => 126) an pos gop gpt gel gla gva := by
  have h1 : ∀ f : Nat, ∃ q : (Nat → List Nat) × (Nat → List vt) × (Nat → Int), (f : Int) < fc → vfz nl gv tk fc gc (gg f) f gop gpt gel gva lc.toInt (cfi f).toNatClampNeg ((cfi (f + 1)).toNatClampNeg - 1) q.1 q.2.1 q.2.2 := by
    intro f
    by_cases hf : (f : Int) < fc
    · obtain ⟨-, -, -, hF, -⟩ := hC.2.2 f hf
      obtain ⟨q, hq⟩ := vfz_of (nl := nl) (hv f hf) (hX f hf).2.2.2.2.2.1 hF.1
      exact ⟨q, fun _ => hq⟩
    · exact ⟨(fun _ => [], fun _ => [], fun _ => 0), fun z => absurd z hf⟩
  obtain ⟨Q, hQ⟩ := Classical.axiomOfChoice h1
  have hcm : ∀ f : Nat, (f : Int) < fc → 0 ≤ (cfi f).toInt ∧ (cfi f).toInt < (cfi (f + 1)).toInt ∧ (cfi (f + 1)).toInt ≤ n.toInt := by
    intro f hf
    obtain ⟨a1, a2, a3, ⟨⟨sb, a4, -⟩, -⟩, -⟩ := hC.2.2 f hf
    have c1 := i32_clamp (x := cfi f) a1
    have c2 := i32_clamp (x := cfi (f + 1)) (by (first | (apply Int.le_antisymm <;> omega) | omega))
    exact ⟨a1, by (first | (apply Int.le_antisymm <;> omega) | omega), a3⟩
  obtain ⟨fF, efF⟩ : ∃ fF : Nat → Option Nat, fF = fun (i : Nat) => (List.range 30).find? (fun f : Nat => decide ((f : Int) < fc) && decide ((cfi f).toInt ≤ (i : Int)) && decide ((i : Int) < (cfi (f + 1)).toInt)) := ⟨_, rfl⟩
  have hin : ∀ (f i : Nat), (f : Int) < fc → (cfi f).toInt ≤ (i : Int) → (i : Int) < (cfi (f + 1)).toInt → fF i = some f := by
    intro f i hf i1 i2
    rw [efF]
    dsimp only
    cases e : (List.range 30).find? (fun f : Nat => decide ((f : Int) < fc) && decide ((cfi f).toInt ≤ (i : Int)) && decide ((i : Int) < (cfi (f + 1)).toInt)) with
    | none =>
      have := List.find?_eq_none.mp e f (List.mem_range.mpr (hfn f hf))
      simp [hf, i1, i2] at this
    | some f2 =>
      have p := List.find?_some e
      simp only [Bool.and_eq_true, decide_eq_true_eq] at p
      obtain ⟨⟨p1, p2⟩, p3⟩ := p
      have hc : ∀ f : Nat, (f : Int) < fc → (cfi f).toInt ≤ (cfi (f + 1)).toInt := fun f h => by have := hcm f h; (first | (apply Int.le_antisymm <;> omega) | omega)
      have e2 : f2 = f := by
        rcases Nat.lt_trichotomy f2 f with w | w | w
        · have := mo_mono hc (f1 := f2) (f - (f2 + 1)) (by (first | (apply Int.le_antisymm <;> omega) | omega))
          rw [show f2 + 1 + (f - (f2 + 1)) = f by (first | (apply Int.le_antisymm <;> omega) | omega)] at this
          (first | (apply Int.le_antisymm <;> omega) | omega)
        · exact w
        · have := mo_mono hc (f1 := f) (f2 - (f + 1)) (by (first | (apply Int.le_antisymm <;> omega) | omega))
          rw [show f + 1 + (f2 - (f + 1)) = f2 by (first | (apply Int.le_antisymm <;> omega) | omega)] at this
          (first | (apply Int.le_antisymm <;> omega) | omega)
      rw [e2]
  have hout : ∀ (i f : Nat), fF i = some f → (f : Int) < fc ∧ (cfi f).toInt ≤ (i : Int) ∧ (i : Int) < (cfi (f + 1)).toInt := by
    intro i f e
    rw [efF] at e
    have p := List.find?_some e
    simp only [Bool.and_eq_true, decide_eq_true_eq] at p
    exact ⟨p.1.1, p.1.2, p.2⟩
  obtain ⟨an, ean⟩ : ∃ an : mc_A, an = fun (i : Nat) => match fF i with | some f => wann f (Q f).1 (Q f).2.1 (Q f).2.2 i | none => none := ⟨_, rfl⟩
  have han : ∀ (f i : Nat), (f : Int) < fc → (cfi f).toInt ≤ (i : Int) → (i : Int) < (cfi (f + 1)).toInt → an i = wann f (Q f).1 (Q f).2.1 (Q f).2.2 i := by
    intro f i hf i1 i2
    rw [ean]
    dsimp only
    rw [hin f i hf i1 i2]
  refine ⟨an, hby, fun f hf => ?_, fun g hg => Or.inr rfl, fun i f bs h e => ?_⟩
  · obtain ⟨x1, x3, x4, x5, x6, x7, x8⟩ := hX f hf
    obtain ⟨c1, c2, c3⟩ := hcm f hf
    obtain ⟨q1, q2, q3, q4, q5, q6, q7, q8, q9⟩ := hQ f hf
    obtain ⟨-, -, -, -, mp, -⟩ := hC.2.2 f hf
    have z1 := i32_clamp (x := cfi f) c1
    refine ⟨x1, x3, x4, by (first | (apply Int.le_antisymm <;> omega) | omega), x6, x7, fun k hk => Or.inr rfl, (cfi f).toNatClampNeg, ?_, mp⟩
    rw [han f _ hf (by (first | (apply Int.le_antisymm <;> omega) | omega)) (by (first | (apply Int.le_antisymm <;> omega) | omega)), wann_live (by rw [q7]; rfl), q8, q1.2.1]
    rfl
  · have e0 := e
    rw [ean] at e
    dsimp only at e
    cases ef : fF i with
    | none => rw [ef] at e; cases e
    | some f2 =>
      rw [ef] at e
      dsimp only at e
      obtain ⟨hf2, i1, i2⟩ := hout i f2 ef
      obtain ⟨c1, c2, c3⟩ := hcm f2 hf2
      have z1 := i32_clamp (x := cfi f2) c1
      have z2 := i32_clamp (x := cfi (f2 + 1)) (by (first | (apply Int.le_antisymm <;> omega) | omega))
      obtain ⟨q1, q2, q3, q4, q5, q6, q7, q8, q9⟩ := hQ f2 hf2
      obtain ⟨-, -, -, hF, mp, mpo, -⟩ := hC.2.2 f2 hf2
      obtain ⟨a, ea⟩ : ∃ a, a = (cfi f2).toNatClampNeg := ⟨_, rfl⟩
      obtain ⟨m, em⟩ : ∃ m, m = (cfi (f2 + 1)).toNatClampNeg - 1 := ⟨_, rfl⟩
      have em1 : (cfi (f2 + 1)).toNatClampNeg = m + 1 := by (first | (apply Int.le_antisymm <;> omega) | omega)
      rw [em1] at hF mpo
      rw [← ea] at hF mpo q1 q4 q5 mp q7 q8 q9
      rw [← em] at q1 q2 q3 q4 q5 q6 q9
      obtain ⟨w1, w2, w3, w4⟩ := wann_inv e
      subst w1
      have hlkd : ∀ j, a ≤ j → j ≤ m → lkD b pos gop gpt gla gva j := fun j j1 j2 => (hF.2 j j1 (by (first | (apply Int.le_antisymm <;> omega) | omega))).2.1
      have main := wz_at (gla := gla) (rt := rt) q1 q2 q3 q4 q5 q6 q7 (hX f hf2).2.2.2.1 (hX f hf2).2.2.2.2.2.2 q9 (fun j j1 j2 => han f j hf2 (by (first | (apply Int.le_antisymm <;> omega) | omega)) (by (first | (apply Int.le_antisymm <;> omega) | omega))) (show a ≤ i by (first | (apply Int.le_antisymm <;> omega) | omega)) (show i ≤ m by (first | (apply Int.le_antisymm <;> omega) | omega)) e0
      have hpp : ∀ j, a ≤ j → j < m + 1 → (pos j : Int) < 32000 := fun j j1 j2 => by have := mpo j j1 j2; (first | (apply Int.le_antisymm <;> omega) | omega)
      refine ⟨hf2, main.2.1, main.2.2, hlkd i (by (first | (apply Int.le_antisymm <;> omega) | omega)) (by (first | (apply Int.le_antisymm <;> omega) | omega)), rs_val_le (vf_val q1 q3 (by (first | (apply Int.le_antisymm <;> omega) | omega)) (by (first | (apply Int.le_antisymm <;> omega) | omega))) (by have := hC.1; (first | (apply Int.le_antisymm <;> omega) | omega)), by have := hpp i (by (first | (apply Int.le_antisymm <;> omega) | omega)) (by (first | (apply Int.le_antisymm <;> omega) | omega)); (first | (apply Int.le_antisymm <;> omega) | omega), fun z => rkb_of hF q1 q2 q3 hpp (by (first | (apply Int.le_antisymm <;> omega) | omega)) (by (first | (apply Int.le_antisymm <;> omega) | omega)) z, fun x hx => ?_, fun z => ?_⟩
      · rw [w2] at hx
        obtain ⟨k, hk⟩ := List.getElem?_of_mem hx
        obtain ⟨y, e1, e2, e3⟩ := vzp_get hk
        obtain ⟨b1, b2, b3⟩ := (q1.2.2.1 i (by (first | (apply Int.le_antisymm <;> omega) | omega)) (by (first | (apply Int.le_antisymm <;> omega) | omega))).1 x.1 (List.mem_of_getElem? e1)
        exact ⟨by rw [e3]; exact (q9 i (by (first | (apply Int.le_antisymm <;> omega) | omega)) (by (first | (apply Int.le_antisymm <;> omega) | omega))).2 y (List.mem_of_getElem? e2), rkb_of hF q1 q2 q3 hpp b1 (by (first | (apply Int.le_antisymm <;> omega) | omega)) b3⟩
      · have him : i < m := by
          rcases Nat.lt_or_eq_of_le (show i ≤ m by (first | (apply Int.le_antisymm <;> omega) | omega)) with q | q
          · exact q
          · exact absurd ⟨by rw [q]; exact q3, by rw [w2, q, q2]; rfl⟩ z
        rw [((hF.2 i (by (first | (apply Int.le_antisymm <;> omega) | omega)) (by (first | (apply Int.le_antisymm <;> omega) | omega))).1 (by (first | (apply Int.le_antisymm <;> omega) | omega))).2]
end RKZ
end q_m57
section q_m58
/-! the reference reads what it wrote: sections -/
section MDX
variable {b en el mca mlc en2 el2 mca2 mlc2 cfi gop gpt gel glb gop2 gpt2 gel2 glb2 : Nat → Int32} {gva gva2 : Nat → Int64} {pos pos2 : Nat → Nat} {M2 M3 : Nat → Nat → Int32} {cc cu cu2 : Int} {n lc n2 lc2 : Int32}
theorem mdc_nextx {k : Int32} {t : Nat} (hk : k.toInt = (t : Int)) (h : mdc b en el mca mlc M2 k.toInt cu n lc cfi gop gpt gel glb gva pos) (hF : ckF b en2 el2 n.toNatClampNeg n2.toNatClampNeg lc2.toInt gop2 gpt2 gel2 glb2 gva2 pos2) (hS : ckS n.toNatClampNeg lc.toInt (mca2 t).toInt.toNat gop gpt gel glb en el gop2 gpt2 gel2 glb2 en2 el2 gva gva2 pos pos2)
    (h1 : n.toInt < n2.toInt) (h2 : n2.toInt ≤ cu2) (h3 : lc.toInt ≤ lc2.toInt) (h4 : lc2.toInt ≤ cu2) (hs : cu ≤ (mca2 t).toInt) (hcu : cu ≤ cu2) (hp : ∀ j, n.toNatClampNeg ≤ j → j < n2.toNatClampNeg → (pos2 j : Int) < cu2) (hm : ∀ j, j ≠ t → mlc2 j = mlc j ∧ mca2 j = mca j ∧ M3 j = M2 j) (ht : ∀ q : Nat, (q : Int) < (mlc2 t).toInt → t27 (M3 t q).toInt) : mdc b en2 el2 mca2 mlc2 M3 (k.toInt + 1) cu2 n2 lc2 (upd cfi (t + 1) n2) gop2 gpt2 gel2 glb2 gva2 pos2 := by
  obtain ⟨⟨a1, a2, a3, a4⟩, c1, c2⟩ := h
  have zn := i32_clamp (x := n) a1
  have zn2 := i32_clamp (x := n2) (by (first | (apply Int.le_antisymm <;> omega) | omega))
  refine ⟨⟨by (first | (apply Int.le_antisymm <;> omega) | omega), h2, by (first | (apply Int.le_antisymm <;> omega) | omega), h4⟩, by rw [show (k.toInt + 1).toNat = t + 1 by (first | (apply Int.le_antisymm <;> omega) | omega), pk_us], fun f hf => ?_⟩
  by_cases e : f = t
  · subst e
    rw [pk_us, pk_un (by (first | (apply Int.le_antisymm <;> omega) | omega))]
    have cn : (cfi f).toInt = n.toInt := by rw [← c1, show k.toInt.toNat = f by (first | (apply Int.le_antisymm <;> omega) | omega)]
    have en : cfi f = n := Int32.toInt_inj.mp cn
    rw [en]
    exact ⟨a1, by (first | (apply Int.le_antisymm <;> omega) | omega), by (first | (apply Int.le_antisymm <;> omega) | omega), hF, by rw [hS.2.2.2.1]; (first | (apply Int.le_antisymm <;> omega) | omega), hp, ht⟩
  · obtain ⟨q1, q2, q3, q4, q5, q6, q7⟩ := c2 f (by (first | (apply Int.le_antisymm <;> omega) | omega))
    rw [pk_un (by (first | (apply Int.le_antisymm <;> omega) | omega)), pk_un (by (first | (apply Int.le_antisymm <;> omega) | omega))]
    have z1 := i32_clamp (x := cfi f) q1
    have z2 := i32_clamp (x := cfi (f + 1)) (by (first | (apply Int.le_antisymm <;> omega) | omega))
    have fm := q4.1
    obtain ⟨-, fm, -⟩ := fm
    refine ⟨q1, q2, by (first | (apply Int.le_antisymm <;> omega) | omega), ckF_keep q4 (by (first | (apply Int.le_antisymm <;> omega) | omega)) h3 (Int.le_refl _) hS (fun j x y => by have := q6 j x y; (first | (apply Int.le_antisymm <;> omega) | omega)), by rw [hS.2.2.1 _ (by (first | (apply Int.le_antisymm <;> omega) | omega)), (hm f e).2.1]; exact q5, fun j x y => by rw [hS.2.2.1 j (by (first | (apply Int.le_antisymm <;> omega) | omega))]; have := q6 j x y; (first | (apply Int.le_antisymm <;> omega) | omega), by rw [(hm f e).1, (hm f e).2.2]; exact q7⟩
end MDX
def z64 (g : Int) : Int := if g = 64 then 0 else g
def fQ (Q : Nat → List (Nat × Nat) → List ci → Prop) (f k : Nat) (e : List Nat) : Prop :=
  ∃ (R : List (Nat × Nat)) (l : List ci), l.length = k ∧ rok R ∧ (rsum R : Int) ≤ 50 ∧ R.length ≤ 50 ∧ dl l [] = some [] ∧ iokl2 l ∧ Q f R l ∧
    e = leb 5 ((R.length :: rb R).length + (enl (l ++ [(11, 0)])).length) ++ ((R.length :: rb R) ++ enl (l ++ [(11, 0)]))
def cFq (Q : Nat → List (Nat × Nat) → List ci → Prop) : Nat → Nat → List Nat → Nat → Prop
  | _, 0, bs, I => bs = [] ∧ I = 0
  | f, m + 1, bs, I => ∃ (e b : List Nat) (k I1 : Nat), bs = e ++ b ∧ fQ Q f k e ∧ I = k + 1 + I1 ∧ cFq Q (f + 1) m b I1
def B1r (qTs : List Nat) (qtk : Nat → Int) (qft : Nat → Int32) (n : Int) (mpc mre : Nat → Int32) : Prop := ∀ t : Nat, (t : Int) < n → ∃ r, qTs[t]? = some r ∧ (mpc t).toInt = qtk r ∧ (mre t).toInt = z64 (qft r).toInt
def B10r (Q : Nat → List (Nat × Nat) → List ci → Prop) (qn : Nat) (cu : Int) (b en el mca mlc : Nat → Int32) (M2 : Nat → Nat → Int32) : Prop :=
  ∃ (n lc : Int32) (cfi gop gpt gel glb : Nat → Int32) (gva : Nat → Int64) (pos : Nat → Nat), mdc b en el mca mlc M2 (qn : Int) cu n lc cfi gop gpt gel glb gva pos ∧ ∀ f, f < qn → cxq Q cfi mlc gop gva f
/-- what the tables hold before section id -/
def rBx (Q : Nat → List (Nat × Nat) → List ci → Prop) (qTs : List Nat) (qtk : Nat → Int) (qft qto : Nat → Int32) (qn : Nat) (qG : List (Nat × Int)) (qX : List (List Nat × Nat × Nat)) (id : Nat) (tc fcn mems gcn ec cc : Int32) (least : Int64) (cu len : Int) (b en el mca mpc mre mlc mna mnl : Nat → Int32) (mto : Nat → Int64) (M2 : Nat → Nat → Int32) : Prop :=
  (1 < id → tc.toInt = (qTs.length : Int) ∧ B1r qTs qtk qft (qTs.length : Int) mpc mre) ∧ (3 < id → fcn.toInt = (qn : Int) ∧ ∀ f, f < qn → (mto f).toInt = (qto f).toInt) ∧ (5 < id → mems.toInt = 1 ∧ least.toInt = 1) ∧ (6 < id → gcn.toInt = (qG.length : Int)) ∧ (id ≤ 6 → gcn.toInt = 0) ∧ (7 < id → ec.toInt = (qX.length : Int) ∧ mdE ec.toInt len mna mnl) ∧ (10 < id → cc.toInt = (qn : Int) ∧ B10r Q qn cu b en el mca mlc M2)
theorem gbl_h2 {G : List (Nat × Int)} {k : Nat} (hk : k < G.length) : ∃ x, x ∈ G ∧ gbl (G.drop k) = gl1 x ++ gbl (G.drop (k + 1)) := by
  refine ⟨G[k], List.getElem_mem hk, ?_⟩
  rw [List.drop_eq_getElem_cons hk]
  rfl
theorem ty_z {g : Int} (h : ty g) : (g = 64 ∧ z64 g = 0) ∨ (g ≠ 64 ∧ (g = 127 ∨ g = 126) ∧ z64 g = g) := by
  unfold ty at h
  unfold z64
  by_cases q : g = 64
  · exact Or.inl ⟨q, if_pos q⟩
  · exact Or.inr ⟨q, by (first | (apply Int.le_antisymm <;> omega) | omega), if_neg q⟩
end q_m58

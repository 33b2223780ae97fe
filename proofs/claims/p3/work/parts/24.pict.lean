/-! from the states between a function's instructions to the picture 'an': a state is the stack of what is open (op, gives, height, dead), the function itself at its bottom, and the height -/
abbrev vt : Type := Int × Int × Int × Int
def ga (g : Int) : Int := if g = 64 then 0 else 1
def vq (B B2 : List vt) (hb d h h2 n m : Int) : Prop := B2 = B ∧ hb ≤ h2 ∧ (d = 0 → hb + n ≤ h ∧ h2 = h - n + m)
def vr (nl gv tk : Nat → Int) (fc gc : Int) (f : Nat) (op : Int) (v : Int) (B : List vt) (h : Int) (B2 : List vt) (h2 : Int) : Prop :=
  ∃ (o g hb d : Int) (R : List vt), B = (o, g, hb, d) :: R ∧ hb ≤ h ∧
  (op = 0 ∨ op = 12 ∨ op = 14 ∨ op = 15 → ∃ d2, B2 = (o, g, hb, d2) :: R ∧ hb ≤ h2) ∧
  (op = 14 → d = 0 → hb + 1 ≤ h) ∧
  (op = 1 → B2 = B ∧ h2 = h) ∧
  (op = 2 ∨ op = 3 → B2 = (op, v, h, 0) :: B ∧ h2 = h) ∧
  (op = 4 → B2 = (4, v, h2, 0) :: B ∧ hb ≤ h2 ∧ (d = 0 → hb + 1 ≤ h ∧ h2 = h - 1)) ∧
  (op = 5 → B2 = (5, g, hb, 0) :: R ∧ h2 = hb ∧ (d = 0 → h = hb + ga g)) ∧
  (op = 11 → (d = 0 → h = hb + ga g) ∧ (o = 4 → g = 64) ∧ (R ≠ [] → B2 = R ∧ h2 = hb + ga g)) ∧
  (op = 13 → vq B B2 hb d h h2 1 0) ∧
  (op = 16 → 0 ≤ v ∧ v < fc ∧ vq B B2 hb d h h2 (tk v.toNat) (gv v.toNat)) ∧
  (op = 26 → vq B B2 hb d h h2 1 0) ∧ (op = 27 → vq B B2 hb d h h2 3 1) ∧
  (32 ≤ op ∧ op ≤ 34 → 0 ≤ v ∧ v < nl f) ∧ (op = 35 ∨ op = 36 → 0 ≤ v ∧ v < gc) ∧
  (op = 32 ∨ op = 35 ∨ op = 63 ∨ op = 65 ∨ op = 66 → vq B B2 hb d h h2 0 1) ∧ (op = 33 ∨ op = 36 → vq B B2 hb d h h2 1 0) ∧
  (op = 54 ∨ op = 55 ∨ op = 58 → vq B B2 hb d h h2 2 0) ∧
  (op = 34 ∨ op = 64 ∨ op = 40 ∨ op = 41 ∨ op = 44 ∨ op = 45 ∨ op = 69 ∨ op = 80 ∨ (103 ≤ op ∧ op < 106) ∨ (121 ≤ op ∧ op < 124) ∨ 138 < op → vq B B2 hb d h h2 1 1) ∧
  ((69 < op ∧ op < 80) ∨ (80 < op ∧ op ≤ 90) ∨ (106 ≤ op ∧ op < 121) ∨ (124 ≤ op ∧ op ≤ 138) → vq B B2 hb d h h2 2 1)
def vlive (L : List vt) : Bool := L.all (fun x => x.2.2.2 == 0)
def vzp (s : List Nat) (b : List vt) : List (Nat × Int) := List.zipWith (fun x y => (x, y.2.2.1)) s b
def vtop (L : List vt) : Int := match L with | [] => 0 | x :: _ => x.2.2.1 + ga x.2.1
def vann (f : Nat) (gop : Nat → Int32) (sb : Nat → List Nat) (B : Nat → List vt) (hh : Nat → Int) : mc_A := fun i =>
  if (gop i).toInt = 11 ∧ sb i ≠ [] then (if vlive (B i).tail = true then some (f, vzp (sb i) (B i), vtop (B i)) else none)
  else if vlive (B i) = true then some (f, vzp (sb i) (B i), hh i) else none
def vh (gop gel : Nat → Int32) (gva : Nat → Int64) (sb : Nat → List Nat) (B : Nat → List vt) (hh : Nat → Int) (i : Nat) : Prop :=
  (B i).length = (sb i).length + 1 ∧ ∀ (k b : Nat), (sb i)[k]? = some b → ∃ o d, (B i)[k]? = some (o, (gva b).toInt, hh (b + 1), d) ∧ (sb i).drop (k + 1) = sb b ∧ (B i).drop (k + 1) = B b ∧ ((gop b).toInt = 4 → (gel b).toInt < 0 → o = 4)
theorem vlive_cons {x : vt} {L : List vt} : vlive (x :: L) = true ↔ x.2.2.2 = 0 ∧ vlive L = true := by
  unfold vlive
  rw [List.all_cons, Bool.and_eq_true, beq_iff_eq]
theorem vlive_drop {L : List vt} (k : Nat) (h : vlive L = true) : vlive (L.drop k) = true := by
  unfold vlive at *
  rw [List.all_eq_true] at *
  exact fun x hx => h x (List.mem_of_mem_drop hx)
theorem vzp_drop (s : List Nat) (b : List vt) (k : Nat) : (vzp s b).drop k = vzp (s.drop k) (b.drop k) := by
  unfold vzp
  rw [List.drop_zipWith]
theorem vzp_len {s : List Nat} {b : List vt} (h : b.length = s.length + 1) : (vzp s b).length = s.length := by
  unfold vzp
  rw [List.length_zipWith]
  omega
theorem vzp_get {s : List Nat} {b : List vt} {n : Nat} {x : Nat × Int} (h : (vzp s b)[n]? = some x) : ∃ y, s[n]? = some x.1 ∧ b[n]? = some y ∧ x.2 = y.2.2.1 := by
  unfold vzp at h
  rw [List.getElem?_zipWith] at h
  cases e1 : s[n]? with
  | none => rw [e1] at h; cases h
  | some z =>
    cases e2 : b[n]? with
    | none => rw [e1, e2] at h; cases h
    | some y =>
      rw [e1, e2] at h
      have e := Option.some.inj h
      exact ⟨y, by rw [← e], rfl, by rw [← e]⟩
section VA
variable {nl gv tk : Nat → Int} {fc gc lc : Int} {f a m : Nat} {gop gpt gel gla : Nat → Int32} {gva : Nat → Int64} {sb : Nat → List Nat} {B : Nat → List vt} {hh : Nat → Int} {an : mc_A}
theorem vh_step {i : Nat} (hI : rs_I a m gop gpt gel gva lc sb) (h1 : a ≤ i) (h2 : i < m) (hV : vr nl gv tk fc gc f (gop i).toInt (gva i).toInt (B i) (hh i) (B (i + 1)) (hh (i + 1))) (H : vh gop gel gva sb B hh i) : vh gop gel gva sb B hh (i + 1) := by
  obtain ⟨hL, hK⟩ := H
  obtain ⟨v1, v2, v3, v4, v5, v6, v7⟩ := hI.2.2.2 i h1 h2
  obtain ⟨o, g, hb, d, R, eB, hbh, c0, -, c1, hq9r⟩ := hV
  obtain ⟨c2, c4, c5, c11, c13, c16, c26, c27, -, -, hq9r⟩ := hq9r
  obtain ⟨c01, c10, c20, c11b, c21⟩ := hq9r
  have hop := v1.2.2.2
  have push : ∀ o', (B (i + 1)) = (o', (gva i).toInt, hh (i + 1), 0) :: B i → sb (i + 1) = i :: sb i → ((gop i).toInt = 4 → o' = 4) → vh gop gel gva sb B hh (i + 1) := by
    intro o' e1 e2 e3
    refine ⟨by rw [e1, e2, List.length_cons, List.length_cons, hL], fun k b hk => ?_⟩
    rw [e2] at hk
    cases k with
    | zero =>
      have e : b = i := by simpa using hk.symm
      subst e
      exact ⟨o', 0, by rw [e1]; rfl, by rw [e2]; rfl, by rw [e1]; rfl, fun z _ => e3 z⟩
    | succ k =>
      obtain ⟨o2, d2, q1, q2, q3, q4⟩ := hK k b (by simpa using hk)
      exact ⟨o2, d2, by rw [e1]; simpa using q1, by rw [e2]; simpa using q2, by rw [e1]; simpa using q3, q4⟩
  have keep : ∀ o' d', (B (i + 1)) = (o', g, hb, d') :: R → sb (i + 1) = sb i → (∀ b r, sb i = b :: r → (gop b).toInt = 4 → (gel b).toInt < 0 → o = 4 → o' = 4) → vh gop gel gva sb B hh (i + 1) := by
    intro o' d' e1 e2 e3
    rw [eB] at hL hK
    refine ⟨by rw [e1, e2]; simpa using hL, fun k b hk => ?_⟩
    rw [e2] at hk
    obtain ⟨o2, d2, q1, q2, q3, q4⟩ := hK k b hk
    cases k with
    | zero =>
      have e : (o, g, hb, d) = (o2, (gva b).toInt, hh (b + 1), d2) := by simpa using q1
      injection e with e4 e5
      injection e5 with e5 e6
      injection e6 with e6 e7
      refine ⟨o', d', by rw [e1, ← e5, ← e6]; rfl, by rw [e2]; exact q2, by rw [e1]; simpa using q3, fun z1 z2 => ?_⟩
      cases es : sb i with
      | nil => rw [es] at hk; cases hk
      | cons b' r =>
        rw [es] at hk
        have eb : b' = b := by simpa using hk
        subst eb
        exact e3 b' r es z1 z2 (by rw [e4]; exact q4 z1 z2)
    | succ k =>
      exact ⟨o2, d2, by rw [e1]; simpa using q1, by rw [e2]; exact q2, by rw [e1]; simpa using q3, q4⟩
  by_cases p2 : (gop i).toInt = 2 ∨ (gop i).toInt = 3
  · obtain ⟨e1, e2⟩ := c2 p2
    rw [← e2] at e1
    exact push _ e1 (v2 (by omega)) (fun z => by omega)
  by_cases p4 : (gop i).toInt = 4
  · exact push _ (c4 p4).1 (v2 (by omega)) (fun _ => rfl)
  by_cases p11 : (gop i).toInt = 11
  · obtain ⟨b, r, e1, e2, -⟩ := v5 p11
    have hR : R ≠ [] := by
      intro e
      rw [eB, e, e1] at hL
      simp at hL
    obtain ⟨e3, -⟩ := (c11 p11).2.2 hR
    rw [eB, e1] at hL
    refine ⟨by rw [e3, e2]; simpa using hL, fun k b' hk => ?_⟩
    rw [e2] at hk
    obtain ⟨o2, d2, q1, q2, q3, q4⟩ := hK (k + 1) b' (by rw [e1]; simpa using hk)
    rw [eB] at q1 q3
    rw [e1] at q2
    exact ⟨o2, d2, by rw [e3]; simpa using q1, by rw [e2]; simpa using q2, by rw [e3]; simpa using q3, q4⟩
  have es := v6 (by omega) (by omega) p4 p11
  by_cases p5 : (gop i).toInt = 5
  · obtain ⟨b, r, y1, y2, y3⟩ := v4 p5
    refine keep 5 0 (c5 p5).1 es (fun b' r' w1 w2 w3 _ => ?_)
    rw [y1] at w1
    injection w1 with w1 _
    subst w1
    omega
  have pl : ∃ d', B (i + 1) = (o, g, hb, d') :: R := by
    rw [eB] at c1 c13 c16 c26 c27 c01 c10 c20 c11b c21
    clear v1 v2 v3 v4 v5 v6 v7 hK push keep c2 c4 c5 c11 hI
    by_cases q : (gop i).toInt = 0 ∨ (gop i).toInt = 12 ∨ (gop i).toInt = 14 ∨ (gop i).toInt = 15
    · obtain ⟨d2, w, -⟩ := c0 q
      exact ⟨d2, w⟩
    refine ⟨d, ?_⟩
    clear c0 hL
    by_cases q1 : (gop i).toInt = 1
    · exact (c1 q1).1
    by_cases q13 : (gop i).toInt = 13
    · exact (c13 q13).1
    by_cases q16 : (gop i).toInt = 16
    · exact (c16 q16).2.2.1
    by_cases q26 : (gop i).toInt = 26
    · exact (c26 q26).1
    by_cases q27 : (gop i).toInt = 27
    · exact (c27 q27).1
    by_cases q01 : (gop i).toInt = 32 ∨ (gop i).toInt = 35 ∨ (gop i).toInt = 63 ∨ (gop i).toInt = 65 ∨ (gop i).toInt = 66
    · exact (c01 q01).1
    by_cases q10 : (gop i).toInt = 33 ∨ (gop i).toInt = 36
    · exact (c10 q10).1
    by_cases q20 : (gop i).toInt = 54 ∨ (gop i).toInt = 55 ∨ (gop i).toInt = 58
    · exact (c20 q20).1
    by_cases q11 : (gop i).toInt = 34 ∨ (gop i).toInt = 64 ∨ (gop i).toInt = 40 ∨ (gop i).toInt = 41 ∨ (gop i).toInt = 44 ∨ (gop i).toInt = 45 ∨ (gop i).toInt = 69 ∨ (gop i).toInt = 80 ∨ (103 ≤ (gop i).toInt ∧ (gop i).toInt < 106) ∨ (121 ≤ (gop i).toInt ∧ (gop i).toInt < 124) ∨ 138 < (gop i).toInt
    · exact (c11b q11).1
    · exact (c21 (by clear c1 c13 c16 c26 c27 c01 c10 c20 c11b c21; omega)).1
  obtain ⟨d', e1⟩ := pl
  exact keep o d' e1 es (fun _ _ _ _ _ w => w)
theorem vh_all (hI : rs_I a m gop gpt gel gva lc sb) (hV : ∀ i, a ≤ i → i < m → vr nl gv tk fc gc f (gop i).toInt (gva i).toInt (B i) (hh i) (B (i + 1)) (hh (i + 1))) (hB : (B a).length = 1) : ∀ k, a + k ≤ m → vh gop gel gva sb B hh (a + k)
  | 0, _ => ⟨by rw [Nat.add_zero, hB, hI.2.1]; rfl, fun k b hk => by rw [Nat.add_zero, hI.2.1] at hk; simp at hk⟩
  | k + 1, h => vh_step (i := a + k) hI (by omega) (by omega) (hV (a + k) (by omega) (by omega)) (vh_all hI hV hB k (by omega))
theorem rs_close (hI : rs_I a m gop gpt gel gva lc sb) (hm : sb m = []) {b : Nat} : ∀ (k i : Nat), i + k = m → a ≤ i → b ∈ sb i → ∃ p, i ≤ p ∧ p < m ∧ (gop p).toInt = 11 ∧ (∃ r, sb p = b :: r ∧ sb (p + 1) = r) ∧ (gpt b).toInt = p ∧ (0 ≤ (gel b).toInt → (gpt (gel b).toNatClampNeg).toInt = p)
  | 0, i, e, _, hb => by rw [show i = m by omega, hm] at hb; cases hb
  | k + 1, i, e, h, hb => by
    by_cases q : b ∈ sb (i + 1)
    · obtain ⟨p, p1, p2⟩ := rs_close hI hm k (i + 1) (by omega) (by omega) q
      exact ⟨p, by omega, p2⟩
    · obtain ⟨-, v2, -, -, v5, v6, -⟩ := hI.2.2.2 i h (by omega)
      by_cases p11 : (gop i).toInt = 11
      · obtain ⟨b', r, e1, e2, -, e3, e4⟩ := v5 p11
        rw [e1] at hb
        rcases List.mem_cons.mp hb with w | w
        · subst w
          exact ⟨i, Nat.le_refl _, by omega, p11, ⟨r, e1, e2⟩, e3, e4⟩
        · exact absurd (by rw [e2]; exact w) q
      · exfalso
        by_cases p2 : (gop i).toInt = 2 ∨ (gop i).toInt = 3 ∨ (gop i).toInt = 4
        · exact q (by rw [v2 p2]; exact List.mem_cons_of_mem _ hb)
        · exact q (by rw [v6 (by omega) (by omega) (by omega) p11]; exact hb)
end VA

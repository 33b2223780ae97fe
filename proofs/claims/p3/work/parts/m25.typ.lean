/-! the reference: types on the stack, beside the heights of part 24 -/
def pn (o : Int) : Int := if o = 63 ∨ o = 65 ∨ o = 66 then 0 else if o = 40 ∨ o = 41 ∨ o = 44 ∨ o = 45 ∨ o = 64 ∨ o = 69 ∨ o = 80 ∨ (103 ≤ o ∧ o ≤ 105) ∨ (121 ≤ o ∧ o ≤ 123) ∨ 167 ≤ o then 1 else 2
def pm (o : Int) : Int := if o = 54 ∨ o = 55 ∨ o = 58 then 0 else 1
def pout (o : Int) : Int := if o = 41 ∨ o = 66 then 126 else if o ≤ 66 then 127 else nout o
def opl (o : Int) : Prop := o = 40 ∨ o = 41 ∨ o = 44 ∨ o = 45 ∨ o = 54 ∨ o = 55 ∨ o = 58 ∨ o = 63 ∨ o = 64 ∨ o = 65 ∨ o = 66 ∨ (69 ≤ o ∧ o ≤ 90) ∨ (103 ≤ o ∧ o ≤ 138) ∨ o = 167 ∨ o = 172 ∨ o = 173
/-- a label that carries finds what it carries -/
def crr (B : List vt) (l hb h : Int) (T : Nat → Int) : Prop := ∃ x : vt, B[l.toNat]? = some x ∧ (x.1 ≠ 3 → x.2.1 ≠ 64 → hb + 1 ≤ h ∧ (x.2.1 = 127 → T (h - 1).toNat ≠ 126))
def sgt (T T2 : Nat → Int) (n : Int) : Prop := ∀ k : Nat, (k : Int) < n → T2 k = T k
/-- whoever is told to be an i32 after was so before -/
def tle (T T2 : Nat → Int) (n : Int) : Prop := ∀ k : Nat, (k : Int) < n → T2 k ≠ 126 → T k ≠ 126
def vtd (lt : Nat → Nat → Int) (rt tk gt : Nat → Int) (f : Nat) (op v ln : Int) (lbs : Nat → Int) (B : List vt) (g hb h : Int) (n : Nat) (T T2 : Nat → Int) : Prop :=
  (op = 1 ∨ op = 2 ∨ op = 3 → sgt T T2 h) ∧ (op = 4 → sgt T T2 (h - 1)) ∧
  (op = 5 ∨ op = 11 → g ≠ 64 → hb + 1 ≤ h ∧ (g = 127 → T (h - 1).toNat ≠ 126)) ∧
  (op = 12 → crr B v hb h T) ∧ (op = 13 → crr B v hb (h - 1) T ∧ tle T T2 (h - 1)) ∧
  (op = 14 → ∀ k : Nat, (k : Int) ≤ ln → crr B (lbs k) hb (h - 1) T) ∧ (op = 15 → crr B n hb h T) ∧
  (op = 16 → sgt T T2 (h - tk v.toNat) ∧ (∀ k : Nat, (k : Int) < tk v.toNat → lt v.toNat k = 127 → T (h - tk v.toNat + k).toNat ≠ 126) ∧ (rt v.toNat ≠ 0 → T2 (h - tk v.toNat).toNat = rt v.toNat)) ∧
  (op = 26 → sgt T T2 (h - 1)) ∧ (op = 27 → sgt T T2 (h - 3) ∧ (T2 (h - 3).toNat ≠ 126 → T (h - 3).toNat ≠ 126 ∧ T (h - 2).toNat ≠ 126)) ∧
  (op = 32 → sgt T T2 h ∧ T2 h.toNat = lt f v.toNat) ∧ (op = 33 → sgt T T2 (h - 1) ∧ (lt f v.toNat = 127 → T (h - 1).toNat ≠ 126)) ∧
  (op = 34 → sgt T T2 (h - 1) ∧ (T2 (h - 1).toNat ≠ 126 → T (h - 1).toNat ≠ 126) ∧ (lt f v.toNat = 127 → T (h - 1).toNat ≠ 126)) ∧
  (op = 35 → sgt T T2 h ∧ T2 h.toNat = gt v.toNat) ∧ (op = 36 → sgt T T2 (h - 1) ∧ (gt v.toNat = 127 → T (h - 1).toNat ≠ 126)) ∧
  (opl op → sgt T T2 (h - pn op) ∧ (pm op = 1 → T2 (h - pn op).toNat = pout op) ∧ (69 ≤ op → sm32 op → T (h - 1).toNat ≠ 126))
def vty (lt : Nat → Nat → Int) (rt tk gt : Nat → Int) (f : Nat) (op v ln : Int) (lbs : Nat → Int) (B : List vt) (h : Int) (T T2 : Nat → Int) : Prop :=
  ∃ (o g hb d : Int) (R : List vt), B = (o, g, hb, d) :: R ∧ sgt T T2 hb ∧ (∀ x ∈ B, x.2.2.1 ≤ hb) ∧
  (∃ x : vt, B[R.length]? = some x ∧ x.1 ≠ 3 ∧ (rt f ≠ 0 → x.2.1 ≠ 64) ∧ (rt f = 127 → x.2.1 = 127)) ∧
  (op = 11 → R ≠ [] → g ≠ 64 → T2 hb.toNat = g) ∧ (d = 0 → vtd lt rt tk gt f op v ln lbs B g hb h R.length T T2)
def mr_lab (an : mc_A) (T : Nat → Nat → Int) (rtf : Int) (gop gpt : Nat → Int32) (gva : Nat → Int64) (f : Nat) (bs : List (Nat × Int)) (i : Nat) (h l : Int) : Prop :=
  0 ≤ l ∧ l ≤ bs.length ∧ (l = bs.length → rtf ≠ 0 → 1 ≤ h ∧ (rtf = 127 → T i (h - 1).toNat ≠ 126)) ∧
  ∀ (n : Nat) (b : Nat × Int), (n : Int) = l → bs[n]? = some b → ((gop b.1).toInt = 3 → an (b.1 + 1) = some (f, bs.drop n, b.2) ∧ b.2 ≤ h ∧ tle (T i) (T (b.1 + 1)) b.2) ∧
    ((gop b.1).toInt ≠ 3 → an ((gpt b.1).toNatClampNeg + 1) = some (f, bs.drop (n + 1), b.2 + ga (gva b.1).toInt) ∧ b.2 ≤ h ∧ tle (T i) (T ((gpt b.1).toNatClampNeg + 1)) b.2 ∧ ((gva b.1).toInt ≠ 64 → b.2 + 1 ≤ h ∧ (T ((gpt b.1).toNatClampNeg + 1) b.2.toNat ≠ 126 → T i (h - 1).toNat ≠ 126)))
def mr_at (an : mc_A) (T : Nat → Nat → Int) (lt : Nat → Nat → Int) (rt nl gv tk gt : Nat → Int) (fc gc : Int) (gop gpt gel gla : Nat → Int32) (gva : Nat → Int64) (i f : Nat) (bs : List (Nat × Int)) (h : Int) : Prop :=
  ((gop i).toInt = 1 → an (i + 1) = some (f, bs, h) ∧ tle (T i) (T (i + 1)) h) ∧
  ((gop i).toInt = 2 ∨ (gop i).toInt = 3 → bs.length < 100 ∧ an (i + 1) = some (f, (i, h) :: bs, h) ∧ tle (T i) (T (i + 1)) h) ∧
  ((gop i).toInt = 4 → 1 ≤ h ∧ bs.length < 100 ∧ an (i + 1) = some (f, (i, h - 1) :: bs, h - 1) ∧ tle (T i) (T (i + 1)) (h - 1) ∧ (0 ≤ (gel i).toInt → an ((gel i).toNatClampNeg + 1) = some (f, (i, h - 1) :: bs, h - 1) ∧ tle (T i) (T ((gel i).toNatClampNeg + 1)) (h - 1)) ∧ ((gel i).toInt < 0 → an ((gpt i).toNatClampNeg + 1) = some (f, bs, h - 1) ∧ tle (T i) (T ((gpt i).toNatClampNeg + 1)) (h - 1))) ∧
  ((gop i).toInt = 5 → ∃ b r, bs = b :: r ∧ blk3 (gop b.1).toInt ∧ an ((gpt b.1).toNatClampNeg + 1) = some (f, r, h) ∧ tle (T i) (T ((gpt b.1).toNatClampNeg + 1)) h) ∧
  ((gop i).toInt = 11 → (∀ b r, bs = b :: r → an (i + 1) = some (f, r, h) ∧ tle (T i) (T (i + 1)) h)) ∧
  ((gop i).toInt = 15 ∨ ((gop i).toInt = 11 ∧ bs = []) → rt f ≠ 0 → 1 ≤ h ∧ (rt f = 127 → T i (h - 1).toNat ≠ 126)) ∧
  ((gop i).toInt = 12 → mr_lab an T (rt f) gop gpt gva f bs i h (gva i).toInt) ∧
  ((gop i).toInt = 13 → 1 ≤ h ∧ mr_lab an T (rt f) gop gpt gva f bs i (h - 1) (gva i).toInt ∧ an (i + 1) = some (f, bs, h - 1) ∧ tle (T i) (T (i + 1)) (h - 1)) ∧
  ((gop i).toInt = 14 → 1 ≤ h ∧ ∀ k : Nat, (k : Int) ≤ (gpt i).toInt → mr_lab an T (rt f) gop gpt gva f bs i (h - 1) (gla ((gva i).toInt.toNat + k)).toInt) ∧
  ((gop i).toInt = 16 → 0 ≤ (gva i).toInt ∧ (gva i).toInt < fc ∧ tk (gva i).toInt.toNat ≤ h ∧ an (i + 1) = some (f, bs, h - tk (gva i).toInt.toNat + gv (gva i).toInt.toNat) ∧ tle (T i) (T (i + 1)) (h - tk (gva i).toInt.toNat) ∧ (∀ k : Nat, (k : Int) < tk (gva i).toInt.toNat → lt (gva i).toInt.toNat k = 127 → T i (h - tk (gva i).toInt.toNat + k).toNat ≠ 126) ∧ (rt (gva i).toInt.toNat ≠ 0 → T (i + 1) (h - tk (gva i).toInt.toNat).toNat ≠ 126 → rt (gva i).toInt.toNat = 127 ∨ T (i + 1) (h - tk (gva i).toInt.toNat).toNat = rt (gva i).toInt.toNat)) ∧
  ((gop i).toInt = 26 → 1 ≤ h ∧ an (i + 1) = some (f, bs, h - 1) ∧ tle (T i) (T (i + 1)) (h - 1)) ∧
  ((gop i).toInt = 27 → 3 ≤ h ∧ an (i + 1) = some (f, bs, h - 2) ∧ tle (T i) (T (i + 1)) (h - 3) ∧ (T (i + 1) (h - 3).toNat ≠ 126 → T i (h - 3).toNat ≠ 126 ∧ T i (h - 2).toNat ≠ 126)) ∧
  (32 ≤ (gop i).toInt ∧ (gop i).toInt ≤ 34 → 0 ≤ (gva i).toInt ∧ (gva i).toInt < nl f) ∧
  ((gop i).toInt = 32 → an (i + 1) = some (f, bs, h + 1) ∧ tle (T i) (T (i + 1)) h ∧ (T (i + 1) h.toNat ≠ 126 → lt f (gva i).toInt.toNat ≠ 126)) ∧
  ((gop i).toInt = 33 → 1 ≤ h ∧ an (i + 1) = some (f, bs, h - 1) ∧ tle (T i) (T (i + 1)) (h - 1) ∧ (lt f (gva i).toInt.toNat = 127 → T i (h - 1).toNat ≠ 126)) ∧
  ((gop i).toInt = 34 → 1 ≤ h ∧ an (i + 1) = some (f, bs, h) ∧ tle (T i) (T (i + 1)) h ∧ (lt f (gva i).toInt.toNat = 127 → T i (h - 1).toNat ≠ 126)) ∧
  ((gop i).toInt = 35 ∨ (gop i).toInt = 36 → 0 ≤ (gva i).toInt ∧ (gva i).toInt < gc) ∧
  ((gop i).toInt = 35 → an (i + 1) = some (f, bs, h + 1) ∧ tle (T i) (T (i + 1)) h ∧ (T (i + 1) h.toNat ≠ 126 → gt (gva i).toInt.toNat ≠ 126)) ∧
  ((gop i).toInt = 36 → 1 ≤ h ∧ an (i + 1) = some (f, bs, h - 1) ∧ tle (T i) (T (i + 1)) (h - 1) ∧ (gt (gva i).toInt.toNat = 127 → T i (h - 1).toNat ≠ 126)) ∧
  (opl (gop i).toInt → pn (gop i).toInt ≤ h ∧ an (i + 1) = some (f, bs, h - pn (gop i).toInt + pm (gop i).toInt) ∧ tle (T i) (T (i + 1)) (h - pn (gop i).toInt) ∧ (pm (gop i).toInt = 1 → T (i + 1) (h - pn (gop i).toInt).toNat ≠ 126 → pout (gop i).toInt ≠ 126) ∧ ((gop i).toInt = 110 ∨ (gop i).toInt = 112 → T i (h - 1).toNat ≠ 126))
theorem sgt.tle {T T2 : Nat → Int} {n : Int} (h : sgt T T2 n) : tle T T2 n := fun k hk z => by rw [← h k hk]; exact z
theorem sgt.le {T T2 : Nat → Int} {n n2 : Int} (h : sgt T T2 n) (q : n2 ≤ n) : sgt T T2 n2 := fun k hk => h k (by omega)
theorem sgt.trans {T T2 T3 : Nat → Int} {n : Int} (h : sgt T T2 n) (q : sgt T2 T3 n) : sgt T T3 n := fun k hk => (q k hk).trans (h k hk)
theorem sgt.symm {T T2 : Nat → Int} {n : Int} (h : sgt T T2 n) : sgt T2 T n := fun k hk => (h k hk).symm
section WA
variable {lt : Nat → Nat → Int} {rt nl gv tk gt : Nat → Int} {fc gc lc : Int} {f a m : Nat} {gop gpt gel gla : Nat → Int32} {gva : Nat → Int64} {sb : Nat → List Nat} {B : Nat → List vt} {hh : Nat → Int} {an : mc_A} {T : Nat → Nat → Int}
def wann (f : Nat) (sb : Nat → List Nat) (B : Nat → List vt) (hh : Nat → Int) : mc_A := fun i => if vlive (B i) = true then some (f, vzp (sb i) (B i), hh i) else none
theorem wann_live {i : Nat} (h : vlive (B i) = true) : wann f sb B hh i = some (f, vzp (sb i) (B i), hh i) := if_pos h
theorem wann_inv {i f2 : Nat} {bs : List (Nat × Int)} {h : Int} (e : wann f sb B hh i = some (f2, bs, h)) : f2 = f ∧ bs = vzp (sb i) (B i) ∧ vlive (B i) = true ∧ h = hh i := by
  unfold wann at e
  split at e
  · rename_i w
    injection e with e
    injection e with e1 e2
    injection e2 with e2 e3
    exact ⟨e1.symm, e2.symm, w, e3.symm⟩
  · cases e
/-- what an instruction does to what is open -/
theorem vr_shape {op v h h2 : Int} {B B2 : List vt} {o g hb d : Int} {R : List vt} (hV : vr nl gv tk fc gc f op v B h B2 h2) (eB : B = (o, g, hb, d) :: R) (hop : op = 2 ∨ op = 3 ∨ op = 4 ∨ op = 5 ∨ op = 11 ∨ op = 12 ∨ op = 13 ∨ op = 16 ∨ op = 32 ∨ op = 33 ∨ op = 34 ∨ op = 35 ∨ op = 36 ∨ op = 14 ∨ op = 63 ∨ op = 64 ∨ op = 0 ∨ op = 1 ∨ op = 15 ∨ op = 26 ∨ op = 27 ∨ (69 ≤ op ∧ op ≤ 90) ∨ (103 ≤ op ∧ op ≤ 138) ∨ op = 167 ∨ op = 172 ∨ op = 173 ∨ op = 65 ∨ op = 66 ∨ op = 44 ∨ op = 45 ∨ op = 58 ∨ op = 40 ∨ op = 54 ∨ op = 41 ∨ op = 55) :
    (op = 2 ∨ op = 3 ∨ op = 4 → ∃ x, B2 = (op, v, x, 0) :: B) ∧ (op = 5 → B2 = (5, g, hb, 0) :: R) ∧ (op = 11 → R ≠ [] → B2 = R) ∧ (op ≠ 2 → op ≠ 3 → op ≠ 4 → op ≠ 5 → op ≠ 11 → ∃ d', B2 = (o, g, hb, d') :: R) := by
  obtain ⟨o', g', hb', d', R', eB', hbh, c0, -, c1, hq9r⟩ := hV
  obtain ⟨c2, c4, c5, c11, c13, c16, c26, c27, -, -, hq9r⟩ := hq9r
  obtain ⟨c01, c10, c20, c11b, c21⟩ := hq9r
  rw [eB] at eB'
  injection eB' with e1 e2
  injection e1 with e1 e3
  injection e3 with e3 e4
  injection e4 with e4 e5
  subst e1 e3 e4 e5 e2
  refine ⟨fun z => ?_, fun z => (c5 z).1, fun z r => ((c11 z).2.2 r).1, fun n2 n3 n4 n5 n11 => ?_⟩
  · by_cases p4 : op = 4
    · exact ⟨h2, by rw [(c4 p4).1, p4]⟩
    · exact ⟨h, (c2 (by omega)).1⟩
  · rw [eB] at c1 c13 c16 c26 c27 c01 c10 c20 c11b c21
    by_cases q : op = 0 ∨ op = 12 ∨ op = 14 ∨ op = 15
    · obtain ⟨d2, w, -⟩ := c0 q
      exact ⟨d2, w⟩
    refine ⟨d, ?_⟩
    clear c0 c2 c4 c5 c11
    by_cases q1 : op = 1
    · exact (c1 q1).1
    by_cases q13 : op = 13
    · exact (c13 q13).1
    by_cases q16 : op = 16
    · exact (c16 q16).2.2.1
    by_cases q26 : op = 26
    · exact (c26 q26).1
    by_cases q27 : op = 27
    · exact (c27 q27).1
    by_cases q01 : op = 32 ∨ op = 35 ∨ op = 63 ∨ op = 65 ∨ op = 66
    · exact (c01 q01).1
    by_cases q10 : op = 33 ∨ op = 36
    · exact (c10 q10).1
    by_cases q20 : op = 54 ∨ op = 55 ∨ op = 58
    · exact (c20 q20).1
    by_cases q11 : op = 34 ∨ op = 64 ∨ op = 40 ∨ op = 41 ∨ op = 44 ∨ op = 45 ∨ op = 69 ∨ op = 80 ∨ (103 ≤ op ∧ op < 106) ∨ (121 ≤ op ∧ op < 124) ∨ 138 < op
    · exact (c11b q11).1
    · exact (c21 (by clear c1 c13 c16 c26 c27 c01 c10 c20 c11b c21; omega)).1
/-- a loop is told to be a loop -/
def vk (gop : Nat → Int32) (sb : Nat → List Nat) (B : Nat → List vt) (i : Nat) : Prop := ∀ (k b : Nat), (sb i)[k]? = some b → ∃ x, (B i)[k]? = some x ∧ (x.1 = 3 → (gop b).toInt = 3)
theorem vk_all (hI : rs_I a m gop gpt gel gva lc sb) (hV : ∀ i, a ≤ i → i < m → vr nl gv tk fc gc f (gop i).toInt (gva i).toInt (B i) (hh i) (B (i + 1)) (hh (i + 1))) (hB : (B a).length = 1) : ∀ k, a + k ≤ m → vk gop sb B (a + k)
  | 0, _ => fun k b hk => by rw [Nat.add_zero, hI.2.1] at hk; simp at hk
  | k + 1, h => by
    have ih := vk_all hI hV hB k (by omega)
    have hL := (vh_all hI hV hB k (by omega)).1
    generalize hi : a + k = i at ih hL
    have e1 : a + (k + 1) = i + 1 := by omega
    rw [e1]
    obtain ⟨v1, v2, v3, v4, v5, v6, v7⟩ := hI.2.2.2 i (by omega) (by omega)
    obtain ⟨o, g, hb, d, R, eB, -⟩ := hV i (by omega) (by omega)
    obtain ⟨s2, s5, s11, s0⟩ := vr_shape (hV i (by omega) (by omega)) eB v1.2.2.2
    have keep : ∀ o' d', (o' = 3 → o = 3) → B (i + 1) = (o', g, hb, d') :: R → sb (i + 1) = sb i → vk gop sb B (i + 1) := by
      intro o' d' ho w1 w2 n b hn
      rw [w2] at hn
      obtain ⟨x, q1, q2⟩ := ih n b hn
      rw [eB] at q1
      cases n with
      | zero =>
        have ex : (o, g, hb, d) = x := by simpa using q1
        exact ⟨(o', g, hb, d'), by rw [w1]; rfl, fun z => q2 (by rw [← ex]; exact ho z)⟩
      | succ n => exact ⟨x, by rw [w1]; simpa using q1, q2⟩
    by_cases p2 : (gop i).toInt = 2 ∨ (gop i).toInt = 3 ∨ (gop i).toInt = 4
    · obtain ⟨y, w⟩ := s2 p2
      intro n b hn
      rw [v2 p2] at hn
      rw [w]
      cases n with
      | zero =>
        have e : b = i := by simpa using hn.symm
        subst e
        exact ⟨_, rfl, fun z => z⟩
      | succ n =>
        obtain ⟨x, q1, q2⟩ := ih n b (by simpa using hn)
        exact ⟨x, by simpa using q1, q2⟩
    by_cases p11 : (gop i).toInt = 11
    · obtain ⟨b, r, w1, w2, -⟩ := v5 p11
      have hR : R ≠ [] := by
        intro e
        rw [eB, e, w1] at hL
        simp at hL
      intro n b' hn
      rw [w2] at hn
      obtain ⟨x, q1, q2⟩ := ih (n + 1) b' (by rw [w1]; simpa using hn)
      rw [eB] at q1
      exact ⟨x, by rw [s11 p11 hR]; simpa using q1, q2⟩
    have es := v6 (by omega) (by omega) (by omega) p11
    by_cases p5 : (gop i).toInt = 5
    · exact keep 5 0 (fun z => by omega) (s5 p5) es
    · obtain ⟨d', w⟩ := s0 (by omega) (by omega) (by omega) p5 p11
      exact keep o d' (fun z => z) w es
theorem rs_back (hI : rs_I a m gop gpt gel gva lc sb) {b j : Nat} (h1 : a ≤ j) (h2 : j < m) (hb : b ∈ sb (j + 1)) (hj : b < j) : b ∈ sb j := by
  obtain ⟨-, v2, -, -, v5, v6, -⟩ := hI.2.2.2 j h1 h2
  by_cases p2 : (gop j).toInt = 2 ∨ (gop j).toInt = 3 ∨ (gop j).toInt = 4
  · rw [v2 p2] at hb
    rcases List.mem_cons.mp hb with w | w
    · omega
    · exact w
  by_cases p11 : (gop j).toInt = 11
  · obtain ⟨b', r, e1, e2, -⟩ := v5 p11
    rw [e1, ← e2]
    exact List.mem_cons_of_mem _ hb
  · rw [← v6 (by omega) (by omega) (by omega) p11]
    exact hb
theorem rs_in (hI : rs_I a m gop gpt gel gva lc sb) {b p : Nat} (ha : a ≤ b) (hp : p ≤ m) (hb : b ∈ sb p) : ∀ (k j : Nat), j + k = p → b < j → b ∈ sb j
  | 0, j, e, _ => by rw [show j = p by omega]; exact hb
  | k + 1, j, e, h => rs_back hI (by omega) (by omega) (rs_in hI ha hp hb k (j + 1) (by omega) (by omega)) h
/-- below a block nothing changes while it is open -/
theorem wt_frame (hI : rs_I a m gop gpt gel gva lc sb) (hV : ∀ i, a ≤ i → i < m → vr nl gv tk fc gc f (gop i).toInt (gva i).toInt (B i) (hh i) (B (i + 1)) (hh (i + 1))) (hB : (B a).length = 1)
    (hY : ∀ i, a ≤ i → i < m → vty lt rt tk gt f (gop i).toInt (gva i).toInt (gpt i).toInt (fun k => (gla ((gva i).toInt.toNat + k)).toInt) (B i) (hh i) (T i) (T (i + 1))) {b p : Nat} (ha : a ≤ b) (hp : p < m) (hb : b ∈ sb p) : ∀ (k j : Nat), b + 1 + k = j → j ≤ p + 1 → sgt (T (b + 1)) (T j) (hh (b + 1))
  | 0, j, e, _ => by rw [← e]; exact fun _ _ => rfl
  | k + 1, j, e, h => by
    have ih := wt_frame hI hV hB hY ha hp hb k (b + 1 + k) rfl (by omega)
    have hm := rs_in hI ha (Nat.le_of_lt hp) hb (p - (b + 1 + k)) (b + 1 + k) (by omega) (by omega)
    obtain ⟨n, hn⟩ := List.getElem?_of_mem hm
    have VH := vh_all hI hV hB (b + 1 + k - a) (by omega)
    rw [show a + (b + 1 + k - a) = b + 1 + k by omega] at VH
    obtain ⟨o, d, q1, -⟩ := VH.2 n b hn
    obtain ⟨o2, g, hb2, d2, R, eB, s, mx, -⟩ := hY (b + 1 + k) (by omega) (by omega)
    have w := mx _ (List.mem_of_getElem? q1)
    rw [← e, show b + 1 + (k + 1) = b + 1 + k + 1 by omega]
    exact ih.trans (s.le w)
theorem vr_pl {op v h h2 : Int} {B B2 : List vt} {o g hb d : Int} {R : List vt} (hV : vr nl gv tk fc gc f op v B h B2 h2) (eB : B = (o, g, hb, d) :: R) (hop : opl op) : vq B B2 hb d h h2 (pn op) (pm op) := by
  obtain ⟨o', g', hb', d', R', eB', -, -, -, -, hq9r⟩ := hV
  obtain ⟨-, -, -, -, -, -, -, -, -, -, hq9r⟩ := hq9r
  obtain ⟨c01, -, c20, c11b, c21⟩ := hq9r
  rw [eB] at eB'
  injection eB' with e1 e2
  injection e1 with e1 e3
  injection e3 with e3 e4
  injection e4 with e4 e5
  subst e1 e3 e4 e5 e2
  unfold opl at hop
  unfold pn pm
  by_cases q0 : op = 63 ∨ op = 65 ∨ op = 66
  · rw [if_pos q0, if_neg (by omega)]
    exact c01 (by omega)
  · rw [if_neg q0]
    by_cases q1 : op = 40 ∨ op = 41 ∨ op = 44 ∨ op = 45 ∨ op = 64 ∨ op = 69 ∨ op = 80 ∨ (103 ≤ op ∧ op ≤ 105) ∨ (121 ≤ op ∧ op ≤ 123) ∨ 167 ≤ op
    · rw [if_pos q1, if_neg (by omega)]
      exact c11b (by omega)
    · rw [if_neg q1]
      by_cases q2 : op = 54 ∨ op = 55 ∨ op = 58
      · rw [if_pos q2]
        exact c20 q2
      · rw [if_neg q2]
        exact c21 (by omega)
end WA
